import java.nio.charset.StandardCharsets;
import java.util.ArrayList;
import java.util.Arrays;
import java.util.HashSet;
import java.util.List;
import java.util.Random;
import java.util.Set;
import java.util.regex.Matcher;
import java.util.regex.Pattern;

/** Random texts, most of them spoilt, against a plain reader that shares no code with the class. */
public final class FaultModelTest {
  private static final Pattern TOKEN = Pattern.compile("[ \n]*([a-z]+|[0-9]+|[^ \n])", Pattern.DOTALL);
  private static final List<String> WAYS = List.of("north", "east", "south", "west");
  private static final List<String> VALUES = List.of("x", "y", "hour", "tide", "north", "east", "south", "west");

  private static final class Fault extends RuntimeException {
    final int kind;
    final int place;

    Fault(int kind, int place) {
      super(null, null, false, false);
      this.kind = kind;
      this.place = place;
    }
  }

  /** Reads a whole text and counts what it tells, or throws its FAULT. */
  private static final class Reader {
    private final List<String> tokens = new ArrayList<>();
    private final List<Integer> places = new ArrayList<>();
    private int at = 0;
    int w = 6;
    int h = 6;
    final Set<Integer> rocks = new HashSet<>();
    final Set<Integer> currents = new HashSet<>();
    final int[] told = new int[5];

    Reader(String text) {
      Matcher m = TOKEN.matcher(text);
      for (int from = 0; m.find(from); from = m.end()) {
        tokens.add(m.group(1));
        places.add(m.start(1));
      }
      tokens.add("");
      places.add(text.length());
    }

    private String token() {
      return tokens.get(at);
    }

    private void fail(int kind) {
      throw new Fault(kind, places.get(at));
    }

    private boolean isWord() {
      return token().matches("[a-z]+");
    }

    private boolean isNumber() {
      return token().matches("[0-9]+");
    }

    private void expect(String token) {
      if (!token().equals(token)) {
        fail(1);
      }
      at++;
    }

    private int number(int low, int high) {
      if (!isNumber()) {
        fail(1);
      }
      if (token().length() > 4 || Integer.parseInt(token()) < low || Integer.parseInt(token()) > high) {
        fail(2);
      }
      return Integer.parseInt(tokens.get(at++));
    }

    private void way() {
      if (!WAYS.contains(token())) {
        fail(1);
      }
      at++;
    }

    private int cell(Set<Integer> taken) {
      int x = number(0, w - 1);
      int y = number(0, h - 1);
      if (taken.contains(w * y + x)) {
        at--;
        fail(4);
      }
      return w * y + x;
    }

    private void head(int kind, int most) {
      if (told[kind] == most) {
        fail(2);
      }
      told[kind]++;
      at++;
    }

    void readAll() {
      boolean first = true;
      Set<String> once = new HashSet<>();
      while (!token().isEmpty()) {
        String word = token();
        if (word.equals("sea") && !first || !once.isEmpty() && once.contains(word)) {
          fail(5);
        }
        if (word.equals("school") || word.equals("goal")) {
          once.add(word);
        }
        line(word);
        expect(";");
        first = false;
      }
    }

    private void line(String word) {
      Set<Integer> none = Set.of();
      switch (word) {
        case "sea": at++; w = number(2, 8); h = number(2, 8); break;
        case "rock":
          if (rocks.size() == 20) {
            fail(2);
          }
          at++;
          rocks.add(cell(rocks));
          break;
        case "current": at++; currents.add(cell(currents)); way(); break;
        case "slate": head(0, 8); cell(none); number(0, 99); marks(); break;
        case "hand": head(1, 5); weights(); break;
        case "school": at++; cell(none); number(0, 9); break;
        case "goal": at++; number(0, 7); break;
        case "pilot": head(2, 4); cell(none); number(0, 99); readSlates(); break;
        case "rule": head(3, 8); expr(0); expect("go"); way(); break;
        default: fail(1);
      }
    }

    private void marks() {
      for (int i = 1; WAYS.contains(token()); i++) {
        if (i > 8) {
          fail(2);
        }
        at++;
        number(1, 9);
      }
    }

    private void weights() {
      int sum = number(0, 12) + number(0, 12) + number(0, 12) + number(0, 12);
      if (sum != 12) {
        at--;
        fail(2);
      }
    }

    private void readSlates() {
      Set<Integer> read = new HashSet<>();
      while (isNumber()) {
        if (token().length() > 4) {
          fail(2);
        }
        int slate = Integer.parseInt(token());
        if (slate >= told[0]) {
          fail(3);
        }
        if (!read.add(slate)) {
          fail(4);
        }
        at++;
      }
    }

    private void expr(int within) {
      if (within == 6 && (isWord() || isNumber() || token().equals("("))) {
        fail(2);
      }
      and(within);
      while (token().equals("or")) {
        at++;
        and(within);
      }
    }

    private void and(int within) {
      not(within, 0);
      while (token().equals("and")) {
        at++;
        not(within, 0);
      }
    }

    private void not(int within, int ahead) {
      if (token().equals("not")) {
        if (ahead == 6) {
          fail(2);
        }
        at++;
        not(within, ahead + 1);
        return;
      }
      sum(within);
      if (token().equals("<") || token().equals("=")) {
        at++;
        sum(within);
      }
    }

    private void sum(int within) {
      product(within);
      while (token().equals("+") || token().equals("-")) {
        at++;
        product(within);
      }
    }

    private void product(int within) {
      part(within);
      while (token().equals("*") || token().equals("/")) {
        at++;
        part(within);
      }
    }

    private void part(int within) {
      if (isNumber()) {
        number(0, 9999);
      } else if (isWord()) {
        if (!VALUES.contains(token())) {
          fail(3);
        }
        at++;
      } else {
        expect("(");
        expr(within + 1);
        expect(")");
      }
    }
  }

  private static String pick(Random r, String... of) {
    return of[r.nextInt(of.length)];
  }

  private static String way(Random r) {
    return WAYS.get(r.nextInt(4));
  }

  private static String xy(Random r) {
    int most = r.nextInt(12) == 0 ? 9 : 5;
    return r.nextInt(most + 1) + " " + r.nextInt(most + 1) + " ";
  }

  private static String expr(Random r, int depth) {
    StringBuilder e = new StringBuilder();
    int nots = r.nextInt(5) == 0 ? r.nextInt(8) : 0;
    e.append("not ".repeat(nots));
    int parts = 1 + r.nextInt(3);
    for (int i = 0; i < parts; i++) {
      if (i > 0) {
        e.append(pick(r, "+", "-", "*", "/", " < ", "=", " or ", " and ", " and not "));
      }
      int kind = r.nextInt(6);
      if (kind == 0 && depth < 7) {
        e.append('(').append(expr(r, depth + 1)).append(')');
      } else if (kind < 3) {
        e.append(r.nextInt(12) == 0 ? r.nextInt(20000) : r.nextInt(10));
      } else {
        e.append(VALUES.get(r.nextInt(8)));
      }
    }
    boolean deeper = depth > 0 && depth < 7 && r.nextInt(3) > 0;
    return deeper ? "(" + e + ")" : e.toString();
  }

  private static String line(Random r) {
    switch (r.nextInt(10)) {
      case 0: return "rock " + xy(r) + ";";
      case 1: return "current " + xy(r) + way(r) + ";";
      case 2: case 3: {
        StringBuilder s = new StringBuilder("slate " + xy(r) + r.nextInt(102));
        for (int i = r.nextInt(r.nextInt(6) == 0 ? 11 : 4); i > 0; i--) {
          s.append(' ').append(way(r)).append(' ').append(r.nextInt(20) == 0 ? r.nextInt(12) : 1 + r.nextInt(9));
        }
        return s + ";";
      }
      case 4: {
        int a = r.nextInt(8);
        int b = r.nextInt(6);
        int c = r.nextInt(20) == 0 ? r.nextInt(15) : 0;
        return "hand " + a + " " + b + " " + c + " " + (r.nextInt(9) == 0 ? r.nextInt(14) : Math.max(0, 12 - a - b - c)) + ";";
      }
      case 5: return "school " + xy(r) + r.nextInt(11) + ";";
      case 6: return "goal " + r.nextInt(9) + ";";
      case 7: {
        StringBuilder s = new StringBuilder("pilot " + xy(r) + r.nextInt(102));
        for (int i = r.nextInt(4); i > 0; i--) {
          s.append(' ').append(r.nextInt(4));
        }
        return s + ";";
      }
      default: return "rule " + expr(r, 0) + " go " + way(r) + ";";
    }
  }

  private static String text(Random r) {
    StringBuilder t = new StringBuilder(r.nextInt(4) == 0 ? "sea " + (1 + r.nextInt(9)) + " " + (1 + r.nextInt(9)) + ";" : "");
    int kind = r.nextInt(8);
    for (int i = r.nextInt(kind == 0 ? 30 : 9); i > 0; i--) {
      t.append(kind == 1 ? "rule " + "(".repeat(r.nextInt(7)) + expr(r, 0) + ")".repeat(r.nextInt(7)) + " go east;" : line(r));
      t.append(pick(r, "", "", " ", "\n"));
    }
    String[] bits = {";", "(", ")", "not ", "12345", "x", " go ", "9", "0", " rule ", "rock 1 1;", "+", "\u00ff", "<", "sea ",
        "north", "depth", " ", "\n", "\u0000", "A", "-", "*", "/", "=", " or ", " and ", "{", "`", ":", "goal ", "school "};
    for (int i = r.nextInt(3); i > 0 && t.length() > 0; i--) {
      int at = r.nextInt(t.length());
      if (r.nextInt(3) == 0) {
        t.delete(at, Math.min(t.length(), at + 1 + r.nextInt(6)));
      } else {
        t.insert(at, bits[r.nextInt(bits.length)]);
      }
    }
    return t.length() > 700 ? t.substring(0, 700) : t.toString();
  }

  private static String answerOf(DrownedSlates x, String text) {
    byte[] bytes = text.getBytes(StandardCharsets.ISO_8859_1);
    byte[] padded = Arrays.copyOf(bytes, (bytes.length + 19) / 20 * 20);
    for (int i = 0; i < padded.length; i += 20) {
      int[] n = new int[5];
      for (int j = 0; j < 20; j++) {
        n[j / 4] = n[j / 4] << 8 | padded[i + j] & 255;
      }
      x.feed(n[0], n[1], n[2], n[3], n[4]);
    }
    int fault = x.sea(bytes.length);
    return fault != 0 ? fault + " at " + x.fault() : "0 at " + x.fault() + " " + x.count(0) + " " + x.count(1) + " " + x.count(2)
        + " " + x.count(3) + " " + x.count(4) + " " + x.count(5) + " " + x.count(6) + " " + x.count(7);
  }

  private static String dueOf(String text) {
    Reader reader = new Reader(text);
    try {
      reader.readAll();
    } catch (Fault f) {
      return f.kind + " at " + f.place;
    }
    return "0 at -1 " + reader.w + " " + reader.h + " " + reader.rocks.size() + " " + reader.currents.size() + " "
        + reader.told[0] + " " + reader.told[1] + " " + reader.told[2] + " " + reader.told[3];
  }

  public static void main(String[] args) {
    int texts = args.length > 0 ? Integer.parseInt(args[0]) : 40000;
    Random r = new Random(args.length > 1 ? Long.parseLong(args[1]) : 18112026L);
    int[] seen = new int[6];
    int wrong = 0;
    DrownedSlates x = new DrownedSlates();
    for (int i = 0; i < texts; i++) {
      if (i % 10 == 0) {
        x = new DrownedSlates();
      }
      String text = text(r);
      String due = dueOf(text);
      String got = answerOf(x, text);
      seen[due.charAt(0) - '0']++;
      if (!got.equals(due)) {
        wrong++;
        System.out.println("[" + text + "] answered " + got + ", due is " + due);
      }
    }
    System.out.println(texts + " texts, FAULTS 0 to 5: " + Arrays.toString(seen) + ", " + wrong + " not as due");
    for (int n : seen) {
      wrong += n == 0 ? 1 : 0;
    }
    if (wrong != 0) {
      System.exit(1);
    }
  }
}
