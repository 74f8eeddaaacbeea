import java.nio.charset.StandardCharsets;
import java.util.Arrays;
import java.util.NoSuchElementException;

/**
 * An object of the class and rows of calls on it, each "name arguments -> answer". A * among the
 * arguments stands for 0, 1 .. , one for each answer of the row. "text T" feeds a text, "load T" feeds
 * and reads it. NSEE and IAE are the exceptions, MIN and MAX the outermost ints.
 */
final class Script {
  private static final int MOST_CALLS = 512;
  private static int wrong = 0;
  private static int rows = 0;

  private final String sentence;
  private final DrownedSlates x = new DrownedSlates();
  private int calls = 0;

  Script(String sentence) {
    this.sentence = sentence;
  }

  /** A new object that has read this text, which has no FAULT. */
  static Script of(String sentence, String text) {
    Script script = new Script(sentence);
    script.isDue("load " + text, "0");
    script.isDue("fault", "-1");
    return script;
  }

  /** A new object refuses this text; a | stands where the FAULT is due. */
  static void fault(String sentence, int want, String marked) {
    int place = marked.indexOf('|');
    String text = marked.substring(0, place) + marked.substring(place + 1);
    Script script = new Script(sentence);
    script.isDue("load " + text, String.valueOf(want));
    script.isDue("fault", String.valueOf(place));
    script.isDue("count 13", "1");
  }

  /**
   * Behind a refused call all is as in a twin that never saw it, but for what the document says: a
   * STATUS (13 or 14, or 0) that is one more, and with 13 the place of the FAULT.
   */
  static void changesNothing(String sentence, String[] ahead, String refused, int status) {
    Script one = new Script(sentence);
    Script twin = new Script(sentence);
    one.due(ahead);
    twin.due(ahead);
    one.due(refused);
    for (int what = 13; what <= 14; what++) {
      int more = what == status ? 1 : 0;
      int due = Integer.parseInt(twin.ask("count " + what)) + more;
      one.isDue("count " + what, String.valueOf(due));
    }
    if (status != 13) {
      one.isDue("fault", twin.ask("fault"));
    }
    String got = one.all();
    String due = twin.all();
    check(got.equals(due), sentence + ": behind " + refused + " there is\n" + got + "\n, due is\n" + due);
    one.countCalls();
    twin.countCalls();
  }

  static void check(boolean right, String what) {
    rows++;
    if (!right) {
      wrong++;
      System.out.println(what);
    }
  }

  /** The end of a test: its exit code is 1, if an answer was not as due. */
  static void end(String name) {
    System.out.println(name + ": " + rows + " rows, " + wrong + " not as due");
    if (wrong != 0 || rows == 0) {
      System.exit(1);
    }
  }

  Script due(String... manyRows) {
    for (String row : manyRows) {
      int arrow = row.lastIndexOf(" -> ");
      String call = row.substring(0, arrow);
      String answers = row.substring(arrow + 4);
      boolean isText = call.startsWith("load ") || call.startsWith("text ");
      if (isText || !call.contains("*")) {
        isDue(call, answers);
        continue;
      }
      String[] each = answers.split(" ");
      for (int i = 0; i < each.length; i++) {
        isDue(call.replace("*", String.valueOf(i)), each[i]);
      }
    }
    countCalls();
    return this;
  }

  /** A row many times. */
  Script times(int n, String row) {
    for (int i = 0; i < n; i++) {
      due(row);
    }
    return this;
  }

  private void isDue(String call, String want) {
    String got = ask(call);
    check(got.equals(want), sentence + ": " + call + " answered " + got + ", due is " + want);
  }

  private void countCalls() {
    check(calls <= MOST_CALLS, sentence + ": " + calls + " calls, the document has 512");
  }

  String ask(String call) {
    if (call.startsWith("text ")) {
      return String.valueOf(feed(call.substring(5)));
    }
    if (call.startsWith("load ")) {
      String text = call.substring(5);
      feed(text);
      return ask("sea " + text.length());
    }
    String[] words = call.split(" ");
    int[] a = new int[5];
    for (int i = 1; i < words.length; i++) {
      a[i - 1] = number(words[i]);
    }
    calls++;
    try {
      return answer(words[0], a);
    } catch (RuntimeException e) {
      return e.getClass() == NoSuchElementException.class ? "NSEE"
          : e.getClass() == IllegalArgumentException.class ? "IAE" : "throws." + e.getClass().getSimpleName();
    }
  }

  private static int number(String word) {
    switch (word) {
      case "MIN": return Integer.MIN_VALUE;
      case "MAX": return Integer.MAX_VALUE;
      default: return Integer.parseInt(word);
    }
  }

  private int feed(String text) {
    byte[] bytes = text.getBytes(StandardCharsets.ISO_8859_1);
    byte[] padded = Arrays.copyOf(bytes, (bytes.length + 19) / 20 * 20);
    int has = 0;
    for (int i = 0; i < padded.length; i += 20) {
      int[] n = new int[5];
      for (int j = 0; j < 20; j++) {
        n[j / 4] = n[j / 4] << 8 | padded[i + j] & 255;
      }
      calls++;
      has = x.feed(n[0], n[1], n[2], n[3], n[4]);
    }
    return has;
  }

  private String answer(String name, int[] a) {
    switch (name) {
      case "feed": return "" + x.feed(a[0], a[1], a[2], a[3], a[4]);
      case "sea": return "" + x.sea(a[0]);
      case "fault": return "" + x.fault();
      case "count": return "" + x.count(a[0]);
      case "cell": return "" + x.cell(a[0], a[1]);
      case "slate": return "" + x.slate(a[0], a[1]);
      case "mark": return "" + x.mark(a[0], a[1], a[2]);
      case "write": return "" + x.write(a[0], a[1], a[2]);
      case "rub": return "" + x.rub(a[0], a[1], a[2]);
      case "undo": return "" + x.undo();
      case "voyage": return "" + x.voyage(a[0], a[1]);
      case "explained": return "" + x.explained(a[0]);
      case "where": return "" + x.where(a[0], a[1]);
      case "pilot": return "" + x.pilot(a[0], a[1]);
      case "sails": return "" + x.sails(a[0], a[1], a[2]);
      case "exam": return "" + x.exam();
      case "study": return "" + x.study(a[0]);
      case "studied": return "" + x.studied(a[0]);
      case "dive": return "" + x.dive(a[0], a[1]);
      case "chart": return "" + x.chart(a[0]);
      case "hand": return "" + x.hand(a[0], a[1]);
      case "copied": return "" + x.copied(a[0], a[1], a[2]);
      case "restore": return "" + x.restore();
      case "image":
        x.image();
        return "done";
      default: throw new UnsupportedOperationException(name);
    }
  }

  /** All that the object holds, as its calls tell it; the acts, the image and the tape are used up. */
  private String all() {
    StringBuilder all = new StringBuilder("counts");
    for (int what = 0; what <= 12; what++) {
      tell(all, "count " + what);
    }
    all.append("\ncells");
    int cells = Integer.parseInt(ask("count 0")) * Integer.parseInt(ask("count 1"));
    for (int cell = 0; cell < cells; cell++) {
      tell(all, "cell " + cell + " 0");
      tell(all, "cell " + cell + " 1");
    }
    tellPilots(all);
    tellSlates(all);
    for (int i = 0; i <= 30 && tell(all.append("\nundo"), "undo") >= 0; i++) {
      tellSlates(all);
    }
    tell(all.append("\nrestore"), "restore");
    tellSlates(all);
    tell(all.append("\nundo"), "undo");
    tellSlates(all);
    tell(all.append("\ntape"), "sea " + ask("count 12"));
    tell(all, "fault");
    tell(all, "count 2");
    return all.toString();
  }

  private void tellPilots(StringBuilder all) {
    all.append("\npilots");
    int pilots = Integer.parseInt(ask("count 6"));
    for (int pilot = 0; pilot < pilots; pilot++) {
      for (int what = 0; what < 3; what++) {
        tell(all, "pilot " + pilot + " " + what);
        tell(all, "sails " + pilot + " 0 " + what);
      }
    }
    tell(all, "exam");
    all.append(" study");
    for (int i = 0; i < 3; i++) {
      tell(all, "studied " + i);
    }
  }

  private void tellSlates(StringBuilder all) {
    all.append("\nslates");
    int slates = Integer.parseInt(ask("count 4"));
    for (int slate = 0; slate < slates; slate++) {
      tell(all, "slate " + slate + " 0");
      tell(all, "slate " + slate + " 1");
      int marks = tell(all, "slate " + slate + " 2");
      tell(all, "slate " + slate + " 3");
      for (int i = 0; i < marks; i++) {
        tell(all, "mark " + slate + " " + i + " 0");
        tell(all, "mark " + slate + " " + i + " 1");
      }
      tell(all, "hand " + slate + " 3");
    }
  }

  private int tell(StringBuilder all, String call) {
    String answer = ask(call);
    all.append(' ').append(answer);
    return answer.matches("-?[0-9]{1,9}") ? Integer.parseInt(answer) : 0;
  }
}
