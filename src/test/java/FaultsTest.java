import java.nio.charset.StandardCharsets;
import java.util.Arrays;

/** FAULTS of texts: which one, and where. A | in a row's text stands where the fault is due. */
public final class FaultsTest {
  private static int wrong = 0;

  private static void fault(int want, String marked) {
    int place = marked.indexOf('|');
    String text = marked.substring(0, place) + marked.substring(place + 1);
    DrownedSlates x = new DrownedSlates();
    feed(x, text);
    int got = x.sea(text.length());
    if (got != want || x.fault() != place || x.count(13) != 1) {
      wrong++;
      System.out.println(text + ": fault " + got + " at " + x.fault() + ", due is " + want + " at " + place);
    }
  }

  private static void fine(String text) {
    DrownedSlates x = new DrownedSlates();
    feed(x, text);
    int got = x.sea(text.length());
    if (got != 0 || x.fault() != -1 || x.count(13) != 0) {
      wrong++;
      System.out.println(text + ": fault " + got + " at " + x.fault() + ", due is none");
    }
  }

  private static void feed(DrownedSlates x, String text) {
    byte[] bytes = text.getBytes(StandardCharsets.ISO_8859_1);
    byte[] padded = Arrays.copyOf(bytes, (bytes.length + 19) / 20 * 20);
    for (int i = 0; i < padded.length; i += 20) {
      int[] n = new int[5];
      for (int j = 0; j < 20; j++) {
        n[j / 4] = n[j / 4] << 8 | padded[i + j] & 255;
      }
      x.feed(n[0], n[1], n[2], n[3], n[4]);
    }
  }

  private static String times(String text, int n) {
    return text.repeat(n);
  }

  public static void main(String[] args) {
    lines();
    numbers();
    tooMany();
    toldAndTwice();
    misplaced();
    expressions();
    System.out.println(wrong == 0 ? "all faults are as due" : wrong + " faults are not as due");
    if (wrong != 0) {
      System.exit(1);
    }
  }

  private static void lines() {
    fine("");
    fine("  \n ");
    fault(1, "|;");
    fault(1, "|7;");
    fault(1, "|12345;");
    fault(1, "|Sea 4 4;");
    fault(1, "|rocks 1 1;");
    fault(1, "|roc 1 1;");
    fault(1, "|east 1;");
    fault(1, "rock 1 1;|;");
    fault(1, "rock 1 1 |rock 2 2;");
    fault(1, "rock 1 1|");
    fault(1, "rock 1 1   \n|");
    fault(1, "rock 1|");
    fault(1, "rock |;");
    fault(1, "rock |x 1;");
    fault(1, "rock |- 1 1;");
    fault(1, "rock 1 |east;");
    fault(1, "rock 1|,1;");
    fault(1, "rock 1|\u00e4;");
    fault(1, "rock 1 1 |1;");
    fault(1, "rock 1 1 |12345;");
    fault(1, "sea 4 |;");
    fault(1, "sea|");
    fault(1, "current 1 1 |;");
    fault(1, "current 1 1 |1;");
    fault(1, "current 1 1 |eastern;");
    fault(1, "current 1 1 |go;");
    fault(1, "current 1 1 east |east;");
    fault(1, "slate 1 1 |;");
    fault(1, "slate 1 1 1 |1;");
    fault(1, "slate 1 1 1 east |;");
    fault(1, "slate 1 1 1 east |east 1;");
    fault(1, "slate 1 1 1 east 1 |1;");
    fault(1, "slate 1 1 1 |x 1;");
    fault(1, "slate 1 1 1 east 1|");
    fault(1, "hand 3 3 3 |;");
    fault(1, "hand 3 3 3 3 |3;");
    fault(1, "school 1 1 |;");
    fault(1, "goal |;");
    fault(1, "goal 1 |1;");
    fault(1, "pilot 1 1 |;");
    fault(1, "pilot 1 1 1 |east;");
    fault(1, "slate 0 0 0;pilot 1 1 1 0 |+;");
    fine("rock 1 1;\n rock 1 2 ; slate 1 1 1;pilot 0 0 0 0;hand 12 0 0 0;school 1 1 1;goal 7;");
  }

  private static void numbers() {
    fine("sea 2 8;");
    fine("sea 8 2;rock 7 1;");
    fault(2, "sea |9 2;");
    fault(2, "sea |0 2;");
    fault(2, "sea |00004 4;");
    fault(2, "sea 4 |1;");
    fault(2, "sea 4 |99999999999999999999999;");
    fault(2, "sea 4 3;rock |4 0;");
    fault(2, "sea 4 3;rock 3 |3;");
    fault(2, "sea 3 4;current |3 3 east;");
    fault(2, "sea 3 4;current 2 |4 east;");
    fault(2, "slate |6 0 0;");
    fault(2, "slate 5 |6 0;");
    fault(2, "slate 5 5 |100;");
    fine("slate 5 5 99 north 9 east 1 west 0009;");
    fault(2, "slate 5 5 99 north |10;");
    fault(2, "slate 5 5 99 north |00001;");
    fault(2, "slate 5 5 99 north 1 south |0;");
    fine("hand 0 0 0 12;hand 3 3 3 3;");
    fault(2, "hand 0 0 0 |11;");
    fault(2, "hand 0 0 0 |13;");
    fault(2, "hand 0 |13 0 0;");
    fault(2, "hand 12 12 12 |0;");
    fault(2, "hand 6 6 1 |0;");
    fault(2, "hand 3 3 3 |00003;");
    fault(2, "school |6 0 0;");
    fault(2, "school 0 |6 0;");
    fault(2, "school 0 0 |10;");
    fine("school 5 5 9;goal 0;");
    fault(2, "goal |8;");
    fine("sea 2 2;goal 7;");
    fault(2, "pilot |6 0 0;");
    fault(2, "pilot 0 |6 0;");
    fault(2, "pilot 0 0 |100;");
    fault(2, "slate 0 0 0;pilot 0 0 0 |00000;");
    fault(1, "slate 0 0 0;pilot 0 0 0 0|");
  }

  private static void tooMany() {
    StringBuilder rocks = new StringBuilder();
    for (int i = 0; i < 20; i++) {
      rocks.append("rock ").append(i % 6).append(' ').append(i / 6).append(';');
    }
    fine(rocks.toString());
    fault(2, rocks + "|rock 5 5;");
    fault(2, rocks + "|rock");
    fault(1, rocks + "|rack");
    fine(times("slate 0 0 0;", 8));
    fault(2, times("slate 0 0 0;", 8) + "|slate 0 0 0;");
    fine("slate 0 0 0" + times(" east 1", 8) + ";");
    fault(2, "slate 0 0 0" + times(" east 1", 8) + " |east 1;");
    fault(2, "slate 0 0 0" + times(" east 1", 8) + " |west 0;");
    fault(1, "slate 0 0 0" + times(" east 1", 8) + " |up 0;");
    fine(times("hand 3 3 3 3;", 5));
    fault(2, times("hand 3 3 3 3;", 5) + "|hand 3 3 3 3;");
    fine(times("pilot 0 0 0;", 4));
    fault(2, times("pilot 0 0 0;", 4) + "|pilot 0 0 0;");
    fine(times("rule 1 go east;", 8));
    fault(2, times("rule 1 go east;", 8) + "|rule 1 go east;");
    StringBuilder currents = new StringBuilder("sea 6 6;");
    for (int i = 0; i < 36; i++) {
      currents.append("current ").append(i % 6).append(' ').append(i / 6).append(" east;");
    }
    fine(currents.toString());
  }

  private static void toldAndTwice() {
    fault(3, "pilot 0 0 0 |0;");
    fault(3, "slate 0 0 0;pilot 0 0 0 |1;");
    fault(3, "slate 0 0 0;pilot 0 0 0 0 |8;");
    fault(3, "slate 0 0 0;pilot 0 0 0 |9999;");
    fault(3, "pilot 0 0 0 |0;slate 0 0 0;");
    fault(4, "slate 0 0 0;slate 0 0 0;pilot 0 0 0 1 0 |1;");
    fine(times("slate 0 0 0;", 8) + "pilot 0 0 0 7 6 5 4 3 2 1 0;");
    fault(4, times("slate 0 0 0;", 8) + "pilot 0 0 0 7 6 5 4 3 2 1 0 |7;");
    fault(3, times("slate 0 0 0;", 8) + "pilot 0 0 0 7 6 5 4 3 2 1 0 |8;");
    fine("slate 0 0 0;slate 0 0 0;pilot 0 0 0 1 0;pilot 0 0 0 01 000;");
    fault(4, "rock 2 3;rock 2 |3;");
    fine("rock 2 3;rock 3 2;current 2 3 east;");
    fault(4, "current 2 3 east;current 2 |3 up;");
    fault(2, "rock 2 3;rock 2 |6;");
    fault(4, "rock 2 3;rock 2 |3");
  }

  private static void misplaced() {
    fault(5, "sea 3 3;|sea 3 3;");
    fault(5, "goal 1;|sea");
    fault(5, "school 0 0 0;|school 0 0 0;");
    fault(5, "school 0 0 0;goal 1;|school");
    fault(5, "goal 1;|goal 1;");
    fine("goal 1;school 0 0 0;");
  }

  private static void expressions() {
    fault(1, "rule |;");
    fault(1, "rule |");
    fault(3, "rule |go east;");
    fault(3, "rule |and go east;");
    fault(3, "rule |sea go east;");
    fault(3, "rule |depth go east;");
    fault(3, "rule |xz go east;");
    fault(3, "rule |xa go east;");
    fault(1, "rule x|{ go east;");
    fault(1, "rule x|` go east;");
    fault(1, "rule 1|: go east;");
    fault(3, "rule 1 + |not 1 go east;");
    fault(3, "rule 1 < |not 1 go east;");
    fault(3, "rule 1 or |or 1 go east;");
    fault(3, "rule 1 and |go east;");
    fault(3, "rule not |go east;");
    fault(3, "rule (|or) go east;");
    fault(3, "rule 1 * |xx go east;");
    fault(1, "rule |- 1 go east;");
    fault(1, "rule |) go east;");
    fault(1, "rule (|) go east;");
    fault(1, "rule |< 1 go east;");
    fault(1, "rule 1 |1 go east;");
    fault(1, "rule 1 |12345 go east;");
    fault(1, "rule 1 |x go east;");
    fault(1, "rule 1 |not x go east;");
    fault(1, "rule 1 |) go east;");
    fault(1, "rule 1 |(1) go east;");
    fault(1, "rule (1 |; go east;");
    fault(1, "rule (1 |go east;");
    fault(1, "rule 1 < 2 |< 3 go east;");
    fault(1, "rule 1 = 2 |= 3 go east;");
    fine("rule 1 < 2 and 2 = 3 or not 1 < 2 go east;");
    fine("rule (1 < 2) < 3 go east;");
    fault(1, "rule 1 go |;");
    fault(1, "rule 1 go |1;");
    fault(1, "rule 1 go |x;");
    fault(1, "rule 1 go east |1;");
    fault(1, "rule 1 go east|");
    fault(1, "rule 1|");
    fault(1, "rule 1 +|");
    fault(1, "rule 1 |$ 1 go east;");
    fault(2, "rule |10000 go east;");
    fault(2, "rule x + |00001 go east;");
    fine("rule 9999 go east;");
    fine("rule " + times("(", 5) + "x" + times(")", 5) + " go east;");
    fault(2, "rule " + times("(", 6) + "|x" + times(")", 6) + " go east;");
    fault(2, "rule " + times("(", 6) + "|1" + times(")", 6) + " go east;");
    fault(2, "rule " + times("(", 6) + "|(1" + times(")", 7) + " go east;");
    fault(2, "rule " + times("(", 6) + "|depth" + times(")", 6) + " go east;");
    fault(2, "rule " + times("(", 6) + "|not x" + times(")", 6) + " go east;");
    fault(2, "rule " + times("(", 6) + "|123456" + times(")", 6) + " go east;");
    fault(1, "rule " + times("(", 6) + "|)" + times(")", 6) + " go east;");
    fault(1, "rule " + times("(", 6) + "|- 1" + times(")", 6) + " go east;");
    fault(1, "rule " + times("(", 6) + "|");
    fine("rule (((((1))))) + (((((1))))) go east;");
    fine("rule " + times("not ", 6) + "x go east;");
    fault(2, "rule " + times("not ", 6) + "|not x go east;");
    fine("rule " + times("not ", 6) + "x and " + times("not ", 6) + "x go east;");
    fine("rule " + times("not ", 6) + "(" + times("not ", 6) + "x) go east;");
    fault(3, "rule " + times("not ", 6) + "|nota x go east;");
  }
}
