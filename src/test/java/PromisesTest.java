import java.nio.charset.StandardCharsets;
import java.util.Arrays;
import java.util.NoSuchElementException;

/** For each promise of the document: ordinary inputs, its edges, wrong inputs. */
public final class PromisesTest {
  private static int wrong = 0;
  private static String promise = "";

  private interface Call {
    Object run();
  }

  private static final String NSEE = "throws.NoSuchElementException";
  private static final String IAE = "throws.IllegalArgumentException";

  private static String answerOf(Call call) {
    try {
      return String.valueOf(call.run());
    } catch (RuntimeException e) {
      return "throws." + e.getClass().getSimpleName();
    }
  }

  private static void due(String what, Object want, Call call) {
    String got = answerOf(call);
    if (!got.equals(String.valueOf(want))) {
      wrong++;
      System.out.println(promise + ": " + what + " answered " + got + ", due is " + want);
    }
  }

  private static int number(byte[] bytes, int from) {
    return bytes[from] << 24 | (bytes[from + 1] & 255) << 16 | (bytes[from + 2] & 255) << 8
        | bytes[from + 3] & 255;
  }

  private static int feed(DrownedSlates x, String text) {
    byte[] bytes = text.getBytes(StandardCharsets.ISO_8859_1);
    byte[] padded = Arrays.copyOf(bytes, (bytes.length + 19) / 20 * 20);
    int has = x.count(12);
    for (int i = 0; i < padded.length; i += 20) {
      has = x.feed(number(padded, i), number(padded, i + 4), number(padded, i + 8),
          number(padded, i + 12), number(padded, i + 16));
    }
    return has;
  }

  private static int load(DrownedSlates x, String text) {
    feed(x, text);
    return x.sea(text.length());
  }

  private static DrownedSlates of(String text) {
    DrownedSlates x = new DrownedSlates();
    due("sea of " + text, 0, () -> load(x, text));
    return x;
  }

  public static void main(String[] args) {
    newObject();
    tape();
    seaAndFault();
    countCellSlateMark();
    write();
    rub();
    undo();
    voyage();
    explained();
    where();
    pilotAndSails();
    values();
    expressions();
    exam();
    study();
    dive();
    chart();
    hand();
    copied();
    image();
    System.out.println(wrong == 0 ? "all promises hold" : wrong + " answers are not as due");
    if (wrong != 0) {
      System.exit(1);
    }
  }

  private static void newObject() {
    promise = "1 new";
    DrownedSlates x = new DrownedSlates();
    int[] counts = {6, 6, 0, 0, 0, 0, 0, 0, 0, 2, 5, 0, 0, 0, 0};
    for (int i = 0; i < counts.length; i++) {
      int what = i;
      due("count(" + i + ")", counts[i], () -> x.count(what));
    }
    due("fault", -1, x::fault);
    due("cell(35, 0)", 0, () -> x.cell(35, 0));
    due("cell(35, 1)", -1, () -> x.cell(35, 1));
    due("cell(36, 0)", NSEE, () -> x.cell(36, 0));
    due("slate(0, 0)", NSEE, () -> x.slate(0, 0));
    due("undo", -1, x::undo);
    due("exam", 0, x::exam);
    due("study(0)", NSEE, () -> x.study(0));
    due("studied(0)", NSEE, () -> x.studied(0));
    due("chart(0)", 0, () -> x.chart(0));
    due("chart(1)", 0, () -> x.chart(1));
    due("chart(2)", (1L << 36) - 1, () -> x.chart(2));
    due("restore", false, x::restore);
    due("NONE", -1, () -> DrownedSlates.NONE);
  }

  private static void tape() {
    promise = "2 feed";
    DrownedSlates x = new DrownedSlates();
    for (int i = 1; i <= 35; i++) {
      due("feed " + i, 20 * i, () -> x.feed(0x20202020, 0x20202020, 0x20202020, 0x20202020, 0x20202020));
    }
    due("feed beyond 700", -1, () -> x.feed(0, 0, 0, 0, 0));
    due("count(12)", 700, () -> x.count(12));
    due("sea of 700 blanks", 0, () -> x.sea(700));
    due("count(12) behind", 0, () -> x.count(12));
    // the highest byte first, all five numbers in their order
    due("sea in order", 0, () -> {
      x.feed(0x73656120, 0x3320343b, 0x726f636b, 0x20312032, 0x3b202020);
      return x.sea(17);
    });
    due("W", 3, () -> x.count(0));
    due("H", 4, () -> x.count(1));
    due("rock", 1, () -> x.cell(7, 0));
    // a byte of 128 or more is no token, wherever it stands in its number
    due("sea of a byte 128", 1, () -> {
      x.feed(0x20202080, 0, 0, 0, 0);
      return x.sea(4);
    });
    due("fault", 3, x::fault);
  }

  private static void seaAndFault() {
    promise = "3 sea";
    DrownedSlates x = of("sea 4 3;rock 1 1;slate 0 0 0 south 1;pilot 0 2 0 0;rule 1 go east;goal 3;");
    due("study", 0, () -> x.study(0));
    due("write", 2, () -> x.write(0, 1, 1));
    x.image();
    due("sea(-1)", IAE, () -> x.sea(-1));
    due("feed", 20, () -> feed(x, "rock 0 0;"));
    due("sea(21)", IAE, () -> x.sea(21));
    due("tape stays", 20, () -> x.count(12));
    due("fault stays", -1, x::fault);
    due("refused texts", 0, () -> x.count(13));
    due("sea of no token", 1, () -> x.sea(20));
    due("fault", 9, x::fault);
    due("tape is empty", 0, () -> x.count(12));
    due("all stays: W", 4, () -> x.count(0));
    due("all stays: rock", "0 1", () -> x.cell(0, 0) + " " + x.cell(5, 0));
    due("all stays: acts", 1, () -> x.count(11));
    due("all stays: image", true, x::restore);
    due("refused texts", 1, () -> x.count(13));
    due("a fault late in the text", 1, () -> load(x, "sea 8 8;rock 7 7;hand 12 0 0 0;slate 1 1 1;goal 1"));
    due("fault at the text's length", 49, x::fault);
    due("all stays", "4 1 1 0 3", () -> x.count(0) + " " + x.count(2) + " " + x.count(4) + " "
        + x.count(5) + " " + x.count(10));
    due("write once more", -1, () -> x.write(0, 4, 1));
    due("sea anew", 0, () -> load(x, "rock 2 2;"));
    due("fault", -1, x::fault);
    due("acts are gone", 0, () -> x.count(11));
    due("undo", -1, x::undo);
    due("image is gone", false, x::restore);
    due("all anew", "6 6 1 0 0 0 0 0 0 2 5", () -> x.count(0) + " " + x.count(1) + " " + x.count(2) + " "
        + x.count(3) + " " + x.count(4) + " " + x.count(5) + " " + x.count(6) + " " + x.count(7) + " "
        + x.count(8) + " " + x.count(9) + " " + x.count(10));
    due("status stays", "2 1", () -> x.count(13) + " " + x.count(14));
    due("an empty text", 0, () -> x.sea(0));
    due("no rock", 0, () -> x.count(2));
    DrownedSlates y = of("sea 6 2;rock 2 0;slate 0 0 0 east 2;pilot 0 0 0;rule east go south;rule 1 go east;");
    due("study", 1, () -> y.study(0));
    due("a fault", 1, () -> load(y, "x"));
    due("the study stays", 0, () -> y.studied(0));
    due("anew", 0, () -> y.sea(0));
    due("the study is gone", NSEE, () -> y.studied(0));
    due("only n bytes", 0, () -> {
      feed(y, "rock 0 0;chalk");
      return y.sea(9);
    });
    due("blanks of 10", 0, () -> load(y, "\n sea\n2 8 ;\n\nrock 1\n7;\n"));
    due("rock", 1, () -> y.cell(15, 0));
    due("a tab is none", 1, () -> load(y, "sea\t2 8;"));
    due("fault", 3, y::fault);
    due("no blanks", 0, () -> load(y, "sea3 3;slate1 1 5east2north1;rule(x)go west;"));
    due("marks", 2, () -> y.slate(0, 2));
    due("leading zeroes", 0, () -> load(y, "sea 0003 003;"));
    due("W", 3, () -> y.count(0));
  }

  private static void countCellSlateMark() {
    promise = "5 to 8";
    DrownedSlates x = of("sea 8 8;rock 7 7;rock 0 7;rock 3 3;current 7 7 west;current 0 0 north;"
        + "slate 7 0 99 west 9 south 1;slate 3 3 0;hand 3 3 3 3;hand 0 0 0 12;hand 12 0 0 0;"
        + "school 5 6 9;goal 0;pilot 1 1 1 1;pilot 2 2 2;rule 1 go east;");
    int[] counts = {8, 8, 3, 2, 2, 3, 2, 1, 53, 9, 0, 0, 0, 0, 0};
    for (int i = 0; i < counts.length; i++) {
      int what = i;
      due("count(" + i + ")", counts[i], () -> x.count(what));
    }
    due("count(-1)", NSEE, () -> x.count(-1));
    due("count(15)", NSEE, () -> x.count(15));
    due("cell(63, 0)", 1, () -> x.cell(63, 0));
    due("cell(63, 1)", 3, () -> x.cell(63, 1));
    due("cell(56, 0)", 1, () -> x.cell(56, 0));
    due("cell(0, 1)", 0, () -> x.cell(0, 1));
    due("cell(0, 0)", 0, () -> x.cell(0, 0));
    due("cell(1, 1)", -1, () -> x.cell(1, 1));
    due("cell(64, 0)", NSEE, () -> x.cell(64, 0));
    due("cell(-1, 0)", NSEE, () -> x.cell(-1, 0));
    due("cell(0, 2)", NSEE, () -> x.cell(0, 2));
    due("cell(0, -1)", NSEE, () -> x.cell(0, -1));
    due("slate(0, ..)", "7 99 2 0", () -> x.slate(0, 0) + " " + x.slate(0, 1) + " " + x.slate(0, 2) + " "
        + x.slate(0, 3));
    due("slate(1, ..)", "27 0 0 0", () -> x.slate(1, 0) + " " + x.slate(1, 1) + " " + x.slate(1, 2) + " "
        + x.slate(1, 3));
    due("slate(2, 0)", NSEE, () -> x.slate(2, 0));
    due("slate(-1, 0)", NSEE, () -> x.slate(-1, 0));
    due("slate(0, 4)", NSEE, () -> x.slate(0, 4));
    due("slate(0, -1)", NSEE, () -> x.slate(0, -1));
    due("mark(0, ..)", "3 9 2 1", () -> x.mark(0, 0, 0) + " " + x.mark(0, 0, 1) + " " + x.mark(0, 1, 0) + " "
        + x.mark(0, 1, 1));
    due("mark(0, 2, 0)", NSEE, () -> x.mark(0, 2, 0));
    due("mark(0, -1, 0)", NSEE, () -> x.mark(0, -1, 0));
    due("mark(1, 0, 0)", NSEE, () -> x.mark(1, 0, 0));
    due("mark(2, 0, 0)", NSEE, () -> x.mark(2, 0, 0));
    due("mark(0, 0, 2)", NSEE, () -> x.mark(0, 0, 2));
    due("mark(0, 0, -1)", NSEE, () -> x.mark(0, 0, -1));
  }

  private static void write() {
    promise = "9 write";
    DrownedSlates x = of("slate 0 0 0 east 1 east 2;slate 1 1 1;");
    for (int i = 3; i <= 8; i++) {
      int steps = i;
      due("write " + i, i, () -> x.write(0, 2, steps));
    }
    due("a 9th", -1, () -> x.write(0, 2, 1));
    due("status", 1, () -> x.count(14));
    due("acts", 6, () -> x.count(11));
    due("the last", "2 8", () -> x.mark(0, 7, 0) + " " + x.mark(0, 7, 1));
    due("way -1", -1, () -> x.write(1, -1, 1));
    due("way 4", -1, () -> x.write(1, 4, 1));
    due("steps 0", -1, () -> x.write(1, 0, 0));
    due("steps 10", -1, () -> x.write(1, 0, 10));
    due("status", 5, () -> x.count(14));
    due("acts", 6, () -> x.count(11));
    due("none written", 0, () -> x.slate(1, 2));
    due("no slate", NSEE, () -> x.write(2, 9, 9));
    due("no slate", NSEE, () -> x.write(-1, 0, 1));
    due("status", 5, () -> x.count(14));
    due("way 3, steps 9", 1, () -> x.write(1, 3, 9));
    due("way 0, steps 1", 2, () -> x.write(1, 0, 1));
    due("mark", "3 9 0 1", () -> x.mark(1, 0, 0) + " " + x.mark(1, 0, 1) + " " + x.mark(1, 1, 0) + " "
        + x.mark(1, 1, 1));
  }

  private static int drawnBits(int seed, int marks, int chance) {
    int bits = 0;
    long state = seed & 0xffffffffL;
    for (int i = 0; i < marks; i++) {
      state = (state * 1103515245L + 12345L) % (1L << 32);
      if (state / 65536 % 32768 % 100 < chance) {
        bits |= 1 << i;
      }
    }
    return bits;
  }

  private static void rub() {
    promise = "10 rub";
    String text = "slate 0 0 0 east 1 east 2 east 3 west 1 west 2 west 3 south 1 south 2;slate 0 0 0;";
    for (int seed : new int[] {0, 1, 5, -1, 77777, Integer.MIN_VALUE, Integer.MAX_VALUE}) {
      for (int chance : new int[] {0, 1, 30, 50, 99, 100}) {
        DrownedSlates x = of(text);
        int bits = drawnBits(seed, 8, chance);
        due("rub(0, " + seed + ", " + chance + ")", Integer.bitCount(bits), () -> x.rub(0, seed, chance));
        due("bits of it", bits, () -> x.slate(0, 3));
        int more = bits | drawnBits(3, 8, 40);
        due("rubbed once more", Integer.bitCount(more), () -> x.rub(0, 3, 40));
        due("bits of both", more, () -> x.slate(0, 3));
        due("marks stay", "8 1", () -> x.slate(0, 2) + " " + x.mark(0, 0, 0));
      }
    }
    DrownedSlates x = of(text);
    due("chance -1", -1, () -> x.rub(0, 1, -1));
    due("chance 101", -1, () -> x.rub(0, 1, 101));
    due("status", 2, () -> x.count(14));
    due("acts", 0, () -> x.count(11));
    due("no slate", NSEE, () -> x.rub(2, 1, 101));
    due("no slate", NSEE, () -> x.rub(-1, 1, 1));
    due("status", 2, () -> x.count(14));
    due("no marks", 0, () -> x.rub(1, 1, 100));
    due("an act all the same", 1, () -> x.count(11));
    due("a mark written later is not rubbed", "1 0", () -> x.write(1, 0, 1) + " " + x.slate(1, 3));
  }

  private static void undo() {
    promise = "11 undo";
    DrownedSlates x = of("slate 0 0 0 east 1 east 1 east 1;slate 0 0 0;");
    due("rub", 3, () -> x.rub(0, 9, 100));
    due("write", 4, () -> x.write(0, 2, 2));
    due("rub", 4, () -> x.rub(0, 9, 100));
    due("write", 1, () -> x.write(1, 3, 3));
    due("undo", 3, x::undo);
    due("slate 1", 0, () -> x.slate(1, 2));
    due("undo", 2, x::undo);
    due("rubbed", 7, () -> x.slate(0, 3));
    due("undo", 1, x::undo);
    due("marks", "3 7", () -> x.slate(0, 2) + " " + x.slate(0, 3));
    due("undo", 0, x::undo);
    due("rubbed", 0, () -> x.slate(0, 3));
    due("undo", -1, x::undo);
    for (int i = 0; i < 31; i++) {
      int seed = i;
      due("rub " + i, i < 1 ? 0 : 3, () -> x.rub(0, seed, seed < 1 ? 0 : 100));
    }
    due("30 are kept", 30, () -> x.count(11));
    for (int i = 29; i >= 0; i--) {
      due("undo", i, x::undo);
    }
    due("undo", -1, x::undo);
    due("the latest are kept", 0, () -> x.slate(0, 3));
    due("write", 4, () -> x.write(0, 1, 1));
    for (int i = 0; i < 30; i++) {
      due("rub", 0, () -> x.rub(1, 0, 0));
    }
    for (int i = 29; i >= 0; i--) {
      due("undo", i, x::undo);
    }
    due("an act that is not kept stays done", 4, () -> x.slate(0, 2));
    undoMany();
  }

  /** 64 acts of different slates: each of the latest 30 is undone as it was done. */
  private static void undoMany() {
    DrownedSlates x = of("slate 0 0 0;slate 0 0 0;slate 0 0 0;slate 0 0 0;slate 0 0 0;");
    String[] states = new String[65];
    states[0] = marksOf(x);
    for (int i = 0; i < 64; i++) {
      if (i % 3 == 0) {
        x.rub(i % 5, i, 60);
      } else if (x.write(i * i % 5, i % 4, 1 + i % 9) < 0) {
        x.rub((i + 1) % 5, i, 30);
      }
      states[i + 1] = marksOf(x);
    }
    for (int i = 63; i >= 34; i--) {
      int left = i - 34;
      due("undo of many", left, x::undo);
      due("state behind " + i, states[i], () -> marksOf(x));
    }
    due("no more", -1, x::undo);
  }

  private static String marksOf(DrownedSlates x) {
    StringBuilder all = new StringBuilder();
    for (int s = 0; s < x.count(4); s++) {
      all.append(x.slate(s, 3)).append(':');
      for (int i = 0; i < x.slate(s, 2); i++) {
        all.append(x.mark(s, i, 0)).append(x.mark(s, i, 1)).append(',');
      }
    }
    return all.toString();
  }

  private static String voyageOf(DrownedSlates x, int slate) {
    return x.voyage(slate, 0) + " " + x.voyage(slate, 1) + " " + x.voyage(slate, 2) + " " + x.voyage(slate, 3)
        + " " + x.voyage(slate, 4);
  }

  private static void voyage() {
    promise = "12 voyage";
    DrownedSlates x = of("sea 5 5;rock 3 1;rock 0 0;current 2 1 south;current 2 2 south;"
        + "slate 0 1 1 east 9;slate 0 1 0 east 9;slate 1 1 1 east 1 north 1 west 9;slate 1 1 0 east 1;"
        + "slate 1 2 1 east 1 south 1 north 1;");
    due("driven once, then on land", "3 14 0 4 5", () -> voyageOf(x, 0));
    due("on a rock by hand", "1 8 0 2 2", () -> voyageOf(x, 1));
    due("on a rock in the third mark", "1 0 2 1 4", () -> voyageOf(x, 2));
    due("driven at an even hour by one current alone", "0 12 1 0 1", () -> voyageOf(x, 3));
    due("marks go on from where he was driven", "0 12 3 0 4", () -> voyageOf(x, 4));
    DrownedSlates y = of("sea 5 5;rock 2 3;rock 0 0;current 2 2 south;current 4 4 east;current 0 3 west;"
        + "slate 2 0 1 south 2;slate 3 4 0 east 1 north 1;slate 0 4 0 north 2 east 1;"
        + "slate 0 0 7 east 1 west 1;slate 4 2 99;slate 4 2 98 east 1;slate 2 0 0 south 2;");
    due("wrecked by the tide", "2 17 0 1 2", () -> voyageOf(y, 0));
    due("a current to where no cell is", "0 19 2 0 2", () -> voyageOf(y, 1));
    due("a current to the west where no cell is", "0 11 2 0 3", () -> voyageOf(y, 2));
    due("from a rock, and back on it", "1 0 1 0 8", () -> voyageOf(y, 3));
    due("no marks", "0 14 0 0 99", () -> voyageOf(y, 4));
    due("on land", "3 14 0 0 98", () -> voyageOf(y, 5));
    due("an odd hour does not drive", "0 12 1 0 2", () -> voyageOf(y, 6));
    due("hours go on behind 99", "0 13 1 0 100", () -> {
      y.write(4, 3, 1);
      return voyageOf(y, 4);
    });
    due("rubbed marks are sailed", "0 13 1 0 100", () -> {
      y.rub(4, 1, 100);
      return voyageOf(y, 4);
    });
    due("what 5", NSEE, () -> y.voyage(0, 5));
    due("what -1", NSEE, () -> y.voyage(0, -1));
    due("slate 7", NSEE, () -> y.voyage(7, 0));
    due("slate -1", NSEE, () -> y.voyage(-1, 0));
  }

  private static void explained() {
    promise = "13 explained";
    DrownedSlates x = of("rock 3 1;rock 5 0;current 3 0 south;current 2 2 west;rock 1 2;"
        + "slate 2 0 0 east 2;slate 2 0 0 east 3;slate 2 0 0 east 4;slate 2 1 0 east 1;slate 2 1 1 west 1;"
        + "slate 2 1 0 south 9;slate 2 0 0 east 1 north 1;slate 2 1 0 south 3;");
    due("the mark would have been done", true, () -> x.explained(0));
    due("a rock on his way", false, () -> x.explained(1));
    due("a rock, then land on his way", false, () -> x.explained(2));
    due("by his hand", false, () -> x.explained(3));
    due("afloat", false, () -> x.explained(4));
    due("land on his way", "2 false", () -> x.voyage(5, 0) + " " + x.explained(5));
    due("only that mark counts", true, () -> x.explained(6));
    due("to the last cell", true, () -> x.explained(7));
    due("slate 8", NSEE, () -> x.explained(8));
    due("slate -1", NSEE, () -> x.explained(-1));
    DrownedSlates y = of("current 1 0 south;current 3 1 south;rock 3 2;rock 3 0;slate 0 0 0 east 3;slate 0 0 0 east 1 east 2;");
    due("without currents in the mark a rock", "2 false", () -> y.voyage(0, 0) + " " + y.explained(0));
    due("currents ahead of the mark stay", "2 true", () -> y.voyage(1, 0) + " " + y.explained(1));
  }

  private static void where() {
    promise = "14 where";
    DrownedSlates x = of("sea 3 3;rock 1 1;current 2 0 south;slate 0 0 0 east 2 south 1;slate 1 1 1 south 1 east 5;");
    due("at first", 1, () -> x.where(0, 0));
    due("behind one", 1 << 2, () -> x.where(0, 1));
    due("behind two", 1 << 8, () -> {
      load(x, "sea 3 3;rock 1 1;current 2 1 south;slate 0 0 0 east 2 south 1;slate 1 1 1 south 1 east 5;");
      return x.where(0, 2);
    });
    due("k -1", NSEE, () -> x.where(0, -1));
    due("k 3", NSEE, () -> x.where(0, 3));
    due("slate 2", NSEE, () -> x.where(2, 0));
    due("a rock where he begins", 1 << 4, () -> x.where(1, 0));
    due("from a rock", 1 << 7, () -> x.where(1, 1));
    due("on land", 0, () -> x.where(1, 2));
    DrownedSlates y = of("sea 3 3;rock 1 1;current 2 0 south;slate 0 0 1 west 1 south 1;slate 0 0 0 west 1;");
    int seed = 0;
    while (drawnBits(seed, 2, 50) != 1) {
      seed++;
    }
    int firstAlone = seed;
    due("one of two is rubbed", "1 1", () -> y.rub(0, firstAlone, 50) + " " + y.slate(0, 3));
    // odd at first: to 1, and in the even hour to 2 and down to 5; or to 3 and 6
    due("any way", 1 << 1 | 1 << 5 | 1 << 3 | 1 << 6, () -> y.where(0, 1));
    due("and on", 1 << 6 | 1 << 8, () -> y.where(0, 2));
    due("rub", 1, () -> y.rub(1, 3, 100));
    due("even at first", 1 << 1 | 1 << 2 | 1 << 3 | 1 << 6, () -> y.where(1, 1));
    due("undone", 0, () -> {
      y.undo();
      return y.where(1, 1);
    });
    // against the current he makes a cell in two hours: 9 STEPS bring him to 4, not to 5
    DrownedSlates w = of("sea 8 2;current 1 0 west;current 2 0 west;current 3 0 west;current 4 0 west;"
        + "current 5 0 west;current 6 0 west;current 7 0 west;slate 0 0 0 north 1;");
    due("1 to 9 steps", 0b1_0001_1111, () -> {
      w.rub(0, 1, 100);
      return w.where(0, 1);
    });
    DrownedSlates z = of("sea 8 8;slate 7 7 0 east 1 north 1;");
    due("the highest cell", Long.MIN_VALUE, () -> z.where(0, 0));
    due("all but those that he can't come to", -1L, () -> {
      z.rub(0, 1, 100);
      return z.where(0, 2);
    });
  }

  private static String sailsOf(DrownedSlates x, int pilot, int slates) {
    return x.sails(pilot, slates, 0) + " " + x.sails(pilot, slates, 1) + " " + x.sails(pilot, slates, 2);
  }

  private static void pilotAndSails() {
    promise = "15 pilot";
    DrownedSlates x = of("sea 7 3;rock 3 1;rock 5 0;slate 1 1 1 east 9;slate 4 0 1 east 1;slate 0 0 0 west 1;"
        + "goal 6;pilot 0 1 5;pilot 2 1 99 2 0;pilot 6 2 3;pilot 0 0 0 0 1 2;"
        + "rule east and not north go north;rule east go south;rule 1 go east;");
    due("pilots", "7 5 0 9 99 5 20 3 0 0 0 7", () -> x.pilot(0, 0) + " " + x.pilot(0, 1) + " " + x.pilot(0, 2)
        + " " + x.pilot(1, 0) + " " + x.pilot(1, 1) + " " + x.pilot(1, 2) + " " + x.pilot(2, 0) + " "
        + x.pilot(2, 1) + " " + x.pilot(2, 2) + " " + x.pilot(3, 0) + " " + x.pilot(3, 1) + " " + x.pilot(3, 2));
    due("pilot(4, 0)", NSEE, () -> x.pilot(4, 0));
    due("pilot(-1, 0)", NSEE, () -> x.pilot(-1, 0));
    due("pilot(0, 3)", NSEE, () -> x.pilot(0, 3));
    due("pilot(0, -1)", NSEE, () -> x.pilot(0, -1));
    promise = "16 sails";
    due("knows none", "1 10 7", () -> sailsOf(x, 0, 0));
    due("knows one", "1 5 10", () -> sailsOf(x, 0, 1));
    due("knows both", "4 13 13", () -> sailsOf(x, 0, 3));
    due("a slate that ended on land teaches none", "1 10 7", () -> sailsOf(x, 0, 4));
    due("what he has read does not count", "1 10 99", () -> sailsOf(x, 1, 0));
    due("through at first", "4 20 3", () -> sailsOf(x, 2, 0));
    due("slates 8", IAE, () -> x.sails(0, 8, 0));
    due("slates -1", IAE, () -> x.sails(0, -1, 0));
    due("no pilot first", NSEE, () -> x.sails(4, 8, 0));
    due("no what first", NSEE, () -> x.sails(0, 8, 3));
    due("what -1", NSEE, () -> x.sails(0, 0, -1));
    DrownedSlates y = of("sea 4 4;current 1 1 east;current 2 1 east;current 0 3 south;rock 2 2;current 1 2 east;goal 2;"
        + "pilot 1 1 1;pilot 0 3 10;pilot 1 2 3;pilot 2 2 99;");
    due("no rule: driven to the goal", "4 6 3", () -> sailsOf(y, 0, 0));
    due("no rule: 60 hours", "0 12 70", () -> sailsOf(y, 1, 0));
    due("no rule: driven on a rock", "2 10 4", () -> sailsOf(y, 2, 0));
    due("through on a rock at first", "4 10 99", () -> sailsOf(y, 3, 0));
    due("on land", "3 0 2", () -> {
      load(y, "goal 7;pilot 0 2 0;rule y go north;rule 1 go west;");
      return sailsOf(y, 0, 0);
    });
    due("begins on a rock and stays", "0 7 65", () -> {
      load(y, "goal 7;rock 1 1;pilot 1 1 5;");
      return sailsOf(y, 0, 0);
    });
    due("a rock ahead of the goal", "1 5 5", () -> {
      load(y, "rock 5 0;pilot 0 0 1;rule 1 go east;");
      return sailsOf(y, 0, 0);
    });
    due("driven away from the goal is not through", "4 5 4", () -> {
      load(y, "sea 6 2;current 5 0 west;goal 5;pilot 4 0 0;rule not (hour = 1) go east;");
      return sailsOf(y, 0, 0);
    });
    due("through in the 60th hour", "4 5 60", () -> {
      load(y, "pilot 4 0 0;rule hour = 59 go east;");
      return sailsOf(y, 0, 0);
    });
    due("not in a 61st", "0 4 60", () -> {
      load(y, "pilot 4 0 0;rule hour = 60 go east;");
      return sailsOf(y, 0, 0);
    });
  }

  private static DrownedSlates asked(String values, String expr) {
    DrownedSlates x = new DrownedSlates();
    due("text of " + expr, 0, () -> load(x, "sea 8 8;" + values + "goal 7;rule " + expr + " go west;"));
    return x;
  }

  /** At 0 0 or below: the rule holds, if he ends on land in his first hour. */
  private static void holds(String values, String expr, int want) {
    DrownedSlates x = asked(values, expr);
    due(expr + " by " + values, want, () -> x.sails(0, (1 << x.count(4)) - 1, 0) == 3
        && x.sails(0, (1 << x.count(4)) - 1, 2) == x.pilot(0, 1) ? 1 : 0);
  }

  private static void values() {
    promise = "16 values";
    holds("pilot 0 3 7;", "x = 0", 1);
    holds("pilot 0 3 7;", "y = 3", 1);
    holds("pilot 0 3 7;", "hour = 7", 1);
    holds("pilot 0 3 7;", "west", 1);
    holds("pilot 0 3 7;", "north", 0);
    holds("pilot 0 0 7;", "north", 1);
    holds("pilot 0 7 7;", "south", 1);
    holds("pilot 0 7 7;", "east", 0);
    holds("pilot 0 3 6;rock 0 2;slate 0 1 1 south 1;", "north", 1);
    holds("pilot 0 3 6;rock 0 2;slate 0 4 1 north 1;", "north", 0);
    holds("pilot 0 3 6;rock 1 3;slate 1 1 1 south 3;", "east", 1);
    holds("pilot 0 3 6;rock 1 3;slate 1 1 1 south 3;", "south", 0);
    holds("pilot 0 3 6;current 0 3 north;", "tide", 1);
    holds("pilot 0 3 7;current 0 3 north;", "tide", 0);
    holds("pilot 0 3 6;current 0 3 west;", "tide", 0);
    holds("pilot 0 3 6;current 0 2 east;", "tide", 0);
    holds("pilot 0 3 6;rock 0 2;current 0 3 north;", "tide", 1);
    // known by the tide, too
    holds("pilot 0 3 7;rock 1 3;current 1 2 south;slate 0 2 0 east 1;", "east", 1);
    // a slate that was written on teaches anew
    DrownedSlates x = asked("pilot 0 3 7;rock 1 3;slate 1 0 0 south 1;", "east");
    due("not yet known", 0, () -> x.sails(0, 1, 0));
    due("write", 2, () -> x.write(0, 2, 5));
    due("known", 3, () -> x.sails(0, 1, 0));
  }

  private static void expressions() {
    promise = "3 EXPR";
    String[][] rows = {
        {"1 + 2 * 3 = 7", "1"}, {"(1 + 2) * 3 = 9", "1"}, {"10 - 3 - 2 = 5", "1"}, {"24 / 4 / 2 = 3", "1"},
        {"7 / 2 * 2 = 6", "1"}, {"(0 - 7) / 2 = 0 - 3", "1"}, {"5 / 0 = 0", "1"}, {"0 - 1 < 0", "1"},
        {"9999 * 9999 * 9999 < 0", String.valueOf(9999 * 9999 * 9999 < 0 ? 1 : 0)},
        {"9999 * 9999 * 9999 = 0 - 1 * 0 + 9999 * 9999 * 9999", "1"},
        {"4096 * 4096 * 128 < 0", "1"}, {"4096 * 4096 * 256 = 0", "1"},
        {"4096 * 4096 * 128 / (0 - 1) < 0", "1"},
        {"2 or 0", "1"}, {"(2 or 0) = 1", "1"}, {"(2 and 3) = 1", "1"}, {"(0 - 5 and 3) = 1", "1"},
        {"0 and 1 or 1", "1"}, {"1 or 1 and 0", "1"}, {"(1 or 1) and 0", "0"}, {"not 0 and 0", "0"},
        {"not 3 = 4", "1"}, {"not 4 = 4", "0"}, {"not not 4 = 4", "1"}, {"(not 7) = 0", "1"},
        {"(not not 7) = 1", "1"}, {"not 1 < 2 or 1", "1"}, {"(3) + 2 = 5", "1"}, {"(1 < 2) + (2 < 1) = 1", "1"},
        {"2 < 2", "0"}, {"1 < 2", "1"}, {"not not not not not not 1", "1"},
        {"not not not not not not 0", "0"}, {"not(not not not not not not 1)", "0"},
        {"(((((5 = 5)))))", "1"}, {"1 - (1 - (1 - (1 - (1 - (1)))))= 0", "1"}, {"3", "1"}, {"0", "0"},
        {"0000", "0"}, {"2 * 3 < 3 + 4 and 6 / 3 = 1 + 1", "1"}, {"y - 3", "0"}, {"hour * 2 = 14", "1"},
        {"1 + 1 < 1 + 1 + 1", "1"}, {"8 - 2 * 3 + 4 / 2 = 4", "1"}, {"(1 or 0) + (1 and 1) + (not 0) = 3", "1"},
        {"1 or 0 / 0 or 0", "1"}, {"0 or 0 or 0", "0"}, {"1 and 2 and 0 - 3", "1"}, {"1 and 2 and 3 - 3", "0"},
    };
    for (String[] row : rows) {
      holds("pilot 0 3 7;", row[0], Integer.parseInt(row[1]));
    }
    DrownedSlates x = of("pilot 0 3 7;goal 7;rule 0 go east;rule 0 - 1 go north;rule 1 go west;");
    due("the first that holds", "3 0 10", () -> sailsOf(x, 0, 0));
    String waiting = "0 or 1 and 1 < 1 + 2 * (".repeat(5);
    holds("pilot 0 3 7;", waiting + "3" + ")".repeat(5), 1);
    holds("pilot 0 3 7;", waiting + "0" + ")".repeat(5), 0);
    holds("pilot 0 3 7;", "1" + "+1".repeat(310) + "=311", 1);
    holds("pilot 0 3 7;", "1" + "-1".repeat(310) + "=1", 0);
    holds("pilot 0 3 7;", "1" + "*1".repeat(310) + "=1", 1);
  }

  private static void exam() {
    promise = "17 exam";
    DrownedSlates x = of("sea 5 3;rock 2 1;goal 4;slate 1 1 1 east 2;slate 0 0 0 north 1;"
        + "pilot 0 1 0;pilot 0 1 0 0;pilot 0 0 0;pilot 0 1 0 1 0;rule east go south;rule 1 go east;");
    due("by what they have read", 14, x::exam);
    due("write", 2, () -> x.write(1, 1, 1));
    due("exam", 14, x::exam);
    due("none", 0, () -> {
      load(x, "pilot 0 0 0;");
      return x.exam();
    });
  }

  private static String studyOf(DrownedSlates x, int pilot) {
    StringBuilder row = new StringBuilder();
    int length = x.study(pilot);
    row.append(length);
    for (int i = 0; i < length; i++) {
      row.append(' ').append(x.studied(i));
    }
    return row.toString();
  }

  private static void study() {
    promise = "18, 19 study";
    // Pilot 0 must know of the rocks 3 1 (slate 1) and 5 0 (slates 0 and 3); pilot 1 needs none.
    String sea = "sea 8 3;rock 3 1;rock 5 0;goal 7;slate 3 0 1 east 9;slate 1 1 1 east 9;slate 0 0 1 east 1;"
        + "slate 4 0 1 east 1;slate 1 0 1 east 1;pilot 0 1 0;pilot 0 2 0 0;"
        + "rule east and not north go north;rule east go south;rule 1 go east;";
    DrownedSlates x = of(sea + "school 0 0 1;");
    due("no slate is needed, though he has read one", 0, () -> x.study(1));
    due("none to tell", NSEE, () -> x.studied(0));
    due("from the end of one ahead", "2 1 0", () -> studyOf(x, 0));
    due("studied(2)", NSEE, () -> x.studied(2));
    due("studied(-1)", NSEE, () -> x.studied(-1));
    due("study(2)", NSEE, () -> x.study(2));
    due("study(-1)", NSEE, () -> x.study(-1));
    due("what is found is kept", "1 0", () -> x.studied(0) + " " + x.studied(1));
    due("a write changes nothing of it", "2 1", () -> x.write(4, 0, 1) + " " + x.studied(0));
    x.image();
    due("nor does a restore", "true 0", () -> x.restore() + " " + x.studied(1));
    due("anew for pilot 1", 0, () -> x.study(1));
    due("the empty row is kept in its place", NSEE, () -> x.studied(0));
    due("all near: the first as a row", "2 0 1", () -> studyOf(of(sea + "school 4 0 9;"), 0));
    due("none near", -1, () -> of(sea + "school 7 2 0;").study(0));
    due("by a slate without a wreck, from one farther ahead", "4 1 0 2 3", () -> studyOf(
        of("sea 8 4;rock 1 3;rock 7 0;rock 3 2;goal 6;school 0 0 0;slate 3 0 1 south 1;slate 0 0 1 east 3;"
            + "slate 3 1 0 east 1 south 1 north 1;slate 4 1 1 south 1 west 1;pilot 0 2 1;"
            + "rule east go north;rule 1 go east;"), 0));
    due("a slate that teaches nothing, ahead of the first one", "2 1 0", () -> studyOf(
        of("sea 6 2;rock 2 0;slate 3 0 1 west 1;slate 0 0 1 south 1 east 3 north 1;school 0 0 0;pilot 0 0 0;"
            + "rule east go south;rule 1 go east;"), 0));
    String twoRocks = "sea 8 3;rock 3 0;rock 4 1;goal 7;pilot 0 0 0;rule east go south;rule 1 go east;";
    due("both from the school, none from the other's end", "2 0 1", () -> studyOf(
        of(twoRocks + "school 0 0 0;slate 0 0 1 east 9;slate 0 0 1 south 1 east 9;"), 0));
    due("1 2 is ahead of 2 0", "2 1 2", () -> studyOf(of(twoRocks
        + "school 0 0 1;slate 4 0 1 west 1;slate 0 0 1 east 9;slate 0 0 1 south 1 east 9;"), 0));
    due("no rock is known at first", 0, () -> of("sea 6 2;pilot 1 0 0;rule west go north;rule 1 go east;").study(0));
    due("what is kept stays where none is found", "1 0 -1 0", () -> {
      DrownedSlates y = of("sea 6 2;rock 2 0;slate 0 0 1 east 2;pilot 0 0 0;pilot 0 1 0;"
          + "rule y = 1 and hour = 0 go south;rule east go south;rule 1 go east;");
      return studyOf(y, 0) + " " + y.study(1) + " " + y.studied(0);
    });
    DrownedSlates z = of("sea 6 2;rock 2 0;rock 2 1;slate 0 0 1 east 2;slate 0 1 1 east 2;pilot 0 0 0;pilot 5 0 0;"
        + "rule east and not south go south;rule 1 go east;");
    due("none at all", -1, () -> z.study(0));
    due("none is kept", NSEE, () -> z.studied(0));
    due("through at first", 0, () -> z.study(1));
  }

  private static void dive() {
    promise = "20 dive";
    DrownedSlates x = of("sea 8 8;rock 7 7;rock 5 7;rock 0 0;slate 7 5 1 south 9;slate 5 5 1 south 2;"
        + "slate 1 0 1 west 1;slate 3 3 0 north 9;slate 4 4 0 east 1;slate 7 6 1 south 1;");
    due("dive(0)", "63 2", () -> x.dive(0, 0) + " " + x.dive(0, 1));
    due("dive(1)", "54 3", () -> x.dive(1, 0) + " " + x.dive(1, 1));
    due("dive(2)", "45 3", () -> x.dive(2, 0) + " " + x.dive(2, 1));
    due("dive(6)", "9 4", () -> x.dive(6, 0) + " " + x.dive(6, 1));
    due("dive(7)", "0 4", () -> x.dive(7, 0) + " " + x.dive(7, 1));
    due("dive(-1)", IAE, () -> x.dive(-1, 0));
    due("dive(8)", IAE, () -> x.dive(8, 1));
    due("no what first", NSEE, () -> x.dive(8, 2));
    due("what -1", NSEE, () -> x.dive(0, -1));
    due("none", "0 0", () -> {
      load(x, "slate 0 0 0 west 1;");
      return x.dive(5, 0) + " " + x.dive(5, 1);
    });
  }

  private static void chart() {
    promise = "21 chart";
    DrownedSlates x = of("sea 4 3;rock 3 0;rock 1 2;rock 3 2;current 1 1 south;current 2 1 east;"
        + "slate 0 0 1 east 3;slate 0 1 0 east 1;slate 3 2 1 north 1 west 1;slate 0 2 0 west 1;");
    // 0: 0 1 2, wrecked on 3; 1: 4 5, wrecked on 9 by the tide; 2: from the rock 11 to 7, 6 and back to 7
    due("been", 1L | 2 | 4 | 16 | 32 | 1L << 11 | 1L << 7 | 1L << 6 | 1L << 8, () -> x.chart(0));
    due("rocks", 1L << 3 | 1L << 9, () -> x.chart(1));
    due("others", 1L << 10, () -> x.chart(2));
    due("chart(3)", NSEE, () -> x.chart(3));
    due("chart(-1)", NSEE, () -> x.chart(-1));
    DrownedSlates y = of("sea 8 8;rock 7 7;slate 7 6 0 south 1;slate 7 7 0;");
    due("where one began and another was wrecked", Long.MIN_VALUE | 1L << 55, () -> y.chart(0));
    due("rocks", Long.MIN_VALUE, () -> y.chart(1));
    due("others", ~(Long.MIN_VALUE | 1L << 55), () -> y.chart(2));
  }

  private static String handOf(DrownedSlates x, int slate) {
    return x.hand(slate, 0) + " " + x.hand(slate, 1) + " " + x.hand(slate, 2) + " " + x.hand(slate, 3);
  }

  private static void hand() {
    promise = "22 hand";
    DrownedSlates x = of("hand 3 3 3 3;hand 0 12 0 0;hand 12 0 0 0;hand 3 3 3 3;hand 0 0 6 6;"
        + "slate 0 0 0 east 1 east 2 east 3 east 4 north 1 north 1 north 1 north 1;"
        + "slate 0 0 0 east 1;slate 0 0 0;slate 0 0 0 south 1 west 1;slate 0 0 0 east 1 north 1 east 1;"
        + "slate 0 0 0 east 1 south 1 north 1 west 1;");
    due("all of both", "1 2 4 429981696", () -> handOf(x, 0));
    due("one mark", "-1 -1 -1 0", () -> handOf(x, 1));
    due("no mark", "-1 -1 -1 0", () -> handOf(x, 2));
    due("least a, b of like ones", "0 4 1 18", () -> handOf(x, 3));
    due("another", "0 1 2 108", () -> handOf(x, 4));
    due("four ways", "1 0 1 324", () -> handOf(x, 5));
    due("rubbed or not", "0 4 1 18", () -> {
      x.rub(3, 1, 100);
      return handOf(x, 3);
    });
    due("slate 6", NSEE, () -> x.hand(6, 0));
    due("slate -1", NSEE, () -> x.hand(-1, 0));
    due("what 4", NSEE, () -> x.hand(0, 4));
    due("what -1", NSEE, () -> x.hand(0, -1));
    DrownedSlates y = of("hand 3 3 3 3;slate 0 0 0 east 1 east 1;");
    due("one hand alone", "-1 -1 -1 0", () -> handOf(y, 0));
    DrownedSlates z = of("hand 0 12 0 0;hand 0 0 12 0;slate 0 0 0 north 1 north 1;slate 0 0 0 east 1 east 1;");
    due("all are 0", "-1 -1 -1 0", () -> handOf(z, 0));
    due("all are 0", "-1 -1 -1 0", () -> handOf(z, 1));
    DrownedSlates w = of("hand 3 3 3 3;hand 3 3 3 3;slate 0 0 0 north 1 north 1 west 1;");
    due("the least k", "0 1 1 27", () -> handOf(w, 0));
  }

  private static String copiedOf(DrownedSlates x, int first, int second) {
    return x.copied(first, second, 0) + " " + x.copied(first, second, 1) + " " + x.copied(first, second, 2);
  }

  private static void copied() {
    promise = "23 copied";
    DrownedSlates x = of("slate 0 0 0 east 1 east 2 north 1 east 1 east 2 north 1;"
        + "slate 0 0 0 west 1 east 2 north 1 east 2 north 1 south 1;"
        + "slate 0 0 0 east 3;slate 0 0 0;slate 0 0 0 north 1 east 1 east 2;");
    due("the first of as long ones", "2 1 1", () -> copiedOf(x, 0, 1));
    due("the other way", "2 1 1", () -> copiedOf(x, 1, 0));
    due("the longest", "3 2 0", () -> copiedOf(x, 0, 4));
    due("the longest, the other way", "3 0 2", () -> copiedOf(x, 4, 0));
    due("steps count", "0 -1 -1", () -> copiedOf(x, 0, 2));
    due("no marks", "0 -1 -1", () -> copiedOf(x, 3, 0));
    due("rubbed or not", "2 1 1", () -> {
      x.rub(0, 1, 100);
      return copiedOf(x, 0, 1);
    });
    due("both are one", IAE, () -> x.copied(1, 1, 0));
    due("no what first", NSEE, () -> x.copied(1, 1, 3));
    due("what -1", NSEE, () -> x.copied(0, 1, -1));
    due("no slate first", NSEE, () -> x.copied(5, 5, 0));
    due("second 5", NSEE, () -> x.copied(0, 5, 0));
    due("first -1", NSEE, () -> x.copied(-1, 0, 0));
  }

  private static void image() {
    promise = "24, 25";
    DrownedSlates x = of("slate 0 0 0 east 1 east 2;slate 1 1 1;");
    due("restore", false, x::restore);
    due("write", 1, () -> x.write(1, 2, 3));
    due("rub", 2, () -> x.rub(0, 1, 100));
    x.image();
    due("undo", 1, x::undo);
    due("undo", 0, x::undo);
    due("write", 1, () -> x.write(1, 3, 9));
    due("restore", true, x::restore);
    due("slates", "1 2 3 3 2", () -> x.slate(1, 2) + " " + x.mark(1, 0, 0) + " " + x.mark(1, 0, 1) + " "
        + x.slate(0, 3) + " " + x.count(11));
    due("undo", 1, x::undo);
    due("rubbed", 0, () -> x.slate(0, 3));
    due("undo", 0, x::undo);
    due("refused", -1, () -> x.write(0, 9, 9));
    due("restore again", true, x::restore);
    due("rubbed", 3, () -> x.slate(0, 3));
    due("status stays", 1, () -> x.count(14));
    due("undo", 1, x::undo);
    x.image();
    due("undo", 0, x::undo);
    due("in place of the other", "true 0 1", () -> x.restore() + " " + x.slate(0, 3) + " " + x.count(11));
  }
}
