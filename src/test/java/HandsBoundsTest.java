/** The bounds of part 4: THE SECOND HAND, what is COPIED, STATUS; and images. */
public final class HandsBoundsTest {
  public static void main(String[] args) {
    marks();
    weights();
    likeHands();
    copied();
    likeRows();
    status();
    images();
    imagesOfActs();
    Script.end("bounds of hands");
  }

  private static final String TWO = "hand 3 3 3 3;hand 3 3 3 3;";

  private static void marks() {
    Script.of("no MARK", TWO + "slate 0 0 0;").due("hand 0 * -> -1 -1 -1 0");
    Script.of("one MARK", TWO + "slate 0 0 0 east 1;").due("hand 0 * -> -1 -1 -1 0");
    Script.of("two MARKS: k is 1", TWO + "slate 0 0 0 east 1 east 1;").due("hand 0 * -> 0 1 1 9");
    Script.of("8 MARKS: k is 7", "hand 0 12 0 0;hand 12 0 0 0;slate 0 0 0" + " north 1".repeat(7) + " east 1;")
        .due("hand 0 * -> 1 0 7 429981696");
    Script.of("8 MARKS: k is 1", "hand 0 12 0 0;hand 12 0 0 0;slate 0 0 0 east 1" + " north 1".repeat(7) + ";")
        .due("hand 0 * -> 0 1 1 429981696");
    Script.of("k is not 0, nor MARKS", "hand 12 0 0 0;hand 0 12 0 0;slate 0 0 0 north 1 north 1;slate 0 0 0 east 1 east 1;")
        .due("hand 0 * -> -1 -1 -1 0", "hand 1 * -> -1 -1 -1 0");
    Script.of("a second MARK is written, and UNDONE", TWO + "slate 0 0 0 east 1;")
        .due("write 0 2 2 -> 2", "hand 0 * -> 0 1 1 9", "undo -> 0", "hand 0 * -> -1 -1 -1 0");
    Script.of("RUBBED MARKS count", TWO + "slate 0 0 0 east 1 east 1;").due("rub 0 0 100 -> 2", "hand 0 * -> 0 1 1 9");
    Script.of("STEPS count for nothing", TWO + "slate 0 0 0 east 9 east 9;").due("hand 0 * -> 0 1 1 9");
  }

  private static void weights() {
    Script.of("no HAND", "slate 0 0 0 east 1 east 1;").due("hand 0 * -> -1 -1 -1 0");
    Script.of("one HAND is no second one", "hand 3 3 3 3;slate 0 0 0 east 1 east 1;").due("hand 0 * -> -1 -1 -1 0");
    Script.of("all are 0", "hand 12 0 0 0;hand 12 0 0 0;slate 0 0 0 east 1 east 1;").due("hand 0 * -> -1 -1 -1 0");
    Script.of("all are 0 by the last MARK alone", "hand 4 4 4 0;hand 4 4 4 0;slate 0 0 0 east 1 east 1 west 1;")
        .due("hand 0 * -> -1 -1 -1 0");
    Script.of("the least that is not 0", "hand 1 11 0 0;hand 1 0 11 0;slate 0 0 0 north 1 north 1;")
        .due("hand 0 * -> 0 1 1 1");
    Script.of("the most: 12 to the eighth", "hand 12 0 0 0;hand 12 0 0 0;slate 0 0 0" + " north 1".repeat(8) + ";")
        .due("hand 0 * -> 0 1 1 429981696");
    Script.of("the weights of north, east, south, west in their order",
        "hand 1 2 4 5;hand 5 4 2 1;slate 0 0 0 north 1 north 1;slate 0 0 0 east 1 east 1;slate 0 0 0 south 1 south 1;"
            + "slate 0 0 0 west 1 west 1;slate 0 0 0 west 1 north 1;")
        .due("hand 0 * -> 0 1 1 5", "hand 1 * -> 0 1 1 8", "hand 2 * -> 0 1 1 8", "hand 3 * -> 0 1 1 5",
            "hand 4 * -> 0 1 1 25");
  }

  private static void likeHands() {
    Script.of("of like ones the least a", "hand 3 3 3 3;".repeat(5) + "slate 0 0 0 east 1 east 1 east 1;")
        .due("hand 0 * -> 0 1 1 27");
    Script.of("then the least b", "hand 12 0 0 0;hand 11 1 0 0;hand 0 6 6 0;hand 0 6 0 6;slate 0 0 0 north 1 east 1;")
        .due("hand 0 * -> 0 2 1 72");
    Script.of("then the least k", "hand 0 12 0 0;hand 0 12 0 0;slate 0 0 0 east 1 east 1 east 1 east 1;")
        .due("hand 0 * -> 0 1 1 20736");
    Script.of("a is less, though b and k are more", "hand 4 4 2 2;hand 2 2 4 4;hand 4 4 2 2;"
        + "slate 0 0 0 north 1 north 1 south 1;").due("hand 0 * -> 0 1 2 64");
    Script.of("a may be more than b", "hand 0 12 0 0;hand 12 0 0 0;slate 0 0 0 north 1 east 1;").due("hand 0 * -> 1 0 1 144");
    Script.of("the last two HANDS", "hand 3 3 3 3;hand 3 3 3 3;hand 3 3 3 3;hand 0 12 0 0;hand 12 0 0 0;"
        + "slate 0 0 0 north 1 east 1;").due("hand 0 * -> 4 3 1 144");
  }

  private static void copied() {
    Script.of("no MARK in either", "slate 0 0 0;slate 0 0 0;").due("copied 0 1 * -> 0 -1 -1");
    Script.of("no MARK in one", "slate 0 0 0 east 1;slate 0 0 0;").due("copied 0 1 * -> 0 -1 -1", "copied 1 0 * -> 0 -1 -1");
    Script.of("one MARK", "slate 0 0 0 east 1;slate 5 5 9 east 1;").due("copied 0 1 * -> 1 0 0");
    Script.of("none, asked behind others", "slate 0 0 0 east 1;slate 0 0 0 east 1;slate 0 0 0 east 2;")
        .due("copied 0 1 * -> 1 0 0", "copied 0 2 * -> 0 -1 -1", "copied 2 1 * -> 0 -1 -1");
    Script.of("the way alone is not enough", "slate 0 0 0 east 1;slate 0 0 0 east 2;").due("copied 0 1 * -> 0 -1 -1");
    Script.of("STEPS alone are not enough", "slate 0 0 0 east 1;slate 0 0 0 west 1;").due("copied 0 1 * -> 0 -1 -1");
    String all = " east 1 west 2 east 3 west 4 east 5 west 6 east 7 west 8;";
    Script.of("all 8 MARKS", "slate 0 0 0" + all + "slate 0 0 0" + all).due("copied 0 1 * -> 8 0 0", "copied 1 0 * -> 8 0 0");
    Script.of("the last MARK of the first, the first of the second", "slate 0 0 0" + all + "slate 0 0 0 west 8"
        + " north 1".repeat(7) + ";").due("copied 0 1 * -> 1 7 0", "copied 1 0 * -> 1 0 7");
    Script.of("a MARK that was UNDONE is none of them", "slate 0 0 0 north 9 east 1;slate 0 0 0 east 1 west 2;")
        .due("write 0 3 2 -> 3", "copied 0 1 * -> 2 1 0", "undo -> 0", "copied 0 1 * -> 1 1 0", "copied 1 0 * -> 1 0 1");
    Script.of("side by side in both", "slate 0 0 0 east 1 west 2 east 3;slate 0 0 0 east 1 east 3;")
        .due("copied 0 1 * -> 1 0 0", "copied 1 0 * -> 1 0 0");
    Script.of("RUBBED MARKS count", "slate 0 0 0 east 1;slate 0 0 0 east 1;").due("rub 0 0 100 -> 1", "copied 0 1 * -> 1 0 0");
    Script.of("a SLATE and itself", "slate 0 0 0 east 1;slate 0 0 0;")
        .due("copied 0 0 * -> IAE IAE IAE", "copied 1 1 0 -> IAE", "copied 0 1 0 -> 0");
    Script.of("IllegalArgumentException behind that", "slate 0 0 0 east 1;slate 0 0 0;")
        .due("copied 0 0 3 -> NSEE", "copied 0 0 -1 -> NSEE", "copied 2 2 0 -> NSEE", "copied -1 -1 0 -> NSEE",
            "copied 0 2 0 -> NSEE", "copied 2 0 0 -> NSEE", "copied 0 -1 0 -> NSEE", "copied -1 0 0 -> NSEE",
            "copied 0 1 3 -> NSEE", "copied 0 1 -1 -> NSEE", "copied MIN MIN 0 -> NSEE", "copied MAX MAX 0 -> NSEE");
  }

  private static void likeRows() {
    Script.of("of as long ones the first in the first one", "slate 0 0 0 east 1 west 1 north 1;"
        + "slate 0 0 0 north 1 west 1 east 1;").due("copied 0 1 * -> 1 0 2", "copied 1 0 * -> 1 0 2");
    Script.of("then in the second", "slate 0 0 0 west 2 east 1;slate 0 0 0 north 1 east 1 south 1 east 1;")
        .due("copied 0 1 * -> 1 1 1", "copied 1 0 * -> 1 1 1");
    Script.of("a longer one behind", "slate 0 0 0 east 1 west 1 east 2 west 2;slate 0 0 0 east 1 north 1 east 2 west 2;")
        .due("copied 0 1 * -> 2 2 2");
    Script.of("rows that lie over one another", "slate 0 0 0" + " east 1".repeat(8) + ";slate 0 0 0" + " east 1".repeat(5)
        + ";").due("copied 0 1 * -> 5 0 0", "copied 1 0 * -> 5 0 0");
  }

  private static void status() {
    Script.of("STATUS 0 and 1 at first", "slate 0 0 0;").due("count 13 -> 0", "count 14 -> 0");
    Script.of("STATUS 0: each TEXT with a FAULT", "goal 1;")
        .due("load ; -> 1", "count 13 -> 1", "load ; -> 1", "count 13 -> 2", "load goal 1; -> 0", "count 13 -> 2",
            "count 14 -> 0");
    Script.of("STATUS 1: MARKS and RUBBED ones", "slate 0 0 0;")
        .due("write 0 4 1 -> -1", "count 14 -> 1", "rub 0 0 101 -> -1", "count 14 -> 2", "write 0 0 1 -> 1",
            "rub 0 0 100 -> 1", "count 14 -> 2", "count 13 -> 0");
    Script.of("no STATUS: calls that throw, a tape that is full, no ACT, no image, no STUDY", "slate 0 0 0;pilot 0 0 0;")
        .due("write 1 0 1 -> NSEE", "rub 1 0 1 -> NSEE", "sea 21 -> IAE", "undo -> -1", "restore -> false", "study 0 -> -1",
            "text " + " ".repeat(700) + " -> 700", "feed 0 0 0 0 0 -> -1", "count 13 -> 0", "count 14 -> 0");
    Script.of("STATUS stays behind another SEA, an image, UNDONE ACTS", "slate 0 0 0;")
        .due("image -> done", "write 0 4 1 -> -1", "load ; -> 1", "restore -> true", "undo -> -1", "count 13 -> 1",
            "count 14 -> 1", "sea 0 -> 0", "count 13 -> 1", "count 14 -> 1");
  }

  private static void images() {
    String text = "slate 0 0 0 east 1;";
    new Script("no image at first").due("restore -> false");
    Script.of("no image behind a text", text).due("restore -> false", "restore -> false");
    Script.changesNothing("there is no image", new String[] {"load " + text + " -> 0", "write 0 1 1 -> 2"},
        "restore -> false", 0);
    Script.of("as the image again", text)
        .due("image -> done", "write 0 2 2 -> 2", "restore -> true", "slate 0 2 -> 1", "count 11 -> 0", "undo -> -1");
    Script.of("again and again", text)
        .due("image -> done", "write 0 2 2 -> 2", "restore -> true", "write 0 3 3 -> 2", "restore -> true", "slate 0 2 -> 1");
    Script.of("in place of another one", text)
        .due("image -> done", "write 0 2 2 -> 2", "image -> done", "write 0 3 3 -> 3", "restore -> true", "slate 0 2 -> 2",
            "mark 0 1 * -> 2 2", "undo -> 0", "restore -> true", "slate 0 2 -> 2");
    Script.of("a text without a FAULT: the image is gone", text)
        .due("image -> done", "load " + text + " -> 0", "restore -> false");
    Script.of("a text with a FAULT: it stays", text)
        .due("image -> done", "write 0 1 1 -> 2", "load chalk -> 1", "restore -> true", "slate 0 2 -> 1");
    Script.of("a refused sea(): it stays", text)
        .due("image -> done", "write 0 1 1 -> 2", "sea 1 -> IAE", "restore -> true", "slate 0 2 -> 1");
    new Script("an image of no SLATE").due("image -> done", "restore -> true", "count 4 -> 0", "slate 0 0 -> NSEE");
  }

  private static void imagesOfActs() {
    String text = "slate 0 0 0;slate 0 0 0" + " east 1".repeat(8) + ";";
    Script thirty = Script.of("an image of 30 ACTS", text).due("write 0 1 1 -> 1").times(29, "rub 1 0 0 -> 0")
        .due("image -> done").times(5, "rub 1 0 100 -> 8").due("restore -> true", "count 11 -> 30", "slate 1 3 -> 0");
    for (int left = 29; left >= 0; left--) {
      thirty.due("undo -> " + left);
    }
    thirty.due("slate 0 2 -> 0", "undo -> -1", "restore -> true", "count 11 -> 30", "slate 0 2 -> 1");
    Script all = Script.of("all MARKS of all SLATES", ("slate0 0 0" + "east1".repeat(7) + ";").repeat(8));
    int[] rubbed = {0, 1, 9, 41, 41, 233, 233, 235};
    for (int slate = 0; slate < 8; slate++) {
      all.due("write " + slate + " " + slate % 4 + " " + (slate + 2) + " -> 8",
          "rub " + slate + " 0 " + 10 * slate + " -> " + Integer.bitCount(rubbed[slate]));
    }
    all.due("image -> done");
    for (int left = 15; left >= 0; left--) {
      all.due("undo -> " + left);
    }
    for (int slate = 0; slate < 8; slate++) {
      all.due("write " + slate + " " + (slate + 1) % 4 + " 1 -> 8");
    }
    all.due("restore -> true", "count 11 -> 16");
    for (int slate = 0; slate < 8; slate++) {
      all.due("mark " + slate + " 7 * -> " + slate % 4 + " " + (slate + 2), "slate " + slate + " 3 -> " + rubbed[slate]);
    }
    Script.of("ACTS that were UNDONE are there again", text)
        .due("write 0 1 1 -> 1", "rub 1 0 100 -> 8", "image -> done", "undo -> 1", "undo -> 0", "write 0 3 3 -> 1",
            "restore -> true", "count 11 -> 2", "slate 1 3 -> 255", "mark 0 0 * -> 1 1", "undo -> 1", "slate 1 3 -> 0",
            "undo -> 0", "slate 0 2 -> 0", "undo -> -1");
  }
}
