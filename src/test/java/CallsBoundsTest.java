/** The bounds of the calls, promise by promise: what is refused, which of two exceptions comes first, what stays. */
public final class CallsBoundsTest {
  /** A SEA in which there is something of everything, also a FAULT, STATUS, ACTS, an image, a STUDY, a tape. */
  private static final String SEA = "sea 6 2;rock 2 0;rock 5 1;current 3 1 east;slate 0 0 1 east 2;slate 4 1 0 north 1;"
      + "hand 3 3 3 3;hand 0 6 6 0;school 1 1 3;goal 4;pilot 0 0 0;pilot 0 1 7 1 0;rule east go south;rule 1 go east;";
  private static final String[] AHEAD = {"load " + SEA + " -> 0", "study 0 -> 1", "studied 0 -> 0", "write 1 2 3 -> 2",
      "rub 1 0 1 -> 1", "image -> done", "write 1 1 1 -> 3", "write 0 4 0 -> -1", "load sea 6 2;  chalk -> 1", "fault -> 10",
      "text rock 1 1;rock 2 1; -> 20"};
  private static final String[] ODD = {"-1", "MIN", "MAX"};

  public static void main(String[] args) {
    feed();
    sea();
    seaRefused();
    seaWithFault();
    seaAllAnew();
    fault();
    whats();
    cells();
    slates();
    marks();
    pilots();
    bothAreWrong();
    callsThatOnlyAsk();
    fiveHundredAndTwelveCalls();
    Script.end("bounds of the calls");
  }

  private static void feed() {
    Script full = new Script("promise 2: twenty bytes a call, up to 700");
    for (int bytes = 20; bytes <= 700; bytes += 20) {
      full.due("feed 538976288 538976288 538976288 538976288 538976288 -> " + bytes, "count 12 -> " + bytes);
    }
    full.due("feed 1 2 3 4 5 -> -1", "count 12 -> 700", "feed 1 2 3 4 5 -> -1", "count 12 -> 700", "sea 700 -> 0",
        "count 12 -> 0", "feed 1 2 3 4 5 -> 20");
    String[] filled = {"load sea 2 2; -> 0", "text " + " ".repeat(691) + "rock 1 1; -> 700"};
    Script.changesNothing("promise 2: none come, if it would have more than 700", filled, "feed 0 0 0 0 0 -> -1", 0);
    // 'rock', ' 1 2', ';sea' and blanks
    new Script("promise 2: of each number the highest first, the first number first").due(
        "feed 1919902571 540090418 997418337 538976288 538976288 -> 20", "sea 20 -> 5", "fault -> 9",
        "feed 1919902571 540090418 991961120 538976288 538976288 -> 20", "sea 20 -> 0", "count 2 -> 1", "cell 13 0 -> 1");
    new Script("promise 2: behind the tape").due("text rock 0 0;rock 1 0; -> 20", "text rock 2 0;rock 3 0; -> 40",
        "sea 38 -> 1", "fault -> 18", "text rock 0 0;rock 1 0;  -> 20", "text rock 2 0; -> 40", "sea 29 -> 1", "fault -> 19");
    new Script("promise 2: behind the tape, none between").due("text rock 0 0; rock 1 0;" + " " + " -> 20",
        "text rock 2 0; -> 40", "sea 29 -> 0", "count 2 -> 3");
    new Script("promise 2: bytes of 0 are there, too").due("feed 0 0 0 0 0 -> 20", "sea 1 -> 1", "fault -> 0");
    new Script("promise 2: the outermost numbers").due("feed MIN MAX -1 0 1 -> 20", "sea 20 -> 1", "fault -> 0");
  }

  private static void sea() {
    new Script("promise 3: n is 0, the tape is empty").due("sea 0 -> 0", "fault -> -1", "count 12 -> 0");
    new Script("promise 3: n is all that the tape has").due("text rock 1 1;" + " ".repeat(11) + " -> 20", "sea 20 -> 0",
        "count 2 -> 1");
    new Script("promise 3: n is one less").due("text rock 1 1;" + " ".repeat(10) + "; -> 20", "sea 19 -> 0",
        "count 2 -> 1");
    new Script("promise 3: n is one more").due("text rock 1 1;" + " ".repeat(11) + " -> 20", "sea 21 -> IAE",
        "sea 20 -> 0");
    new Script("promise 3: the tape is empty then").due("text rock 1 1;rock 2 2; -> 20", "sea 9 -> 0", "count 12 -> 0",
        "sea 1 -> IAE", "sea 0 -> 0", "count 2 -> 0");
    new Script("promise 3: the tape is empty behind a FAULT, too").due("text chalk -> 20", "sea 5 -> 1", "count 12 -> 0",
        "sea 1 -> IAE", "fault -> 0");
  }

  private static void seaRefused() {
    for (String n : new String[] {"-1", "21", "701", "MIN", "MAX"}) {
      Script.changesNothing("promise 3: the tape has not so many, n below 0", AHEAD, "sea " + n + " -> IAE", 0);
    }
    new Script("promise 3: an empty tape has not so many").due("sea 1 -> IAE", "sea -1 -> IAE", "fault -> -1", "count 13 -> 0");
  }

  private static void seaWithFault() {
    String[] ahead = new String[AHEAD.length - 1];
    System.arraycopy(AHEAD, 0, ahead, 0, ahead.length);
    String[] texts = {"chalk -> 1", "sea 8 8;rock 7 7;slate 3 3 3 east 3;goal 8; -> 2",
        "sea 3 3;current 1 1 east;pilot 1 1 1 0; -> 3", "rock 0 0;hand 12 0 0 0;rock 0 0; -> 4",
        "school 0 0 0;rule 1 go east;school 0 0 0; -> 5", "sea 2 2;slate 0 0 0 east 1 -> 1",
        "pilot 0 0 0;rule 1 go west;rule " + "(".repeat(6) + "1 -> 2"};
    for (String text : texts) {
      Script.changesNothing("promise 3: the FAULT, all stays", ahead, "load " + text, 13);
    }
  }

  private static void seaAllAnew() {
    Script.of("promise 3: ACTS, what was found, the image are gone, STATUS stays", "goal 1;").due(AHEAD)
        .due("sea 9 -> 0", "count * -> 6 6 1 0 0 0 0 0 0 2 5 0 0 1 1", "fault -> -1", "cell 2 0 -> 0", "cell 7 0 -> 1",
            "cell 9 1 -> -1", "slate 0 0 -> NSEE", "pilot 0 0 -> NSEE", "studied 0 -> NSEE", "restore -> false",
            "undo -> -1", "exam -> 0");
    String[] without = {"count * -> 6 6 0 0 0 0 0 0 0 2 5 0", "cell 2 0 -> 0", "cell 9 1 -> -1", "slate 0 0 -> NSEE",
        "undo -> -1", "chart 2 -> 68719476735"};
    String[] anew = {"load slate 1 0 0;pilot 1 0 0;rule x - 1 go north;rule 0 go east; -> 0", "slate 0 * -> 1 0 0 0",
        "count 11 -> 0", "pilot 0 2 -> 0", "sails 0 0 * -> 0 1 60", "cell 9 1 -> -1", "voyage 0 * -> 0 1 0 0 0"};
    for (int texts = 1; texts <= 3; texts++) {
      Script.of("promise 3: nothing is left of " + texts + " texts", "").times(texts, "load " + SEA + " -> 0")
          .due("write 0 1 1 -> 2", "rub 0 0 100 -> 2", "rub 1 0 100 -> 1", "sea 0 -> 0").due(without).due(anew)
          .due("sea 0 -> 0").due(without);
      Script.of("promise 3: nothing is left of " + texts + " texts with a FAULT", "")
          .times(texts, "load " + SEA + "rule -> 1").due("sea 0 -> 0").due(without).due(anew);
    }
    String longRule = "goal 7;pilot 0 0 0;rule " + "1+".repeat(320) + "1 = 321 go north; -> 0";
    Script.of("promise 3: RULES of many texts", "").due("load " + longRule, "sails 0 0 * -> 3 0 0", "load " + longRule,
        "sails 0 0 * -> 3 0 0", "load " + longRule, "sails 0 0 * -> 3 0 0", "load " + longRule, "sails 0 0 * -> 3 0 0");
    Script.of("promise 3: the same text once more is all anew", SEA).due("write 0 1 1 -> 2", "rub 0 0 100 -> 2",
        "load " + SEA + " -> 0", "slate 0 * -> 0 1 1 0", "count 11 -> 0", "undo -> -1");
  }

  private static void fault() {
    new Script("promise 4: none at first").due("fault -> -1");
    new Script("promise 4: the latest sea()'s").due("load ; -> 1", "fault -> 0", "load  ; -> 1", "fault -> 1",
        "load goal 1;goal 1; -> 5", "fault -> 7", "load goal 1; -> 0", "fault -> -1", "load  ; -> 1", "fault -> 1",
        "sea 0 -> 0", "fault -> -1");
    new Script("promise 4: a refused call leaves it").due("load   ; -> 1", "fault -> 2", "sea 1 -> IAE", "fault -> 2",
        "sea -1 -> IAE", "fault -> 2", "text goal 1; -> 20", "fault -> 2");
    new Script("promise 4: the first and the last place").due("load chalk -> 1", "fault -> 0",
        "load " + " ".repeat(699) + "; -> 1", "fault -> 699", "load " + " ".repeat(696) + "goal -> 1", "fault -> 700");
  }

  /** A call's last argument is its what: 0 to the last one is answered, all others are refused. */
  private static void what(String promise, String call, int last) {
    Script script = Script.of(promise + ": another what", SEA);
    for (int what = 0; what <= last; what++) {
      String answer = script.ask(call + " " + what);
      Script.check(answer.matches("-?[0-9]+"), promise + ": " + call + " " + what + " answered " + answer);
    }
    script.due(call + " " + (last + 1) + " -> NSEE");
    for (String odd : ODD) {
      script.due(call + " " + odd + " -> NSEE");
    }
  }

  private static void whats() {
    what("promise 5", "count", 14);
    what("promise 6", "cell 0", 1);
    what("promise 7", "slate 0", 3);
    what("promise 8", "mark 0 0", 1);
    what("promise 12", "voyage 0", 4);
    what("promise 15", "pilot 0", 2);
    what("promise 16", "sails 0 0", 2);
    what("promise 20", "dive 0", 1);
    what("promise 21", "chart", 2);
    what("promise 22", "hand 0", 3);
    what("promise 23", "copied 0 1", 2);
  }

  /** An argument of a call, for which @ stands: those from 0 to last are answered, all others refused. */
  private static void argument(String promise, String call, int last) {
    Script script = Script.of(promise + ": no such one", SEA);
    for (int i = 0; i <= last; i++) {
      String answer = script.ask(call.replace("@", String.valueOf(i)));
      Script.check(!answer.equals("NSEE") && !answer.startsWith("throws"), promise + ": " + call + " of " + i + " answered " + answer);
    }
    script.due(call.replace("@", String.valueOf(last + 1)) + " -> NSEE");
    for (String odd : ODD) {
      script.due(call.replace("@", odd) + " -> NSEE");
    }
  }

  private static void cells() {
    argument("promise 6", "cell @ 0", 11);
    argument("promise 6", "cell @ 1", 11);
    Script.of("promise 6: a ROCK or not, a CURRENT or NONE", SEA)
        .due("cell 2 0 -> 1", "cell 3 0 -> 0", "cell 2 1 -> -1", "cell 9 0 -> 0", "cell 9 1 -> 1");
    Script.of("promise 6: CELLS of another SEA", SEA).due("cell 11 0 -> 1", "load sea 2 2; -> 0", "cell 3 0 -> 0",
        "cell 4 0 -> NSEE", "load sea 8 8; -> 0", "cell 63 0 -> 0", "cell 64 0 -> NSEE");
  }

  private static void slates() {
    argument("promise 7", "slate @ 0", 1);
    argument("promise 8", "mark @ 0 0", 1);
    argument("promise 9", "write @ 1 1", 1);
    argument("promise 10", "rub @ 1 1", 1);
    argument("promise 12", "voyage @ 0", 1);
    argument("promise 13", "explained @", 1);
    argument("promise 14", "where @ 0", 1);
    argument("promise 22", "hand @ 0", 1);
    argument("promise 23", "copied @ 1 0", 1);
    argument("promise 23", "copied 0 @ 0", 1);
    Script.of("promise 7: no SLATE at all", "goal 1;").due("slate 0 0 -> NSEE", "mark 0 0 0 -> NSEE", "write 0 1 1 -> NSEE",
        "rub 0 1 1 -> NSEE", "voyage 0 0 -> NSEE", "explained 0 -> NSEE", "where 0 0 -> NSEE", "hand 0 0 -> NSEE",
        "copied 0 1 0 -> NSEE", "copied 0 0 0 -> NSEE");
    Script.of("promise 7: none RUBBED, and all 8", "slate 5 5 99" + " west 1".repeat(8) + ";")
        .due("slate 0 * -> 35 99 8 0", "rub 0 0 100 -> 8", "slate 0 * -> 35 99 8 255");
  }

  private static void marks() {
    argument("promise 8", "mark 0 @ 0", 0);
    argument("promise 14", "where 0 @", 1);
    Script.of("promise 8: a MARK that is written, and UNDONE", "slate 0 0 0;")
        .due("mark 0 0 0 -> NSEE", "write 0 3 9 -> 1", "mark 0 0 * -> 3 9", "mark 0 1 0 -> NSEE", "undo -> 0",
            "mark 0 0 0 -> NSEE");
    Script.of("promise 14: k of a MARK that is written, and UNDONE", "slate 0 0 0;")
        .due("where 0 1 -> NSEE", "write 0 1 2 -> 1", "where 0 1 -> 4", "where 0 2 -> NSEE", "undo -> 0", "where 0 1 -> NSEE");
  }

  private static void pilots() {
    argument("promise 15", "pilot @ 0", 1);
    argument("promise 16", "sails @ 0 0", 1);
    argument("promise 18", "study @", 1);
    Script.of("promise 15: no PILOT at all", "slate 0 0 0;")
        .due("pilot 0 0 -> NSEE", "sails 0 0 0 -> NSEE", "study 0 -> NSEE", "exam -> 0");
    Script.of("promise 19: none is kept", SEA).due("studied 0 -> NSEE", "studied -1 -> NSEE", "studied MIN -> NSEE");
    Script.of("promise 19: there is none", SEA).due("study 0 -> 1", "studied 0 -> 0", "studied 1 -> NSEE", "studied -1 -> NSEE",
        "studied 7 -> NSEE", "studied 8 -> NSEE", "studied MIN -> NSEE", "studied MAX -> NSEE");
  }

  private static void bothAreWrong() {
    Script.of("both are NoSuchElementException", SEA).due("cell 12 2 -> NSEE", "slate 2 4 -> NSEE", "mark 2 1 2 -> NSEE",
        "voyage 2 5 -> NSEE", "where 2 3 -> NSEE", "pilot 2 3 -> NSEE", "hand 2 4 -> NSEE");
    Script.of("IllegalArgumentException behind that", SEA).due("sails 2 4 3 -> NSEE", "sails 0 4 3 -> NSEE",
        "sails 2 4 0 -> NSEE", "sails 0 4 0 -> IAE", "dive 8 2 -> NSEE", "dive 8 1 -> IAE", "copied 2 2 0 -> NSEE",
        "copied 1 1 3 -> NSEE", "copied 1 1 2 -> IAE");
  }

  /** What only asks, refused or not, changes nothing. */
  private static void callsThatOnlyAsk() {
    String[] asked = {"fault -> 10", "count 12 -> 20", "count 15 -> NSEE", "cell 2 0 -> 1", "cell 12 0 -> NSEE",
        "slate 1 3 -> 1", "slate 2 0 -> NSEE", "mark 1 2 0 -> 1", "mark 1 3 0 -> NSEE", "write 2 1 1 -> NSEE",
        "rub 2 1 1 -> NSEE", "voyage 0 0 -> 1", "voyage 0 5 -> NSEE", "explained 0 -> false", "explained 2 -> NSEE",
        "where 1 0 -> 1024", "where 1 4 -> NSEE", "pilot 1 2 -> 3", "pilot 2 0 -> NSEE", "sails 0 1 0 -> 4",
        "sails 0 4 0 -> IAE", "sails 0 0 3 -> NSEE", "exam -> 2", "study 2 -> NSEE", "studied 0 -> 0",
        "studied 1 -> NSEE", "dive 1 1 -> 1", "dive 8 0 -> IAE", "dive 0 2 -> NSEE", "chart 1 -> 4", "chart 3 -> NSEE",
        "hand 1 2 -> 1", "hand 0 4 -> NSEE", "copied 0 1 0 -> 0", "copied 1 1 0 -> IAE", "copied 0 2 0 -> NSEE"};
    for (String row : asked) {
      Script.changesNothing("a call that only asks", AHEAD, row, 0);
    }
    Script.changesNothing("promise 18: none is found, what is kept stays", new String[] {
        "load rock 2 0;slate 0 0 1 east 2;pilot 0 0 0;pilot 0 5 0;rule y = 5 go south;rule east go south;rule 1 go east; -> 0",
        "study 0 -> 1", "write 0 1 1 -> 2"}, "study 1 -> -1", 0);
  }

  /** The last of 512 calls is answered as all others. */
  private static void fiveHundredAndTwelveCalls() {
    new Script("512 calls of one object").times(511, "count 0 -> 6").due("chart 2 -> 68719476735");
    new Script("512 calls, ACTS among them").due("load slate 0 0 0 east 1; -> 0").times(500, "rub 0 0 100 -> 1")
        .due("count 11 -> 30", "undo -> 29", "slate 0 3 -> 1");
  }
}
