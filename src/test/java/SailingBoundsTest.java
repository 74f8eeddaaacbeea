/** The bounds of part 2: a STEP, a VOYAGE, what is EXPLAINED, ACTS, CHANCE, DRAW and seed, WHERE HE MAY BE. */
public final class SailingBoundsTest {
  public static void main(String[] args) {
    land();
    rocks();
    currents();
    rockWhereHeBegins();
    marksAndSteps();
    explained();
    actsThatAreKept();
    writing();
    chance();
    draw();
    seeds();
    rubbingOnceMore();
    undoing();
    where();
    whereByRubbedMarks();
    Script.end("bounds of sailing");
  }

  private static void land() {
    Script.of("LAND in the north, east, south, west: he stays where he was",
        "sea 3 3;slate 1 0 1 north 1;slate 2 1 1 east 1;slate 1 2 1 south 1;slate 0 1 1 west 1;")
        .due("voyage 0 * -> 3 1 0 0 1", "voyage 1 * -> 3 5 0 0 1", "voyage 2 * -> 3 7 0 0 1", "voyage 3 * -> 3 3 0 0 1");
    Script.of("the last CELL of each way is none",
        "sea 3 3;slate 1 2 1 north 2;slate 0 1 1 east 2;slate 1 0 1 south 2;slate 2 1 1 west 2;")
        .due("voyage 0 * -> 0 1 1 0 3", "voyage 1 * -> 0 5 1 0 3", "voyage 2 * -> 0 7 1 0 3", "voyage 3 * -> 0 3 1 0 3");
    Script.of("one STEP more is LAND",
        "sea 3 3;slate 1 2 1 north 3;slate 0 1 1 east 3;slate 1 0 1 south 3;slate 2 1 1 west 3;")
        .due("voyage 0 * -> 3 1 0 2 3", "voyage 1 * -> 3 5 0 2 3", "voyage 2 * -> 3 7 0 2 3", "voyage 3 * -> 3 3 0 2 3");
    Script.of("on LAND in an even HOUR no CURRENT drives him", "current 0 0 east;slate 0 0 0 west 1;")
        .due("voyage 0 * -> 3 0 0 0 0", "chart 0 -> 1");
    Script.of("no MARK behind LAND is sailed", "slate 0 0 0 west 1 east 1;").due("voyage 0 * -> 3 0 0 0 0", "chart 0 -> 1");
  }

  private static void rocks() {
    Script.of("a CELL ahead of a ROCK", "rock 2 0;slate 0 0 0 east 1;").due("voyage 0 * -> 0 1 1 0 1");
    Script.of("on a ROCK", "rock 2 0;slate 0 0 0 east 2;").due("voyage 0 * -> 1 2 0 1 1");
    Script.of("no STEP behind a ROCK is sailed", "rock 2 0;slate 0 0 0 east 9 south 1;").due("voyage 0 * -> 1 2 0 1 1");
    Script.of("a CURRENT on the ROCK does not drive him", "rock 1 0;current 1 0 east;slate 0 0 0 east 1;")
        .due("voyage 0 * -> 1 1 0 0 0");
    Script.of("a ROCK in the last CELL", "sea 8 8;rock 7 7;slate 7 6 0 south 1;").due("voyage 0 * -> 1 63 0 0 0");
  }

  private static void currents() {
    String east = "current 1 0 south;slate 0 0 ";
    Script.of("HOUR 0 is even", east + "0 east 1;").due("voyage 0 * -> 0 7 1 0 1");
    Script.of("HOUR 1 is odd", east + "1 east 1;").due("voyage 0 * -> 0 1 1 0 2");
    Script.of("HOUR 98 is even", east + "98 east 1;").due("voyage 0 * -> 0 7 1 0 99");
    Script.of("HOUR 99 is odd", east + "99 east 1;").due("voyage 0 * -> 0 1 1 0 100");
    Script.of("HOUR 100, behind 99, is even", "current 1 0 south;slate 0 1 99 north 1 east 1;")
        .due("voyage 0 * -> 0 7 2 0 101");
    Script.of("where there is no CELL, a CURRENT does not drive him",
        "sea 3 3;current 1 0 north;current 2 1 east;current 1 2 south;current 0 1 west;"
            + "slate 1 1 0 north 1;slate 1 1 0 east 1;slate 1 1 0 south 1;slate 1 1 0 west 1;")
        .due("voyage 0 * -> 0 1 1 0 1", "voyage 1 * -> 0 5 1 0 1", "voyage 2 * -> 0 7 1 0 1", "voyage 3 * -> 0 3 1 0 1");
    Script.of("one CELL its way, though there is a CURRENT too", "current 1 0 east;current 2 0 east;slate 0 0 0 east 1;")
        .due("voyage 0 * -> 0 2 1 0 1");
    Script.of("the CURRENT of the CELL that he leaves is none", "current 0 0 south;slate 0 0 0 east 1;")
        .due("voyage 0 * -> 0 1 1 0 1");
    Script.of("by the tide on a ROCK", "rock 1 1;current 1 0 south;slate 0 0 0 east 1;slate 0 0 1 east 1;")
        .due("voyage 0 * -> 2 7 0 0 0", "voyage 1 * -> 0 1 1 0 2");
    Script.of("without a MARK no CURRENT drives him", "current 0 0 east;slate 0 0 0;").due("voyage 0 * -> 0 0 0 0 0");
  }

  private static void rockWhereHeBegins() {
    Script.of("a ROCK in the CELL where he begins is none to him there",
        "rock 0 0;slate 0 0 0;slate 0 0 0 east 1;slate 0 0 0 north 1;")
        .due("voyage 0 * -> 0 0 0 0 0", "voyage 1 * -> 0 1 1 0 1", "voyage 2 * -> 3 0 0 0 0");
    Script.of("coming on it later he is WRECKED", "rock 0 0;slate 0 0 0 east 1 west 1;slate 1 0 0 west 1;")
        .due("voyage 0 * -> 1 0 1 0 1", "voyage 1 * -> 1 0 0 0 0");
    Script.of("driven on it later he is WRECKED", "rock 0 0;current 1 0 west;slate 0 0 0 east 1;")
        .due("voyage 0 * -> 2 0 0 0 0");
  }

  private static void marksAndSteps() {
    Script.of("AFLOAT: how many MARKS there are, STEP 0, the HOUR behind all", "slate 2 2 99;slate 0 0 99"
        + " east 1 west 1".repeat(4) + ";").due("voyage 0 * -> 0 14 0 0 99", "voyage 1 * -> 0 0 8 0 107");
    Script.of("no MARK, asked behind another VOYAGE", "slate 0 0 5 east 9;slate 1 1 1;")
        .due("voyage 0 * -> 3 5 0 5 10", "voyage 1 * -> 0 7 0 0 1");
    Script.of("the first MARK, the first STEP", "slate 0 0 5 west 9;").due("voyage 0 * -> 3 0 0 0 5");
    Script.of("the 8th MARK", "slate 0 0 1" + " east 1 west 1".repeat(3) + " east 1 west 2;")
        .due("voyage 0 * -> 3 0 7 1 9");
    Script.of("the 9th STEP: driven back once, he has 8 CELLS and LAND", "sea 8 2;current 1 0 west;slate 0 0 0 east 9;")
        .due("voyage 0 * -> 3 7 0 8 8");
    Script.of("all 9 STEPS", "sea 8 2;current 1 0 west;current 2 0 west;slate 0 0 0 east 9;")
        .due("voyage 0 * -> 0 7 1 0 9");
  }

  private static void explained() {
    String sea = "rock 3 1;current 3 0 south;slate 2 0 ";
    Script.of("WRECKED by the tide, the MARK would have been done", sea + "0 east 1;")
        .due("voyage 0 0 -> 2", "explained 0 -> true");
    Script.of("to the last CELL", sea + "0 east 3;").due("voyage 0 0 -> 2", "explained 0 -> true");
    Script.of("one STEP more is LAND", sea + "0 east 4;").due("voyage 0 0 -> 2", "explained 0 -> false");
    Script.of("to the CELL ahead of a ROCK", "rock 5 0;" + sea + "0 east 2;").due("voyage 0 0 -> 2", "explained 0 -> true");
    Script.of("one STEP more is the ROCK", "rock 5 0;" + sea + "0 east 3;").due("voyage 0 0 -> 2", "explained 0 -> false");
    Script.of("LAND in the next MARK", sea + "0 east 1 north 1;").due("voyage 0 0 -> 2", "explained 0 -> true");
    Script.of("AFLOAT", sea + "1 east 1;").due("voyage 0 0 -> 0", "explained 0 -> false");
    Script.of("LAND", "slate 0 0 0 west 1;").due("explained 0 -> false");
    Script.of("WRECKED by his hand", "rock 1 0;slate 0 0 0 east 1;").due("explained 0 -> false");
    Script.of("no MARK", "slate 0 0 0;").due("explained 0 -> false");
    Script.of("by the tide in the 8th MARK", "rock 3 1;current 3 0 south;slate 1 0 1" + " east 1 west 1".repeat(3)
        + " east 1 east 3;").due("voyage 0 * -> 2 9 7 0 8", "explained 0 -> true");
    Script.of("by the tide in the 8th MARK, LAND behind it", "rock 3 1;current 3 0 south;slate 1 0 1"
        + " east 1 west 1".repeat(3) + " east 1 east 4;").due("voyage 0 * -> 2 9 7 0 8", "explained 0 -> false");
    Script.of("a ROCK where he begins is none to him there, without CURRENTS too", "rock 2 0;" + sea + "0 east 1;")
        .due("explained 0 -> true");
    Script.of("a ROCK that the CURRENTS of that MARK spared him", "current 1 0 south;rock 2 0;current 3 1 south;rock 3 2;"
        + "slate 0 0 0 east 3;").due("voyage 0 * -> 2 15 0 2 2", "explained 0 -> false");
    Script.of("CURRENTS of an earlier MARK stay", "current 1 0 south;rock 2 0;current 3 1 south;rock 3 2;"
        + "slate 0 0 0 east 1 east 2;").due("voyage 0 * -> 2 15 1 1 2", "explained 0 -> true");
  }

  private static void actsThatAreKept() {
    String text = "slate 0 0 0;slate 0 0 0 east 1;";
    Script.of("no ACT", text).due("count 11 -> 0", "undo -> -1", "count 11 -> 0");
    Script.of("one ACT", text).due("write 0 1 1 -> 1", "count 11 -> 1", "undo -> 0", "undo -> -1", "slate 0 2 -> 0");
    Script.of("30 ACTS, all are kept", text).due("write 0 1 1 -> 1").times(29, "rub 1 0 0 -> 0")
        .due("count 11 -> 30", "undo -> 29").times(28, "rub 1 0 0 -> 0").due("count 11 -> 30");
    Script all = Script.of("30 ACTS, all are UNDONE", text).due("write 0 1 1 -> 1").times(29, "rub 1 0 0 -> 0");
    for (int left = 29; left >= 0; left--) {
      all.due("slate 0 2 -> 1", "undo -> " + left);
    }
    all.due("slate 0 2 -> 0", "undo -> -1", "count 11 -> 0");
    Script latest = Script.of("31 ACTS, the latest 30 are kept", text).due("write 0 1 1 -> 1")
        .times(30, "rub 1 0 100 -> 1").due("count 11 -> 30");
    for (int left = 29; left >= 0; left--) {
      latest.due("slate 1 3 -> 1", "undo -> " + left);
    }
    latest.due("slate 1 3 -> 0", "slate 0 2 -> 1", "undo -> -1", "slate 0 2 -> 1");
    Script each = Script.of("31 ACTS, each another one", "slate 0 0 0;slate 0 0 0;slate 0 0 0;slate 0 0 0;slate 0 0 0;");
    for (int i = 0; i < 31; i++) {
      each.due("write " + i * 3 % 5 + " " + i % 4 + " " + (1 + i % 9) + " -> " + (1 + i / 5));
    }
    for (int i = 30; i >= 1; i--) {
      each.due("mark " + i * 3 % 5 + " " + i / 5 + " * -> " + i % 4 + " " + (1 + i % 9), "undo -> " + (i - 1),
          "slate " + i * 3 % 5 + " 2 -> " + i / 5);
    }
    each.due("undo -> -1", "slate 0 2 -> 1", "mark 0 0 * -> 0 1", "slate 3 2 -> 0");
    Script.of("31 ACTS, the 30th a MARK that is written", text).times(29, "rub 1 0 100 -> 1")
        .due("write 0 1 1 -> 1", "rub 1 0 100 -> 1", "undo -> 29", "slate 0 2 -> 1", "undo -> 28", "slate 0 2 -> 0",
            "slate 1 3 -> 1");
    Script.of("31 ACTS, the 30th one that is RUBBED", text).times(29, "rub 1 0 0 -> 0")
        .due("rub 1 0 100 -> 1", "write 0 1 1 -> 1", "undo -> 29", "slate 1 3 -> 1", "undo -> 28", "slate 1 3 -> 0",
            "slate 0 2 -> 0");
    Script.of("ACTS that are not kept leave room for others", text).times(100, "rub 1 0 0 -> 0")
        .due("count 11 -> 30", "undo -> 29", "write 0 1 1 -> 1", "count 11 -> 30", "undo -> 29", "slate 0 2 -> 0");
  }

  private static void writing() {
    String seven = "slate 0 0 0" + " north 1".repeat(7) + ";slate 0 0 0;";
    Script.of("the 8th MARK is written, a 9th is not", seven)
        .due("write 0 3 9 -> 8", "mark 0 7 * -> 3 9", "count 14 -> 0", "write 0 3 9 -> -1", "count 14 -> 1",
            "count 11 -> 1", "slate 0 2 -> 8", "undo -> 0", "write 0 2 5 -> 8", "mark 0 7 * -> 2 5");
    Script.of("way 0 and 3, STEPS 1 and 9", seven)
        .due("write 1 0 1 -> 1", "write 1 3 9 -> 2", "mark 1 0 * -> 0 1", "mark 1 1 * -> 3 9", "count 14 -> 0");
    String[] ahead = {"load " + seven + " -> 0", "write 1 1 1 -> 1"};
    String[] refused = {"write 1 -1 1", "write 1 4 1", "write 1 MIN 1", "write 1 MAX 1", "write 1 0 0", "write 1 0 10",
        "write 1 0 -1", "write 1 0 MIN", "write 1 0 MAX", "write 1 4 10"};
    for (String call : refused) {
      Script.changesNothing("a way, STEPS not as told", ahead, call + " -> -1", 14);
    }
    String[] full = {"load " + seven + " -> 0", "write 0 1 1 -> 8"};
    Script.changesNothing("it has 8", full, "write 0 1 1 -> -1", 14);
    Script.changesNothing("it has 8, a way not as told: one call refused", full, "write 0 9 9 -> -1", 14);
    Script.changesNothing("no such SLATE", ahead, "write 2 1 1 -> NSEE", 0);
    Script.changesNothing("no such SLATE, a way not as told", ahead, "write -1 4 0 -> NSEE", 0);
  }

  private static void chance() {
    String text = "slate 0 0 0" + " north 1".repeat(8) + ";slate 0 0 0;";
    Script.of("CHANCE 0 rubs none, an ACT all the same", text)
        .due("rub 0 0 0 -> 0", "slate 0 3 -> 0", "count 11 -> 1", "count 14 -> 0");
    Script.of("CHANCE 100 rubs all", text).due("rub 0 0 100 -> 8", "slate 0 3 -> 255", "count 11 -> 1", "count 14 -> 0");
    Script.of("a SLATE without MARKS", text).due("rub 1 0 100 -> 0", "slate 1 3 -> 0", "count 11 -> 1", "undo -> 0");
    String[] ahead = {"load " + text + " -> 0", "rub 0 0 1 -> 1"};
    String[] refused = {"rub 0 0 -1", "rub 0 0 101", "rub 0 0 MIN", "rub 0 0 MAX", "rub 1 0 101"};
    for (String call : refused) {
      Script.changesNothing("CHANCE is not as told", ahead, call + " -> -1", 14);
    }
    Script.changesNothing("no such SLATE", ahead, "rub 2 0 50 -> NSEE", 0);
    Script.changesNothing("no such SLATE, CHANCE not as told", ahead, "rub -1 0 101 -> NSEE", 0);
  }

  /** One MARK: a seed whose DRAW is known, a CHANCE that is as much, and one that is one more. */
  private static void drawIs(String sentence, int seed, int draw) {
    Script.of(sentence, "slate 0 0 0 north 1;")
        .due("rub 0 " + seed + " " + draw + " -> 0", "rub 0 " + seed + " " + (draw + 1) + " -> 1");
  }

  private static void draw() {
    drawIs("a DRAW of 0: the seed becomes 12345", 0, 0);
    drawIs("a DRAW of 0: bits 0 to 15 alone", -115164386, 0);
    drawIs("a DRAW of 0: bit 31 is none of its bits", 2032319262, 0);
    drawIs("a DRAW of 99", 75933315, 99);
    drawIs("a DRAW of 99: bit 31", -2071550333, 99);
    drawIs("a DRAW of 100 MOD 100", -269769085, 0);
    drawIs("bits 16 to 30 are all 1: 32767 MOD 100", -1916945634, 67);
    drawIs("all bits are 1", 230538014, 67);
    drawIs("a DRAW of 50", -164518269, 50);
    drawIs("a DRAW of 49, bits 0 to 15 are all 1", 125287198, 49);
  }

  private static void seeds() {
    String text = "slate 0 0 0" + " north 1".repeat(8) + ";";
    // the draws of 0 and MIN: 0 68 88 17 98 27 45 41
    for (String seed : new String[] {"0", "MIN"}) {
      Script.of("the first MARK first, an int that wraps", text)
          .due("rub 0 " + seed + " 45 -> 4", "slate 0 3 -> 169", "undo -> 0", "rub 0 " + seed + " 46 -> 5",
              "slate 0 3 -> 233");
    }
    // those of -1 and MAX: 29 9 62 18 13 26 80 63
    for (String seed : new String[] {"-1", "MAX"}) {
      Script.of("the first MARK first, an int that wraps", text)
          .due("rub 0 " + seed + " 63 -> 6", "slate 0 3 -> 63", "undo -> 0", "rub 0 " + seed + " 64 -> 7",
              "slate 0 3 -> 191");
    }
    Script.of("a seed is a call's own", text).due("rub 0 0 1 -> 1", "undo -> 0", "rub 0 0 1 -> 1", "slate 0 3 -> 1");
  }

  private static void rubbingOnceMore() {
    String text = "slate 0 0 0" + " north 1".repeat(7) + ";";
    Script.of("a MARK that is RUBBED has its DRAW too, and stays RUBBED", text)
        .due("rub 0 0 1 -> 1", "slate 0 3 -> 1", "rub 0 0 18 -> 2", "slate 0 3 -> 9", "rub 0 1 0 -> 2", "slate 0 3 -> 9");
    Script.of("a MARK that is written behind it is not RUBBED", text)
        .due("rub 0 0 100 -> 7", "write 0 1 1 -> 8", "slate 0 3 -> 127", "rub 0 0 100 -> 8", "slate 0 3 -> 255");
    Script.of("VOYAGES go by all MARKS, RUBBED or not", "slate 0 0 0 east 2;")
        .due("rub 0 0 100 -> 1", "voyage 0 * -> 0 2 1 0 2", "mark 0 0 * -> 1 2");
  }

  private static void undoing() {
    String text = "slate 0 0 0 east 1 east 1 east 1 east 1;slate 0 0 0;";
    Script.of("the last one first", text)
        .due("rub 0 0 1 -> 1", "write 1 2 3 -> 1", "rub 0 0 18 -> 2", "write 1 3 4 -> 2", "undo -> 3", "slate 1 2 -> 1",
            "slate 0 3 -> 9", "undo -> 2", "slate 0 3 -> 1", "slate 1 2 -> 1", "undo -> 1", "slate 1 2 -> 0",
            "slate 0 3 -> 1", "undo -> 0", "slate 0 3 -> 0", "undo -> -1", "undo -> -1", "slate 0 2 -> 4");
    Script.of("a MARK that was RUBBED and UNDONE comes back as it was written", text)
        .due("write 1 2 3 -> 1", "rub 1 0 100 -> 1", "undo -> 1", "undo -> 0", "write 1 1 1 -> 1", "slate 1 3 -> 0");
    Script.of("what a text told can't be UNDONE", text).due("undo -> -1", "slate 0 2 -> 4", "count 4 -> 2");
    Script.changesNothing("there is no ACT", new String[] {"load " + text + " -> 0"}, "undo -> -1", 0);
  }

  private static void where() {
    String eight = "slate 0 0 0" + " east 1 west 1".repeat(4) + ";";
    Script.of("k is 0 to MARKS", eight).due("where 0 0 -> 1", "where 0 7 -> 2", "where 0 8 -> 1", "where 0 9 -> NSEE",
        "where 0 -1 -> NSEE", "where 0 MIN -> NSEE", "where 0 MAX -> NSEE");
    Script.of("no MARK", "slate 1 0 0;").due("where 0 0 -> 2", "where 0 1 -> NSEE");
    Script.of("a ROCK where he begins", "rock 1 0;slate 1 0 0 east 1;").due("where 0 0 -> 2", "where 0 1 -> 4");
    Script.of("the last CELL", "sea 8 8;slate 7 7 0 north 1;")
        .due("where 0 0 -> -9223372036854775808", "where 0 1 -> 36028797018963968");
    Script.of("on LAND he is AFLOAT nowhere", "slate 0 0 0 west 1 east 1;").due("where 0 1 -> 0", "where 0 2 -> 0");
    Script.of("WRECKED he is AFLOAT nowhere", "rock 1 0;slate 0 0 0 east 1 east 1;").due("where 0 1 -> 0", "where 0 2 -> 0");
    Script.of("WRECKED by the tide he is AFLOAT nowhere", "rock 1 1;current 1 0 south;slate 0 0 0 east 1;")
        .due("where 0 1 -> 0");
    Script.of("a MARK behind the first k counts for nothing", "slate 0 0 0 east 1 west 9;")
        .due("where 0 1 -> 2", "where 0 2 -> 0");
  }

  private static void whereByRubbedMarks() {
    Script.of("any way, 1 STEP at least", "sea 8 8;slate 0 0 1 west 9;")
        .due("rub 0 0 100 -> 1", "where 0 0 -> 1", "where 0 1 -> 72340172838076926");
    Script.of("any way, from the last CELL", "sea 8 8;slate 7 7 1 east 9;")
        .due("rub 0 0 100 -> 1", "where 0 1 -> 9187484529235886208");
    Script.of("any way, from the middle", "sea 3 3;slate 1 1 1 east 9;").due("rub 0 0 100 -> 1", "where 0 1 -> 170");
    Script.of("driven each way", "sea 3 3;current 1 0 north;current 0 1 north;current 1 2 east;current 2 1 south;slate 1 1 0 east 1;")
        .due("rub 0 0 100 -> 1", "where 0 1 -> 259");
    StringBuilder tides = new StringBuilder("sea 8 2;");
    for (int cell = 1; cell < 8; cell++) {
      tides.append("current ").append(cell).append(" 0 west;");
    }
    // From an odd HOUR he makes the CELLS 1 1 2 2 3 3 4 4 5 by 1 to 9 STEPS, and 8 to the south.
    Script.of("9 STEPS", tides + "slate 0 0 1 west 1;").due("rub 0 0 100 -> 1", "where 0 1 -> 318");
    // From an even one 0 1 1 2 2 3 3 4 4; a tenth STEP would make 5.
    Script.of("not 10 STEPS", tides + "slate 0 0 0 west 1;").due("rub 0 0 100 -> 1", "where 0 1 -> 287");
    Script.of("a ROCK beside him on every side", "sea 3 3;rock 1 0;rock 0 1;slate 0 0 0 east 1;")
        .due("rub 0 0 100 -> 1", "where 0 1 -> 0");
    Script.of("two RUBBED MARKS: back where he began", "sea 2 2;slate 0 0 1 east 1 east 1;")
        .due("rub 0 0 100 -> 2", "where 0 1 -> 6", "where 0 2 -> 9");
    Script.of("8 RUBBED MARKS", "sea 2 2;slate 0 0 1" + " east 1".repeat(8) + ";")
        .due("rub 0 0 100 -> 8", "where 0 7 -> 6", "where 0 8 -> 9");
    Script.of("the second MARK alone is RUBBED", "sea 3 3;slate 0 0 1 east 1 east 9;")
        .due("rub 0 1 50 -> 1", "slate 0 3 -> 1", "undo -> 0", "rub 0 -1 20 -> 1", "slate 0 3 -> 2", "where 0 1 -> 2",
            "where 0 2 -> 149");
  }
}
