/** The bounds under 'Terms': what THE SEA, SLATES, HANDS, PILOTS and RULES may have, and have without a word. */
public final class TermsBoundsTest {
  public static void main(String[] args) {
    seaSize();
    withoutAnyLine();
    cellNumbers();
    rocks();
    currents();
    slates();
    marks();
    hands();
    school();
    goal();
    pilots();
    rules();
    Script.end("bounds of the terms");
  }

  private static void seaSize() {
    Script.of("W 2, the least", "sea 2 3;rock 1 2;").due("count * -> 2 3", "cell 5 0 -> 1", "cell 6 0 -> NSEE");
    Script.of("W 8, the greatest", "sea 8 3;rock 7 2;").due("count * -> 8 3", "cell 23 0 -> 1", "cell 24 0 -> NSEE");
    Script.of("H 2, the least", "sea 3 2;rock 2 1;").due("count * -> 3 2", "cell 5 0 -> 1", "cell 6 0 -> NSEE");
    Script.of("H 8, the greatest", "sea 3 8;rock 2 7;").due("count * -> 3 8", "cell 23 0 -> 1", "cell 24 0 -> NSEE");
    Script.of("2 by 2", "sea 2 2;").due("cell 3 1 -> -1", "cell 4 1 -> NSEE", "chart 2 -> 15");
    Script.of("8 by 8", "sea 8 8;").due("cell 63 1 -> -1", "cell 64 1 -> NSEE", "chart 2 -> -1");
    Script.fault("W 1", 2, "sea |1 3;");
    Script.fault("W 0", 2, "sea |0 3;");
    Script.fault("W 9", 2, "sea |9 3;");
    Script.fault("W 9999", 2, "sea |9999 3;");
    Script.fault("H 1", 2, "sea 3 |1;");
    Script.fault("H 0", 2, "sea 3 |0;");
    Script.fault("H 9", 2, "sea 3 |9;");
    Script.fault("H 9999", 2, "sea 3 |9999;");
  }

  private static void withoutAnyLine() {
    String[] without = {"count * -> 6 6 0 0 0 0 0 0 0 2 5 0 0 0 0", "cell 35 0 -> 0", "cell 36 0 -> NSEE",
        "chart 2 -> 68719476735"};
    new Script("a new object").due("fault -> -1").due(without);
    Script.of("an empty text", "").due(without);
    Script.of("a text of blanks", " \n ").due(without);
    Script.of("6 by 6 without 'sea'", "rock 5 5;").due("cell 35 0 -> 1");
    Script.fault("6 by 6 without 'sea'", 2, "rock |6 5;");
    Script.fault("6 by 6 without 'sea'", 2, "rock 5 |6;");
    Script.of("'sea' alone leaves the others as without", "sea 8 8;").due("count * -> 8 8 0 0 0 0 0 0 0 2 5");
    Script.of("another text: all as without again", "sea 3 3;rock 1 1;current 0 0 east;slate 1 1 1 east 1;"
        + "hand 12 0 0 0;school 1 1 1;goal 1;pilot 1 1 1 0;rule 1 go east;")
        .due("count * -> 3 3 1 1 1 1 1 1 4 1 1").due("sea 0 -> 0").due(without);
  }

  private static void cellNumbers() {
    Script.of("W by y and x, x from west, y from north", "sea 3 2;rock 0 1;current 2 0 west;slate 1 1 0;pilot 2 1 0;"
        + "school 1 0 1;")
        .due("cell 3 0 -> 1", "cell 2 1 -> 3", "slate 0 0 -> 4", "pilot 0 0 -> 5", "count 8 -> 1");
    Script.of("W by y and x, more rows than columns", "sea 2 8;rock 1 7;slate 0 7 0;pilot 1 6 0;")
        .due("cell 15 0 -> 1", "slate 0 0 -> 14", "pilot 0 0 -> 13");
    Script.of("north is y less, south more, west x less, east more",
        "sea 3 3;slate 1 1 1 north 1;slate 1 1 1 east 1;slate 1 1 1 south 1;slate 1 1 1 west 1;")
        .due("voyage 0 1 -> 1", "voyage 1 1 -> 5", "voyage 2 1 -> 7", "voyage 3 1 -> 3");
    Script.of("north and south in a SEA of more columns than rows", "sea 7 3;slate 1 1 1 north 1;slate 1 1 1 south 1;"
        + "current 5 1 north;current 6 1 south;slate 4 1 0 east 1;slate 5 1 1 east 1;slate 5 1 0 east 1;")
        .due("voyage 0 1 -> 1", "voyage 1 1 -> 15", "voyage 2 1 -> 5", "voyage 3 1 -> 13", "voyage 4 1 -> 20",
            "where 0 1 -> 2", "where 1 1 -> 32768", "where 2 1 -> 32", "where 3 1 -> 8192", "where 4 1 -> 1048576");
    Script.of("north and south in a SEA of more rows than columns", "sea 3 7;slate 1 1 1 north 1;slate 1 1 1 south 1;"
        + "current 1 5 north;current 2 5 south;slate 0 5 0 east 1;slate 1 5 0 east 1;")
        .due("voyage 0 1 -> 1", "voyage 1 1 -> 7", "voyage 2 1 -> 13", "voyage 3 1 -> 20", "where 0 1 -> 2", "where 1 1 -> 128",
            "where 2 1 -> 8192", "where 3 1 -> 1048576");
    Script.of("x and y of a PILOT, more columns than rows", "sea 7 3;goal 7;pilot 5 2 1;rule hour = 1 and x = 5 and y = 2 go south;")
        .due("sails 0 0 * -> 3 19 1");
    Script.of("x and y of a PILOT, more rows than columns", "sea 3 7;goal 7;pilot 2 5 1;rule hour = 1 and x = 2 and y = 5 go east;")
        .due("sails 0 0 * -> 3 17 1");
    Script.of("how far it is, more columns than rows", "sea 7 3;rock 6 2;slate 5 2 1 east 1;").due("dive 1 * -> 12 1", "dive 2 * -> 4 1");
    Script.of("how far it is, more rows than columns", "sea 3 7;rock 2 6;slate 1 6 1 east 1;").due("dive 1 * -> 16 1", "dive 2 * -> 12 1");
    Script.fault("a ROCK's X", 2, "sea 3 2;rock |3 0;");
    Script.fault("a ROCK's Y", 2, "sea 3 2;rock 2 |2;");
    Script.fault("a CURRENT's X", 2, "sea 3 2;current |3 0 east;");
    Script.fault("a CURRENT's Y", 2, "sea 3 2;current 2 |2 east;");
    Script.fault("a SLATE's X", 2, "sea 3 2;slate |3 0 0;");
    Script.fault("a SLATE's Y", 2, "sea 3 2;slate 2 |2 0;");
    Script.fault("THE SCHOOL's X", 2, "sea 3 2;school |3 0 0;");
    Script.fault("THE SCHOOL's Y", 2, "sea 3 2;school 2 |2 0;");
    Script.fault("a PILOT's X", 2, "sea 3 2;pilot |3 0 0;");
    Script.fault("a PILOT's Y", 2, "sea 3 2;pilot 2 |2 0;");
    Script.of("the last CELL of each", "sea 3 2;rock 2 1;current 2 1 east;slate 2 1 0;school 2 1 0;pilot 2 1 0;")
        .due("cell 5 0 -> 1", "cell 5 1 -> 1", "slate 0 0 -> 5", "count 8 -> 5", "pilot 0 0 -> 5");
    Script.of("the first CELL of each", "sea 3 2;rock 0 0;current 0 0 east;slate 0 0 0;school 0 0 0;pilot 0 0 0;")
        .due("cell 0 0 -> 1", "cell 0 1 -> 1", "slate 0 0 -> 0", "count 8 -> 0", "pilot 0 0 -> 0");
  }

  private static String rockLines(int n) {
    StringBuilder lines = new StringBuilder();
    for (int i = 0; i < n; i++) {
      lines.append("rock ").append(i % 6).append(' ').append(i / 6).append(';');
    }
    return lines.toString();
  }

  private static void rocks() {
    Script.of("no ROCK", "goal 1;").due("count 2 -> 0");
    Script.of("20 ROCKS", rockLines(20)).due("count 2 -> 20", "cell 19 0 -> 1", "cell 20 0 -> 0");
    Script.fault("the 21st ROCK", 2, rockLines(20) + "|rock 2 3;");
    Script.fault("the 21st ROCK, where one is already", 2, rockLines(20) + "|rock 0 0;");
    Script.fault("the 21st ROCK, cut off", 2, rockLines(20) + "|rock");
  }

  private static void currents() {
    Script.of("the four ways", "current 0 0 north;current 1 0 east;current 2 0 south;current 3 0 west;")
        .due("count 3 -> 4", "cell 0 1 -> 0", "cell 1 1 -> 1", "cell 2 1 -> 2", "cell 3 1 -> 3", "cell 4 1 -> -1");
    Script.fault("of a CELL one", 4, "current 5 5 north;current 5 |5 north;");
    Script.fault("of a CELL one, another way", 4, "current 0 0 north;current 0 |0 south;");
    StringBuilder all = new StringBuilder();
    for (int i = 0; i < 36; i++) {
      all.append("current ").append(i % 6).append(' ').append(i / 6).append(" east;");
    }
    Script.of("a CURRENT in every CELL", all.toString()).due("count 3 -> 36", "cell 35 1 -> 1");
    Script.of("a CURRENT and a ROCK in one CELL", "rock 1 1;current 1 1 east;").due("cell 7 0 -> 1", "cell 7 1 -> 1");
  }

  private static void slates() {
    Script.of("no SLATE", "goal 1;").due("count 4 -> 0", "slate 0 0 -> NSEE", "slate -1 0 -> NSEE");
    Script.of("8 SLATES", "slate 0 0 0;".repeat(7) + "slate 5 5 7;")
        .due("count 4 -> 8", "slate 7 * -> 35 7 0 0", "slate 8 0 -> NSEE");
    Script.fault("the 9th SLATE", 2, "slate 0 0 0;".repeat(8) + "|slate 0 0 0;");
    Script.fault("the 9th SLATE, cut off", 2, "slate 0 0 0;".repeat(8) + "|slate");
    Script.of("HOUR 0", "slate 0 0 0;").due("slate 0 1 -> 0");
    Script.of("HOUR 99", "slate 0 0 99;").due("slate 0 1 -> 99");
    Script.fault("HOUR 100", 2, "slate 0 0 |100;");
    Script.fault("HOUR 9999", 2, "slate 0 0 |9999;");
    Script.of("two SLATES in one CELL", "slate 1 1 1;slate 1 1 1;").due("count 4 -> 2", "slate 1 0 -> 7");
  }

  private static void marks() {
    Script.of("no MARK", "slate 0 0 0;").due("slate 0 2 -> 0", "mark 0 0 0 -> NSEE");
    Script.of("8 MARKS", "slate 0 0 0" + " north 1".repeat(7) + " west 9;")
        .due("slate 0 2 -> 8", "mark 0 7 * -> 3 9", "mark 0 8 0 -> NSEE");
    Script.fault("a 9th MARK", 2, "slate 0 0 0" + " north 1".repeat(8) + " |north 1;");
    Script.fault("a 9th MARK, cut off", 2, "slate 0 0 0" + " north 1".repeat(8) + " |north");
    Script.of("8 MARKS of every SLATE", ("slate0 0 0" + "east1".repeat(8) + ";").repeat(8))
        .due("count 4 -> 8", "slate 7 2 -> 8", "mark 7 7 * -> 1 1");
    Script.of("1 STEP", "slate 0 0 0 south 1;").due("mark 0 0 * -> 2 1");
    Script.of("9 STEPS", "slate 0 0 0 south 9;").due("mark 0 0 * -> 2 9");
    Script.fault("0 STEPS", 2, "slate 0 0 0 south |0;");
    Script.fault("10 STEPS", 2, "slate 0 0 0 south |10;");
    Script.fault("10 STEPS of the 8th MARK", 2, "slate 0 0 0" + " north 1".repeat(7) + " west |10;");
    Script.of("the four ways", "slate 0 0 0 north 1 east 1 south 1 west 1;")
        .due("mark 0 0 0 -> 0", "mark 0 1 0 -> 1", "mark 0 2 0 -> 2", "mark 0 3 0 -> 3");
    String[] others = {"up", "x", "y", "hour", "tide", "go", "not", "northeast", "n"};
    for (String other : others) {
      Script.fault("a fifth way", 1, "slate 0 0 0 |" + other + " 1;");
      Script.fault("a fifth way", 1, "current 0 0 |" + other + ";");
      Script.fault("a fifth way", 1, "rule 1 go |" + other + ";");
    }
  }

  private static void hands() {
    Script.of("no HAND", "slate 0 0 0 east 1 east 1;").due("count 5 -> 0", "hand 0 * -> -1 -1 -1 0");
    Script.of("5 HANDS", "hand 12 0 0 0;".repeat(5)).due("count 5 -> 5");
    Script.of("the fifth HAND", "hand 12 0 0 0;".repeat(4) + "hand 0 12 0 0;slate 0 0 0 north 1 east 1;")
        .due("hand 0 * -> 0 4 1 144");
    Script.fault("the 6th HAND", 2, "hand 12 0 0 0;".repeat(5) + "|hand 12 0 0 0;");
    Script.fault("the 6th HAND, cut off", 2, "hand 12 0 0 0;".repeat(5) + "|hand");
    String[] twelve = {"12 0 0 0", "0 12 0 0", "0 0 12 0", "0 0 0 12", "3 3 3 3", "11 1 0 0", "1 2 4 5"};
    for (String weights : twelve) {
      Script.of("12 together", "hand " + weights + ";").due("count 5 -> 1");
    }
    Script.fault("11 together", 2, "hand 3 3 3 |2;");
    Script.fault("13 together", 2, "hand 3 3 3 |4;");
    Script.fault("11 together, the last is 0", 2, "hand 11 0 0 |0;");
    Script.fault("13 together, the last is 0", 2, "hand 12 1 0 |0;");
    Script.fault("none together", 2, "hand 0 0 0 |0;");
    Script.fault("far too many together", 2, "hand 12 12 12 |12;");
    Script.fault("WEIGHT 13 first", 2, "hand |13 0 0 0;");
    Script.fault("WEIGHT 13 second", 2, "hand 0 |13 0 0;");
    Script.fault("WEIGHT 13 third", 2, "hand 0 0 |13 0;");
    Script.fault("WEIGHT 13 last", 2, "hand 0 0 0 |13;");
  }

  private static void school() {
    Script.of("THE SCHOOL's CELL is 0 without, REACH 2", "goal 1;").due("count 8 -> 0", "count 9 -> 2");
    Script.of("REACH 0", "school 5 5 0;").due("count 8 -> 35", "count 9 -> 0");
    Script.of("REACH 9", "school 5 5 9;").due("count 9 -> 9");
    Script.fault("REACH 10", 2, "school 5 5 |10;");
    Script.fault("REACH 9999", 2, "school 5 5 |9999;");
  }

  private static void goal() {
    Script.of("THE GOAL is 5 without", "sea 8 8;").due("count 10 -> 5");
    Script.of("THE GOAL 0", "goal 0;").due("count 10 -> 0");
    Script.of("THE GOAL 7", "goal 7;").due("count 10 -> 7");
    Script.of("THE GOAL 7 of a SEA that has no such column", "sea 2 2;goal 7;").due("count 10 -> 7");
    Script.fault("THE GOAL 8", 2, "goal |8;");
    Script.fault("THE GOAL 8 in the widest SEA", 2, "sea 8 8;goal |8;");
    Script.fault("THE GOAL 9999", 2, "goal |9999;");
  }

  private static void pilots() {
    Script.of("no PILOT", "goal 1;").due("count 6 -> 0", "pilot 0 0 -> NSEE", "pilot -1 0 -> NSEE", "exam -> 0");
    Script.of("4 PILOTS", "pilot 0 0 0;".repeat(3) + "pilot 5 5 7;")
        .due("count 6 -> 4", "pilot 3 * -> 35 7 0", "pilot 4 0 -> NSEE");
    Script.fault("the 5th PILOT", 2, "pilot 0 0 0;".repeat(4) + "|pilot 0 0 0;");
    Script.fault("the 5th PILOT, cut off", 2, "pilot 0 0 0;".repeat(4) + "|pilot");
    Script.of("HOUR 0", "pilot 0 0 0;").due("pilot 0 1 -> 0");
    Script.of("HOUR 99", "pilot 0 0 99;").due("pilot 0 1 -> 99");
    Script.fault("HOUR 100", 2, "pilot 0 0 |100;");
    Script.fault("HOUR 9999", 2, "pilot 0 0 |9999;");
    String eight = "slate 0 0 0;".repeat(8);
    Script.of("no SLATE READ", eight + "pilot 0 0 0;").due("pilot 0 2 -> 0");
    Script.of("all SLATES READ", eight + "pilot 0 0 0 0 1 2 3 4 5 6 7;").due("pilot 0 2 -> 255");
    Script.of("the last SLATE READ", eight + "pilot 0 0 0 7;").due("pilot 0 2 -> 128");
    Script.fault("SLATE 8 can't be told", 3, eight + "pilot 0 0 0 |8;");
  }

  private static void rules() {
    Script.of("no RULE", "pilot 0 0 0;").due("count 7 -> 0", "sails 0 0 * -> 0 0 60");
    Script.of("8 RULES, the last holds", "pilot 0 0 0;" + "rule 0 go east;".repeat(7) + "rule 1 go north;")
        .due("count 7 -> 8", "sails 0 0 * -> 3 0 0");
    Script.of("8 RULES, none holds", "pilot 0 0 0;" + "rule 0 go north;".repeat(8)).due("sails 0 0 * -> 0 0 60");
    Script.fault("the 9th RULE", 2, "rule 0 go east;".repeat(8) + "|rule 0 go east;");
    Script.fault("the 9th RULE, cut off", 2, "rule 0 go east;".repeat(8) + "|rule");
  }
}
