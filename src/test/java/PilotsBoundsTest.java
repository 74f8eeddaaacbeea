/** The bounds of part 3: a PILOT's 60 HOURS, THE GOAL, what he knows, STUDY, exams, a DIVE, THE CHART. */
public final class PilotsBoundsTest {
  public static void main(String[] args) {
    hours();
    goal();
    withoutWay();
    whatHeKnows();
    slatesAsBits();
    exam();
    reachFromTheSchool();
    reachFromAnEnd();
    rowOfEight();
    studyOfNone();
    whatIsKept();
    dive();
    diveOfLikeOnes();
    chart();
    Script.end("bounds of pilots");
  }

  private static void hours() {
    Script.of("AFLOAT behind 60 HOURS", "pilot 0 0 0;pilot 0 0 99;").due("sails 0 0 * -> 0 0 60", "sails 1 0 * -> 0 0 159");
    Script.of("THROUGH in the 60th HOUR", "pilot 4 0 0;rule hour = 59 go east;").due("sails 0 0 * -> 4 5 60", "exam -> 1");
    Script.of("not in a 61st", "pilot 4 0 0;rule hour = 60 go east;").due("sails 0 0 * -> 0 4 60", "exam -> 0");
    Script.of("a STEP in the 60th HOUR", "pilot 0 0 0;rule hour = 59 go east;").due("sails 0 0 * -> 0 1 60");
    Script.of("on LAND in the 60th HOUR", "pilot 4 0 0;rule hour = 59 go north;").due("sails 0 0 * -> 3 4 59");
    Script.of("not in a 61st", "pilot 4 0 0;rule hour = 60 go north;").due("sails 0 0 * -> 0 4 60");
    Script.of("WRECKED in the 60th HOUR", "rock 4 0;pilot 3 0 0;rule hour = 59 go east;").due("sails 0 0 * -> 1 4 59");
    Script.of("not in a 61st", "rock 4 0;pilot 3 0 0;rule hour = 60 go east;").due("sails 0 0 * -> 0 3 60");
    String tide = "rock 4 1;current 4 0 south;pilot 3 0 ";
    Script.of("WRECKED by the tide in the 60th HOUR", tide + "1;rule hour = 60 go east;").due("sails 0 0 * -> 2 10 60");
    Script.of("not in a 61st", tide + "0;rule hour = 60 go east;").due("sails 0 0 * -> 0 3 60");
    Script.of("60 HOURS from 99 on", "pilot 4 0 99;pilot 4 0 98;rule hour = 158 go east;")
        .due("sails 0 0 * -> 4 5 159", "sails 1 0 * -> 0 4 158");
  }

  private static void goal() {
    Script.of("x is THE GOAL at first", "pilot 5 0 9;").due("sails 0 0 * -> 4 5 9");
    Script.of("x is more at first", "goal 4;pilot 5 0 9;").due("sails 0 0 * -> 4 5 9");
    Script.of("x is one less at first", "pilot 4 0 9;").due("sails 0 0 * -> 0 4 69");
    Script.of("THE GOAL 0: every PILOT at first", "goal 0;pilot 0 0 9;rule 1 go west;").due("sails 0 0 * -> 4 0 9");
    Script.of("THE GOAL 7 in the last column", "sea 8 2;goal 7;pilot 6 1 1;rule 1 go east;").due("sails 0 0 * -> 4 15 2");
    Script.of("THE GOAL beyond the last column", "sea 7 2;goal 7;pilot 6 1 1;rule 1 go east;").due("sails 0 0 * -> 3 13 1");
    Script.of("THROUGH at first, though a RULE would wreck him", "rock 5 1;pilot 5 0 0;rule 1 go south;")
        .due("sails 0 0 * -> 4 5 0");
    Script.of("THROUGH at first on a ROCK", "rock 5 0;pilot 5 0 0;").due("sails 0 0 * -> 4 5 0");
    Script.of("a ROCK in THE GOAL's column", "rock 5 0;pilot 4 0 1;rule 1 go east;").due("sails 0 0 * -> 1 5 1");
    Script.of("a ROCK there by the tide", "rock 5 0;current 4 0 east;pilot 3 0 0;rule 1 go east;")
        .due("sails 0 0 * -> 2 5 0");
    Script.of("by the tide THROUGH", "current 4 0 east;pilot 3 0 0;rule 1 go east;").due("sails 0 0 * -> 4 5 1");
    Script.of("behind a STEP that the tide took back he is not", "current 5 0 west;pilot 4 0 0;rule hour = 0 go east;")
        .due("sails 0 0 * -> 0 4 60");
    Script.of("on LAND ahead of THE GOAL", "pilot 4 0 3;rule 1 go north;").due("sails 0 0 * -> 3 4 3");
  }

  private static void withoutWay() {
    Script.of("no RULE holds: he stays", "pilot 1 1 1;rule 0 go east;").due("sails 0 0 * -> 0 7 61");
    Script.of("a CURRENT drives him in an even HOUR", "current 4 0 east;pilot 4 0 0;").due("sails 0 0 * -> 4 5 1");
    Script.of("an odd HOUR ahead of it", "current 4 0 east;pilot 4 0 1;").due("sails 0 0 * -> 4 5 3");
    Script.of("on a ROCK", "rock 4 1;current 4 0 south;pilot 4 0 1;").due("sails 0 0 * -> 2 10 2");
    Script.of("no CELL that way: no LAND", "current 4 0 north;pilot 4 0 0;").due("sails 0 0 * -> 0 4 60");
    Script.of("a ROCK in the CELL where he begins is none to him there", "rock 1 1;pilot 1 1 0;").due("sails 0 0 * -> 0 7 60");
    Script.of("coming on it later he is WRECKED", "rock 1 1;pilot 1 1 0;rule hour = 0 go east;rule hour = 1 go west;")
        .due("sails 0 0 * -> 1 7 1");
    Script.of("the first RULE whose EXPR holds", "pilot 1 1 0;rule 0 go west;rule hour < 2 go north;rule 1 go south;")
        .due("sails 0 0 * -> 3 1 1");
  }

  private static final String ONE_ROCK = "sea 8 8;rock 2 0;goal 7;pilot 0 0 0;rule east go south;rule 1 go east;";

  private static void whatHeKnows() {
    Script.of("WRECKED by hand", ONE_ROCK + "slate 1 0 1 east 1;").due("sails 0 0 0 -> 1", "sails 0 1 0 -> 4");
    Script.of("WRECKED by the tide", ONE_ROCK + "current 3 0 west;slate 3 1 0 north 1;")
        .due("voyage 0 0 -> 2", "sails 0 0 0 -> 1", "sails 0 1 0 -> 4");
    Script.of("AFLOAT beside it", ONE_ROCK + "slate 0 0 1 east 1;").due("sails 0 1 0 -> 1");
    Script.of("on LAND beside it", ONE_ROCK + "slate 1 0 1 north 1;").due("voyage 0 0 -> 3", "sails 0 1 0 -> 1");
    Script.of("begun on it", ONE_ROCK + "slate 2 0 1;").due("voyage 0 0 -> 0", "sails 0 1 0 -> 1");
    Script.of("a MARK that is written teaches, and no more when UNDONE", ONE_ROCK + "slate 0 0 1 east 1;")
        .due("write 0 1 1 -> 2", "sails 0 1 0 -> 4", "undo -> 0", "sails 0 1 0 -> 1");
    Script.of("a RUBBED one teaches all the same", ONE_ROCK + "slate 1 0 1 east 1;").due("rub 0 0 100 -> 1", "sails 0 1 0 -> 4");
  }

  private static void slatesAsBits() {
    Script.of("no SLATE: bits 0 alone", "pilot 0 0 0;")
        .due("sails 0 0 0 -> 0", "sails 0 1 0 -> IAE", "sails 0 -1 0 -> IAE", "sails 0 MIN 0 -> IAE", "sails 0 MAX 0 -> IAE");
    Script.of("one SLATE: 0 and 1", "pilot 0 0 0;slate 0 0 0;").due("sails 0 1 0 -> 0", "sails 0 2 0 -> IAE", "sails 0 3 0 -> IAE");
    Script.of("8 SLATES: 0 to 255", "pilot 0 0 0;" + "slate 0 0 0;".repeat(8))
        .due("sails 0 255 0 -> 0", "sails 0 128 0 -> 0", "sails 0 256 0 -> IAE", "sails 0 257 0 -> IAE", "sails 0 -1 0 -> IAE",
            "sails 0 MIN 0 -> IAE");
    Script.of("the 8th SLATE's bit", ONE_ROCK + "slate 0 7 1;".repeat(7) + "slate 1 0 1 east 1;")
        .due("sails 0 127 0 -> 1", "sails 0 128 0 -> 4");
    Script.of("IllegalArgumentException behind that", "pilot 0 0 0;")
        .due("sails 1 1 0 -> NSEE", "sails -1 1 0 -> NSEE", "sails 0 1 3 -> NSEE", "sails 0 1 -1 -> NSEE",
            "sails 0 1 2 -> IAE");
  }

  private static void exam() {
    Script.of("no PILOT", "goal 0;").due("exam -> 0");
    Script.of("4 PILOTS THROUGH", "goal 0;" + "pilot 0 0 0;".repeat(4)).due("exam -> 15");
    Script.of("none THROUGH", "pilot 0 0 0;".repeat(4)).due("exam -> 0");
    Script.of("the 4th alone", "pilot 0 0 0;".repeat(3) + "pilot 5 0 0;").due("exam -> 8");
    String pilots = "rock 2 0;slate 0 0 1 east 2;pilot 0 0 0;pilot 0 0 0 0;rule east go south;rule 1 go east;";
    Script.of("by what they have READ", pilots).due("exam -> 2", "sails 0 1 0 -> 4", "sails 1 0 0 -> 1");
  }

  /** A PILOT who needs one SLATE; it begins at 2 4 and ends, WRECKED, at 2 0. */
  private static void nearSchool(String school, int want) {
    Script.of("THE SCHOOL " + school, ONE_ROCK + "slate 2 4 1 north 4;school " + school + ";").due("study 0 -> " + want);
  }

  private static void reachFromTheSchool() {
    nearSchool("5 4 3", 1);
    nearSchool("5 4 2", -1);
    nearSchool("2 7 3", 1);
    nearSchool("2 7 2", -1);
    nearSchool("5 7 3", 1);
    nearSchool("5 7 2", -1);
    nearSchool("0 2 2", 1);
    nearSchool("0 2 1", -1);
    nearSchool("2 4 0", 1);
    nearSchool("2 5 0", -1);
    nearSchool("3 4 0", -1);
    nearSchool("7 4 5", 1);
    nearSchool("7 4 4", -1);
    nearSchool("7 7 9", 1);
    // from where a VOYAGE ends, not where this one does
    nearSchool("2 0 0", -1);
    Script.of("without 'school': CELL 0, REACH 2", ONE_ROCK + "slate 2 2 1 north 2;").due("study 0 -> 1");
    Script.of("without 'school': one farther", ONE_ROCK + "slate 2 3 1 north 3;").due("study 0 -> -1");
    Script.of("REACH 7 from corner to corner", "sea 8 8;rock 6 7;goal 7;pilot 0 7 1;school 0 0 7;slate 7 7 1 west 1;"
        + "rule east go north;rule 1 go east;").due("study 0 -> 1");
    Script.of("REACH 6 is not", "sea 8 8;rock 6 7;goal 7;pilot 0 7 1;school 0 0 6;slate 7 7 1 west 1;"
        + "rule east go north;rule 1 go east;").due("study 0 -> -1");
  }

  private static void reachFromAnEnd() {
    String chain = ONE_ROCK + "slate 2 4 1 north 4;school 7 7 ";
    Script.of("from where one ahead ended AFLOAT", chain + "2;slate 7 7 1 west 3;").due("study 0 -> -1");
    Script.of("from where one ahead ended AFLOAT, near enough", chain + "3;slate 7 7 1 west 3;")
        .due("study 0 -> 2", "studied * -> 1 0");
    Script.of("from where one ahead ended on LAND", chain + "2;slate 7 7 1 west 5 south 1;")
        .due("voyage 1 * -> 3 58 1 0 6", "study 0 -> -1");
    Script.of("from where one ahead ended on LAND, near enough", chain + "3;slate 7 7 1 west 5 south 1;")
        .due("study 0 -> 2", "studied * -> 1 0");
    Script.of("from where one ahead was WRECKED", chain + "2;slate 7 7 1 west 4;rock 3 7;")
        .due("voyage 1 * -> 1 59 0 3 4", "study 0 -> -1");
    Script.of("from where one ahead was WRECKED, near enough", chain + "3;slate 7 7 1 west 4;rock 3 7;")
        .due("study 0 -> 2", "studied * -> 1 0");
    Script.of("a MARK that is written leads elsewhere", chain + "2;slate 7 7 1 north 3 west 3;")
        .due("study 0 -> 2", "write 1 0 9 -> 3", "voyage 1 * -> 3 4 2 4 11", "study 0 -> -1", "undo -> 0", "study 0 -> 2");
    Script.of("not from where one ahead began", chain + "0;slate 7 7 1;slate 2 4 1 east 5 south 3;").due("study 0 -> -1");
    Script.of("not from where one behind in the row ended", chain + "0;slate 2 4 1 south 3 east 5;").due("study 0 -> -1");
    // 1 leads to 0 and 2; 0 leads away, so that 2 comes from the end of 1
    Script.of("from one farther ahead in the row", "sea 8 8;rock 1 0;rock 2 1;goal 7;school 0 7 0;slate 0 0 1 east 1;"
        + "slate 0 7 1 north 7;slate 0 0 1 south 1 east 2;pilot 0 0 0;rule east go south;rule 1 go east;")
        .due("study 0 -> 3", "studied * -> 1 0 2");
  }

  private static final String SEVEN_ROCKS = "sea 8 8;rock 1 0;rock 2 1;rock 3 2;rock 4 3;rock 5 4;rock 6 5;rock 7 6;"
      + "goal 7;school 0 7 1;pilot 0 0 0;rule east go south;rule 1 go east;";

  /** He must know seven ROCKS, and an eighth SLATE leads from THE SCHOOL to those. */
  private static void rowOfEight() {
    StringBuilder onward = new StringBuilder("slate 0 7 1 north 7;");
    StringBuilder backward = new StringBuilder();
    for (int i = 0; i < 7; i++) {
      onward.append("slate ").append(i).append(' ').append(i).append(" 1 east 1;");
      backward.append("slate ").append(6 - i).append(' ').append(6 - i).append(" 1 east 1;");
    }
    backward.append("slate 0 7 1 north 7;");
    Script.of("all 8 SLATES", SEVEN_ROCKS + onward)
        .due("study 0 -> 8", "studied * -> 0 1 2 3 4 5 6 7", "studied 8 -> NSEE", "studied -1 -> NSEE");
    Script.of("all 8 SLATES, the first as a row", SEVEN_ROCKS + backward)
        .due("study 0 -> 8", "studied * -> 7 5 4 3 2 1 0 6", "studied 8 -> NSEE");
    Script.of("7 of 8 SLATES are too few", SEVEN_ROCKS + backward.toString().replace("slate 6 6 1 east 1;", "slate 6 6 1;"))
        .due("study 0 -> -1", "studied 0 -> NSEE");
    Script.of("of as few the first as a row", ONE_ROCK + "slate 7 7 1;slate 1 0 1 east 1;slate 1 0 1 east 1;")
        .due("study 0 -> 1", "studied 0 -> 1", "studied 1 -> NSEE");
    Script.of("another SLATE of the same ROCK, too far", ONE_ROCK + "slate 2 7 1 north 7;slate 1 0 1 east 1;")
        .due("study 0 -> 1", "studied 0 -> 1");
    Script.of("another SLATE of the same ROCK, too far, and one of none", ONE_ROCK
        + "slate 7 7 1;slate 2 7 1 north 7;slate 1 0 1 east 1;").due("study 0 -> 1", "studied 0 -> 2");
    Script.of("another SLATE of the same ROCK, too far, and one of another ROCK", ONE_ROCK
        + "rock 0 7;slate 2 7 1 north 7;slate 0 1 1 south 6;slate 1 0 1 east 1;").due("study 0 -> 1", "studied 0 -> 2");
    Script.of("the ROCK is CELL 0", "rock 0 0;slate 1 0 1 west 1;pilot 0 1 1;rule north and x = 0 go east;"
        + "rule y go north;rule 1 go east;").due("sails 0 0 * -> 1 0 1", "study 0 -> 1", "studied 0 -> 0");
    Script.of("the ROCK is CELL 63", "sea 8 8;rock 7 7;goal 7;school 6 6 0;slate 6 6 1 south 1 east 1;pilot 6 7 1;"
        + "rule east go north;rule 1 go east;").due("sails 0 0 * -> 1 63 1", "study 0 -> 1", "studied 0 -> 0");
    String twoRocks = "sea 8 3;rock 3 0;rock 4 1;goal 7;pilot 0 0 0;rule east go south;rule 1 go east;school 0 0 ";
    Script.of("1 2 is ahead of 2 0, as a row", twoRocks + "1;slate 4 0 1 west 1;slate 0 0 1 east 9;slate 0 0 1 south 1 east 9;")
        .due("study 0 -> 2", "studied * -> 1 2");
    Script.of("0 2 is ahead of 1 2, as a row", twoRocks + "1;slate 0 0 1 east 9;slate 0 0 1 east 9;slate 0 0 1 south 1 east 9;")
        .due("study 0 -> 2", "studied * -> 0 2");
    Script.of("2 1 3 is ahead of 2 3 0, as a row", twoRocks + "0;slate 4 2 1 north 1;slate 7 2 1 west 3 north 1;"
        + "slate 0 0 1 south 2 east 7;slate 7 2 1 north 2 west 4;")
        .due("voyage 0 * -> 1 12 0 0 1", "voyage 1 * -> 1 12 1 0 4", "voyage 3 * -> 1 3 1 3 6", "study 0 -> 3", "studied * -> 2 1 3");
    Script.of("the fewest, though longer rows are ahead", "sea 8 8;rock 2 0;goal 7;pilot 0 0 0;rule east go south;"
        + "rule 1 go east;slate 0 0 1;slate 0 0 1;slate 1 0 1 east 1;").due("study 0 -> 1", "studied 0 -> 2");
  }

  private static void studyOfNone() {
    Script.of("no SLATE is there, and none is needed", "pilot 5 0 0;").due("study 0 -> 0", "studied 0 -> NSEE");
    Script.of("no SLATE is there, and he is not THROUGH", "pilot 0 0 0;").due("study 0 -> -1", "studied 0 -> NSEE");
    Script.of("SLATES are there, none is needed", "slate 0 0 0;pilot 5 0 0;").due("study 0 -> 0", "studied 0 -> NSEE");
    Script.of("as if he had READ none", "rock 2 0;slate 0 0 1 east 2;pilot 0 0 0 0;rule east go south;rule 1 go east;")
        .due("exam -> 1", "study 0 -> 1", "studied 0 -> 0");
    Script.of("knowing a ROCK does harm: 0 SLATES are the fewest",
        "sea 6 2;rock 2 0;slate 1 0 1 east 1;pilot 0 0 0;rule east and x = 1 go west;rule x = 1 and y = 0 go south;"
            + "rule 1 go east;").due("study 0 -> 0", "sails 0 1 0 -> 0");
  }

  private static void whatIsKept() {
    String sea = "rock 2 0;slate 0 0 1 east 2;pilot 0 0 0;pilot 0 5 0;pilot 5 5 0;rule y = 5 go south;rule east go south;"
        + "rule 1 go east;";
    new Script("none is kept in a new object").due("studied 0 -> NSEE");
    Script.of("none is kept at first", sea).due("studied 0 -> NSEE");
    Script.of("where none is found, what is kept stays", sea)
        .due("study 0 -> 1", "studied 0 -> 0", "study 1 -> -1", "studied 0 -> 0", "studied 1 -> NSEE");
    Script.of("a STUDY of none SLATES is kept in its place", sea).due("study 0 -> 1", "study 2 -> 0", "studied 0 -> NSEE");
    Script.of("it stays, whatever is written, UNDONE, restored", sea)
        .due("study 0 -> 1", "write 0 1 1 -> 2", "rub 0 0 100 -> 2", "studied 0 -> 0", "undo -> 1", "image -> done",
            "restore -> true", "studied 0 -> 0");
    Script.of("a text with a FAULT leaves it, one without does not", sea)
        .due("study 0 -> 1", "load chalk -> 1", "studied 0 -> 0", "load " + sea + " -> 0", "studied 0 -> NSEE");
    Script.of("a call that is refused leaves it", sea)
        .due("study 0 -> 1", "study 3 -> NSEE", "study -1 -> NSEE", "studied 0 -> 0", "studied 1 -> NSEE",
            "studied -1 -> NSEE", "studied MIN -> NSEE", "studied MAX -> NSEE", "studied 0 -> 0");
  }

  private static void dive() {
    String one = "sea 8 8;rock 7 7;slate 7 6 1 south 1;";
    Script.of("REACH 0 to 7, no farther than that", one)
        .due("dive 0 * -> 63 1", "dive 1 * -> 54 1", "dive 2 * -> 45 1", "dive 3 * -> 36 1", "dive 4 * -> 27 1",
            "dive 5 * -> 18 1", "dive 6 * -> 9 1", "dive 7 * -> 0 1");
    Script.of("REACH -1 and 8", one).due("dive -1 * -> IAE IAE", "dive 8 * -> IAE IAE", "dive MIN 0 -> IAE", "dive MAX 0 -> IAE");
    Script.of("IllegalArgumentException behind that", one)
        .due("dive 8 2 -> NSEE", "dive -1 -1 -> NSEE", "dive 0 2 -> NSEE", "dive 0 -1 -> NSEE", "dive 0 MIN -> NSEE",
            "dive 0 MAX -> NSEE");
    Script.of("no SLATE", "sea 8 8;").due("dive 0 * -> 0 0", "dive 7 * -> 0 0");
    Script.of("none WRECKED", "slate 3 3 1 north 9;slate 3 3 1;").due("dive 0 * -> 0 0", "dive 7 * -> 0 0");
    Script.of("the greater of both ways", "sea 8 8;rock 7 1;slate 7 2 1 north 1;").due("dive 1 * -> 6 1", "dive 6 * -> 1 1");
    Script.of("the greater of both ways", "sea 8 8;rock 1 7;slate 2 7 1 west 1;").due("dive 1 * -> 48 1", "dive 6 * -> 8 1");
  }

  private static void diveOfLikeOnes() {
    Script.of("by hand, by the tide; not on LAND, AFLOAT", "rock 2 0;rock 2 5;current 2 4 south;slate 1 0 1 east 1;"
        + "slate 1 4 0 east 1;slate 5 5 1 east 1;slate 5 5 1 east 2;slate 5 4 1;")
        .due("voyage 1 0 -> 2", "dive 0 * -> 2 1", "dive 2 * -> 0 1", "dive 3 * -> 12 2");
    Script.of("the most, not the first", "rock 0 0;rock 5 5;slate 1 0 1 west 1;slate 4 5 1 east 1;slate 5 4 1 south 1;")
        .due("dive 0 * -> 35 2", "dive 4 * -> 7 3", "dive 5 * -> 0 3");
    Script.of("all 8 SLATES", "rock 5 5;" + "slate 4 5 1 east 1;".repeat(8)).due("dive 0 * -> 35 8", "dive 4 * -> 7 8");
  }

  private static void chart() {
    Script.of("no SLATE", "sea 2 2;rock 0 0;").due("chart * -> 0 0 15");
    Script.of("the CELL where he begins", "sea 2 2;slate 1 1 0;").due("chart * -> 8 0 7");
    Script.of("on LAND", "sea 2 2;slate 1 1 0 east 1;").due("chart * -> 8 0 7");
    Script.of("WRECKED by hand", "sea 2 2;rock 1 0;slate 0 0 1 east 1;").due("chart * -> 1 2 12");
    Script.of("WRECKED by the tide", "sea 2 2;rock 1 1;current 1 0 south;slate 0 0 0 east 1;").due("chart * -> 3 8 4");
    Script.of("a ROCK where he begins", "sea 2 2;rock 0 0;slate 0 0 1 east 1;").due("chart * -> 3 0 12");
    Script.of("a ROCK on which none was WRECKED is one of the others", "sea 2 2;rock 1 1;slate 0 0 1 east 1;")
        .due("chart * -> 3 0 12");
    Script.of("no CELL is left", "sea 2 2;rock 0 1;slate 0 0 1 east 1 south 1 west 1;").due("chart * -> 11 4 0");
    Script.of("8 by 8: the last CELL is bit 63", "sea 8 8;rock 7 7;slate 7 6 1 south 1;")
        .due("chart * -> 36028797018963968 -9223372036854775808 9187343239835811839");
    Script.of("another what", "sea 2 2;").due("chart -1 -> NSEE", "chart 3 -> NSEE", "chart MIN -> NSEE", "chart MAX -> NSEE");
  }
}
