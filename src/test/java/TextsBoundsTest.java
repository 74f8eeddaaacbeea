/** The bounds of a TEXT: its bytes, TOKENS, LINES and EXPRS, what a VALUE is worth, each FAULT and its place. */
public final class TextsBoundsTest {
  public static void main(String[] args) {
    length();
    words();
    numbers();
    everyByte();
    everyByteInAnExpr();
    lines();
    parts();
    wrapping();
    tests();
    values();
    valuesOfWays();
    firstFault();
    leastFault();
    fault1();
    fault2();
    fault3();
    fault4();
    fault5();
    Script.end("bounds of texts");
  }

  private static void length() {
    String whole = "rock 1 1;" + " ".repeat(682) + "rock 2 2;";
    Script.of("a TEXT of 700 bytes", whole).due("count 2 -> 2");
    Script.of("a TEXT of 700 bytes without a blank", "rule " + "1+".repeat(342) + "10 go west;").due("count 7 -> 1");
    new Script("700 bytes, the last not read").due("text " + whole + " -> 700", "sea 699 -> 1", "fault -> 699");
    new Script("more than 700 bytes never come").due("text " + whole + " -> 700", "feed 0 0 0 0 0 -> -1",
        "count 12 -> 700", "sea 701 -> IAE", "sea 700 -> 0", "count 2 -> 2");
    new Script("n ends within a TOKEN").due("text rock 1 1; -> 20", "sea 3 -> 1", "fault -> 0");
    new Script("n ends within a NUMBER").due("text goal 12; -> 20", "sea 6 -> 1", "fault -> 6");
    new Script("n ends within a word of an EXPR").due("text rule hours go west; -> 20", "sea 9 -> 1", "fault -> 9");
    new Script("n ends behind a LINE").due("text rock 1 1;chalk -> 20", "sea 9 -> 0", "count 2 -> 1");
    new Script("n is 0").due("text chalk -> 20", "sea 0 -> 0", "fault -> -1");
  }

  private static void words() {
    Script.fault("the longest row: 'rocks'", 1, "|rocks 1 1;");
    Script.fault("the longest row: 'rockrock'", 1, "|rockrock 1 1;");
    Script.fault("a word too short", 1, "|roc 1 1;");
    Script.fault("words are a .. z", 1, "|Rock 1 1;");
    Script.fault("words are a .. z", 1, "|ROCK 1 1;");
    Script.of("a word ends at a NUMBER", "rock1 1;current1 1east;slate1 1 1east1west1;rule(x)go west;")
        .due("count 2 -> 1", "slate 0 2 -> 2");
    Script.of("a NUMBER ends at a word", "rule 1or 1and 1go west;").due("count 7 -> 1");
    Script.fault("a VALUE is a whole word", 3, "rule |xx go east;");
    Script.fault("'goeast' is one word", 1, "rule 1 |goeast;");
    Script.fault("'notx' is one word", 3, "rule |notx go east;");
    Script.fault("a very long word", 1, "|" + "r".repeat(700));
    Script.fault("a word that begins as one and goes on", 1, "|seas 3 3;");
  }

  private static void numbers() {
    Script.of("1 digit", "rock 1 1;").due("cell 7 0 -> 1");
    Script.of("4 digits", "rock 0001 0001;").due("cell 7 0 -> 1");
    Script.fault("5 digits", 2, "rock |00001 1;");
    Script.fault("5 digits of a Y", 2, "rock 1 |00001;");
    Script.fault("very many digits", 2, "rock |" + "0".repeat(600) + " 1;");
    Script.fault("digits that would wrap to 1", 2, "rock |4294967297 1;");
    Script.of("9999 in an EXPR", "rule 9999 go west;").due("count 7 -> 1");
    Script.fault("10000 in an EXPR", 2, "rule |10000 go west;");
    Script.fault("00000 in an EXPR", 2, "rule |00000 go west;");
    Script.fault("5 digits where no NUMBER can stand", 1, "rock 1 1 |00001;");
    Script.fault("5 digits where a LINE begins", 1, "|10000;");
    String[] fives = {"sea |00006 6;", "sea 6 |00006;", "current |00001 1 east;", "slate 1 1 |00001;",
        "slate 1 1 1 east |00001;", "hand |00003 3 3 3;", "hand 3 3 3 |00003;", "school 1 1 |00001;", "goal |00001;",
        "pilot 1 1 |00001;", "slate 1 1 1;pilot 1 1 1 |00000;"};
    for (String text : fives) {
      Script.fault("5 digits", 2, text);
    }
  }

  private static boolean isLetter(int b) {
    return b >= 'a' && b <= 'z';
  }

  private static boolean isDigit(int b) {
    return b >= '0' && b <= '9';
  }

  /** Each byte behind a LINE's last NUMBER: what is a TOKEN, what a blank, what none. */
  private static void everyByte() {
    for (int b = 0; b < 256; b++) {
      String name = "byte " + b + " behind a NUMBER";
      if (b == 32 || b == 10) {
        Script.of(name, "rock 1 1" + (char) b + ";").due("count 2 -> 1");
      } else if (b == ';') {
        Script.fault(name, 1, "rock 1 1;|;");
      } else if (isDigit(b)) {
        Script.fault(name, 2, "rock 1 |1" + (char) b + ";");
      } else {
        Script.fault(name, 1, "rock 1 1|" + (char) b + ";");
      }
    }
  }

  private static void everyByteInAnExpr() {
    for (int b = 0; b < 256; b++) {
      String name = "byte " + b + " in an EXPR";
      if ("+-*/<=".indexOf(b) >= 0 || isDigit(b)) {
        Script.of(name, "rule 1" + (char) b + "1 go east;").due("count 7 -> 1");
      } else if (b == 32 || b == 10) {
        Script.fault(name, 1, "rule 1" + (char) b + "|1 go east;");
      } else {
        Script.fault(name, 1, "rule 1|" + (char) b + "1 go east;");
      }
      if (b != 32 && b != 10 && !isDigit(b) && !isLetter(b) && b != '(') {
        Script.fault(name + ", where a PART must stand", 1, "rule |" + (char) b + "1 go east;");
      }
    }
  }

  private static void lines() {
    Script.of("no LINE", "").due("count 0 -> 6");
    Script.of("'sea' is the first LINE", " \nsea 3 3;rock 2 2;").due("count 0 -> 3", "cell 8 0 -> 1");
    Script.of("blanks between all TOKENS", "\n sea \n3 3 ; \n rock 2\n2 ;rule ( x ) \ngo west ; ").due("count 7 -> 1");
    Script.fault("a LINE of ';' alone", 1, "|;");
    Script.fault("a LINE without ';'", 1, "rock 1 1 |rock 2 2;");
    Script.fault("a LINE without ';' at the end", 1, "rock 1 1|");
    Script.fault("'rock' with a third NUMBER", 1, "rock 1 1 |1;");
    Script.fault("'hand' with three WEIGHTS", 1, "hand 4 4 4 |;");
    Script.fault("'hand' with five WEIGHTS", 1, "hand 3 3 3 3 |0;");
    Script.fault("'goal' with two NUMBERS", 1, "goal 1 |1;");
    Script.fault("'school' without REACH", 1, "school 1 1 |;");
    Script.fault("'current' without WAY", 1, "current 1 1 |;");
    Script.fault("'current' with two WAYS", 1, "current 1 1 east |east;");
    Script.fault("a MARK without STEPS", 1, "slate 1 1 1 east |;");
    Script.fault("a MARK without a way", 1, "slate 1 1 1 |1;");
    Script.fault("'rule' without EXPR", 3, "rule |go east;");
    Script.fault("'rule' without 'go'", 1, "rule 1 |east;");
    Script.fault("'rule' without WAY", 1, "rule 1 go |;");
    Script.fault("a PILOT's SLATE is a NUMBER", 1, "slate 1 1 1;pilot 1 1 1 |x;");
  }

  /** The rule goes west from the first column in his first HOUR alone: LAND, if the EXPR holds. */
  private static void holds(String sentence, String lines, int y, int hour, String expr, boolean want) {
    String text = "sea 8 8;goal 7;" + lines + "pilot 0 " + y + " " + hour + ";rule " + expr + " go west;";
    Script script = Script.of(sentence + ": " + expr, text);
    int all = (1 << Integer.parseInt(script.ask("count 4"))) - 1;
    boolean got = script.ask("sails 0 " + all + " 0").equals("3")
        && script.ask("sails 0 " + all + " 2").equals(String.valueOf(hour));
    Script.check(got == want, sentence + ": " + expr + (want ? " must hold" : " must not hold"));
  }

  private static void isWorth(String expr, String worth) {
    holds("worth", "", 3, 7, "(" + expr + ") = " + worth, true);
  }

  private static void parts() {
    isWorth("7 - 4 - 2", "1");
    isWorth("24 / 4 / 2", "3");
    isWorth("24 / 4 * 2", "12");
    isWorth("2 + 3 * 4 - 6 / 2", "11");
    isWorth("(2 + 3) * (4 - 6 / 2)", "5");
    isWorth("((((3))))", "3");
    isWorth("0", "0000");
    isWorth("9999", "9998 + 1");
    String deepest = "1 - (1 - (1 - (1 - (1 - (1 - x)))))";
    Script.fault("an EXPR within 6 others", 2, "rule " + "(".repeat(6) + "|x" + ")".repeat(6) + " go east;");
    holds("an EXPR within 5 others", "", 3, 7, deepest + " = 0", true);
    holds("EXPRS side by side are not within one another", "", 3, 7, "(((((1))))) + (((((1))))) + (1) = 3", true);
    holds("six 'not' side by side", "", 3, 7, "not not not not not not 5", true);
    holds("six 'not' side by side", "", 3, 7, "not not not not not not 0", false);
    holds("six 'not', then six in parentheses", "", 3, 7, "not ".repeat(6) + "(" + "not ".repeat(6) + "1)", true);
    holds("six 'not' on both sides of 'and'", "", 3, 7, "not ".repeat(6) + "1 and " + "not ".repeat(6) + "1", true);
    holds("six 'not' on both sides of 'or'", "", 3, 7, "not ".repeat(6) + "0 or " + "not ".repeat(6) + "0", false);
  }

  private static void wrapping() {
    String max = "(4096 * 4096 * 127 + (4096 * 4096 - 1))";
    holds("the greatest int", "", 3, 7, "0 < " + max, true);
    holds("+ wraps", "", 3, 7, max + " + 1 < 0", true);
    holds("- wraps", "", 3, 7, "0 < 0 - " + max + " - 2", true);
    isWorth("0 - " + max + " - 1", "4096 * 4096 * 128");
    holds("* wraps to the least int", "", 3, 7, "4096 * 4096 * 128 < 0", true);
    isWorth("4096 * 4096 * 256", "0");
    isWorth("9999 * 9999 * 9999", "0 - (1027 * 1000 * 1000 + 349 * 1000 + 969)");
    isWorth("8192 * 8192 * 64 + 5", "5");
    isWorth("4096 * 4096 * 128 / (0 - 1)", "4096 * 4096 * 128");
    isWorth("(0 - 7) / 2", "0 - 3");
    isWorth("7 / (0 - 2)", "0 - 3");
    isWorth("(0 - 7) / (0 - 2)", "3");
    isWorth("7 / 8", "0");
    isWorth("(0 - 7) / 8", "0");
    isWorth("7 / 0", "0");
    isWorth("0 / 0", "0");
    isWorth("(0 - 7) / 0", "0");
    isWorth("7 / (3 - 3)", "0");
    isWorth("7 / 0 + 1", "1");
  }

  private static void tests() {
    isWorth("1 < 2", "1");
    isWorth("2 < 2", "0");
    isWorth("3 < 2", "0");
    isWorth("2 = 2", "1");
    isWorth("2 = 3", "0");
    isWorth("0 - 1 < 0", "1");
    isWorth("not 0", "1");
    isWorth("not 2", "0");
    isWorth("not (0 - 2)", "0");
    isWorth("2 and 4", "1");
    isWorth("2 and 0", "0");
    isWorth("0 and 0", "0");
    isWorth("0 - 2 or 0", "1");
    isWorth("0 or 0", "0");
    isWorth("4 or 2", "1");
    holds("what isn't 0 holds", "", 3, 7, "9", true);
    holds("what isn't 0 holds", "", 3, 7, "0 - 1", true);
    holds("what is 0 does not hold", "", 3, 7, "3 - 3", false);
    holds("'and' binds more than 'or'", "", 3, 7, "1 or 0 and 0", true);
    holds("'not' binds less than '='", "", 3, 7, "not 2 = 0", true);
    holds("'not' binds more than 'and'", "", 3, 7, "not 0 and 0", false);
    Script.fault("one test in a NOT", 1, "rule 1 < 2 |< 3 go east;");
    Script.fault("one test in a NOT", 1, "rule 1 = 2 |= 3 go east;");
    Script.fault("one test in a NOT", 1, "rule 1 < 2 |= 3 go east;");
  }

  private static void values() {
    holds("x is 0 in the west", "", 3, 7, "x = 0", true);
    holds("y is 0 in the north", "", 0, 7, "y = 0", true);
    holds("y is 7 in the south", "", 7, 7, "y = 7", true);
    holds("HOUR 0", "", 3, 0, "hour = 0", true);
    holds("HOUR 99", "", 3, 99, "hour = 99", true);
    Script.of("x is 6 at most ahead of THE GOAL", "sea 8 2;goal 7;pilot 6 0 1;rule x = 6 go north;")
        .due("sails 0 0 * -> 3 6 1");
    Script.of("the HOUR behind 99 is 100", "goal 7;pilot 0 0 99;rule hour = 100 go north;").due("sails 0 0 * -> 3 0 100");
    holds("tide in an even HOUR", "current 0 3 north;", 3, 0, "tide = 1", true);
    holds("tide in an even HOUR, the last", "current 0 3 north;", 3, 98, "tide = 1", true);
    holds("tide in an odd HOUR", "current 0 3 north;", 3, 1, "tide = 0", true);
    holds("tide in an odd HOUR, the last", "current 0 3 north;", 3, 99, "tide = 0", true);
    holds("tide without a CURRENT", "", 3, 0, "tide = 0", true);
    holds("tide, where the CURRENT has no CELL in the west", "current 0 3 west;", 3, 0, "tide = 0", true);
    holds("tide, where the CURRENT has no CELL in the north", "current 0 0 north;", 0, 0, "tide = 0", true);
    holds("tide, where the CURRENT has no CELL in the south", "current 0 7 south;", 7, 0, "tide = 0", true);
    Script.of("tide, where the CURRENT has no CELL in the east",
        "sea 3 2;goal 7;current 2 0 east;pilot 2 0 0;rule tide = 0 go north;").due("sails 0 0 * -> 3 2 0");
    holds("tide, where the CURRENT drives on a ROCK", "rock 1 3;current 0 3 east;", 3, 0, "tide = 1", true);
    holds("tide of the CELL next to his", "current 1 3 east;", 3, 0, "tide = 0", true);
  }

  private static final String[] WAYS = {"north", "east", "south", "west"};
  private static final String[] BESIDE = {"1 0", "2 1", "1 2", "0 1"};
  /** Where a slate begins that comes on the rock beside 1 1 by one STEP, and which way. */
  private static final String[] SAILED = {"0 0 1 east 1", "2 0 1 south 1", "2 2 1 west 1", "0 2 1 north 1"};

  /** In the middle of 3 by 3 the rule goes no way that is a ROCK: he is in another CELL, if it holds. */
  private static void inTheMiddle(String sentence, String lines, int slates, String expr, boolean want) {
    String text = "sea 3 3;goal 7;" + lines + "pilot 1 1 1;rule hour = 1 and (" + expr + ") go ";
    for (int way = 0; way < 4; way++) {
      if (!lines.contains("rock " + BESIDE[way])) {
        Script.of(sentence + ": " + expr, text + WAYS[way] + ";")
            .due("sails 0 " + slates + " 1 -> " + (want ? new int[] {1, 5, 7, 3}[way] : 4));
      }
    }
  }

  private static void valuesOfWays() {
    for (int way = 0; way < 4; way++) {
      String rock = "rock " + BESIDE[way] + ";";
      String slate = "slate " + SAILED[way] + ";";
      inTheMiddle("a ROCK that he does not know", rock + slate, 0, WAYS[way] + " = 0", true);
      inTheMiddle("a ROCK that he knows", rock + slate, 1, WAYS[way] + " = 1", true);
      inTheMiddle("a ROCK another way", rock + slate, 1, WAYS[way] + " = " + "north + east + south + west", true);
      inTheMiddle("no ROCK", slate, 1, WAYS[way], false);
    }
    String text = "sea 3 3;goal 7;pilot ";
    String[] edge = {"1 0", "2 1", "1 2", "0 1"};
    String[] landed = {"1", "5", "7", "3"};
    for (int way = 0; way < 4; way++) {
      for (int other = 0; other < 4; other++) {
        Script.of("no CELL that way is 1, the others 0", text + edge[way] + " 1;rule hour = 1 and " + WAYS[other]
            + " go " + WAYS[way] + ";").due("sails 0 0 * -> " + (way == other ? "3 " + landed[way] + " 1"
            : "0 " + landed[way] + " 61"));
      }
    }
    Script.of("a ROCK that he knows, two CELLS off", "sea 3 3;goal 7;rock 1 0;slate 0 0 1 east 1;pilot 1 2 1;"
        + "rule north go south;").due("sails 0 1 0 -> 0");
    Script.of("a ROCK that he knows, beside the CELL that way", "sea 3 3;goal 7;rock 0 0;slate 1 0 1 west 1;"
        + "pilot 1 1 1;rule north or west go east;").due("sails 0 1 1 -> 4");
  }

  private static void firstFault() {
    Script.fault("the first along the text", 2, "rock |6 6;chalk");
    Script.fault("the first along the text", 1, "rock 1 1;|chalk 9;rock 6 6;");
    Script.fault("the first along the text: the X ahead of the Y", 2, "rock |9 9;");
    Script.fault("the first along the text, though a later one is less", 5, "goal 1;|goal 9;;");
    Script.fault("the first along the text, though a later one is less", 4, "rock 1 1;rock 1 |1;;");
    Script.fault("the first along the text, though a later one is less", 3, "rule |up go up;");
    Script.fault("at a TOKEN's first byte", 2, "goal   |1234;");
    Script.fault("at a TOKEN's first byte, blanks ahead of it", 1, " \n |chalk;");
  }

  private static void leastFault() {
    String deep = "rule " + "(".repeat(6);
    Script.fault("2, not 3, of a word that is no VALUE, within 6 others", 2, deep + "|depth" + ")".repeat(6) + " go east;");
    Script.fault("2, not 3, of the seventh 'not'", 2, "rule " + "not ".repeat(6) + "|not x go east;");
    Script.fault("2, not 3, of a SLATE of 5 digits", 2, "pilot 0 0 0 |00000;");
    Script.fault("1, not 2, of a NUMBER that can't stand there", 1, "rock 1 1 |99999;");
    Script.fault("1, not 2, where no EXPR begins within 6 others", 1, deep + "|)" + ")".repeat(6) + " go east;");
    Script.fault("2, not 1, of 5 digits within 6 others", 2, deep + "|12345" + ")".repeat(6) + " go east;");
  }

  private static void fault1() {
    String[] tooSoon = {"rock|", "rock 1|", "rock 1 1|", "sea|", "sea 3|", "sea 3 3|", "current 1 1|", "current 1 1 east|",
        "slate 1 1|", "slate 1 1 1|", "slate 1 1 1 east|", "slate 1 1 1 east 1|", "hand 3 3 3|", "hand 3 3 3 3|",
        "school 1 1|", "school 1 1 1|", "goal|", "goal 1|", "pilot 1 1|", "pilot 1 1 1|", "slate 0 0 0;pilot 1 1 1 0|",
        "rule|", "rule 1|", "rule not|", "rule (|", "rule (1|", "rule (1)|", "rule 1 +|", "rule 1 <|", "rule 1 and|",
        "rule 1 go|", "rule 1 go east|"};
    for (String text : tooSoon) {
      Script.fault("the text's length where it ends too soon", 1, text);
      Script.fault("the text's length, blanks too", 1, text.replace("|", " \n |"));
    }
    Script.fault("a sign that can't begin an EXPR", 1, "rule |- 1 go east;");
    Script.fault("'(' without ')'", 1, "rule (1 |go east;");
    Script.fault("')' without '('", 1, "rule 1 |) go east;");
    Script.fault("an empty parenthesis", 1, "rule (|) go east;");
    Script.fault("a PART behind a PART", 1, "rule 1 |x go east;");
    Script.fault("'not' behind a PART", 1, "rule 1 |not x go east;");
    Script.fault("any word behind a PART", 1, "rule 1 |depth x go east;");
  }

  private static void fault2() {
    String deep = "rule " + "(".repeat(6);
    String back = ")".repeat(6) + " go east;";
    Script.fault("within 6 others: a NUMBER", 2, deep + "|1" + back);
    Script.fault("within 6 others: a VALUE", 2, deep + "|hour" + back);
    Script.fault("within 6 others: 'not'", 2, deep + "|not 1" + back);
    Script.fault("within 6 others: 'and'", 2, deep + "|and" + back);
    Script.fault("within 6 others: a parenthesis", 2, deep + "|(1)" + back);
    Script.fault("within 6 others, behind a sum", 2, "rule 1+(1+(1+(1+(1+(1+(|1)))))) go east;");
    Script.fault("within 6 others, 'not' between them", 2, "rule not(not(not(not(not(not(|1)))))) go east;");
    Script.fault("the seventh 'not' behind 'and'", 2, "rule 1 and " + "not ".repeat(6) + "|not 1 go east;");
    Script.fault("the seventh 'not' in a parenthesis", 2, "rule (" + "not ".repeat(6) + "|not 1) go east;");
    Script.of("within 5 others: six 'not'", "rule " + "(".repeat(5) + "not ".repeat(6) + "x" + ")".repeat(5)
        + " go east;").due("count 7 -> 1");
  }

  private static void fault3() {
    String[] words = {"go", "or", "and", "sea", "rock", "current", "slate", "hand", "school", "goal", "pilot", "rule",
        "depth", "a", "z", "hours", "xy"};
    for (String word : words) {
      Script.fault("a word that is no VALUE begins an EXPR", 3, "rule |" + word + " go east;");
      for (String ahead : new String[] {"1 + ", "1 - ", "1 * ", "1 / ", "1 < ", "1 = ", "1 or ", "1 and ", "not ", "(", "1 or (2 and "}) {
        Script.fault("a word that is no VALUE behind " + ahead, 3, "rule " + ahead + "|" + word + " go east;");
      }
    }
    Script.fault("'not' where a PART must stand", 3, "rule 1 * |not 1 go east;");
    Script.fault("'not' where a PART must stand", 3, "rule 1 = |not 1 go east;");
    Script.of("the last SLATE told ahead", "slate 0 0 0;slate 0 0 0;pilot 0 0 0 1;").due("pilot 0 2 -> 2");
    Script.fault("a SLATE that isn't told", 3, "slate 0 0 0;slate 0 0 0;pilot 0 0 0 |2;");
    Script.fault("a SLATE that is told behind", 3, "slate 0 0 0;pilot 0 0 0 |1;slate 0 0 0;");
    Script.fault("a SLATE, where none is told", 3, "pilot 0 0 0 |0;");
    Script.fault("a SLATE of 4 digits", 3, "slate 0 0 0;pilot 0 0 0 |9999;");
  }

  private static void fault4() {
    Script.fault("the Y of a ROCK that is one", 4, "rock 0 0;rock 0 |0;");
    Script.fault("the Y of a ROCK that is one, the last CELL", 4, "sea 8 8;rock 7 7;rock 7 |7;");
    Script.fault("the Y of a CURRENT in a CELL that has one", 4, "sea 8 8;current 7 7 east;current 7 |7 east;");
    Script.of("a ROCK in the next CELL", "rock 0 0;rock 1 0;rock 0 1;").due("count 2 -> 3");
    Script.of("a CURRENT in the next CELL", "current 0 0 east;current 1 0 east;current 0 1 east;").due("count 3 -> 3");
    Script.fault("a SLATE that is READ already", 4, "slate 0 0 0;pilot 0 0 0 0 |0;");
    Script.fault("a SLATE that is READ already, others between", 4, "slate 0 0 0;slate 0 0 0;pilot 0 0 0 1 0 |1;");
    Script.of("READ by another PILOT", "slate 0 0 0;pilot 0 0 0 0;pilot 0 0 0 0;").due("pilot 1 2 -> 1");
  }

  private static void fault5() {
    Script.fault("'sea' that isn't the first LINE", 5, "rock 1 1;|sea 3 3;");
    Script.fault("a second 'sea'", 5, "sea 3 3;|sea 3 3;");
    Script.fault("'sea' that isn't the first LINE, cut off", 5, "rock 1 1;|sea");
    Script.fault("a second 'school'", 5, "school 0 0 0;|school 0 0 0;");
    Script.fault("a second 'school', cut off", 5, "school 0 0 0;rock 1 1;|school");
    Script.fault("a second 'goal'", 5, "goal 0;|goal 0;");
    Script.fault("a second 'goal', cut off", 5, "goal 0;rock 1 1;|goal");
    Script.of("'school' and 'goal' once each", "goal 0;school 0 0 0;").due("count 10 -> 0", "count 9 -> 0");
    new Script("'goal' and 'school' in another text").due("load goal 1;school 1 1 1; -> 0", "load goal 2;school 2 2 2; -> 0",
        "count 10 -> 2", "count 9 -> 2", "load sea 3 3; -> 0", "load sea 4 4; -> 0", "count 0 -> 4");
  }
}
