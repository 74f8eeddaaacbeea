import java.util.Arrays;
import java.util.NoSuchElementException;

/** Chalk of the dead reckoners. What every call promises stands in the project's document. */
public final class DrownedSlates {
  public static final int NONE = -1;

  private static final int TAPE = 700;
  private static final int MOST_CELLS = 64;
  private static final int MOST_ROCKS = 20;
  private static final int MOST_SLATES = 8;
  private static final int MOST_MARKS = 8;
  private static final int MOST_STEPS = 9;
  private static final int MOST_HANDS = 5;
  private static final int MOST_PILOTS = 4;
  private static final int MOST_RULES = 8;
  private static final int MOST_ACTS = 30;
  private static final int MOST_HOURS = 60;
  private static final int MOST_NOTS = 6;
  private static final int MOST_EXPRS = 6;
  private static final int LAST_HOUR = 99;
  private static final int LAST_REACH = 9;
  private static final int LAST_DIVE = 7;
  private static final int LAST_GOAL = 7;
  private static final int LAST_NUMBER = 9999;
  private static final int ALL_WEIGHTS = 12;
  private static final int WAYS = 4;

  private static final int AFLOAT = 0;
  private static final int BY_HAND = 1;
  private static final int BY_TIDE = 2;
  private static final int ON_LAND = 3;
  private static final int THROUGH = 4;

  private static final int CANNOT_STAND = 1;
  private static final int TOO_MUCH = 2;
  private static final int NOT_TOLD = 3;
  private static final int TWICE = 4;
  private static final int MISPLACED = 5;

  private static final int END = 0;
  private static final int STRANGE = 1;
  private static final int NUMBER = 2;
  private static final int WORD = 3;
  private static final int SIGN = 4;
  /** Above every number that a text may hold, so that each range refuses it. */
  private static final int TOO_LONG = Integer.MAX_VALUE;

  // The ways come first: such a word's number is the way, and with the next four the VALUE.
  private static final int NORTH = 0;
  private static final int EAST = 1;
  private static final int SOUTH = 2;
  private static final int WEST = 3;
  private static final int X = 4;
  private static final int Y = 5;
  private static final int HOUR = 6;
  private static final int TIDE = 7;
  private static final int VALUES = 8;
  private static final int OR = 8;
  private static final int AND = 9;
  private static final int NOT = 10;
  private static final int GO = 11;
  private static final int SEA = 12;
  private static final int ROCK = 13;
  private static final int CURRENT = 14;
  private static final int SLATE = 15;
  private static final int HAND = 16;
  private static final int SCHOOL = 17;
  private static final int GOAL = 18;
  private static final int PILOT = 19;
  private static final int RULE = 20;
  /** The words in the order of their numbers; any other word has the next number. */
  private static final String SPELLINGS =
      "north east south west x y hour tide or and not go sea rock current slate hand school goal pilot rule ";

  private final byte[] tape = new byte[TAPE];
  private int tapeLength = 0;
  private int faultPlace = NONE;
  private int refusedTexts = 0;
  private int refusedMarks = 0;
  private Waters waters = new Waters();
  private Chalk chalk = new Chalk();
  // A text is read into these, so that a FAULT leaves what stands untouched.
  private Waters nextWaters = new Waters();
  private Chalk nextChalk = new Chalk();
  private final Chalk imaged = new Chalk();
  private boolean hasImage = false;
  private final Lines lines = new Lines(tape);
  private final Ship ship = new Ship();
  private final Fog fog = new Fog();
  private final Helm helm = new Helm();
  private final Desk desk = new Desk();
  private final Hands hands = new Hands();
  private final Likeness likeness = new Likeness();

  public DrownedSlates() {
  }

  public int feed(int a, int b, int c, int d, int e) {
    if (tapeLength > TAPE - 20) {
      return NONE;
    }
    putNumber(a);
    putNumber(b);
    putNumber(c);
    putNumber(d);
    putNumber(e);
    return tapeLength;
  }

  private void putNumber(int number) {
    for (int shift = 24; shift >= 0 && tapeLength < TAPE; shift -= 8) {
      tape[tapeLength] = (byte) (number >> shift);
      tapeLength++;
    }
  }

  public int sea(int n) throws IllegalArgumentException {
    if (n < 0 || n > tapeLength) {
      throw new IllegalArgumentException("the tape has not so many bytes");
    }
    tapeLength = 0;
    if (!lines.read(n, nextWaters, nextChalk)) {
      faultPlace = lines.faultPlace;
      refusedTexts++;
      return lines.fault;
    }
    takeNext();
    return 0;
  }

  private void takeNext() {
    Waters oldWaters = waters;
    Chalk oldChalk = chalk;
    waters = nextWaters;
    chalk = nextChalk;
    nextWaters = oldWaters;
    nextChalk = oldChalk;
    faultPlace = NONE;
    hasImage = false;
    desk.forget();
  }

  public int fault() {
    return faultPlace;
  }

  public int count(int what) throws NoSuchElementException {
    switch (what) {
      case 0: return waters.width;
      case 1: return waters.height;
      case 2: return Long.bitCount(waters.rocks);
      case 3: return Long.bitCount(waters.allCurrents());
      case 4: return chalk.slates;
      case 5: return waters.hands;
      case 6: return waters.pilots;
      case 7: return waters.rules;
      case 8: return waters.school;
      case 9: return waters.reach;
      case 10: return waters.goal;
      case 11: return chalk.acts;
      case 12: return tapeLength;
      case 13: return refusedTexts;
      case 14: return refusedMarks;
      default: throw new NoSuchElementException("no such count");
    }
  }

  public int cell(int cell, int what) throws NoSuchElementException {
    needWhat(what, 1);
    if (cell < 0 || cell >= waters.cells()) {
      throw new NoSuchElementException("no such cell");
    }
    if (what == 0) {
      return waters.isRock(cell) ? 1 : 0;
    }
    return waters.current[cell];
  }

  public int slate(int slate, int what) throws NoSuchElementException {
    needSlate(slate);
    needWhat(what, 3);
    switch (what) {
      case 0: return chalk.cell[slate];
      case 1: return chalk.hour[slate];
      case 2: return chalk.marks[slate];
      default: return chalk.rubbed[slate];
    }
  }

  public int mark(int slate, int i, int what) throws NoSuchElementException {
    needSlate(slate);
    needWhat(what, 1);
    if (i < 0 || i >= chalk.marks[slate]) {
      throw new NoSuchElementException("no such mark");
    }
    return what == 0 ? chalk.wayOf(slate, i) : chalk.stepsOf(slate, i);
  }

  public int write(int slate, int way, int steps) throws NoSuchElementException {
    needSlate(slate);
    boolean asTold = way >= 0 && way < WAYS && steps >= 1 && steps <= MOST_STEPS;
    if (!asTold || chalk.marks[slate] >= MOST_MARKS) {
      refusedMarks++;
      return NONE;
    }
    chalk.keepAct(slate, Chalk.WRITTEN);
    chalk.putMark(slate, way, steps);
    return chalk.marks[slate];
  }

  public int rub(int slate, int seed, int chance) throws NoSuchElementException {
    needSlate(slate);
    if (chance < 0 || chance > 100) {
      refusedMarks++;
      return NONE;
    }
    chalk.keepAct(slate, chalk.rubbed[slate]);
    chalk.rubMarks(slate, seed, chance);
    return Integer.bitCount(chalk.rubbed[slate]);
  }

  public int undo() {
    return chalk.takeBack() ? chalk.acts : NONE;
  }

  public int voyage(int slate, int what) throws NoSuchElementException {
    needSlate(slate);
    needWhat(what, 4);
    ship.follow(waters, chalk, slate);
    switch (what) {
      case 0: return ship.end;
      case 1: return ship.cell;
      case 2: return ship.mark;
      case 3: return ship.step;
      default: return ship.hour;
    }
  }

  public boolean explained(int slate) throws NoSuchElementException {
    needSlate(slate);
    ship.follow(waters, chalk, slate);
    if (ship.end != BY_TIDE) {
      return false;
    }
    int mark = ship.mark;
    ship.begin(ship.markCell, ship.markHour);
    ship.followMark(waters, chalk.wayOf(slate, mark), chalk.stepsOf(slate, mark), false);
    return ship.end == AFLOAT;
  }

  public long where(int slate, int k) throws NoSuchElementException {
    needSlate(slate);
    if (k < 0 || k > chalk.marks[slate]) {
      throw new NoSuchElementException("no such number of marks");
    }
    return fog.cellsBehind(waters, chalk, slate, k);
  }

  public int pilot(int pilot, int what) throws NoSuchElementException {
    needPilot(pilot);
    needWhat(what, 2);
    switch (what) {
      case 0: return waters.pilotCell[pilot];
      case 1: return waters.pilotHour[pilot];
      default: return waters.pilotRead[pilot];
    }
  }

  public int sails(int pilot, int slates, int what)
      throws NoSuchElementException, IllegalArgumentException {
    needPilot(pilot);
    needWhat(what, 2);
    if ((slates >>> chalk.slates) != 0) {
      throw new IllegalArgumentException("no such slates");
    }
    helm.sailBy(waters, pilot, ship.knownBy(waters, chalk, slates));
    switch (what) {
      case 0: return helm.ship.end;
      case 1: return helm.ship.cell;
      default: return helm.ship.hour;
    }
  }

  public int exam() {
    int through = 0;
    for (int pilot = 0; pilot < waters.pilots; pilot++) {
      long known = ship.knownBy(waters, chalk, waters.pilotRead[pilot]);
      helm.sailBy(waters, pilot, known);
      if (helm.ship.end == THROUGH) {
        through |= 1 << pilot;
      }
    }
    return through;
  }

  public int study(int pilot) throws NoSuchElementException {
    needPilot(pilot);
    desk.learn(waters, chalk, ship);
    return desk.find(waters, helm, pilot);
  }

  public int studied(int i) throws NoSuchElementException {
    if (i < 0 || i >= desk.foundLength) {
      throw new NoSuchElementException("no such slate was studied");
    }
    return desk.found[i];
  }

  public int dive(int reach, int what) throws NoSuchElementException, IllegalArgumentException {
    needWhat(what, 1);
    if (reach < 0 || reach > LAST_DIVE) {
      throw new IllegalArgumentException("no such reach");
    }
    desk.learn(waters, chalk, ship);
    int best = 0;
    int most = 0;
    for (int cell = 0; cell < waters.cells(); cell++) {
      int near = desk.wrecksNear(waters, cell, reach);
      if (near > most) {
        best = cell;
        most = near;
      }
    }
    return what == 0 ? best : most;
  }

  public long chart(int what) throws NoSuchElementException {
    needWhat(what, 2);
    long been = 0;
    long rocks = 0;
    for (int slate = 0; slate < chalk.slates; slate++) {
      ship.follow(waters, chalk, slate);
      been |= ship.been & ~ship.wreck();
      rocks |= ship.wreck();
    }
    if (what == 0) {
      return been;
    }
    return what == 1 ? rocks : waters.all & ~been & ~rocks;
  }

  public long hand(int slate, int what) throws NoSuchElementException {
    needSlate(slate);
    needWhat(what, 3);
    hands.compare(waters, chalk, slate);
    switch (what) {
      case 0: return hands.first;
      case 1: return hands.second;
      case 2: return hands.behind;
      default: return hands.most;
    }
  }

  public int copied(int first, int second, int what)
      throws NoSuchElementException, IllegalArgumentException {
    needSlate(first);
    needSlate(second);
    needWhat(what, 2);
    if (first == second) {
      throw new IllegalArgumentException("both are one slate");
    }
    likeness.compare(chalk, first, second);
    switch (what) {
      case 0: return likeness.length;
      case 1: return likeness.inFirst;
      default: return likeness.inSecond;
    }
  }

  public void image() {
    imaged.copyFrom(chalk);
    hasImage = true;
  }

  public boolean restore() {
    if (hasImage) {
      chalk.copyFrom(imaged);
    }
    return hasImage;
  }

  private void needSlate(int slate) {
    if (slate < 0 || slate >= chalk.slates) {
      throw new NoSuchElementException("no such slate");
    }
  }

  private void needPilot(int pilot) {
    if (pilot < 0 || pilot >= waters.pilots) {
      throw new NoSuchElementException("no such pilot");
    }
  }

  private static void needWhat(int what, int last) {
    if (what < 0 || what > last) {
      throw new NoSuchElementException("no such what");
    }
  }

  private static long bit(int cell) {
    return 1L << cell;
  }

  /** What a text tells and no act changes: THE SEA, HANDS, THE SCHOOL, PILOTS, RULES. */
  private static final class Waters {
    int width;
    int height;
    long all;
    long rocks;
    /** Of each way the cells from which there is a cell that way. */
    final long[] open = new long[WAYS];
    /** Of each cell the way of its current, or NONE. */
    final int[] current = new int[MOST_CELLS];
    /** The same, of each way the cells. */
    private final long[] currents = new long[WAYS];
    int hands;
    final int[] weight = new int[MOST_HANDS * WAYS];
    int school;
    int reach;
    int goal;
    int pilots;
    final int[] pilotCell = new int[MOST_PILOTS];
    final int[] pilotHour = new int[MOST_PILOTS];
    final int[] pilotRead = new int[MOST_PILOTS];
    int rules;
    final int[] ruleWay = new int[MOST_RULES];
    /** Where a rule's code ends, and the next one's begins. */
    final int[] ruleEnd = new int[MOST_RULES];
    /** EXPRS as codes, operands ahead of what is done to them. */
    final int[] code = new int[TAPE];

    Waters() {
      clear();
    }

    private void clear() {
      setSize(6, 6);
      rocks = 0;
      Arrays.fill(current, NONE);
      Arrays.fill(currents, 0L);
      hands = 0;
      school = 0;
      reach = 2;
      goal = 5;
      pilots = 0;
      rules = 0;
    }

    private void setSize(int w, int h) {
      width = w;
      height = h;
      all = -1L >>> (MOST_CELLS - w * h);
      long column = 0;
      for (int y = 0; y < h; y++) {
        column |= bit(w * y);
      }
      open[NORTH] = all & (all << w);
      open[EAST] = all & ~(column << (w - 1));
      open[SOUTH] = all >>> w;
      open[WEST] = all & ~column;
    }

    int cells() {
      return width * height;
    }

    int xOf(int cell) {
      return width > 0 ? cell % width : 0;
    }

    int yOf(int cell) {
      return width > 0 ? cell / width : 0;
    }

    boolean isRock(int cell) {
      return (rocks >>> cell & 1) != 0;
    }

    void addCurrent(int cell, int way) {
      current[cell] = way;
      currents[way] |= bit(cell);
    }

    long allCurrents() {
      return currents[NORTH] | currents[EAST] | currents[SOUTH] | currents[WEST];
    }

    int nextCell(int cell, int way) {
      if (way < 0 || way >= WAYS || (open[way] >>> cell & 1) == 0) {
        return NONE;
      }
      switch (way) {
        case NORTH: return cell - width;
        case EAST: return cell + 1;
        case SOUTH: return cell + width;
        default: return cell - 1;
      }
    }

    /** Where the current of a cell drives a ship in an hour; NONE: it does not. */
    int drivenTo(int cell, int hour) {
      return (hour & 1) == 0 ? nextCell(cell, current[cell]) : NONE;
    }

    int farness(int one, int other) {
      int alongX = Math.abs(xOf(one) - xOf(other));
      int alongY = Math.abs(yOf(one) - yOf(other));
      return Math.max(alongX, alongY);
    }

    /** All these cells moved one that way, but for those that have none there. */
    private long moved(long cells, int way) {
      long moving = cells & open[way];
      switch (way) {
        case NORTH: return moving >>> width;
        case EAST: return moving << 1;
        case SOUTH: return moving << width;
        default: return moving >>> 1;
      }
    }

    /** Ships in all these cells sail a STEP at once: the cells of those still AFLOAT. */
    long sailed(long cells, int way, boolean evenHour) {
      long afloat = moved(cells, way) & ~rocks;
      return evenHour ? driven(afloat) : afloat;
    }

    private long driven(long cells) {
      long stay = cells;
      long arrive = 0;
      for (int way = 0; way < WAYS; way++) {
        long drifting = cells & currents[way] & open[way];
        stay &= ~drifting;
        arrive |= moved(drifting, way);
      }
      return stay | (arrive & ~rocks);
    }

    int weightOf(int hand, int way) {
      return weight[hand * WAYS + way];
    }
  }

  /** SLATES and ACTS: all that is written, rubbed, undone and kept as an image. */
  private static final class Chalk {
    /** Stands for a written MARK where a rubbing keeps the bits that it found. */
    static final int WRITTEN = -1;

    int slates;
    final int[] cell = new int[MOST_SLATES];
    final int[] hour = new int[MOST_SLATES];
    final int[] marks = new int[MOST_SLATES];
    final int[] rubbed = new int[MOST_SLATES];
    private final int[] way = new int[MOST_SLATES * MOST_MARKS];
    private final int[] steps = new int[MOST_SLATES * MOST_MARKS];
    int acts;
    private final int[] actSlate = new int[MOST_ACTS];
    private final int[] actFound = new int[MOST_ACTS];

    void clear() {
      slates = 0;
      acts = 0;
    }

    void addSlate(int atCell, int atHour) {
      if (slates < MOST_SLATES) {
        cell[slates] = atCell;
        hour[slates] = atHour;
        marks[slates] = 0;
        rubbed[slates] = 0;
        slates++;
      }
    }

    void putMark(int slate, int itsWay, int itsSteps) {
      if (marks[slate] < MOST_MARKS) {
        way[slate * MOST_MARKS + marks[slate]] = itsWay;
        steps[slate * MOST_MARKS + marks[slate]] = itsSteps;
        marks[slate]++;
      }
    }

    int wayOf(int slate, int i) {
      return way[slate * MOST_MARKS + i];
    }

    int stepsOf(int slate, int i) {
      return steps[slate * MOST_MARKS + i];
    }

    boolean isRubbed(int slate, int i) {
      return (rubbed[slate] >> i & 1) != 0;
    }

    void rubMarks(int slate, int seed, int chance) {
      int next = seed;
      for (int i = 0; i < marks[slate]; i++) {
        next = next * 1103515245 + 12345;
        if ((next >>> 16 & 0x7fff) % 100 < chance) {
          rubbed[slate] |= 1 << i;
        }
      }
    }

    void keepAct(int slate, int found) {
      if (acts >= MOST_ACTS) {
        System.arraycopy(actSlate, 1, actSlate, 0, MOST_ACTS - 1);
        System.arraycopy(actFound, 1, actFound, 0, MOST_ACTS - 1);
        acts = MOST_ACTS - 1;
      }
      actSlate[acts] = slate;
      actFound[acts] = found;
      acts++;
    }

    boolean takeBack() {
      if (acts <= 0) {
        return false;
      }
      acts--;
      int slate = actSlate[acts];
      if (actFound[acts] != WRITTEN) {
        rubbed[slate] = actFound[acts];
      } else if (marks[slate] > 0) {
        marks[slate]--;
      }
      return true;
    }

    void copyFrom(Chalk other) {
      slates = other.slates;
      acts = other.acts;
      System.arraycopy(other.cell, 0, cell, 0, MOST_SLATES);
      System.arraycopy(other.hour, 0, hour, 0, MOST_SLATES);
      System.arraycopy(other.marks, 0, marks, 0, MOST_SLATES);
      System.arraycopy(other.rubbed, 0, rubbed, 0, MOST_SLATES);
      System.arraycopy(other.way, 0, way, 0, MOST_SLATES * MOST_MARKS);
      System.arraycopy(other.steps, 0, steps, 0, MOST_SLATES * MOST_MARKS);
      System.arraycopy(other.actSlate, 0, actSlate, 0, MOST_ACTS);
      System.arraycopy(other.actFound, 0, actFound, 0, MOST_ACTS);
    }
  }

  /** The TOKENS of a text, one at a time. */
  private static final class Tokens {
    private final byte[] text;
    private int length = 0;
    private int next = 0;
    int start = 0;
    int kind = END;
    /** Of a NUMBER its value or TOO_LONG, of a WORD its number, of a SIGN its byte. */
    int value = 0;

    Tokens(byte[] tape) {
      text = tape;
    }

    void open(int n) {
      length = Math.min(n, text.length);
      next = 0;
      advance();
    }

    void advance() {
      while (next < length && (text[next] == ' ' || text[next] == '\n')) {
        next++;
      }
      start = next;
      if (next >= length) {
        kind = END;
      } else if (isLetter(text[next])) {
        takeWord();
      } else if (isDigit(text[next])) {
        takeNumber();
      } else {
        takeSign();
      }
    }

    private static boolean isLetter(int c) {
      return c >= 'a' && c <= 'z';
    }

    private static boolean isDigit(int c) {
      return c >= '0' && c <= '9';
    }

    private void takeWord() {
      while (next < length && isLetter(text[next])) {
        next++;
      }
      kind = WORD;
      value = 0;
      int alike = 0;
      for (int i = 0; i < SPELLINGS.length(); i++) {
        char letter = SPELLINGS.charAt(i);
        if (letter != ' ') {
          boolean goesOn = alike != NONE && start + alike < next && text[start + alike] == letter;
          alike = goesOn ? alike + 1 : NONE;
        } else if (alike == next - start) {
          return;
        } else {
          alike = 0;
          value++;
        }
      }
    }

    private void takeNumber() {
      int number = 0;
      while (next < length && isDigit(text[next])) {
        if (next - start < 4) {
          number = number * 10 + text[next] - '0';
        }
        next++;
      }
      kind = NUMBER;
      value = next - start > 4 ? TOO_LONG : number;
    }

    private void takeSign() {
      value = text[next];
      switch (value) {
        case ';': case '(': case ')': case '+': case '-':
        case '*': case '/': case '<': case '=':
          kind = SIGN;
          break;
        default:
          kind = STRANGE;
          break;
      }
      next++;
    }

    boolean isWord(int word) {
      return kind == WORD && value == word;
    }

    boolean isWay() {
      return kind == WORD && value < WAYS;
    }

    boolean isSign(int sign) {
      return kind == SIGN && value == sign;
    }
  }

  /** Reads a text's LINES; each reading method is false, or NONE, where it met the FAULT. */
  private static final class Lines {
    private final Tokens tokens;
    private final Exprs exprs;
    private boolean schoolTold = false;
    private boolean goalTold = false;
    int fault = 0;
    int faultPlace = NONE;

    Lines(byte[] tape) {
      tokens = new Tokens(tape);
      exprs = new Exprs(tokens);
    }

    boolean read(int n, Waters waters, Chalk chalk) {
      waters.clear();
      chalk.clear();
      exprs.clear();
      schoolTold = false;
      goalTold = false;
      tokens.open(n);
      for (int line = 0; line <= TAPE && tokens.kind != END; line++) {
        if (!readLine(line == 0, waters, chalk) || !readEnd()) {
          return false;
        }
      }
      return true;
    }

    private boolean refuse(int why) {
      fault = why;
      faultPlace = tokens.start;
      return false;
    }

    private boolean readEnd() {
      if (!tokens.isSign(';')) {
        return refuse(CANNOT_STAND);
      }
      tokens.advance();
      return true;
    }

    private boolean readLine(boolean first, Waters waters, Chalk chalk) {
      if (tokens.kind != WORD) {
        return refuse(CANNOT_STAND);
      }
      switch (tokens.value) {
        case SEA: return readHead(first) && readSize(waters);
        case ROCK: return readHead(Long.bitCount(waters.rocks), MOST_ROCKS) && readRock(waters);
        case CURRENT: return readHead(true) && readCurrent(waters);
        case SLATE: return readHead(chalk.slates, MOST_SLATES) && readSlate(waters, chalk);
        case HAND: return readHead(waters.hands, MOST_HANDS) && readHand(waters);
        case SCHOOL: return readHead(!schoolTold) && readSchool(waters);
        case GOAL: return readHead(!goalTold) && readGoal(waters);
        case PILOT: return readHead(waters.pilots, MOST_PILOTS) && readPilot(waters, chalk);
        case RULE: return readHead(waters.rules, MOST_RULES) && readRule(waters);
        default: return refuse(CANNOT_STAND);
      }
    }

    /** The first word of a LINE that may stand in one place or once alone. */
    private boolean readHead(boolean inPlace) {
      if (!inPlace) {
        return refuse(MISPLACED);
      }
      tokens.advance();
      return true;
    }

    private boolean readHead(int told, int most) {
      if (told >= most) {
        return refuse(TOO_MUCH);
      }
      tokens.advance();
      return true;
    }

    /** The NUMBER that stands here, which stays the token at hand. */
    private int lookAtNumber(int low, int high) {
      if (tokens.kind != NUMBER) {
        refuse(CANNOT_STAND);
        return NONE;
      }
      if (tokens.value < low || tokens.value > high) {
        refuse(TOO_MUCH);
        return NONE;
      }
      return tokens.value;
    }

    private int readNumber(int low, int high) {
      int number = lookAtNumber(low, high);
      if (number != NONE) {
        tokens.advance();
      }
      return number;
    }

    private int readWay() {
      if (!tokens.isWay()) {
        refuse(CANNOT_STAND);
        return NONE;
      }
      int way = tokens.value;
      tokens.advance();
      return way;
    }

    /** An X and a Y: their cell; none of the taken cells may be told once more. */
    private int readCell(Waters waters, long taken) {
      int x = lookAtNumber(0, waters.width - 1);
      if (x == NONE) {
        return NONE;
      }
      tokens.advance();
      int y = lookAtNumber(0, waters.height - 1);
      if (y == NONE) {
        return NONE;
      }
      int cell = waters.width * y + x;
      if ((taken & bit(cell)) != 0) {
        refuse(TWICE);
        return NONE;
      }
      tokens.advance();
      return cell;
    }

    private boolean readSize(Waters waters) {
      int width = readNumber(2, 8);
      int height = width == NONE ? NONE : readNumber(2, 8);
      if (height == NONE) {
        return false;
      }
      waters.setSize(width, height);
      return true;
    }

    private boolean readRock(Waters waters) {
      int cell = readCell(waters, waters.rocks);
      if (cell == NONE) {
        return false;
      }
      waters.rocks |= bit(cell);
      return true;
    }

    private boolean readCurrent(Waters waters) {
      int cell = readCell(waters, waters.allCurrents());
      int way = cell == NONE ? NONE : readWay();
      if (way == NONE) {
        return false;
      }
      waters.addCurrent(cell, way);
      return true;
    }

    private boolean readSlate(Waters waters, Chalk chalk) {
      int cell = readCell(waters, 0L);
      int hour = cell == NONE ? NONE : readNumber(0, LAST_HOUR);
      if (hour == NONE) {
        return false;
      }
      int slate = chalk.slates;
      chalk.addSlate(cell, hour);
      for (int i = 0; i <= MOST_MARKS && tokens.isWay(); i++) {
        if (i == MOST_MARKS) {
          return refuse(TOO_MUCH);
        }
        int way = readWay();
        int steps = readNumber(1, MOST_STEPS);
        if (steps == NONE) {
          return false;
        }
        chalk.putMark(slate, way, steps);
      }
      return true;
    }

    private boolean readHand(Waters waters) {
      int rest = ALL_WEIGHTS;
      for (int way = 0; way < WAYS; way++) {
        boolean last = way == WAYS - 1;
        int weight = readNumber(last ? rest : 0, last ? rest : ALL_WEIGHTS);
        if (weight == NONE) {
          return false;
        }
        waters.weight[waters.hands * WAYS + way] = weight;
        rest -= weight;
      }
      waters.hands++;
      return true;
    }

    private boolean readSchool(Waters waters) {
      int cell = readCell(waters, 0L);
      int reach = cell == NONE ? NONE : readNumber(0, LAST_REACH);
      if (reach == NONE) {
        return false;
      }
      waters.school = cell;
      waters.reach = reach;
      schoolTold = true;
      return true;
    }

    private boolean readGoal(Waters waters) {
      int goal = readNumber(0, LAST_GOAL);
      if (goal == NONE) {
        return false;
      }
      waters.goal = goal;
      goalTold = true;
      return true;
    }

    private boolean readPilot(Waters waters, Chalk chalk) {
      int cell = readCell(waters, 0L);
      int hour = cell == NONE ? NONE : readNumber(0, LAST_HOUR);
      if (hour == NONE) {
        return false;
      }
      int read = 0;
      for (int i = 0; i <= MOST_SLATES && tokens.kind == NUMBER; i++) {
        int slate = readRead(chalk, read);
        if (slate == NONE) {
          return false;
        }
        read |= 1 << slate;
      }
      waters.pilotCell[waters.pilots] = cell;
      waters.pilotHour[waters.pilots] = hour;
      waters.pilotRead[waters.pilots] = read;
      waters.pilots++;
      return true;
    }

    /** A SLATE that a PILOT has READ, behind those that he has read already. */
    private int readRead(Chalk chalk, int already) {
      int slate = lookAtNumber(0, LAST_NUMBER);
      if (slate == NONE) {
        return NONE;
      }
      if (slate >= chalk.slates) {
        refuse(NOT_TOLD);
        return NONE;
      }
      if ((already >> slate & 1) != 0) {
        refuse(TWICE);
        return NONE;
      }
      tokens.advance();
      return slate;
    }

    private boolean readRule(Waters waters) {
      if (!exprs.readExpr(waters, 0)) {
        return refuse(exprs.fault);
      }
      if (!tokens.isWord(GO)) {
        return refuse(CANNOT_STAND);
      }
      tokens.advance();
      int way = readWay();
      if (way == NONE) {
        return false;
      }
      waters.ruleWay[waters.rules] = way;
      waters.ruleEnd[waters.rules] = exprs.length;
      waters.rules++;
      return true;
    }
  }

  /** Reads EXPRS into codes: a NUMBER is itself, a VALUE or what is done a number below 0. */
  private static final class Exprs {
    private final Tokens tokens;
    int length = 0;
    /** Of the token at hand, where reading stopped. */
    int fault = 0;

    Exprs(Tokens given) {
      tokens = given;
    }

    void clear() {
      length = 0;
    }

    private boolean refuse(int why) {
      fault = why;
      return false;
    }

    private void put(Waters waters, int code) {
      if (length < waters.code.length) {
        waters.code[length] = code;
        length++;
      }
    }

    /** Words and signs have different numbers: none of the words' is a sign's byte. */
    private void putDone(Waters waters, int wordOrSign) {
      put(waters, -1 - wordOrSign);
    }

    private boolean readExpr(Waters waters, int within) {
      if (within >= MOST_EXPRS) {
        boolean begins = tokens.kind == NUMBER || tokens.kind == WORD || tokens.isSign('(');
        return refuse(begins ? TOO_MUCH : CANNOT_STAND);
      }
      if (!readAnd(waters, within)) {
        return false;
      }
      for (int i = 0; i < TAPE && tokens.isWord(OR); i++) {
        tokens.advance();
        if (!readAnd(waters, within)) {
          return false;
        }
        putDone(waters, OR);
      }
      return true;
    }

    private boolean readAnd(Waters waters, int within) {
      if (!readNot(waters, within)) {
        return false;
      }
      for (int i = 0; i < TAPE && tokens.isWord(AND); i++) {
        tokens.advance();
        if (!readNot(waters, within)) {
          return false;
        }
        putDone(waters, AND);
      }
      return true;
    }

    private boolean readNot(Waters waters, int within) {
      int nots = 0;
      while (nots < MOST_NOTS && tokens.isWord(NOT)) {
        tokens.advance();
        nots++;
      }
      if (tokens.isWord(NOT)) {
        return refuse(TOO_MUCH);
      }
      if (!readTest(waters, within)) {
        return false;
      }
      for (int i = 0; i < nots; i++) {
        putDone(waters, NOT);
      }
      return true;
    }

    private boolean readTest(Waters waters, int within) {
      if (!readSum(waters, within)) {
        return false;
      }
      if (!tokens.isSign('<') && !tokens.isSign('=')) {
        return true;
      }
      int sign = tokens.value;
      tokens.advance();
      if (!readSum(waters, within)) {
        return false;
      }
      putDone(waters, sign);
      return true;
    }

    private boolean readSum(Waters waters, int within) {
      if (!readProduct(waters, within)) {
        return false;
      }
      for (int i = 0; i < TAPE && (tokens.isSign('+') || tokens.isSign('-')); i++) {
        int sign = tokens.value;
        tokens.advance();
        if (!readProduct(waters, within)) {
          return false;
        }
        putDone(waters, sign);
      }
      return true;
    }

    private boolean readProduct(Waters waters, int within) {
      if (!readPart(waters, within)) {
        return false;
      }
      for (int i = 0; i < TAPE && (tokens.isSign('*') || tokens.isSign('/')); i++) {
        int sign = tokens.value;
        tokens.advance();
        if (!readPart(waters, within)) {
          return false;
        }
        putDone(waters, sign);
      }
      return true;
    }

    private boolean readPart(Waters waters, int within) {
      if (tokens.isSign('(')) {
        tokens.advance();
        if (!readExpr(waters, within + 1)) {
          return false;
        }
        if (!tokens.isSign(')')) {
          return refuse(CANNOT_STAND);
        }
      } else if (tokens.kind == NUMBER) {
        if (tokens.value > LAST_NUMBER) {
          return refuse(TOO_MUCH);
        }
        put(waters, tokens.value);
      } else if (tokens.kind == WORD) {
        if (tokens.value >= VALUES) {
          return refuse(NOT_TOLD);
        }
        putDone(waters, tokens.value);
      } else {
        return refuse(CANNOT_STAND);
      }
      tokens.advance();
      return true;
    }
  }

  /** One who sails: by a slate's MARKS, or a STEP at a time. */
  private static final class Ship {
    int cell = 0;
    int hour = 0;
    int end = AFLOAT;
    int mark = 0;
    int step = 0;
    int markCell = 0;
    int markHour = 0;
    /** The cells in which he was and did not end WRECKED. */
    long been = 0;

    void begin(int atCell, int atHour) {
      cell = atCell;
      hour = atHour;
      end = AFLOAT;
      mark = 0;
      step = 0;
      been = bit(atCell);
    }

    /** An HOUR; without a way (NONE) only a CURRENT may drive him. */
    void sail(Waters waters, int way, boolean tides) {
      if (way != NONE) {
        goTo(waters, waters.nextCell(cell, way), BY_HAND);
      }
      int driven = tides && end == AFLOAT ? waters.drivenTo(cell, hour) : NONE;
      if (driven != NONE) {
        goTo(waters, driven, BY_TIDE);
      }
      if (end == AFLOAT) {
        hour++;
      }
    }

    private void goTo(Waters waters, int to, int wreckedBy) {
      if (to == NONE) {
        end = ON_LAND;
        return;
      }
      cell = to;
      if (waters.isRock(to)) {
        end = wreckedBy;
      } else {
        been |= bit(to);
      }
    }

    void followMark(Waters waters, int way, int steps, boolean tides) {
      for (int i = 0; i < steps && end == AFLOAT; i++) {
        step = i;
        sail(waters, way, tides);
      }
      if (end == AFLOAT) {
        step = 0;
      }
    }

    void follow(Waters waters, Chalk chalk, int slate) {
      begin(chalk.cell[slate], chalk.hour[slate]);
      int marks = chalk.marks[slate];
      for (int i = 0; i < marks && end == AFLOAT; i++) {
        mark = i;
        markCell = cell;
        markHour = hour;
        followMark(waters, chalk.wayOf(slate, i), chalk.stepsOf(slate, i), true);
      }
      if (end == AFLOAT) {
        mark = marks;
      }
    }

    /** The ROCK on which he was WRECKED, as a bit; 0: none. */
    long wreck() {
      return end == BY_HAND || end == BY_TIDE ? bit(cell) : 0L;
    }

    /** The ROCKS that one knows who has READ these slates. */
    long knownBy(Waters waters, Chalk chalk, int read) {
      long known = 0;
      for (int slate = 0; slate < chalk.slates; slate++) {
        if ((read >> slate & 1) != 0) {
          follow(waters, chalk, slate);
          known |= wreck();
        }
      }
      return known;
    }
  }

  /** WHERE HE MAY BE; of the HOUR only whether it is even matters. */
  private static final class Fog {
    private long inEven = 0;
    private long inOdd = 0;

    long cellsBehind(Waters waters, Chalk chalk, int slate, int marks) {
      boolean even = (chalk.hour[slate] & 1) == 0;
      inEven = even ? bit(chalk.cell[slate]) : 0L;
      inOdd = even ? 0L : bit(chalk.cell[slate]);
      for (int i = 0; i < marks; i++) {
        if (chalk.isRubbed(slate, i)) {
          sailAnyhow(waters);
        } else {
          sailMark(waters, chalk.wayOf(slate, i), chalk.stepsOf(slate, i));
        }
      }
      return inEven | inOdd;
    }

    private void sailStep(Waters waters, int way) {
      long nextOdd = waters.sailed(inEven, way, true);
      inEven = waters.sailed(inOdd, way, false);
      inOdd = nextOdd;
    }

    private void sailMark(Waters waters, int way, int steps) {
      for (int step = 0; step < steps; step++) {
        sailStep(waters, way);
      }
    }

    private void sailAnyhow(Waters waters) {
      long fromEven = inEven;
      long fromOdd = inOdd;
      long toEven = 0;
      long toOdd = 0;
      for (int way = 0; way < WAYS; way++) {
        inEven = fromEven;
        inOdd = fromOdd;
        for (int step = 0; step < MOST_STEPS; step++) {
          sailStep(waters, way);
          toEven |= inEven;
          toOdd |= inOdd;
        }
      }
      inEven = toEven;
      inOdd = toOdd;
    }
  }

  /** A PILOT at the helm: RULES are worked out on a stack. */
  private static final class Helm {
    final Ship ship = new Ship();
    /** Six EXPRS, one within another, leave five operands each waiting at most. */
    private final int[] stack = new int[64];
    private int top = 0;
    /** The VALUES of this HOUR. */
    private final int[] values = new int[VALUES];

    void sailBy(Waters waters, int pilot, long known) {
      ship.begin(waters.pilotCell[pilot], waters.pilotHour[pilot]);
      lookForGoal(waters);
      for (int i = 0; i < MOST_HOURS && ship.end == AFLOAT; i++) {
        lookAround(waters, known);
        ship.sail(waters, wayByRules(waters), true);
        lookForGoal(waters);
      }
    }

    private void lookForGoal(Waters waters) {
      if (ship.end == AFLOAT && waters.xOf(ship.cell) >= waters.goal) {
        ship.end = THROUGH;
      }
    }

    private void lookAround(Waters waters, long known) {
      values[X] = waters.xOf(ship.cell);
      values[Y] = waters.yOf(ship.cell);
      values[HOUR] = ship.hour;
      values[TIDE] = waters.drivenTo(ship.cell, ship.hour) != NONE ? 1 : 0;
      for (int way = 0; way < WAYS; way++) {
        int next = waters.nextCell(ship.cell, way);
        values[way] = next == NONE || (known >>> next & 1) != 0 ? 1 : 0;
      }
    }

    private int wayByRules(Waters waters) {
      int from = 0;
      for (int rule = 0; rule < waters.rules; rule++) {
        int to = waters.ruleEnd[rule];
        if (worth(waters, from, to) != 0) {
          return waters.ruleWay[rule];
        }
        from = to;
      }
      return NONE;
    }

    private int worth(Waters waters, int from, int to) {
      top = 0;
      for (int i = from; i < to && i < waters.code.length; i++) {
        int code = waters.code[i];
        int done = -1 - code;
        if (code >= 0) {
          push(code);
        } else if (done < VALUES) {
          push(values[done]);
        } else if (done == NOT) {
          push(pop() == 0 ? 1 : 0);
        } else {
          int right = pop();
          int left = pop();
          push(joined(left, done, right));
        }
      }
      return pop();
    }

    private void push(int value) {
      if (top < stack.length) {
        stack[top] = value;
        top++;
      }
    }

    private int pop() {
      if (top <= 0) {
        return 0;
      }
      top--;
      return stack[top];
    }

    private static int joined(int left, int done, int right) {
      switch (done) {
        case '+': return left + right;
        case '-': return left - right;
        case '*': return left * right;
        case '/': return right == 0 ? 0 : left / right;
        case '<': return left < right ? 1 : 0;
        case '=': return left == right ? 1 : 0;
        case AND: return left != 0 && right != 0 ? 1 : 0;
        default: return left != 0 || right != 0 ? 1 : 0;
      }
    }
  }

  /** What all VOYAGES teach, and the STUDY that was found by it. */
  private static final class Desk {
    private int slates = 0;
    private final int[] beginCell = new int[MOST_SLATES];
    private final int[] endCell = new int[MOST_SLATES];
    private final long[] wreck = new long[MOST_SLATES];
    /** Each slate's bit, or that of an earlier one with the same wreck; 0 without a wreck. */
    private final int[] lesson = new int[MOST_SLATES];
    /** Of each set of lessons whether one comes THROUGH by it: 1, 0, NONE while unknown. */
    private final int[] verdict = new int[1 << MOST_SLATES];
    /** The slates that begin near THE SCHOOL, and near each slate's end, as bits. */
    private int nearSchool = 0;
    private final int[] nearEnd = new int[MOST_SLATES];
    private final int[] row = new int[MOST_SLATES];
    private final int[] best = new int[MOST_SLATES];
    final int[] found = new int[MOST_SLATES];
    /** 0 where none is kept, too: neither has a slate to tell. */
    int foundLength = 0;

    void forget() {
      foundLength = 0;
    }

    void learn(Waters waters, Chalk chalk, Ship ship) {
      slates = chalk.slates;
      for (int slate = 0; slate < slates; slate++) {
        ship.follow(waters, chalk, slate);
        beginCell[slate] = chalk.cell[slate];
        endCell[slate] = ship.cell;
        wreck[slate] = ship.wreck();
        lesson[slate] = lessonOf(slate);
      }
    }

    private int lessonOf(int slate) {
      if (wreck[slate] == 0) {
        return 0;
      }
      for (int earlier = 0; earlier < slate; earlier++) {
        if (wreck[earlier] == wreck[slate]) {
          return 1 << earlier;
        }
      }
      return 1 << slate;
    }

    int wrecksNear(Waters waters, int cell, int reach) {
      int near = 0;
      for (int slate = 0; slate < slates; slate++) {
        if (wreck[slate] != 0 && waters.farness(cell, endCell[slate]) <= reach) {
          near++;
        }
      }
      return near;
    }

    /** How many slates; they are kept. NONE: no row of them brings the pilot THROUGH. */
    int find(Waters waters, Helm helm, int pilot) {
      Arrays.fill(verdict, NONE);
      nearSchool = beginningNear(waters, waters.school);
      for (int slate = 0; slate < slates; slate++) {
        nearEnd[slate] = beginningNear(waters, endCell[slate]);
      }
      int length = NONE;
      for (int size = 0; size <= slates && length == NONE; size++) {
        for (int set = 0; set < 1 << slates; set++) {
          boolean first = Integer.bitCount(set) == size && putInRow(set)
              && (length == NONE || rowIsAhead(size));
          if (first && bringsThrough(waters, helm, pilot, set)) {
            System.arraycopy(row, 0, best, 0, MOST_SLATES);
            length = size;
          }
        }
      }
      if (length != NONE) {
        System.arraycopy(best, 0, found, 0, MOST_SLATES);
        foundLength = length;
      }
      return length;
    }

    private int beginningNear(Waters waters, int cell) {
      int near = 0;
      for (int slate = 0; slate < slates; slate++) {
        if (waters.farness(cell, beginCell[slate]) <= waters.reach) {
          near |= 1 << slate;
        }
      }
      return near;
    }

    /** What can be read next stays so, hence the least one each time gives the first row. */
    private boolean putInRow(int set) {
      int left = set;
      int near = nearSchool;
      for (int i = 0; i < MOST_SLATES && left != 0; i++) {
        if ((left & near) == 0) {
          return false;
        }
        row[i] = Integer.numberOfTrailingZeros(left & near);
        near |= nearEnd[row[i]];
        left &= ~(1 << row[i]);
      }
      return true;
    }

    private boolean rowIsAhead(int size) {
      for (int i = 0; i < size; i++) {
        if (row[i] != best[i]) {
          return row[i] < best[i];
        }
      }
      return false;
    }

    private boolean bringsThrough(Waters waters, Helm helm, int pilot, int set) {
      int lessons = 0;
      long known = 0;
      for (int slate = 0; slate < slates; slate++) {
        if ((set >> slate & 1) != 0) {
          lessons |= lesson[slate];
          known |= wreck[slate];
        }
      }
      if (verdict[lessons] == NONE) {
        helm.sailBy(waters, pilot, known);
        verdict[lessons] = helm.ship.end == THROUGH ? 1 : 0;
      }
      return verdict[lessons] == 1;
    }
  }

  /** THE SECOND HAND of a slate. */
  private static final class Hands {
    int first = NONE;
    int second = NONE;
    int behind = NONE;
    long most = 0;

    void compare(Waters waters, Chalk chalk, int slate) {
      first = NONE;
      second = NONE;
      behind = NONE;
      most = 0;
      for (int a = 0; a < waters.hands; a++) {
        for (int b = 0; b < waters.hands; b++) {
          for (int k = 1; a != b && k < chalk.marks[slate]; k++) {
            weigh(waters, chalk, slate, a, b, k);
          }
        }
      }
    }

    private void weigh(Waters waters, Chalk chalk, int slate, int a, int b, int k) {
      long product = 1;
      for (int i = 0; i < chalk.marks[slate]; i++) {
        product *= waters.weightOf(i < k ? a : b, chalk.wayOf(slate, i));
      }
      if (product > most) {
        most = product;
        first = a;
        second = b;
        behind = k;
      }
    }
  }

  /** The longest row of MARKS that two slates have side by side. */
  private static final class Likeness {
    int length = 0;
    int inFirst = NONE;
    int inSecond = NONE;

    void compare(Chalk chalk, int first, int second) {
      length = 0;
      inFirst = NONE;
      inSecond = NONE;
      for (int i = 0; i < chalk.marks[first]; i++) {
        for (int j = 0; j < chalk.marks[second]; j++) {
          int alike = alikeFrom(chalk, first, i, second, j);
          if (alike > length) {
            length = alike;
            inFirst = i;
            inSecond = j;
          }
        }
      }
    }

    private static int alikeFrom(Chalk chalk, int first, int i, int second, int j) {
      int longest = Math.min(chalk.marks[first] - i, chalk.marks[second] - j);
      int alike = 0;
      while (alike < longest
          && chalk.wayOf(first, i + alike) == chalk.wayOf(second, j + alike)
          && chalk.stepsOf(first, i + alike) == chalk.stepsOf(second, j + alike)) {
        alike++;
      }
      return alike;
    }
  }
}
