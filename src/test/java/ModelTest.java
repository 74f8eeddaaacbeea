import java.nio.charset.StandardCharsets;
import java.util.ArrayDeque;
import java.util.ArrayList;
import java.util.Arrays;
import java.util.Deque;
import java.util.HashSet;
import java.util.List;
import java.util.NoSuchElementException;
import java.util.Random;
import java.util.Set;

/** Random seas and calls against a plain model that shares no code with the class. */
public final class ModelTest {
  private static final int NSEE = -1001;
  private static final int IAE = -1002;
  private static final String[] WAYS = {"north", "east", "south", "west"};
  private static final int[] DX = {0, 1, 0, -1};
  private static final int[] DY = {-1, 0, 1, 0};

  private static int wrong = 0;
  private static long calls = 0;

  // ---------------------------------------------------------------- expressions as trees

  private interface Expr {
    int worth(int[] values);
  }

  private static final String[] VALUES = {"x", "y", "hour", "tide", "north", "east", "south", "west"};

  /** A text and what it is worth; level: 0 or, 1 and, 2 not and tests, 3 sum, 4 product, 5 part. */
  private static final class Told {
    final String text;
    final Expr expr;

    Told(String text, Expr expr) {
      this.text = text;
      this.expr = expr;
    }
  }

  private static Told expr(Random r, int level, int depth) {
    if (level == 5) {
      return part(r, depth);
    }
    if (level == 2) {
      return test(r, depth);
    }
    Told left = expr(r, level + 1, depth);
    int more = r.nextInt(4) == 0 ? 1 + r.nextInt(2) : 0;
    for (int i = 0; i < more; i++) {
      Told a = left;
      Told b = expr(r, level + 1, depth);
      int pick = r.nextInt(2);
      if (level == 0) {
        left = new Told(a.text + " or " + b.text, v -> a.expr.worth(v) != 0 | b.expr.worth(v) != 0 ? 1 : 0);
      } else if (level == 1) {
        left = new Told(a.text + " and " + b.text, v -> a.expr.worth(v) != 0 & b.expr.worth(v) != 0 ? 1 : 0);
      } else if (level == 3) {
        left = pick == 0 ? new Told(a.text + "+" + b.text, v -> a.expr.worth(v) + b.expr.worth(v))
            : new Told(a.text + "-" + b.text, v -> a.expr.worth(v) - b.expr.worth(v));
      } else {
        left = pick == 0 ? new Told(a.text + "*" + b.text, v -> a.expr.worth(v) * b.expr.worth(v))
            : new Told(a.text + "/" + b.text, v -> b.expr.worth(v) == 0 ? 0 : a.expr.worth(v) / b.expr.worth(v));
      }
    }
    return left;
  }

  private static Told test(Random r, int depth) {
    Told a = expr(r, 3, depth);
    Told whole = a;
    int pick = r.nextInt(5);
    if (pick < 2) {
      Told b = expr(r, 3, depth);
      whole = pick == 0 ? new Told(a.text + " < " + b.text, v -> a.expr.worth(v) < b.expr.worth(v) ? 1 : 0)
          : new Told(a.text + "=" + b.text, v -> a.expr.worth(v) == b.expr.worth(v) ? 1 : 0);
    }
    int nots = r.nextInt(4) == 0 ? 1 + r.nextInt(3) : 0;
    for (int i = 0; i < nots; i++) {
      Told inner = whole;
      whole = new Told("not " + inner.text, v -> inner.expr.worth(v) == 0 ? 1 : 0);
    }
    return whole;
  }

  private static Told part(Random r, int depth) {
    int pick = r.nextInt(10);
    if (pick < 3) {
      int n = r.nextInt(3) == 0 ? r.nextInt(10000) : r.nextInt(9);
      return new Told(String.valueOf(n), v -> n);
    }
    if (pick < 8 || depth >= 5) {
      int n = r.nextInt(VALUES.length);
      return new Told(VALUES[n], v -> v[n]);
    }
    Told inner = expr(r, 0, depth + 1);
    return new Told("(" + inner.text + ")", inner.expr);
  }

  // ---------------------------------------------------------------- the model

  private static final class Slate implements Cloneable {
    int x;
    int y;
    int hour;
    List<int[]> marks = new ArrayList<>();
    Set<Integer> rubbed = new HashSet<>();

    Slate copy() {
      Slate s = new Slate();
      s.x = x;
      s.y = y;
      s.hour = hour;
      s.marks.addAll(marks);
      s.rubbed.addAll(rubbed);
      return s;
    }
  }

  private static final class Model {
    int w = 6;
    int h = 6;
    int schoolX;
    int schoolY;
    int reach = 2;
    int goal = 5;
    boolean[][] rock = new boolean[8][8];
    int[][] current = new int[8][8];
    List<Slate> slates = new ArrayList<>();
    List<int[]> hands = new ArrayList<>();
    List<int[]> pilots = new ArrayList<>();
    List<Told> rules = new ArrayList<>();
    List<Integer> ruleWays = new ArrayList<>();
    /** Whole copies of all slates, as they were ahead of each act. */
    Deque<List<Slate>> acts = new ArrayDeque<>();
    List<Slate> imageSlates;
    Deque<List<Slate>> imageActs;
    List<Integer> kept;
    int refused;

    Model() {
      for (int[] row : current) {
        Arrays.fill(row, -1);
      }
    }

    static List<Slate> copyOf(List<Slate> slates) {
      List<Slate> copy = new ArrayList<>();
      for (Slate s : slates) {
        copy.add(s.copy());
      }
      return copy;
    }

    boolean inSea(int x, int y) {
      return x >= 0 && y >= 0 && x < w && y < h;
    }

    /** how, x, y behind a step. */
    int[] step(int x, int y, int hour, int way, boolean tides) {
      if (way >= 0) {
        if (!inSea(x + DX[way], y + DY[way])) {
          return new int[] {3, x, y};
        }
        x += DX[way];
        y += DY[way];
        if (rock[y][x]) {
          return new int[] {1, x, y};
        }
      }
      int c = current[y][x];
      if (tides && hour % 2 == 0 && c >= 0 && inSea(x + DX[c], y + DY[c])) {
        x += DX[c];
        y += DY[c];
        return new int[] {rock[y][x] ? 2 : 0, x, y};
      }
      return new int[] {0, x, y};
    }

    /** how, cell, mark, step, hour, explained (1) */
    int[] voyage(Slate s) {
      int x = s.x;
      int y = s.y;
      int hour = s.hour;
      for (int m = 0; m < s.marks.size(); m++) {
        int beginX = x;
        int beginY = y;
        for (int k = 0; k < s.marks.get(m)[1]; k++) {
          int[] now = step(x, y, hour, s.marks.get(m)[0], true);
          x = now[1];
          y = now[2];
          if (now[0] != 0) {
            int explained = now[0] == 2 && calm(beginX, beginY, s.marks.get(m)) ? 1 : 0;
            return new int[] {now[0], w * y + x, m, k, hour, explained};
          }
          hour++;
        }
      }
      return new int[] {0, w * y + x, s.marks.size(), 0, hour, 0};
    }

    boolean calm(int x, int y, int[] mark) {
      for (int k = 1; k <= mark[1]; k++) {
        int nx = x + k * DX[mark[0]];
        int ny = y + k * DY[mark[0]];
        if (!inSea(nx, ny) || rock[ny][nx]) {
          return false;
        }
      }
      return true;
    }

    /** All steps that he took one by one: what he was in. */
    long been(Slate s) {
      long cells = 1L << w * s.y + s.x;
      int x = s.x;
      int y = s.y;
      int hour = s.hour;
      int[] end = voyage(s);
      for (int m = 0; m < s.marks.size(); m++) {
        for (int k = 0; k < s.marks.get(m)[1]; k++) {
          int way = s.marks.get(m)[0];
          int[] now = step(x, y, hour, way, true);
          if (now[0] != 3) {
            cells |= 1L << w * (y + DY[way]) + x + DX[way];
            cells |= 1L << w * now[2] + now[1];
          }
          x = now[1];
          y = now[2];
          if (now[0] != 0) {
            return end[0] == 3 ? cells : cells & ~(1L << end[1]);
          }
          hour++;
        }
      }
      return cells;
    }

    long where(Slate s, int k) {
      Set<List<Integer>> states = new HashSet<>();
      states.add(List.of(s.x, s.y, s.hour));
      for (int m = 0; m < k; m++) {
        Set<List<Integer>> next = new HashSet<>();
        for (List<Integer> state : states) {
          if (!s.rubbed.contains(m)) {
            addSailed(next, state, s.marks.get(m)[0], s.marks.get(m)[1]);
            continue;
          }
          for (int way = 0; way < 4; way++) {
            for (int steps = 1; steps <= 9; steps++) {
              addSailed(next, state, way, steps);
            }
          }
        }
        states = next;
      }
      long cells = 0;
      for (List<Integer> state : states) {
        cells |= 1L << w * state.get(1) + state.get(0);
      }
      return cells;
    }

    void addSailed(Set<List<Integer>> next, List<Integer> from, int way, int steps) {
      int x = from.get(0);
      int y = from.get(1);
      int hour = from.get(2);
      for (int i = 0; i < steps; i++) {
        int[] now = step(x, y, hour, way, true);
        if (now[0] != 0) {
          return;
        }
        x = now[1];
        y = now[2];
        hour++;
      }
      next.add(List.of(x, y, hour));
    }

    int[] sails(int pilot, int read) {
      Set<Integer> known = new HashSet<>();
      for (int i = 0; i < slates.size(); i++) {
        int[] v = voyage(slates.get(i));
        if ((read & 1 << i) != 0 && (v[0] == 1 || v[0] == 2)) {
          known.add(v[1]);
        }
      }
      int x = pilots.get(pilot)[0];
      int y = pilots.get(pilot)[1];
      int hour = pilots.get(pilot)[2];
      for (int i = 0; i < 60; i++) {
        if (x >= goal) {
          return new int[] {4, w * y + x, hour};
        }
        int[] values = new int[8];
        values[0] = x;
        values[1] = y;
        values[2] = hour;
        int c = current[y][x];
        values[3] = c >= 0 && hour % 2 == 0 && inSea(x + DX[c], y + DY[c]) ? 1 : 0;
        for (int way = 0; way < 4; way++) {
          int nx = x + DX[way];
          int ny = y + DY[way];
          values[4 + way] = !inSea(nx, ny) || known.contains(w * ny + nx) ? 1 : 0;
        }
        int way = -1;
        for (int k = 0; k < rules.size() && way < 0; k++) {
          way = rules.get(k).expr.worth(values) != 0 ? ruleWays.get(k) : -1;
        }
        int[] now = step(x, y, hour, way, true);
        x = now[1];
        y = now[2];
        if (now[0] != 0) {
          return new int[] {now[0], w * y + x, hour};
        }
        hour++;
      }
      return new int[] {x >= goal ? 4 : 0, w * y + x, hour};
    }

    List<Integer> study(int pilot) {
      for (int size = 0; size <= slates.size(); size++) {
        List<Integer> row = study(pilot, size, new ArrayList<>(), new HashSet<>());
        if (row != null) {
          return row;
        }
      }
      return null;
    }

    /** Rows in their order; sets that were seen to fail are not tried again. */
    List<Integer> study(int pilot, int size, List<Integer> row, Set<Integer> failed) {
      int set = 0;
      for (int s : row) {
        set |= 1 << s;
      }
      if (failed.contains(set)) {
        return null;
      }
      if (row.size() == size && sails(pilot, set)[0] == 4) {
        return row;
      }
      for (int s = 0; s < slates.size() && row.size() < size; s++) {
        if (!row.contains(s) && near(s, row)) {
          List<Integer> longer = new ArrayList<>(row);
          longer.add(s);
          List<Integer> found = study(pilot, size, longer, failed);
          if (found != null) {
            return found;
          }
        }
      }
      failed.add(set);
      return null;
    }

    boolean near(int s, List<Integer> row) {
      int x = slates.get(s).x;
      int y = slates.get(s).y;
      if (Math.abs(x - schoolX) <= reach && Math.abs(y - schoolY) <= reach) {
        return true;
      }
      for (int other : row) {
        int end = voyage(slates.get(other))[1];
        if (Math.abs(x - end % w) <= reach && Math.abs(y - end / w) <= reach) {
          return true;
        }
      }
      return false;
    }

    int[] dive(int depth) {
      int[] best = {0, 0};
      for (int cell = w * h - 1; cell >= 0; cell--) {
        int n = 0;
        for (Slate s : slates) {
          int[] v = voyage(s);
          if ((v[0] == 1 || v[0] == 2) && Math.abs(v[1] % w - cell % w) <= depth
              && Math.abs(v[1] / w - cell / w) <= depth) {
            n++;
          }
        }
        if (n >= best[1]) {
          best = new int[] {cell, n};
        }
      }
      return best;
    }

    long[] hand(Slate s) {
      long[] best = {-1, -1, -1, 0};
      for (int a = hands.size() - 1; a >= 0; a--) {
        for (int b = hands.size() - 1; b >= 0; b--) {
          for (int k = s.marks.size() - 1; k >= 1; k--) {
            long product = a == b ? 0 : 1;
            for (int i = 0; i < s.marks.size(); i++) {
              product *= hands.get(i < k ? a : b)[s.marks.get(i)[0]];
            }
            if (product > 0 && product >= best[3]) {
              best = new long[] {a, b, k, product};
            }
          }
        }
      }
      return best;
    }

    int[] copied(Slate a, Slate b) {
      for (int n = Math.min(a.marks.size(), b.marks.size()); n > 0; n--) {
        for (int i = 0; i + n <= a.marks.size(); i++) {
          for (int j = 0; j + n <= b.marks.size(); j++) {
            boolean like = true;
            for (int k = 0; k < n; k++) {
              like &= Arrays.equals(a.marks.get(i + k), b.marks.get(j + k));
            }
            if (like) {
              return new int[] {n, i, j};
            }
          }
        }
      }
      return new int[] {0, -1, -1};
    }

    void act() {
      acts.addLast(copyOf(slates));
      if (acts.size() > 30) {
        acts.removeFirst();
      }
    }
  }

  // ---------------------------------------------------------------- random seas

  private static String build(Random r, Model m) {
    StringBuilder t = new StringBuilder();
    int room = 690;
    if (r.nextInt(5) > 0) {
      m.w = 2 + r.nextInt(7);
      m.h = 2 + r.nextInt(7);
      t.append("sea ").append(m.w).append(' ').append(m.h).append(';');
    }
    int rocks = r.nextInt(12);
    for (int i = 0; i < rocks; i++) {
      int x = r.nextInt(m.w);
      int y = r.nextInt(m.h);
      if (!m.rock[y][x]) {
        m.rock[y][x] = true;
        t.append("rock ").append(x).append(' ').append(y).append(';');
      }
    }
    int currents = r.nextInt(10);
    for (int i = 0; i < currents; i++) {
      int x = r.nextInt(m.w);
      int y = r.nextInt(m.h);
      if (m.current[y][x] < 0) {
        m.current[y][x] = r.nextInt(4);
        t.append("current ").append(x).append(' ').append(y).append(' ').append(WAYS[m.current[y][x]]).append(";\n");
      }
    }
    int hands = r.nextInt(4);
    for (int i = 0; i < hands && t.length() < room - 40; i++) {
      int a = r.nextInt(13);
      int b = r.nextInt(13 - a);
      int c = r.nextInt(13 - a - b);
      m.hands.add(new int[] {a, b, c, 12 - a - b - c});
      t.append("hand " + a + " " + b + " " + c + " " + (12 - a - b - c) + ";");
    }
    if (r.nextBoolean()) {
      m.schoolX = r.nextInt(m.w);
      m.schoolY = r.nextInt(m.h);
      m.reach = r.nextInt(r.nextBoolean() ? 3 : 10);
      t.append("school " + m.schoolX + " " + m.schoolY + " " + m.reach + ";");
    }
    if (r.nextInt(3) > 0) {
      m.goal = 1 + r.nextInt(Math.min(7, m.w));
      t.append("goal " + m.goal + ";");
    }
    int slates = r.nextInt(9);
    for (int i = 0; i < slates && t.length() < room - 320; i++) {
      Slate s = new Slate();
      s.x = r.nextInt(m.w);
      s.y = r.nextInt(m.h);
      s.hour = r.nextInt(100);
      t.append("slate " + s.x + " " + s.y + " " + s.hour);
      int marks = r.nextInt(4) == 0 ? r.nextInt(9) : r.nextInt(4);
      for (int k = 0; k < marks; k++) {
        int way = r.nextInt(4);
        int steps = r.nextInt(3) == 0 ? 1 + r.nextInt(9) : 1 + r.nextInt(2);
        s.marks.add(new int[] {way, steps});
        t.append(" " + WAYS[way] + " " + steps);
      }
      m.slates.add(s);
      t.append(";");
    }
    int pilots = r.nextInt(5);
    for (int i = 0; i < pilots; i++) {
      int[] p = {r.nextInt(m.w), r.nextInt(m.h), r.nextInt(100), 0};
      t.append("pilot " + p[0] + " " + p[1] + " " + p[2]);
      for (int k = m.slates.size() - 1; k >= 0; k--) {
        if (r.nextInt(3) == 0) {
          p[3] |= 1 << k;
          t.append(" " + k);
        }
      }
      m.pilots.add(p);
      t.append(";");
    }
    addRules(r, m, t, room);
    return t.toString();
  }

  private static void addRules(Random r, Model m, StringBuilder t, int room) {
    Told[] sensible = {new Told("east and not north", v -> v[5] != 0 && v[4] == 0 ? 1 : 0),
        new Told("east", v -> v[5]), new Told("1", v -> 1), new Told("tide", v -> v[3]),
        new Told("not east", v -> v[5] == 0 ? 1 : 0), new Told("not south", v -> v[6] == 0 ? 1 : 0)};
    int[] ways = {0, 2, 1, 3, 1, 2};
    int rules = r.nextInt(9);
    for (int i = 0; i < rules; i++) {
      int pick = r.nextInt(sensible.length);
      boolean plain = r.nextInt(3) > 0;
      Told e = plain ? sensible[pick] : expr(r, 0, 0);
      int way = plain ? ways[pick] : r.nextInt(4);
      String line = "rule " + e.text + " go " + WAYS[way] + ";";
      if (t.length() + line.length() <= room) {
        t.append(line);
        m.rules.add(e);
        m.ruleWays.add(way);
      }
    }
  }

  // ---------------------------------------------------------------- calls

  private interface Call {
    long run();
  }

  private static void due(String what, long want, Call call) {
    calls++;
    long got;
    try {
      got = call.run();
    } catch (NoSuchElementException e) {
      got = NSEE;
    } catch (IllegalArgumentException e) {
      got = IAE;
    }
    if (got != want) {
      wrong++;
      if (wrong < 30) {
        System.out.println(what + " answered " + got + ", due is " + want);
      }
    }
  }

  private static void load(DrownedSlates x, String text) {
    byte[] bytes = text.getBytes(StandardCharsets.ISO_8859_1);
    byte[] padded = Arrays.copyOf(bytes, (bytes.length + 19) / 20 * 20);
    for (int i = 0; i < padded.length; i += 20) {
      int[] n = new int[5];
      for (int j = 0; j < 20; j++) {
        n[j / 4] = n[j / 4] << 8 | padded[i + j] & 255;
      }
      x.feed(n[0], n[1], n[2], n[3], n[4]);
    }
  }

  private static void change(Random r, DrownedSlates x, Model m, String text) {
    int n = m.slates.size();
    int s = r.nextInt(n + 1);
    switch (r.nextInt(8)) {
      case 0: case 1: {
        int way = r.nextInt(5);
        int steps = r.nextInt(11);
        boolean asTold = s < n && way < 4 && steps > 0 && steps < 10 && m.slates.get(s).marks.size() < 8;
        if (asTold) {
          m.act();
          m.slates.get(s).marks.add(new int[] {way, steps});
        } else if (s < n) {
          m.refused++;
        }
        due(text + " write", s >= n ? NSEE : asTold ? m.slates.get(s).marks.size() : -1, () -> x.write(s, way, steps));
        break;
      }
      case 2: case 3: {
        int seed = r.nextInt();
        int chance = r.nextInt(104) - 1;
        boolean asTold = s < n && chance >= 0 && chance <= 100;
        if (asTold) {
          m.act();
          int state = seed;
          for (int i = 0; i < m.slates.get(s).marks.size(); i++) {
            state = state * 1103515245 + 12345;
            if ((state >> 16 & 32767) % 100 < chance) {
              m.slates.get(s).rubbed.add(i);
            }
          }
        } else if (s < n) {
          m.refused++;
        }
        due(text + " rub", s >= n ? NSEE : asTold ? m.slates.get(s).rubbed.size() : -1, () -> x.rub(s, seed, chance));
        break;
      }
      case 4: {
        boolean any = !m.acts.isEmpty();
        if (any) {
          m.slates = m.acts.removeLast();
        }
        due(text + " undo", any ? m.acts.size() : -1, x::undo);
        break;
      }
      case 5: {
        if (r.nextInt(3) == 0) {
          m.imageSlates = Model.copyOf(m.slates);
          m.imageActs = new ArrayDeque<>();
          for (List<Slate> act : m.acts) {
            m.imageActs.addLast(Model.copyOf(act));
          }
          x.image();
        }
        break;
      }
      case 6: {
        if (m.imageSlates != null) {
          m.slates = Model.copyOf(m.imageSlates);
          m.acts = new ArrayDeque<>();
          for (List<Slate> act : m.imageActs) {
            m.acts.addLast(Model.copyOf(act));
          }
        }
        due(text + " restore", m.imageSlates != null ? 1 : 0, () -> x.restore() ? 1 : 0);
        break;
      }
      default: {
        int p = r.nextInt(m.pilots.size() + 1);
        List<Integer> row = p < m.pilots.size() ? m.study(p) : null;
        if (row != null) {
          m.kept = row;
        }
        due(text + " study " + p, p >= m.pilots.size() ? NSEE : row == null ? -1 : row.size(), () -> x.study(p));
        break;
      }
    }
  }

  private static void askAll(Random r, DrownedSlates x, Model m, String text) {
    due(text + " acts", m.acts.size(), () -> x.count(11));
    due(text + " refused", m.refused, () -> x.count(14));
    long been = 0;
    long rocks = 0;
    for (int i = 0; i < m.slates.size(); i++) {
      int s = i;
      Slate slate = m.slates.get(i);
      int[] v = m.voyage(slate);
      for (int what = 0; what < 5; what++) {
        int w = what;
        due(text + " voyage " + s + " " + w, v[w], () -> x.voyage(s, w));
      }
      due(text + " explained " + s, v[5], () -> x.explained(s) ? 1 : 0);
      been |= m.been(slate);
      rocks |= v[0] == 1 || v[0] == 2 ? 1L << v[1] : 0;
      int k = r.nextInt(slate.marks.size() + 2);
      due(text + " where " + s + " " + k, k > slate.marks.size() ? NSEE : m.where(slate, k), () -> x.where(s, k));
      long[] hand = m.hand(slate);
      int w = r.nextInt(4);
      due(text + " hand " + s + " " + w, hand[w], () -> x.hand(s, w));
      int other = r.nextInt(m.slates.size());
      int c = r.nextInt(3);
      due(text + " copied " + s + " " + other, s == other ? IAE : m.copied(slate, m.slates.get(other))[c],
          () -> x.copied(s, other, c));
      int bits = 0;
      for (int b : slate.rubbed) {
        bits |= 1 << b;
      }
      due(text + " slate " + s, bits, () -> x.slate(s, 3));
      due(text + " slate " + s, slate.marks.size(), () -> x.slate(s, 2));
    }
    long all = m.w * m.h == 64 ? -1L : (1L << m.w * m.h) - 1;
    long[] chart = {been, rocks, all & ~been & ~rocks};
    for (int what = 0; what < 3; what++) {
      int w = what;
      due(text + " chart " + w, chart[w], () -> x.chart(w));
    }
    int depth = r.nextInt(8);
    due(text + " dive " + depth, m.dive(depth)[0], () -> x.dive(depth, 0));
    due(text + " dive " + depth, m.dive(depth)[1], () -> x.dive(depth, 1));
    askPilots(r, x, m, text);
  }

  private static void askPilots(Random r, DrownedSlates x, Model m, String text) {
    int exam = 0;
    for (int i = 0; i < m.pilots.size(); i++) {
      int p = i;
      exam |= m.sails(p, m.pilots.get(p)[3])[0] == 4 ? 1 << p : 0;
      int read = r.nextInt(1 << m.slates.size());
      int[] end = m.sails(p, read);
      for (int what = 0; what < 3; what++) {
        int w = what;
        due(text + " sails " + p + " " + read + " " + w, end[w], () -> x.sails(p, read, w));
      }
    }
    due(text + " exam", exam, x::exam);
    int i = r.nextInt(4);
    due(text + " studied " + i, m.kept == null || i >= m.kept.size() ? NSEE : m.kept.get(i), () -> x.studied(i));
  }

  private static void oneSea(Random r) {
    Model m = new Model();
    String text = build(r, m);
    DrownedSlates x = new DrownedSlates();
    load(x, text);
    due(text, 0, () -> x.sea(text.length()));
    due(text, m.slates.size(), () -> x.count(4));
    due(text, m.rules.size(), () -> x.count(7));
    for (int turn = 0; turn < 3; turn++) {
      askAll(r, x, m, text);
      for (int i = 0; i < 12; i++) {
        change(r, x, m, text);
      }
    }
    askAll(r, x, m, text);
  }

  /** Texts with bytes changed, and any arguments: only what the document names is thrown. */
  private static void anyCalls(Random r) {
    DrownedSlates x = new DrownedSlates();
    String text = "";
    for (int call = 0; call < 512; call++) {
      if (call % 64 == 0) {
        text = spoilt(r, build(r, new Model()));
        int length = text.length();
        load(x, text);
        due("state of sea", 0, () -> x.sea(length) == 0 == (x.fault() == -1) ? 0 : 1);
      }
      anyCall(r, x);
    }
  }

  private static String spoilt(Random r, String text) {
    StringBuilder t = new StringBuilder(text);
    String[] bits = {";", "(", ")", "not ", "12345", "x", " go ", "9", "0", "rule ", "rock 1 1;", "+", "\u00ff", "<"};
    for (int i = r.nextInt(4); i > 0 && t.length() > 0; i--) {
      int at = r.nextInt(t.length());
      if (r.nextBoolean()) {
        t.deleteCharAt(at);
      } else {
        t.insert(at, bits[r.nextInt(bits.length)]);
      }
    }
    return t.length() > 700 ? t.substring(0, 700) : t.toString();
  }

  private static int any(Random r) {
    int[] odd = {Integer.MIN_VALUE, Integer.MAX_VALUE, -1, 64, 63, 8, 9};
    return r.nextInt(8) == 0 ? odd[r.nextInt(odd.length)] : r.nextInt(9) - 1;
  }

  private static void anyCall(Random r, DrownedSlates x) {
    int a = any(r);
    int b = any(r);
    int c = any(r);
    try {
      switch (r.nextInt(24)) {
        case 0: x.count(a + b); break;
        case 1: x.cell(a, b); break;
        case 2: x.slate(a, b); break;
        case 3: x.mark(a, b, c); break;
        case 4: x.write(a, b, c); break;
        case 5: x.rub(a, b, r.nextInt(120)); break;
        case 6: x.undo(); break;
        case 7: x.voyage(a, b); break;
        case 8: x.explained(a); break;
        case 9: x.where(a, b); break;
        case 10: x.pilot(a, b); break;
        case 11: x.sails(a, b, c); break;
        case 12: x.exam(); break;
        case 13: x.study(a); break;
        case 14: x.studied(a); break;
        case 15: x.dive(a, b); break;
        case 16: x.chart(a); break;
        case 17: x.hand(a, b); break;
        case 18: x.copied(a, b, c); break;
        case 19: x.image(); break;
        case 20: x.restore(); break;
        case 21: x.fault(); break;
        case 22: x.feed(a, b, c, a, b); break;
        default: x.sea(a); break;
      }
    } catch (NoSuchElementException e) {
      calls++;
    } catch (IllegalArgumentException e) {
      calls++;
    }
  }

  public static void main(String[] args) {
    int seas = args.length > 0 ? Integer.parseInt(args[0]) : 3000;
    Random r = new Random(args.length > 1 ? Long.parseLong(args[1]) : 20261118L);
    for (int i = 0; i < seas; i++) {
      oneSea(r);
    }
    for (int i = 0; i < seas / 10; i++) {
      anyCalls(r);
    }
    System.out.println(wrong == 0 ? calls + " calls as the model has it" : wrong + " answers are not as due");
    if (wrong != 0) {
      System.exit(1);
    }
  }
}
