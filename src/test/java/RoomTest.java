import com.sun.management.ThreadMXBean;
import java.lang.management.ManagementFactory;
import java.lang.reflect.Array;
import java.lang.reflect.Field;
import java.lang.reflect.Modifier;
import java.util.IdentityHashMap;
import java.util.Map;

/** All calls live in one room: an object is small, and no call but one that throws makes another object. */
public final class RoomTest {
  private static final int MOST_ELEMENTS = 5000;
  private static final int MOST_OBJECTS = 100;
  private static final int CALLS = 500;
  private static final ThreadMXBean THREADS = (ThreadMXBean) ManagementFactory.getThreadMXBean();
  private static int wrong = 0;
  private static long sink = 0;

  private static void check(boolean right, String what) {
    if (!right) {
      wrong++;
      System.out.println(what);
    }
  }

  /** Fields and elements of an object and of all that it holds. */
  private static long sizeOf(Object o, Map<Object, Object> seen) throws IllegalAccessException {
    if (o == null || o instanceof String || seen.put(o, o) != null) {
      return 0;
    }
    Class<?> c = o.getClass();
    if (c.isArray()) {
      long size = Array.getLength(o);
      for (int i = 0; !c.getComponentType().isPrimitive() && i < Array.getLength(o); i++) {
        size += sizeOf(Array.get(o, i), seen);
      }
      return size;
    }
    long size = 0;
    for (Field f : c.getDeclaredFields()) {
      if (!Modifier.isStatic(f.getModifiers())) {
        f.setAccessible(true);
        size += 1 + (f.getType().isPrimitive() ? 0 : sizeOf(f.get(o), seen));
      }
    }
    return size;
  }

  private static void load(DrownedSlates x) {
    String text = "sea 8 8;rock 3 3;rock 5 0;current 1 0 south;slate 0 0 0 east 5;slate 3 0 1 south 9 east 1;slate 0 1 0 east 1 "
        + "east 2;hand 3 3 3 3;hand 1 1 5 5;school 0 0 9;goal 7;pilot 0 0 0;rule not not (x < 9) and tide go south;"
        + "rule east go south;rule 1 go east;";
    StringBuilder padded = new StringBuilder(text);
    while (padded.length() % 20 != 0) {
      padded.append(' ');
    }
    for (int i = 0; i < padded.length(); i += 20) {
      int[] n = new int[5];
      for (int j = 0; j < 20; j++) {
        n[j / 4] = n[j / 4] << 8 | padded.charAt(i + j);
      }
      x.feed(n[0], n[1], n[2], n[3], n[4]);
    }
    check(x.sea(padded.length()) == 0, "the text has a fault at " + x.fault());
  }

  /** Each call that makes no exception, once. */
  private static void callAll(DrownedSlates x, int i) {
    sink += x.feed(0x20202020, 0x20202020, 0x20202020, 0x20202020, 0x20202020);
    sink += x.fault() + x.count(i % 15) + x.cell(i % 64, i % 2) + x.slate(i % 3, i % 4) + x.mark(1, i % 2, i % 2);
    sink += x.write(0, i % 4, 1 + i % 9) + x.rub(2, i, i % 101);
    x.image();
    sink += x.restore() ? 1 : 0;
    sink += x.undo() + x.voyage(i % 3, i % 5) + x.where(1, i % 3) + x.pilot(0, i % 3) + x.sails(0, i % 8, i % 3);
    sink += x.explained(i % 3) ? 1 : 0;
    sink += x.exam() + x.study(0) + x.dive(i % 8, i % 2) + x.chart(i % 3) + x.hand(i % 3, i % 4) + x.copied(0, 1, i % 3);
  }

  private static void callsMakeNothing() {
    DrownedSlates x = new DrownedSlates();
    load(x);
    callAll(x, 0);
    long thread = Thread.currentThread().getId();
    THREADS.getThreadAllocatedBytes(thread);
    long before = THREADS.getThreadAllocatedBytes(thread);
    for (int i = 0; i < CALLS; i++) {
      callAll(x, i);
    }
    long made = THREADS.getThreadAllocatedBytes(thread) - before;
    check(made < 8 * CALLS, CALLS + " times all calls made " + made + " bytes of objects");
  }

  private static void textsMakeNothing() {
    DrownedSlates x = new DrownedSlates();
    load(x);
    long thread = Thread.currentThread().getId();
    // 'rule', ' x<1', ' go ', 'east', ';   '
    x.feed(0x72756c65, 0x20783c31, 0x20676f20, 0x65617374, 0x3b202020);
    check(x.sea(20) == 0 && x.count(7) == 1, "the rule is not read");
    long before = THREADS.getThreadAllocatedBytes(thread);
    for (int i = 0; i < CALLS; i++) {
      x.feed(0x72756c65, 0x20783c31, 0x20676f20, 0x65617374, 0x3b202020);
      sink += x.sea(20 - i % 2 * 4);
    }
    long made = THREADS.getThreadAllocatedBytes(thread) - before;
    check(made < 8 * CALLS, CALLS + " texts made " + made + " bytes of objects");
  }

  public static void main(String[] args) throws IllegalAccessException {
    DrownedSlates x = new DrownedSlates();
    load(x);
    Map<Object, Object> seen = new IdentityHashMap<>();
    long size = sizeOf(x, seen);
    check(size <= MOST_ELEMENTS, "an object has " + size + " fields and elements");
    check(seen.size() <= MOST_OBJECTS, "an object is made of " + seen.size() + " objects");
    callsMakeNothing();
    textsMakeNothing();
    System.out.println("an object: " + seen.size() + " objects, " + size + " fields and elements; " + wrong + " things not as due");
    if (wrong != 0) {
      System.exit(1);
    }
  }
}
