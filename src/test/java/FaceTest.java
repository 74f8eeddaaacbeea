import java.lang.reflect.Constructor;
import java.lang.reflect.Field;
import java.lang.reflect.Method;
import java.lang.reflect.Modifier;
import java.util.Arrays;
import java.util.Set;
import java.util.TreeSet;

/** The class shows the document's face and nothing else, and is small enough for the room. */
public final class FaceTest {
  private static final String[] FACE = {
      "boolean explained int throws NoSuchElementException",
      "boolean restore",
      "int cell int int throws NoSuchElementException",
      "int copied int int int throws NoSuchElementException IllegalArgumentException",
      "int count int throws NoSuchElementException",
      "int dive int int throws NoSuchElementException IllegalArgumentException",
      "int exam",
      "int fault",
      "int feed int int int int int",
      "int mark int int int throws NoSuchElementException",
      "int pilot int int throws NoSuchElementException",
      "int rub int int int throws NoSuchElementException",
      "int sails int int int throws NoSuchElementException IllegalArgumentException",
      "int sea int throws IllegalArgumentException",
      "int slate int int throws NoSuchElementException",
      "int studied int throws NoSuchElementException",
      "int study int throws NoSuchElementException",
      "int undo",
      "int voyage int int throws NoSuchElementException",
      "int write int int int throws NoSuchElementException",
      "long chart int throws NoSuchElementException",
      "long hand int int throws NoSuchElementException",
      "long where int int throws NoSuchElementException",
      "void image",
  };

  private static int wrong = 0;

  private static void check(boolean right, String what) {
    if (!right) {
      wrong++;
      System.out.println(what);
    }
  }

  private static String told(Method m) {
    StringBuilder s = new StringBuilder(m.getReturnType().getSimpleName()).append(' ').append(m.getName());
    for (Class<?> c : m.getParameterTypes()) {
      s.append(' ').append(c.getSimpleName());
    }
    if (m.getExceptionTypes().length > 0) {
      s.append(" throws");
    }
    for (Class<?> c : m.getExceptionTypes()) {
      s.append(' ').append(c.getSimpleName());
    }
    return s.toString();
  }

  public static void main(String[] args) {
    Class<?> c = DrownedSlates.class;
    check(Modifier.isFinal(c.getModifiers()) && Modifier.isPublic(c.getModifiers()), "the class is public and final");
    Set<String> shown = new TreeSet<>();
    Set<String> names = new TreeSet<>();
    for (Method m : c.getDeclaredMethods()) {
      if (Modifier.isPublic(m.getModifiers())) {
        shown.add(told(m));
        names.add(m.getName());
      }
    }
    check(shown.equals(new TreeSet<>(Arrays.asList(FACE))), "the face is " + shown);
    for (Method m : c.getDeclaredMethods()) {
      boolean isPublic = Modifier.isPublic(m.getModifiers());
      check(isPublic || Modifier.isPrivate(m.getModifiers()), m + " is neither public nor private");
      check(isPublic || !names.contains(m.getName()), m + " bears a public method's name");
    }
    for (Field f : c.getDeclaredFields()) {
      boolean isNone = f.getName().equals("NONE") && Modifier.isPublic(f.getModifiers());
      check(isNone || Modifier.isPrivate(f.getModifiers()), f + " is not private");
      check(!Modifier.isStatic(f.getModifiers()) || Modifier.isFinal(f.getModifiers()), f + " is static, not final");
    }
    for (Constructor<?> k : c.getDeclaredConstructors()) {
      check(k.getParameterCount() == 0 && Modifier.isPublic(k.getModifiers()), k + " is not the constructor");
    }
    checkInside(c, names);
    System.out.println(wrong == 0 ? "the face is as told" : wrong + " things are not as told");
    if (wrong != 0) {
      System.exit(1);
    }
  }

  private static void checkInside(Class<?> c, Set<String> names) {
    check(c.getDeclaredClasses().length < 12, "more than twelve classes");
    for (Class<?> inside : c.getDeclaredClasses()) {
      check(Modifier.isStatic(inside.getModifiers()) && !Modifier.isPublic(inside.getModifiers()),
          inside + " is not static, or public");
      int fields = 0;
      for (Field f : inside.getDeclaredFields()) {
        boolean isStatic = Modifier.isStatic(f.getModifiers());
        fields += isStatic ? 0 : 1;
        check(!isStatic || Modifier.isFinal(f.getModifiers()), f + " is static, not final");
      }
      check(fields <= 20, inside + " has " + fields + " fields");
      for (Method m : inside.getDeclaredMethods()) {
        check(!names.contains(m.getName()), m + " bears a public method's name");
        check(m.getParameterCount() <= 7, m + " has more than seven parameters");
      }
    }
  }
}
