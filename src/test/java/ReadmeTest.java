import java.io.IOException;
import java.lang.reflect.Method;
import java.lang.reflect.Modifier;
import java.nio.ByteBuffer;
import java.nio.IntBuffer;
import java.nio.charset.StandardCharsets;
import java.nio.file.Files;
import java.nio.file.Path;
import java.util.Arrays;
import java.util.regex.Matcher;
import java.util.regex.Pattern;

/** README.md shows how to use the class: its text has no FAULT, its calls answer as it says, none is missing. */
public final class ReadmeTest {
  private static final Pattern TEXT = Pattern.compile("```text\n(.*?)```", Pattern.DOTALL);
  private static final Pattern CALL = Pattern.compile("(?m)^slates\\.(\\w+)\\(([^)]*)\\);(?: *// (\\S+))?");

  public static void main(String[] args) throws IOException {
    String readme = Files.readString(Path.of("README.md"), StandardCharsets.UTF_8);
    Matcher text = TEXT.matcher(readme);
    Script.check(text.find(), "README.md has no text of a sea");
    Script script = Script.of("README.md", text.group(1));
    Matcher call = CALL.matcher(readme);
    while (call.find()) {
      script.due(row(call.group(1), call.group(2), call.group(3)));
    }
    for (Method method : DrownedSlates.class.getDeclaredMethods()) {
      boolean shown = !Modifier.isPublic(method.getModifiers()) || readme.contains("slates." + method.getName() + "(");
      Script.check(shown, "README.md does not show " + method.getName());
    }
    Script.check(read(new DrownedSlates(), text.group(1)) == 0, "README.md's way to feed a text does not tell it");
    showsRead(readme);
    Script.end("README.md");
  }

  private static String row(String name, String arguments, String answer) {
    String call = (name + " " + arguments.replace(",", "")).trim();
    if (answer == null) {
      return call + " -> done";
    }
    String due = answer.equals("NoSuchElementException") ? "NSEE" : answer.equals("IllegalArgumentException") ? "IAE" : answer;
    return call + " -> " + due;
  }

  /** As README.md has it. */
  static int read(DrownedSlates slates, String text) {
    byte[] bytes = text.getBytes(StandardCharsets.ISO_8859_1);
    IntBuffer ints = ByteBuffer.wrap(Arrays.copyOf(bytes, (bytes.length + 19) / 20 * 20)).asIntBuffer();
    while (ints.remaining() >= 5) {
      slates.feed(ints.get(), ints.get(), ints.get(), ints.get(), ints.get());
    }
    return slates.sea(bytes.length); // 0, or which FAULT (1 to 5)
  }

  private static void showsRead(String readme) throws IOException {
    String source = Files.readString(Path.of("src/test/java/ReadmeTest.java"), StandardCharsets.UTF_8);
    int from = source.indexOf("  static int read(");
    String method = source.substring(from, source.indexOf("\n  }\n", from) + 4);
    Script.check(readme.contains(method.replace("\n  ", "\n").trim()), "README.md has another way to feed a text");
  }
}
