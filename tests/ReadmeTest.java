import java.io.IOException;
import java.lang.reflect.Method;
import java.nio.file.Files;
import java.nio.file.Path;
import java.util.regex.Matcher;
import java.util.regex.Pattern;

/** The example in README.md: makes its calls one after the other and compares what it tells. */
public final class ReadmeTest {
  private static final Pattern CALL = Pattern.compile("cube\\.(\\w+)\\((.*)\\); +// (-?\\d+).*");

  public static void main(String[] args) throws IOException, ReflectiveOperationException {
    Due due = new Due();
    due.by("README.md");
    StageCube cube = new StageCube();
    int calls = 0;
    for (String line : Files.readAllLines(Path.of("README.md"))) {
      if (line.startsWith("cube.")) {
        calls++;
        Matcher call = CALL.matcher(line);
        boolean readable = call.matches();
        due.is("whether the line tells an answer: " + line, readable ? 1 : 0, 1);
        if (readable) {
          due.is(line, make(cube, call.group(1), call.group(2)), Integer.parseInt(call.group(3)));
        }
      }
    }
    due.is("whether there is an example", calls > 0 ? 1 : 0, 1);
    due.end();
  }

  private static int make(StageCube cube, String name, String numbers)
      throws ReflectiveOperationException {
    String[] words = numbers.isEmpty() ? new String[0] : numbers.split(", ");
    Class<?>[] types = new Class<?>[words.length];
    Object[] values = new Object[words.length];
    for (int i = 0; i < words.length; i++) {
      types[i] = int.class;
      values[i] = Integer.valueOf(words[i]);
    }
    Method method = StageCube.class.getMethod(name, types);
    return (int) method.invoke(cube, values);
  }
}
