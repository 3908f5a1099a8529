import java.io.IOException;
import java.lang.reflect.InvocationTargetException;
import java.lang.reflect.Method;
import java.nio.charset.StandardCharsets;
import java.nio.file.DirectoryStream;
import java.nio.file.Files;
import java.nio.file.Path;
import java.util.Set;
import java.util.TreeSet;
import java.util.regex.Matcher;
import java.util.regex.Pattern;

/** README.md: what its calls answer is what it says behind them; it shows each call and names each test. */
public final class ReadmeTest {
  private static final Path README = Path.of("README.md");
  private static final Path TESTS = Path.of("src/test/java");
  private static final String MADE = "LightestRules x = new LightestRules();";
  private static final Pattern SHOWN = Pattern.compile("x\\.(\\w+)\\(([^)]*)\\);\\s*// (-?\\d+|[A-Z]+)(: .*)?");
  private static final Pattern REFUSAL = Pattern.compile("\\| `([A-Z]+)` \\| (-\\d+) \\|.*");
  private static final int LAST_CALL = 512;

  private final Set<String> shown = new TreeSet<>();
  private LightestRules x = null;
  private int calls = 0;

  public static void main(String[] args) throws IOException, ReflectiveOperationException {
    String page = Files.readString(README, StandardCharsets.UTF_8);
    ReadmeTest test = new ReadmeTest();
    test.follow(page);
    test.eachCallIsShown();
    refusalsAreTheConstants(page);
    eachTestIsNamed(page);
    Checks.due("README.md says how to run the tests", page.contains("\n.ci/run\n") ? 1 : 0, 1);
    Checks.end("ReadmeTest");
  }

  private void follow(String page) throws ReflectiveOperationException {
    boolean code = false;
    for (String line : page.split("\n")) {
      if (line.startsWith("```")) {
        code = line.equals("```java");
      } else if (code && !line.isBlank()) {
        live(line);
      }
    }
  }

  private void live(String line) throws ReflectiveOperationException {
    Matcher call = SHOWN.matcher(line);
    if (line.equals(MADE)) {
      x = new LightestRules();
      calls = 0;
    } else if (call.matches() && x != null) {
      Checks.due(line, answer(call.group(1), call.group(2)), number(call.group(3)));
    } else {
      Checks.due("a call with its answer in '" + line + "'", 0, 1);
    }
  }

  private long answer(String name, String args) throws ReflectiveOperationException {
    shown.add(name);
    calls++;
    Checks.due("an object is used for at most 512 calls", calls <= LAST_CALL ? 1 : 0, 1);
    String[] told = args.isEmpty() ? new String[0] : args.split(", ");
    Method method = named(name);
    Class<?>[] types = method.getParameterTypes();
    if (types.length != told.length) {
      throw new NoSuchMethodException(name + " of " + told.length);
    }
    Object[] values = new Object[told.length];
    for (int i = 0; i < told.length; i++) {
      values[i] = value(types[i], told[i]);
    }
    try {
      return ((Number) method.invoke(x, values)).longValue();
    } catch (InvocationTargetException thrown) {
      throw new IllegalStateException(name + "(" + args + ") threw", thrown.getCause());
    }
  }

  private static Method named(String name) throws NoSuchMethodException {
    for (Method method : LightestRules.class.getMethods()) {
      if (method.getDeclaringClass() == LightestRules.class && method.getName().equals(name)) {
        return method;
      }
    }
    throw new NoSuchMethodException(name);
  }

  private static Object value(Class<?> type, String told) {
    if (type == boolean.class) {
      return Boolean.valueOf(told);
    }
    long number = Long.decode(told.endsWith("L") ? told.substring(0, told.length() - 1) : told);
    if (type == long.class) {
      return number;
    }
    return Math.toIntExact(number);
  }

  private static long number(String told) throws ReflectiveOperationException {
    boolean named = Character.isLetter(told.charAt(0));
    return named ? LightestRules.class.getField(told).getInt(null) : Long.parseLong(told);
  }

  private void eachCallIsShown() {
    Set<String> face = new TreeSet<>();
    for (Method method : LightestRules.class.getMethods()) {
      if (method.getDeclaringClass() == LightestRules.class) {
        face.add(method.getName());
      }
    }
    Checks.same("the calls that README.md shows", shown.toString(), face.toString());
  }

  private static void refusalsAreTheConstants(String page) throws ReflectiveOperationException {
    int rows = 0;
    for (String line : page.split("\n")) {
      Matcher row = REFUSAL.matcher(line);
      if (row.matches()) {
        rows++;
        Checks.due(line, Long.parseLong(row.group(2)), number(row.group(1)));
      }
    }
    Checks.due("answers below 0", rows, 5);
  }

  private static void eachTestIsNamed(String page) throws IOException {
    try (DirectoryStream<Path> files = Files.newDirectoryStream(TESTS, "*Test.java")) {
      for (Path file : files) {
        String name = file.getFileName().toString().replace(".java", "");
        Checks.due("README.md names " + name, page.contains("`" + name + "`") ? 1 : 0, 1);
      }
    }
  }
}
