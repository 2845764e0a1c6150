import java.io.IOException;
import java.lang.reflect.Method;
import java.nio.file.Files;
import java.nio.file.Path;
import java.util.Arrays;
import java.util.HashMap;
import java.util.Map;
import java.util.TreeSet;
import java.util.regex.Matcher;
import java.util.regex.Pattern;

/** The calls of README.md's example, made as they stand there, answer what stands behind them. */
public final class ReadmeTest {
  private static final Pattern EXAMPLE = Pattern.compile("(?s)```java\n(.*?)```");
  private static final Pattern CALL =
      Pattern.compile("(?:int (\\w+) = )?house\\.(\\w+)\\((.*)\\);\\s+// (-?\\w+)(?::.*)?");
  private static final String BEGINNING = "ToolHouse house = new ToolHouse();";

  private final ToolHouse house = new ToolHouse();
  private final Map<String, Integer> names = new HashMap<>();
  private final Due due = new Due();

  public static void main(String[] args) throws IOException, ReflectiveOperationException {
    String readme = Files.readString(Path.of("README.md"));
    ReadmeTest test = new ReadmeTest();
    test.makeCallsOf(readme);
    test.tellsEveryCall(readme);
    test.due.finish();
  }

  private void makeCallsOf(String readme) throws ReflectiveOperationException {
    Matcher example = EXAMPLE.matcher(readme);
    due.is("README.md has an example", example.find(), true);
    for (String line : example.group(1).split("\n")) {
      if (line.isEmpty() || line.equals(BEGINNING)) continue;
      Matcher call = CALL.matcher(line);
      boolean isCall = call.matches();
      due.is("a call with its answer: " + line, isCall, true);
      if (isCall) makeCall(line, call);
    }
  }

  private void makeCall(String line, Matcher call) throws ReflectiveOperationException {
    Object[] numbers = call.group(3).isEmpty() ? new Object[0]
        : Arrays.stream(call.group(3).split(", ")).map(this::numberOf).toArray();
    for (Method each : ToolHouse.class.getMethods()) {
      if (each.getName().equals(call.group(2))) {
        Object got = each.invoke(house, numbers);
        due.is(line + " (answers " + got + ")", got.toString().equals(call.group(4)), true);
        if (call.group(1) != null) names.put(call.group(1), (Integer) got);
        return;
      }
    }
    due.is("no such call: " + line, false, true);
  }

  private Integer numberOf(String said) {
    return names.containsKey(said) ? names.get(said) : Integer.decode(said);
  }

  private void tellsEveryCall(String readme) {
    TreeSet<String> told = new TreeSet<>();
    Matcher name = Pattern.compile("`(\\w+)`").matcher(readme);
    while (name.find()) told.add(name.group(1));
    for (Method each : ToolHouse.class.getDeclaredMethods()) {
      if (java.lang.reflect.Modifier.isPublic(each.getModifiers())) {
        due.is("README.md tells of " + each.getName(), told.contains(each.getName()), true);
      }
    }
  }
}
