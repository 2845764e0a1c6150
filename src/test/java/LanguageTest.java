import java.io.IOException;
import java.lang.reflect.Executable;
import java.lang.reflect.Field;
import java.lang.reflect.Method;
import java.lang.reflect.Modifier;
import java.nio.file.Files;
import java.nio.file.Path;
import java.util.ArrayList;
import java.util.Arrays;
import java.util.List;
import java.util.TreeSet;
import java.util.regex.Matcher;
import java.util.regex.Pattern;

/** What of LANGUAGE.md can be seen from the source's words and from the class itself. */
public final class LanguageTest {
  private static final Path SOURCE = Path.of("src/main/java/ToolHouse.java");
  private static final String[] FACE = {"NONE:int", "kind:3", "thing:1", "member:0", "feed:5", "end:1", "law:0",
      "place:0", "look:1", "lawful:2", "ask:6", "plan:0", "off:1", "out:1", "back:1", "work:2", "days:1",
      "buy:1", "of:2", "thingOf:2", "isFree:3", "memberOf:2", "count:1"};
  private static final String[] UNWANTED = {"->", "::", "\\bcatch\\b", "\\btry\\b", "\\bfinally\\b",
      "\\bsynchronized\\b", "\\bassert\\b", "\\binstanceof\\b", "\\bpackage\\b", "static\\s*\\{", "\\.stream\\b",
      "\\w+Exact\\b", "\\bvar\\b", "\\bnative\\b", "\\bvolatile\\b", "\\bprotected\\b", "\\bSystem\\b",
      "\\bdouble\\b", "\\bfloat\\b", "\\bequals\\b", "\\bhashCode\\b", "\\btoString\\b"};
  private static final Pattern METHOD = Pattern.compile("(?m)^( {4}| {8})[^\\s/*@].*\\) (throws \\w+ )?\\{$");
  private static final List<String> faults = new ArrayList<>();

  public static void main(String[] args) throws IOException {
    String source = Files.readString(SOURCE);
    faceIsTheDocuments();
    for (String each : UNWANTED) {
      Matcher found = Pattern.compile(each).matcher(withoutComments(source));
      if (found.find()) faults.add("rule 2, 4 or 6: '" + found.group() + "' stands in the source");
    }
    importsAreFew(source);
    methodsAreShort(source);
    List<Class<?>> classes = new ArrayList<>(List.of(ToolHouse.class.getDeclaredClasses()));
    if (classes.size() > 11) faults.add("rule 11: " + classes.size() + " classes inside");
    for (Class<?> each : classes) {
      if (!Modifier.isStatic(each.getModifiers())) faults.add("rule 1: " + each + " is not static");
      if (Modifier.isPublic(each.getModifiers())) faults.add("rule 1: " + each + " is public");
    }
    classes.add(ToolHouse.class);
    classes.forEach(LanguageTest::membersKeepTheRules);
    faults.forEach(System.out::println);
    if (!faults.isEmpty()) System.exit(1);
    System.out.println("the program keeps what this test knows of LANGUAGE.md");
  }

  private static void faceIsTheDocuments() {
    TreeSet<String> seen = new TreeSet<>();
    TreeSet<String> hidden = new TreeSet<>();
    for (Method each : ToolHouse.class.getDeclaredMethods()) {
      if (Modifier.isPrivate(each.getModifiers())) hidden.add(each.getName());
      else seen.add(each.getName() + ":" + each.getParameterCount());
      if (!Modifier.isPrivate(each.getModifiers()) && !Modifier.isPublic(each.getModifiers())) {
        faults.add("rule 1: " + each + " is neither public nor private");
      }
    }
    for (Field each : ToolHouse.class.getDeclaredFields()) {
      if (!Modifier.isPrivate(each.getModifiers())) seen.add(each.getName() + ":" + each.getType());
    }
    if (!seen.equals(new TreeSet<>(Arrays.asList(FACE)))) faults.add("rule 1: the face is " + seen);
    for (String each : FACE) {
      if (hidden.contains(each.replaceAll(":.*", ""))) faults.add("rule 1: a private method bears the name " + each);
    }
    if (ToolHouse.class.getConstructors().length != 1) faults.add("rule 1: constructors");
    int modifiers = ToolHouse.class.getModifiers();
    if (!Modifier.isPublic(modifiers) || !Modifier.isFinal(modifiers)) faults.add("rule 1: not public and final");
  }

  private static String withoutComments(String source) {
    return source.replaceAll("(?s)/\\*.*?\\*/", "").replaceAll("//.*", "");
  }

  private static void importsAreFew(String source) {
    Matcher found = Pattern.compile("(?m)^import (.*);$").matcher(source);
    List<String> allowed = List.of("java.util.ArrayList", "java.util.List", "java.util.Arrays",
        "java.util.NoSuchElementException");
    while (found.find()) {
      if (!allowed.contains(found.group(1))) faults.add("rule 4: import " + found.group(1));
    }
    if (source.chars().anyMatch(c -> c > 127)) faults.add("rule 4: a sign beyond 127");
  }

  private static void methodsAreShort(String source) {
    Matcher found = METHOD.matcher(source);
    while (found.find()) {
      int end = source.indexOf("\n" + found.group(1) + "}", found.start());
      long lines = source.substring(found.start(), Math.max(end, found.start())).lines().count();
      if (end < 0 || lines > 60) faults.add("rule 11: " + lines + " lines from " + found.group().trim());
    }
  }

  private static void membersKeepTheRules(Class<?> each) {
    int fields = 0;
    for (Field field : each.getDeclaredFields()) {
      boolean isStatic = Modifier.isStatic(field.getModifiers());
      if (isStatic && !Modifier.isFinal(field.getModifiers())) faults.add("rule 5: " + field);
      fields += isStatic ? 0 : 1;
    }
    if (fields > 20) faults.add("rule 11: " + fields + " fields in " + each);
    List<Executable> calls = new ArrayList<>(List.of(each.getDeclaredMethods()));
    calls.addAll(List.of(each.getDeclaredConstructors()));
    for (Executable call : calls) {
      if (call.getParameterCount() > 7) faults.add("rule 11: parameters of " + call);
      if (call.isSynthetic()) faults.add("rule 2: made by the compiler: " + call);
    }
  }
}
