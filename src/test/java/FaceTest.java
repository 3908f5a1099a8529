import java.io.IOException;
import java.lang.reflect.Constructor;
import java.lang.reflect.Field;
import java.lang.reflect.Member;
import java.lang.reflect.Method;
import java.lang.reflect.Modifier;
import java.nio.charset.StandardCharsets;
import java.nio.file.Files;
import java.nio.file.Path;
import java.util.Arrays;
import java.util.Set;
import java.util.TreeSet;
import java.util.regex.Matcher;
import java.util.regex.Pattern;

/** The public face as the document has it, and such rules of LANGUAGE.md as a machine can look at. */
public final class FaceTest {
  private static final Path SOURCE = Path.of("src/main/java/LightestRules.java");
  private static final String[] FACE = {
    "int write(int, long)", "int wipe()", "int fault()", "int land()", "int person(int, int)", "int law(int)",
    "int eat(int, int)", "int toil(int, int)", "int drink(int, int)", "int hand(int, int, boolean)", "int day()",
    "int crown()", "int noon()", "int undo()", "int sure(int, int, int)", "int sureAt(int, int, int, int)",
    "int feed(int)", "int weigh(int, int, int)", "int unweigh()", "int mayBe(boolean)", "int search(int, int)",
    "int unsearch()", "int rows()", "int stones(int, boolean)", "int ruled(int)", "int unrule()", "long line()",
    "long seed(long)", "int reign(int, int)", "int keep(int)", "int again(int)", "int count(int)",
  };
  private static final String[] BANNED = {
    "throw", "throws", "try", "catch", "synchronized", "assert", "->", "::", "Exact", "protected", "package",
    "static {", "Random", "System.out", "System.nano", "System.current", "Thread", "toString", "hashCode",
  };

  /** Its indent, its head, its body up to the brace that stands below its start. */
  private static final Pattern METHOD =
      Pattern.compile("(?ms)^( {2}| {4})((?:[\\w\\[\\]]+ )*\\w+\\([^()]*\\)) \\{\n(.*?)^\\1\\}$");
  private static final Pattern CONSTRUCTOR = Pattern.compile("(public )?[A-Z]\\w*\\(\\)");

  public static void main(String[] args) throws IOException {
    methods();
    others();
    nestedClasses();
    String source = Files.readString(SOURCE, StandardCharsets.UTF_8);
    String code = source.replaceAll("(?s)/\\*.*?\\*/", " ").replaceAll("//[^\n]*", " ");
    bannedWords(code);
    knownImports(code);
    plainSigns(source);
    shortMethods(source);
    Checks.end("FaceTest");
  }

  private static void methods() {
    Set<String> due = new TreeSet<>(Arrays.asList(FACE));
    Set<String> seen = new TreeSet<>();
    Set<String> publicNames = new TreeSet<>();
    Set<String> privateNames = new TreeSet<>();
    for (Method method : LightestRules.class.getDeclaredMethods()) {
      if (isHidden(method)) {
        privateNames.add(method.getName());
      } else {
        publicNames.add(method.getName());
        String args = Arrays.toString(method.getParameterTypes()).replace("[", "(").replace("]", ")");
        seen.add(method.getReturnType() + " " + method.getName() + args);
        Checks.due("public, not static: " + method, onlyPublic(method), 1);
      }
    }
    Checks.same("the methods", seen.toString(), due.toString());
    privateNames.retainAll(publicNames);
    Checks.same("private ones with a public one's name", privateNames.toString(), "[]");
  }

  private static boolean isHidden(Member member) {
    return Modifier.isPrivate(member.getModifiers());
  }

  private static int onlyPublic(Member member) {
    return member.getModifiers() == Modifier.PUBLIC ? 1 : 0;
  }

  private static void others() {
    int type = LightestRules.class.getModifiers();
    Checks.due("public and final", type, Modifier.PUBLIC | Modifier.FINAL);
    Constructor<?>[] constructors = LightestRules.class.getDeclaredConstructors();
    Checks.due("constructors", constructors.length, 1);
    Checks.due("its parameters", constructors[0].getParameterCount(), 0);
    Checks.due("it is public", onlyPublic(constructors[0]), 1);
    Set<String> seen = new TreeSet<>();
    for (Field field : LightestRules.class.getDeclaredFields()) {
      if (!isHidden(field)) {
        seen.add(Modifier.toString(field.getModifiers()) + " " + field.getType() + " " + field.getName());
      }
    }
    Set<String> due = new TreeSet<>();
    for (String name : new String[] {"UNKNOWN", "OUTSIDE", "STATE", "FULL", "NONE"}) {
      due.add("public static final int " + name);
    }
    Checks.same("the constants", seen.toString(), due.toString());
    Checks.due("UNKNOWN", LightestRules.UNKNOWN, -1);
    Checks.due("OUTSIDE", LightestRules.OUTSIDE, -2);
    Checks.due("STATE", LightestRules.STATE, -3);
    Checks.due("FULL", LightestRules.FULL, -4);
    Checks.due("NONE", LightestRules.NONE, -9);
  }

  private static void nestedClasses() {
    Class<?>[] nested = LightestRules.class.getDeclaredClasses();
    Checks.due("at most some twelve classes", nested.length <= 11 ? 1 : 0, 1);
    for (Class<?> one : nested) {
      Checks.due("static: " + one, Modifier.isStatic(one.getModifiers()) ? 1 : 0, 1);
      Checks.due("not public: " + one, Modifier.isPublic(one.getModifiers()) ? 1 : 0, 0);
      int fields = 0;
      for (Field field : one.getDeclaredFields()) {
        boolean constant = Modifier.isStatic(field.getModifiers());
        fields += constant ? 0 : 1;
        Checks.due("static is final: " + field, constant && !Modifier.isFinal(field.getModifiers()) ? 1 : 0, 0);
      }
      Checks.due("fields of " + one, fields <= 20 ? 1 : 0, 1);
      for (Method method : one.getDeclaredMethods()) {
        Checks.due("parameters of " + method, method.getParameterCount() <= 7 ? 1 : 0, 1);
      }
    }
  }

  private static void bannedWords(String code) {
    for (String banned : BANNED) {
      boolean word = banned.chars().allMatch(Character::isLetter);
      String pattern = word ? "\\b" + banned + "\\b" : Pattern.quote(banned);
      Checks.due("'" + banned + "' in the source", Pattern.compile(pattern).matcher(code).find() ? 1 : 0, 0);
    }
  }

  private static void knownImports(String code) {
    Matcher imports = Pattern.compile("import ([^;]*);").matcher(code);
    while (imports.find()) {
      boolean known = Set.of("java.util.Arrays", "java.util.ArrayList", "java.util.List").contains(imports.group(1));
      Checks.due("import " + imports.group(1), known ? 1 : 0, 1);
    }
  }

  private static void plainSigns(String source) {
    for (int i = 0; i < source.length(); i++) {
      char sign = source.charAt(i);
      if (sign > 126 || sign < 32 && sign != '\n') {
        Checks.due("a sign of the source at " + i, sign, ' ');
      }
    }
  }

  /** Methods stay short, and only constructors make objects: so no run of calls can fill the room. */
  private static void shortMethods(String source) {
    Matcher methods = METHOD.matcher(source);
    int seen = 0;
    while (methods.find()) {
      seen++;
      String head = methods.group(2);
      String body = methods.group(3);
      Checks.due("'" + head + "' is short", body.lines().count() <= 60 ? 1 : 0, 1);
      boolean constructor = CONSTRUCTOR.matcher(head).matches();
      boolean makes = Pattern.compile("\\bnew\\b").matcher(body).find();
      Checks.due("'" + head + "' makes an object", !constructor && makes ? 1 : 0, 0);
    }
    Checks.due("methods seen in the source", seen, methodsOf(LightestRules.class));
  }

  private static int methodsOf(Class<?> type) {
    int methods = type.getDeclaredMethods().length + type.getDeclaredConstructors().length;
    for (Class<?> one : type.getDeclaredClasses()) {
      methods += methodsOf(one);
    }
    return methods;
  }
}
