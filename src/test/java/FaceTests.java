import java.io.IOException;
import java.lang.reflect.Constructor;
import java.lang.reflect.Field;
import java.lang.reflect.Method;
import java.lang.reflect.Modifier;
import java.nio.file.Files;
import java.nio.file.Path;
import java.util.ArrayList;
import java.util.HashSet;
import java.util.List;
import java.util.Set;
import java.util.TreeSet;
import java.util.regex.Matcher;
import java.util.regex.Pattern;

// The face of the document, and those rules of LANGUAGE.md that can be looked up.
public final class FaceTests {
  private static final Set<String> FACE = new TreeSet<>(List.of(
      "int section(int,int,boolean)", "int label(int,int)", "boolean kind(int,int,int)",
      "int branch(int,int,int,int)", "boolean thunks(int,int,int)", "boolean base(int)",
      "boolean resize(int,int)", "boolean retarget(int,int)", "int lay()", "int count(int)",
      "long address(int,int)", "int route(int,int)", "int thunk(int,int)", "int encoded(int,int)",
      "int at(long)", "long walk(int)", "int far()"));

  private static final String[] FORBIDDEN_WORDS = {
      "throw", "throws", "try", "catch", "synchronized", "assert", "volatile", "transient", "native",
      "Object", "Exception", "equals", "hashCode", "toString", "Override", "System\\.out", "Thread",
      "\\w+Exact", "protected"};

  private static int wrong = 0;

  private static void hold(boolean holds, String what) {
    if (holds) return;
    wrong++;
    System.out.println("does not hold: " + what);
  }

  public static void main(String[] args) throws IOException {
    face();
    classesInside();
    source();
    System.out.println(wrong == 0 ? "face and rules hold" : wrong + " do not hold");
    if (wrong != 0) System.exit(1);
  }

  private static String signature(Method m) {
    List<String> types = new ArrayList<>();
    for (Class<?> type : m.getParameterTypes()) types.add(type.getSimpleName());
    return m.getReturnType().getSimpleName() + " " + m.getName() + "(" + String.join(",", types) + ")";
  }

  private static void face() {
    Class<?> c = VeneerYard.class;
    hold(Modifier.isPublic(c.getModifiers()) && Modifier.isFinal(c.getModifiers()), "public final class");
    Set<String> found = new TreeSet<>();
    for (Method m : c.getDeclaredMethods()) {
      if (Modifier.isPublic(m.getModifiers())) found.add(signature(m));
      else hold(Modifier.isPrivate(m.getModifiers()), m.getName() + " is public or private");
    }
    hold(found.equals(FACE), "public methods are those of the document: " + found);
    Set<String> constants = new TreeSet<>();
    for (Field f : c.getDeclaredFields()) {
      if (Modifier.isPublic(f.getModifiers())) constants.add(f.getType() + " " + f.getName());
      else hold(Modifier.isPrivate(f.getModifiers()), f.getName() + " is public or private");
    }
    hold(constants.equals(Set.of("int NONE", "long NOWHERE")), "public constants are those of the document");
    Constructor<?>[] all = c.getDeclaredConstructors();
    hold(all.length == 1 && all[0].getParameterCount() == 0 && Modifier.isPublic(all[0].getModifiers()),
        "one public constructor without parameters");
  }

  private static void classesInside() {
    Set<String> names = new HashSet<>();
    for (String s : FACE) names.add(s.substring(s.indexOf(' ') + 1, s.indexOf('(')));
    List<Class<?>> all = new ArrayList<>(List.of(VeneerYard.class.getDeclaredClasses()));
    hold(all.size() <= 11, "some twelve classes at most");
    for (Class<?> c : all) hold(Modifier.isStatic(c.getModifiers()), c.getName() + " is static");
    all.add(VeneerYard.class);
    for (Class<?> c : all) {
      int fields = 0;
      for (Field f : c.getDeclaredFields()) {
        boolean isStatic = Modifier.isStatic(f.getModifiers());
        hold(!isStatic || Modifier.isFinal(f.getModifiers()), f.getName() + " is final, if it is static");
        if (!isStatic) fields++;
      }
      hold(fields <= 20, c.getName() + " has some twenty fields at most");
      for (Method m : c.getDeclaredMethods()) {
        hold(m.getParameterCount() <= 7, m.getName() + " takes seven parameters at most");
        hold(!Modifier.isPrivate(m.getModifiers()) || !names.contains(m.getName()),
            m.getName() + " is no private method with a public one's name");
      }
    }
  }

  private static void source() throws IOException {
    String text = Files.readString(Path.of("src/main/java/VeneerYard.java"));
    String code = text.replaceAll("(?s)/\\*.*?\\*/", "").replaceAll("//[^\n]*", "");
    for (String word : FORBIDDEN_WORDS) {
      hold(!Pattern.compile("\\b" + word + "\\b").matcher(code).find(), "no " + word + " in the source");
    }
    hold(!code.contains("->") && !code.contains("::"), "no lambda, method reference or new switch");
    hold(!code.contains("package "), "no package line");
    hold(code.chars().allMatch(c -> c < 256), "characters 0 to 255 alone");
    Matcher imports = Pattern.compile("import\\s+([\\w.]+);").matcher(code);
    while (imports.find()) {
      hold(List.of("java.util.Arrays", "java.util.ArrayList", "java.util.List").contains(imports.group(1)),
          "import " + imports.group(1) + " is allowed");
    }
    int since = 0;
    for (String line : code.split("\n")) {
      since = line.matches("    (    )?(public|private)[^;=]*\\{") ? 0 : since + 1;
      hold(since <= 60, "methods of sixty lines at most, at: " + line);
    }
  }
}
