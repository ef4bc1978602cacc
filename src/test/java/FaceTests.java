import java.lang.reflect.Constructor;
import java.lang.reflect.Field;
import java.lang.reflect.Method;
import java.lang.reflect.Modifier;
import java.util.ArrayList;
import java.util.HashSet;
import java.util.List;
import java.util.Set;
import java.util.TreeSet;

// The public face of the document, and rule 1 of LANGUAGE.md, which is about it.
public final class FaceTests {
  private static final Set<String> FACE = new TreeSet<>(List.of(
      "int section(int,int,boolean)", "int label(int,int)", "boolean kind(int,int,int)",
      "int branch(int,int,int,int)", "boolean thunks(int,int,int)", "boolean base(int)",
      "boolean resize(int,int)", "boolean retarget(int,int)", "int lay()", "int count(int)",
      "long address(int,int)", "int route(int,int)", "int thunk(int,int)", "int encoded(int,int)",
      "int at(long)", "long walk(int)", "int far()"));

  private static int wrong = 0;

  private static void hold(boolean holds, String what) {
    if (holds) return;
    wrong++;
    System.out.println("does not hold: " + what);
  }

  public static void main(String[] args) {
    face();
    classesInside();
    System.out.println(wrong == 0 ? "the face holds" : wrong + " do not hold");
    if (wrong != 0) System.exit(1);
  }

  private static String signature(Method m) {
    List<String> types = new ArrayList<>();
    for (Class<?> type : m.getParameterTypes()) types.add(type.getSimpleName());
    return m.getReturnType().getSimpleName() + " " + m.getName() + "(" + String.join(",", types) + ")";
  }

  private static void face() {
    Class<?> c = VeneerYard.class;
    hold(Modifier.isPublic(c.getModifiers()) && Modifier.isFinal(c.getModifiers()), "public final class");
    Set<String> found = new TreeSet<>();
    for (Method m : c.getDeclaredMethods()) {
      if (Modifier.isPublic(m.getModifiers())) found.add(signature(m));
      else hold(Modifier.isPrivate(m.getModifiers()), m.getName() + " is public or private");
    }
    hold(found.equals(FACE), "public methods are those of the document: " + found);
    Set<String> constants = new TreeSet<>();
    for (Field f : c.getDeclaredFields()) {
      if (Modifier.isPublic(f.getModifiers())) constants.add(f.getType() + " " + f.getName());
      else hold(Modifier.isPrivate(f.getModifiers()), f.getName() + " is public or private");
    }
    hold(constants.equals(Set.of("int NONE", "long NOWHERE")), "public constants are those of the document");
    Constructor<?>[] all = c.getDeclaredConstructors();
    hold(all.length == 1 && all[0].getParameterCount() == 0 && Modifier.isPublic(all[0].getModifiers()),
        "one public constructor without parameters");
  }

  private static void classesInside() {
    Set<String> names = new HashSet<>();
    for (String s : FACE) names.add(s.substring(s.indexOf(' ') + 1, s.indexOf('(')));
    List<Class<?>> all = new ArrayList<>(List.of(VeneerYard.class.getDeclaredClasses()));
    for (Class<?> c : all) {
      hold(Modifier.isStatic(c.getModifiers()), c.getName() + " is static");
      hold(!Modifier.isPublic(c.getModifiers()) && !Modifier.isProtected(c.getModifiers()),
          c.getName() + " is private or package-visible");
    }
    all.add(VeneerYard.class);
    for (Class<?> c : all) {
      for (Method m : c.getDeclaredMethods()) {
        hold(!Modifier.isPrivate(m.getModifiers()) || !names.contains(m.getName()),
            m.getName() + " is no private method with a public one's name");
      }
    }
  }
}
