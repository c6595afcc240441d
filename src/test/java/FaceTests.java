import java.lang.reflect.Constructor;
import java.lang.reflect.Field;
import java.lang.reflect.Member;
import java.lang.reflect.Method;
import java.lang.reflect.Modifier;
import java.util.ArrayList;
import java.util.List;
import java.util.Set;
import java.util.TreeSet;

/** The public face is the document's and nothing else of the class can be seen from outside. */
public final class FaceTests {
  private static int wrong = 0;

  private static final List<String> FACE = List.of(
      "boolean read(int, int, int)", "int place(int)", "long share(int, int, int)", "int empty(int)",
      "int fill(int)", "boolean marked(int)", "int joined(int, int)", "boolean sample(int, long)",
      "long raised(long, int, int)", "boolean sums(long)", "long without(int, int, int, int)",
      "boolean error(int, int, int)", "int undo()", "long undone(int, int, int)",
      "long apart(int, int, int)", "long length(int, int)", "int pooled(int)",
      "boolean sex(int, int, int)", "long males(int, int)", "int groups()");

  private static void due(String what, Object got, Object want) {
    if (!got.equals(want)) {
      wrong++;
      System.out.println(what + ": is " + got + ", due is " + want);
    }
  }

  private static String told(Method m) {
    List<String> types = new ArrayList<>();
    for (Class<?> t : m.getParameterTypes()) types.add(t.getName());
    return m.getReturnType().getName() + " " + m.getName() + "(" + String.join(", ", types) + ")";
  }

  private static boolean isHidden(Member m) {
    return Modifier.isPrivate(m.getModifiers());
  }

  public static void main(String[] args) throws Exception {
    due("class is public", Modifier.isPublic(AgeKeys.class.getModifiers()), true);
    due("class is final", Modifier.isFinal(AgeKeys.class.getModifiers()), true);

    Set<String> methods = new TreeSet<>();
    Set<String> names = new TreeSet<>();
    for (Method m : AgeKeys.class.getDeclaredMethods()) {
      if (isHidden(m)) continue;
      due(m.getName() + " is public", Modifier.isPublic(m.getModifiers()), true);
      due(m.getName() + " is static", Modifier.isStatic(m.getModifiers()), false);
      methods.add(told(m));
      names.add(m.getName());
    }
    due("methods", methods, new TreeSet<>(FACE));
    for (Method m : AgeKeys.class.getDeclaredMethods()) {
      if (isHidden(m)) due("private method with the public name " + m.getName(), names.contains(m.getName()), false);
    }

    Set<String> fields = new TreeSet<>();
    for (Field f : AgeKeys.class.getDeclaredFields()) {
      if (!isHidden(f)) fields.add(f.getType().getName() + " " + f.getName() + " " + Modifier.toString(f.getModifiers()));
      if (Modifier.isStatic(f.getModifiers())) due(f.getName() + " is final", Modifier.isFinal(f.getModifiers()), true);
    }
    due("fields", fields, new TreeSet<>(Set.of("int NONE public static final")));
    due("NONE", AgeKeys.NONE, -1);

    Constructor<?>[] made = AgeKeys.class.getDeclaredConstructors();
    due("constructors", made.length, 1);
    due("constructor", List.of(made[0].getParameterTypes()), List.of(int.class, int.class));
    due("constructor is public", Modifier.isPublic(made[0].getModifiers()), true);

    System.out.println(wrong == 0 ? "all is as due" : wrong + " are not as due");
    if (wrong != 0) System.exit(1);
  }
}
