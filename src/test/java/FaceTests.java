import java.io.IOException;
import java.lang.reflect.Constructor;
import java.lang.reflect.Field;
import java.lang.reflect.Method;
import java.lang.reflect.Modifier;
import java.nio.file.Files;
import java.nio.file.Path;
import java.util.Set;
import java.util.TreeSet;

// The public face, and those rules of LANGUAGE.md that can be seen from the class or from its text.
public final class FaceTests {
  private static final String SOURCE = "src/main/java/TavernBench.java";
  private static int wrong = 0;

  private static void must(boolean holds, String what) {
    if (!holds) {
      wrong++;
      System.out.println("rule not kept: " + what);
    }
  }

  private static String signature(Method m) {
    StringBuilder text = new StringBuilder(m.getReturnType() + " " + m.getName());
    for (Class<?> parameter : m.getParameterTypes()) {
      text.append(' ').append(parameter);
    }
    return text.toString();
  }

  private static void lookAtMethods() {
    Set<String> want = new TreeSet<>(Set.of("int feast int", "int law int int int int int", "int rule int int",
        "int objector int int int", "int ask int int int int int int", "int event int int int int",
        "int worth int int int", "int on int int int", "int open int int int", "int minutes int int",
        "int lawOn int int int", "int owes int int", "int visit int", "int seed int", "int count int"));
    Set<String> got = new TreeSet<>();
    Set<String> names = new TreeSet<>();
    for (Method m : TavernBench.class.getDeclaredMethods()) {
      if (!Modifier.isPrivate(m.getModifiers())) {
        got.add(signature(m));
        names.add(m.getName());
        must(Modifier.isPublic(m.getModifiers()) && !Modifier.isStatic(m.getModifiers()), m.getName());
      }
      must(m.getParameterCount() <= 7, "at most seven parameters: " + m.getName());
    }
    must(got.equals(want), "the public methods are " + got);
    for (Class<?> inner : TavernBench.class.getDeclaredClasses()) {
      must(Modifier.isStatic(inner.getModifiers()), "static: " + inner.getName());
      must(!Modifier.isPublic(inner.getModifiers()) && !Modifier.isProtected(inner.getModifiers()), inner.getName());
      for (Method m : inner.getDeclaredMethods()) {
        must(!names.contains(m.getName()), "no other method bears the name " + m.getName());
      }
    }
    for (Method m : TavernBench.class.getDeclaredMethods()) {
      must(!Modifier.isPrivate(m.getModifiers()) || !names.contains(m.getName()), "private " + m.getName());
    }
  }

  private static void lookAtFields() {
    Set<String> constants = Set.of("BAD", "NO", "FULL", "NONE");
    int found = 0;
    for (Field f : TavernBench.class.getDeclaredFields()) {
      int modifiers = f.getModifiers();
      if (Modifier.isPrivate(modifiers)) {
        must(!Modifier.isStatic(modifiers) || Modifier.isFinal(modifiers), "static and not final: " + f.getName());
      } else {
        must(constants.contains(f.getName()) && f.getType() == int.class, "no such constant: " + f.getName());
        must(Modifier.isPublic(modifiers) && Modifier.isStatic(modifiers) && Modifier.isFinal(modifiers), f.getName());
        found++;
      }
    }
    must(found == 4, "four constants");
    must(Modifier.isFinal(TavernBench.class.getModifiers()), "a final class");
    must(Modifier.isPublic(TavernBench.class.getModifiers()), "a public class");
    Constructor<?>[] made = TavernBench.class.getDeclaredConstructors();
    must(made.length == 1 && made[0].getParameterCount() == 0, "one constructor without parameters");
    must(made.length == 1 && Modifier.isPublic(made[0].getModifiers()), "a public constructor");
  }

  private static void lookAtText() throws IOException {
    String[] lines = Files.readString(Path.of(SOURCE)).split("\n");
    String[] unwanted = {"->", "::", "try", "catch", "finally", "throw", "synchronized", "assert", "static {",
      "Exact(", "hashCode", ".equals", "toString", "System.", "package ", "Thread", "var ", "NaN"};
    for (int i = 0; i < lines.length; i++) {
      String code = lines[i].replaceAll("//.*", "");
      for (String word : unwanted) {
        must(!code.contains(word), "line " + (i + 1) + " has " + word);
      }
      boolean wide = !code.contains("import ") || code.equals("import java.util.ArrayList;");
      must(wide, "line " + (i + 1) + " imports what is not listed");
      for (char sign : lines[i].toCharArray()) {
        must(sign > 0 && sign < 128, "line " + (i + 1) + " has sign " + (int) sign);
      }
    }
  }

  // A method begins with a line that opens a brace at the depth of a class's members, and ends with the brace's.
  private static void lookAtSizes() throws IOException {
    Class<?>[] inside = TavernBench.class.getDeclaredClasses();
    must(inside.length < 12, "at most twelve classes");
    must(fieldsOf(TavernBench.class) <= 20, "at most twenty fields: TavernBench");
    for (Class<?> inner : inside) {
      must(fieldsOf(inner) <= 20, "at most twenty fields: " + inner.getName());
    }
    String[] lines = Files.readString(Path.of(SOURCE)).split("\n");
    int methods = 0;
    for (int i = 0; i < lines.length; i++) {
      if (lines[i].matches("( {4}| {8})\\w.*\\) \\{") && !lines[i].matches(" *(if|for|while|switch)\\b.*")) {
        String end = lines[i].replaceAll("\\S.*", "") + "}";
        int last = i;
        while (last < lines.length && !lines[last].equals(end)) {
          last++;
        }
        must(last - i < 60, "at most some sixty lines: line " + (i + 1));
        methods++;
      }
    }
    must(methods >= 16, "the methods are found in the text");
  }

  private static int fieldsOf(Class<?> c) {
    int fields = 0;
    for (Field f : c.getDeclaredFields()) {
      fields += Modifier.isStatic(f.getModifiers()) ? 0 : 1;
    }
    return fields;
  }

  public static void main(String[] args) throws IOException {
    lookAtMethods();
    lookAtFields();
    lookAtText();
    lookAtSizes();
    System.out.println("FaceTests: " + wrong + " rules not kept");
    if (wrong != 0) {
      System.exit(1);
    }
  }
}
