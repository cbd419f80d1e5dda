import java.io.IOException;
import java.lang.reflect.Constructor;
import java.lang.reflect.Field;
import java.lang.reflect.Method;
import java.lang.reflect.Modifier;
import java.nio.file.Files;
import java.nio.file.Path;
import java.util.ArrayList;
import java.util.Arrays;
import java.util.List;
import java.util.Set;
import java.util.TreeSet;
import java.util.regex.Matcher;
import java.util.regex.Pattern;

/** What of ../shared/LANGUAGE.md can be seen in the source and in the class: the face, and its bounds. */
public final class LanguageTests {
  private static final String SOURCE = "src/main/java/GearTeeth.java";
  private static final String[] FACE = {"int text(int)", "int gear(int,int)", "int width(int,int)", "int mesh(int,int)",
      "int locked()", "long speed(int,int)", "int hunt(int,int,int)", "int planets(int,int,int)", "int most(int,int)",
      "int cut(int,int,int)", "int off(int,int)", "int touch(int,int)", "int jam(int)", "int gap(int)", "int even(int)",
      "int room(int,int)", "int wear(int,int,int)", "int until(int,int,int)", "long loud(int,int)", "int whine(int)",
      "int pair(int,int)", "int clear()", "int pushed(int)", "int share(int,int)", "int bearing(int)", "int fault(int)",
      "int rule(int)", "int holds(int,int)", "int watch(int,int,int)", "int ear(int,int)", "int bestShift(int,int,int)",
      "int readBack(int,int,int,int)", "int image()", "int restore()", "int count(int)", "int keep(int,int,int)",
      "int row(int,int,int)", "int put(int,int,int)", "long element(int,int)", "int copy(int,int,int,int,int)",
      "int weight(int)", "int toss(int)"};
  private static final String[] FORBIDDEN = {"->", "::", "\\bsynchronized\\b", "\\bassert\\b", "\\bfinally\\b",
      "\\w+Exact\\b", "\\bstatic \\{", "\\bpackage\\b", "\\bfloat\\b", "\\bdouble\\b", "\\bObject\\b",
      "\\bSystem\\.(?!arraycopy)",
      "\\bThrowable\\b", "\\bcatch \\((?!IllegalStateException)", "\\bvar\\b", "\\.\\.\\.", "@", "\\bwhile \\(true\\)"};

  public static void main(String[] args) throws IOException {
    face();
    classes();
    source(Files.readString(Path.of(SOURCE)));
    Check.end();
  }

  private static void face() {
    Set<String> due = new TreeSet<>(Arrays.asList(FACE));
    Set<String> told = new TreeSet<>();
    for (Method m : GearTeeth.class.getDeclaredMethods()) {
      if (Modifier.isPublic(m.getModifiers())) {
        told.add(signature(m));
        Check.holds(m.getName() + " is no static one", !Modifier.isStatic(m.getModifiers()));
      } else {
        Check.holds(m.getName() + " is private", Modifier.isPrivate(m.getModifiers()));
      }
    }
    Check.holds("the face " + told, told.equals(due));
    for (Field f : GearTeeth.class.getDeclaredFields()) {
      Check.holds(f.getName() + " is private", Modifier.isPrivate(f.getModifiers()));
    }
    Constructor<?>[] constructors = GearTeeth.class.getDeclaredConstructors();
    Check.due("constructors", constructors.length, 1);
    Check.due("its parameters", constructors[0].getParameterCount(), 0);
    Check.holds("it is public", Modifier.isPublic(constructors[0].getModifiers()));
    Check.holds("the class is final", Modifier.isFinal(GearTeeth.class.getModifiers()));
  }

  private static String signature(Method m) {
    List<String> types = new ArrayList<>();
    for (Class<?> type : m.getParameterTypes()) {
      types.add(type.getName());
    }
    return m.getReturnType().getName() + " " + m.getName() + "(" + String.join(",", types) + ")";
  }

  private static void classes() {
    List<Class<?>> all = new ArrayList<>(Arrays.asList(GearTeeth.class.getDeclaredClasses()));
    all.add(GearTeeth.class);
    Check.holds("some twelve classes: " + all.size(), all.size() <= 12);
    Set<String> names = new TreeSet<>();
    for (String call : FACE) {
      names.add(call.substring(call.indexOf(' ') + 1, call.indexOf('(')));
    }
    for (Class<?> c : all) {
      int fields = 0;
      for (Field f : c.getDeclaredFields()) {
        boolean isStatic = Modifier.isStatic(f.getModifiers());
        fields += isStatic ? 0 : 1;
        Check.holds(c.getName() + "." + f.getName() + ": static ones are final",
            !isStatic || Modifier.isFinal(f.getModifiers()));
      }
      Check.holds(c.getName() + ": some twenty fields", fields <= 20);
      for (Method m : c.getDeclaredMethods()) {
        Check.holds(m + ": seven parameters", m.getParameterCount() <= 7);
        Check.holds(m + ": a name of its own", c == GearTeeth.class && Modifier.isPublic(m.getModifiers())
            || !names.contains(m.getName()));
        Check.holds(m + ": nothing made by the compiler", !m.isSynthetic());
      }
    }
  }

  private static void source(String source) {
    String code = source.replaceAll("(?s)/\\*.*?\\*/", "").replaceAll("//[^\\n]*", "");
    for (String forbidden : FORBIDDEN) {
      Matcher matcher = Pattern.compile(forbidden).matcher(code);
      Check.holds("no " + forbidden, !matcher.find());
    }
    Check.holds("signs 1 to 127", source.chars().allMatch(sign -> sign >= 1 && sign <= 127));
    Matcher imports = Pattern.compile("(?m)^import (.*);$").matcher(source);
    while (imports.find()) {
      Check.holds("import " + imports.group(1), imports.group(1).equals("java.util.Arrays"));
    }
    methodsAreShort(source.split("\n"));
  }

  private static void methodsAreShort(String[] lines) {
    int start = -1;
    for (int i = 0; i < lines.length; i++) {
      String line = lines[i];
      boolean outside = line.matches("^ {2}(?: {2})?\\w.*\\{$") && !line.contains(" class ");
      if (start < 0 && outside && line.contains("(")) {
        start = i;
      }
      if (start >= 0 && line.equals(lines[start].replaceAll("\\S.*", "") + "}")) {
        Check.holds("line " + (start + 1) + ": sixty lines", i - start < 60);
        start = -1;
      }
    }
  }
}
