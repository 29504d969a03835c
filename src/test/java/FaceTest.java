import java.io.IOException;
import java.lang.reflect.Constructor;
import java.lang.reflect.Field;
import java.lang.reflect.Method;
import java.lang.reflect.Modifier;
import java.nio.file.Files;
import java.nio.file.Path;
import java.util.Arrays;
import java.util.Set;
import java.util.TreeSet;
import java.util.regex.Matcher;
import java.util.regex.Pattern;

/** The document's face and no more, and those rules of LANGUAGE.md that can be looked up in the source or the class. */
public final class FaceTest {
  private static final String[] FACE = {
      "int hours(int)", "int mode(int,int,int)", "int trip(int,int)", "int shiftOf(int,int,int)",
      "int bench(int,int)", "int set(int,int)", "int draft(int,int,int,int)",
      "int ask(int,int,int,int,int,int,int)", "int withdraw(int)", "int askOf(int,int)", "int feed(int,long)",
      "int text(int)", "int strike(int,int)", "int barred(int,int,int,int)", "int kin(int,int)",
      "int mark(int,int,int)", "int markOf(int)", "int habit(int,int)", "int fit(int,int,int)",
      "int give(int,int,int)", "int take(int)", "int plan(int,int)", "int passed(int)",
      "int why(int,int,int,int,int)", "int best(int,int,int,int)", "int hosts(int,int)", "int owe(int)",
      "int again()", "int danger(int,int)", "int wish(int,int,boolean)", "int ring(int)", "int swap()",
      "int had(int,int,int)", "int lead(int,int)", "int put(int)", "int check(int,int,int)", "int count(int)"};
  private static final String SOURCE = "src/main/java/BeamHall.java";
  private static int wrong = 0;

  public static void main(String[] args) throws IOException {
    face();
    classesInside();
    source();
    System.out.println("FaceTest: " + wrong + " faults");
    if (wrong != 0) System.exit(1);
  }

  private static void fault(boolean is, String what) {
    if (is) {
      wrong++;
      System.out.println(what);
    }
  }

  private static void face() {
    Class<?> c = BeamHall.class;
    fault(!Modifier.isPublic(c.getModifiers()) || !Modifier.isFinal(c.getModifiers()), "the class is not public and final");
    Set<String> found = new TreeSet<>();
    Set<String> names = new TreeSet<>();
    for (Method m : c.getDeclaredMethods()) {
      if (Modifier.isPrivate(m.getModifiers())) continue;
      found.add(told(m));
      names.add(m.getName());
      fault(!Modifier.isPublic(m.getModifiers()) || Modifier.isStatic(m.getModifiers()), "not of the face: " + m);
    }
    fault(!found.equals(new TreeSet<>(Arrays.asList(FACE))), "the methods are " + found);
    for (Method m : c.getDeclaredMethods()) {
      fault(Modifier.isPrivate(m.getModifiers()) && names.contains(m.getName()), "bears a public name: " + m);
    }
    for (Field f : c.getDeclaredFields()) fault(!Modifier.isPrivate(f.getModifiers()), "not private: " + f);
    Constructor<?>[] made = c.getDeclaredConstructors();
    fault(made.length != 1 || !Modifier.isPublic(made[0].getModifiers()) || made[0].getParameterCount() != 0, "constructors");
  }

  private static String told(Method m) {
    StringBuilder text = new StringBuilder(m.getReturnType() + " " + m.getName() + "(");
    for (Class<?> p : m.getParameterTypes()) text.append(text.charAt(text.length() - 1) == '(' ? "" : ",").append(p);
    return text.append(')').toString();
  }

  private static void classesInside() {
    Class<?>[] inside = BeamHall.class.getDeclaredClasses();
    fault(inside.length > 11, "too many classes: " + inside.length);
    for (Class<?> c : inside) {
      fault(!Modifier.isStatic(c.getModifiers()), "not static: " + c);
      fault(Modifier.isPublic(c.getModifiers()) || Modifier.isProtected(c.getModifiers()), "seen from outside: " + c);
      fault(c.getDeclaredClasses().length > 0, "has classes: " + c);
      int fields = 0;
      for (Field f : c.getDeclaredFields()) {
        if (!Modifier.isStatic(f.getModifiers())) fields++;
        fault(Modifier.isStatic(f.getModifiers()) && !Modifier.isFinal(f.getModifiers()), "static state: " + f);
      }
      fault(fields > 20, "too many fields: " + c + " " + fields);
      for (Method m : c.getDeclaredMethods()) {
        fault(m.getParameterCount() > 7, "too many parameters: " + m);
        fault(bearsPublicName(m), "bears a public name: " + m);
      }
    }
  }

  /** Told of private methods alone; kept for all in the classes inside, so that a name means one thing. */
  private static boolean bearsPublicName(Method m) {
    for (String told : FACE) if (told.startsWith("int " + m.getName() + "(")) return true;
    return false;
  }

  private static void source() throws IOException {
    String text = Files.readString(Path.of(SOURCE));
    text = text.replaceAll("(?s)/\\*.*?\\*/", " ").replaceAll("//[^\n]*", " ");
    String words = "throw|throws|try|catch|finally|synchronized|assert|import|package|protected|instanceof|"
        + "equals|hashCode|toString|native|volatile|transient|strictfp|float|double|Object|Thread|Random|Exact";
    Matcher word = Pattern.compile("\\b(" + words + ")\\b|\\w+Exact\\b").matcher(text);
    while (word.find()) fault(true, "in the source: " + word.group());
    fault(text.contains("->") || text.contains("::"), "a lambda or a method reference");
    fault(text.contains("\""), "a String");
    Matcher library = Pattern.compile("\\b([A-Z][a-z]\\w*)\\.(\\w+)\\(").matcher(text);
    Set<String> used = new TreeSet<>();
    while (library.find()) used.add(library.group(1) + "." + library.group(2));
    used.removeAll(Set.of("Math.max", "Math.min", "Math.floorDiv", "Integer.bitCount", "System.arraycopy"));
    fault(!used.isEmpty(), "of the library: " + used);
    methodsAreShort(text);
  }

  private static void methodsAreShort(String text) {
    String[] lines = text.split("\n");
    int begun = -1;
    String indent = "";
    for (int i = 0; i < lines.length; i++) {
      Matcher head = Pattern.compile("^( {4}| {8})\\S.*\\) \\{$").matcher(lines[i]);
      if (head.find() && !lines[i].contains(" class ")) {
        begun = i;
        indent = head.group(1);
      }
      if (begun >= 0 && lines[i].equals(indent + "}")) {
        fault(i - begun > 60, "longer than 60 lines: " + lines[begun].trim());
        begun = -1;
      }
    }
  }
}
