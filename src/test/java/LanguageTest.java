import java.io.IOException;
import java.lang.reflect.Constructor;
import java.lang.reflect.Field;
import java.lang.reflect.Method;
import java.lang.reflect.Modifier;
import java.nio.file.Files;
import java.nio.file.Path;
import java.util.TreeSet;
import java.util.regex.Matcher;
import java.util.regex.Pattern;

/** What can be seen of LANGUAGE.md in the program's text and classes. */
public final class LanguageTest {
  private static final Due due = new Due();

  public static void main(String[] args) throws IOException {
    String text = Files.readString(Path.of("src/main/java/OldestFirst.java"));
    String code = text.replaceAll("(?s)/\\*.*?\\*/", "").replaceAll("//[^\n]*", "");
    String[] never = {"throw", "throws", "try", "catch", "finally", "synchronized", "assert", "package", "native", "volatile",
      "transient", "double", "float", "Exact", "System.out", "Object", "hashCode", "toString", "->", "::"};
    for (String word : never) {
      Pattern p = Pattern.compile(word.matches("[a-z]+") ? "\\b" + word + "\\b" : Pattern.quote(word));
      due.is("'" + word + "' in the program", p.matcher(code).find() ? 1 : 0, 0);
    }
    Matcher imports = Pattern.compile("import ([^;]+);").matcher(code);
    while (imports.find()) due.is("import " + imports.group(1), imports.group(1).equals("java.util.Arrays") ? 1 : 0, 1);
    due.is("signs beyond 127", text.chars().filter(c -> c > 126).count(), 0);
    // The room of a run is bounded: rows are made with the object, and no call makes another one.
    Matcher made = Pattern.compile("\n([^\n]*)\\bnew ").matcher(code);
    while (made.find()) {
      boolean atOnce = made.group(1).matches(" +(private )?final .* = ") || made.group(1).matches(" +(images\\[k\\]|slots\\[s\\]) = ");
      due.is("made with the object:" + made.group(1), atOnce ? 1 : 0, 1);
    }
    face();
    methods(code);
    due.close("LanguageTest");
  }

  private static void face() {
    TreeSet<String> names = new TreeSet<>();
    for (Method m : OldestFirst.class.getDeclaredMethods()) {
      if (Modifier.isPublic(m.getModifiers())) names.add(m.getName());
    }
    due.is("names of the face", names.size(), 44);
    for (Method m : OldestFirst.class.getDeclaredMethods()) {
      boolean hidden = Modifier.isPrivate(m.getModifiers());
      due.is("kind of " + m.getName(), hidden != Modifier.isPublic(m.getModifiers()) ? 1 : 0, 1);
      due.is("private " + m.getName() + " named as a public one", hidden && names.contains(m.getName()) ? 1 : 0, 0);
      due.is("parameters of " + m.getName(), Math.max(7, m.getParameterCount()), 7);
    }
    for (Field f : OldestFirst.class.getDeclaredFields()) {
      boolean open = !Modifier.isPrivate(f.getModifiers());
      due.is("field " + f.getName(), open == f.getName().equals("NONE") ? 1 : 0, 1);
    }
    for (Constructor<?> c : OldestFirst.class.getDeclaredConstructors()) {
      due.is("constructor", c.getParameterCount(), 0);
    }
    Class<?>[] inside = OldestFirst.class.getDeclaredClasses();
    due.is("classes", Math.max(11, inside.length), 11);
    for (Class<?> c : inside) {
      due.is("static " + c.getName(), Modifier.isStatic(c.getModifiers()) ? 1 : 0, 1);
      int fields = 0;
      for (Field f : c.getDeclaredFields()) {
        if (Modifier.isStatic(f.getModifiers())) {
          due.is("final " + f.getName(), Modifier.isFinal(f.getModifiers()) ? 1 : 0, 1);
        } else {
          fields++;
        }
      }
      due.is("fields of " + c.getName(), Math.max(20, fields), 20);
      for (Method m : c.getDeclaredMethods()) {
        due.is("parameters of " + m.getName(), Math.max(7, m.getParameterCount()), 7);
        due.is(m.getName() + " inside, named as a public one", names.contains(m.getName()) ? 1 : 0, 0);
      }
    }
  }

  /** Methods end at a brace as deep as they begin. */
  private static void methods(String code) {
    String name = "";
    String closing = "";
    int began = 0;
    String[] lines = code.split("\n");
    for (int i = 0; i < lines.length; i++) {
      Matcher head = Pattern.compile("^( {4}| {8})(?=\\S)(?!.*\\b(?:class|new|if|for|while|switch|else|return)\\b).*?(\\w+)\\(.*\\) \\{$").matcher(lines[i]);
      if (closing.isEmpty() && head.matches()) {
        name = head.group(2);
        closing = head.group(1) + "}";
        began = i;
      } else if (!closing.isEmpty() && lines[i].equals(closing)) {
        due.is("lines of " + name, Math.max(60, i - began + 1), 60);
        closing = "";
      }
    }
  }
}
