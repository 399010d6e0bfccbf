import java.lang.reflect.Method;
import java.lang.reflect.Modifier;
import java.nio.file.Files;
import java.nio.file.Path;
import java.util.regex.Matcher;
import java.util.regex.Pattern;

/** The example of README.md: each call that is told with an answer answers that. */
public final class ReadmeTest {
  private static final Pattern TEXT = Pattern.compile("^feed\\(x, \"([^\"]*)\"\\);$");
  private static final Pattern CALL = Pattern.compile("^x\\.(\\w+)\\(([^)]*)\\); +// (-?\\d+).*$");
  private static final Due due = new Due();

  public static void main(String[] args) throws Exception {
    OldestFirst x = new OldestFirst();
    String readme = Files.readString(Path.of("README.md"));
    int told = 0;
    for (String line : readme.split("\n")) {
      Matcher text = TEXT.matcher(line);
      Matcher call = CALL.matcher(line);
      if (text.matches()) Due.feed(x, text.group(1));
      if (call.matches()) {
        told++;
        due.is(call.group(1) + "(" + call.group(2) + ")", answer(x, call.group(1), call.group(2)), Long.parseLong(call.group(3)));
      }
    }
    due.is("calls with an answer", told, 12);
    for (Method m : OldestFirst.class.getDeclaredMethods()) {
      if (Modifier.isPublic(m.getModifiers())) {
        due.is("`" + m.getName() + "` is told of", readme.contains("`" + m.getName() + "`") ? 1 : 0, 1);
      }
    }
    due.close("ReadmeTest");
  }

  private static long answer(OldestFirst x, String name, String told) throws Exception {
    String[] parts = told.isEmpty() ? new String[0] : told.split(", ");
    for (Method m : OldestFirst.class.getDeclaredMethods()) {
      if (m.getName().equals(name)) {
        Object[] numbers = new Object[parts.length];
        for (int i = 0; i < parts.length; i++) numbers[i] = Integer.parseInt(parts[i]);
        return ((Number) m.invoke(x, numbers)).longValue();
      }
    }
    throw new IllegalStateException("README.md tells of a call that is none: " + name);
  }
}
