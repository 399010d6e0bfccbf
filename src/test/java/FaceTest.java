import java.io.IOException;
import java.lang.reflect.Array;
import java.lang.reflect.Constructor;
import java.lang.reflect.Field;
import java.lang.reflect.Method;
import java.lang.reflect.Modifier;
import java.nio.file.Files;
import java.nio.file.Path;
import java.util.IdentityHashMap;
import java.util.Map;
import java.util.Random;
import java.util.TreeSet;
import java.util.regex.Matcher;
import java.util.regex.Pattern;

/** The public face, word by word as the document writes it, and the room that one object takes. */
public final class FaceTest {
  private static final Path DOCUMENT = Path.of("../shared/DOC.md");
  private static final int DEAR_CALLS = 400;
  private static final Due due = new Due();

  public static void main(String[] args) throws Exception {
    faceAsWritten();
    roomOfOneObject();
    due.close("FaceTest");
  }

  private static void faceAsWritten() throws IOException {
    TreeSet<String> written = written();
    TreeSet<String> there = there();
    due.is("members that the document writes", written.size(), 46);
    for (String member : written) due.is("of the class: " + member, there.contains(member) ? 1 : 0, 1);
    for (String member : there) due.is("of the document: " + member, written.contains(member) ? 1 : 0, 1);
    due.is("a public class", Modifier.isPublic(OldestFirst.class.getModifiers()) ? 1 : 0, 1);
    due.is("a final class", Modifier.isFinal(OldestFirst.class.getModifiers()) ? 1 : 0, 1);
  }

  /** The members between the document's class line and its end; the names of parameters bind nobody. */
  private static TreeSet<String> written() throws IOException {
    String text = Files.readString(DOCUMENT);
    int from = text.indexOf("public final class OldestFirst {");
    due.is("the document writes a face", from >= 0 ? 1 : 0, 1);
    TreeSet<String> members = new TreeSet<>();
    Matcher line = Pattern.compile("(?m)^ +(public .*);$").matcher(text.substring(Math.max(0, from), text.indexOf("\n}", from)));
    while (line.find()) members.add(line.group(1).replaceAll("(int|long) [a-z]+(?=[,)])", "$1"));
    return members;
  }

  private static TreeSet<String> there() throws IOException {
    TreeSet<String> members = new TreeSet<>();
    for (Method m : OldestFirst.class.getDeclaredMethods()) {
      if (!Modifier.isPrivate(m.getModifiers())) {
        members.add(Modifier.toString(m.getModifiers()) + " " + m.getReturnType() + " " + m.getName() + types(m.getParameterTypes()));
      }
    }
    for (Constructor<?> c : OldestFirst.class.getDeclaredConstructors()) {
      members.add(Modifier.toString(c.getModifiers()) + " OldestFirst" + types(c.getParameterTypes()));
    }
    for (Field f : OldestFirst.class.getDeclaredFields()) {
      if (!Modifier.isPrivate(f.getModifiers())) {
        members.add(Modifier.toString(f.getModifiers()) + " " + f.getType() + " " + f.getName() + " = " + OldestFirst.NONE);
      }
    }
    return members;
  }

  private static String types(Class<?>[] types) {
    StringBuilder b = new StringBuilder("(");
    for (Class<?> t : types) b.append(b.length() > 1 ? ", " : "").append(t);
    return b.append(")").toString();
  }

  /** All calls of a run share one room, so what an object holds must not grow, and stay far below it. */
  private static void roomOfOneObject() throws IllegalAccessException {
    OldestFirst x = new OldestFirst();
    long[] atFirst = held(x);
    due.is("objects and arrays of one object, at most 200", Math.max(200, atFirst[0]), 200);
    due.is("fields and elements of one object, at most 15000", Math.max(15000, atFirst[1]), 15000);
    Plain town = Plain.random(new Random(5), 7);
    Due.feed(x, town.text());
    x.town();
    for (int i = 0; i < DEAR_CALLS; i++) askDear(x, i);
    long[] atLast = held(x);
    due.is("objects and arrays behind the calls", atLast[0], atFirst[0]);
    due.is("fields and elements behind the calls", atLast[1], atFirst[1]);
  }

  private static void askDear(OldestFirst x, int i) {
    switch (i % 8) {
      case 0 -> x.hours(i % 5, 1 + i % 99);
      case 1 -> x.instead(i % 25);
      case 2 -> x.order(i % 3, i % 4);
      case 3 -> x.untie(i % 2);
      case 4 -> x.hold(0, 1, i % 4, i % 5, i % 7);
      case 5 -> x.keep(i % 3);
      case 6 -> x.row(i % 4, i % 4, i % 61);
      default -> x.chance(i % 5, i, 20, i % 2);
    }
  }

  /** How many objects and arrays one leads to, and how many fields and elements these have. */
  private static long[] held(Object from) throws IllegalAccessException {
    Map<Object, Boolean> seen = new IdentityHashMap<>();
    long cells = count(from, seen);
    return new long[] {seen.size(), cells};
  }

  private static long count(Object one, Map<Object, Boolean> seen) throws IllegalAccessException {
    if (one == null || seen.put(one, true) != null) return 0;
    long cells = 0;
    if (one.getClass().isArray()) {
      cells = Array.getLength(one);
      if (!one.getClass().getComponentType().isPrimitive()) {
        for (Object part : (Object[]) one) cells += count(part, seen);
      }
      return cells;
    }
    for (Field f : one.getClass().getDeclaredFields()) {
      if (Modifier.isStatic(f.getModifiers())) continue;
      cells++;
      f.setAccessible(true);
      if (!f.getType().isPrimitive()) cells += count(f.get(one), seen);
    }
    return cells;
  }
}
