import java.lang.reflect.InvocationTargetException;
import java.lang.reflect.Method;
import java.lang.reflect.Modifier;
import java.util.ArrayList;
import java.util.Comparator;
import java.util.List;
import java.util.Random;

/** Any arguments in any state: no call throws, and the same calls give the same answers. */
public final class NeverThrowsTest {
  private static final Due due = new Due();
  private static final int[] ODD = {Integer.MIN_VALUE, Integer.MIN_VALUE + 1, -60, -2, -1, 24, 25, 39, 40, 47, 48, 49, 60, 61, 72,
    99, 100, 2000000000, 2000000001, Integer.MAX_VALUE - 1, Integer.MAX_VALUE};

  public static void main(String[] args) throws Exception {
    List<Method> calls = new ArrayList<>();
    for (Method m : OldestFirst.class.getDeclaredMethods()) {
      if (Modifier.isPublic(m.getModifiers())) calls.add(m);
    }
    calls.sort(Comparator.comparing(Method::getName));
    due.is("methods of the face", calls.size(), 44);
    for (int run = 0; run < 300 && due.wrong() == 0; run++) {
      long first = runOf(calls, run);
      due.is("run " + run + " again", runOf(calls, run), first);
    }
    due.close("NeverThrowsTest");
  }

  private static long runOf(List<Method> calls, int seed) throws Exception {
    Random r = new Random(seed);
    OldestFirst x = new OldestFirst();
    long sum = 0;
    for (int i = 0; i < 460; i++) {
      if (i % 150 == 40 && seed % 5 != 0) {
        x.end(0);
        Due.feed(x, Plain.random(r, seed % 8).text());
        x.town();
      }
      Method m = calls.get(r.nextInt(calls.size()));
      if (m.getName().equals("town") && r.nextInt(8) != 0) continue;
      Object[] a = new Object[m.getParameterCount()];
      for (int k = 0; k < a.length; k++) {
        int v = r.nextInt(12) == 0 ? ODD[r.nextInt(ODD.length)] : r.nextInt(r.nextBoolean() ? 4 : 9);
        a[k] = m.getParameterTypes()[k] == long.class ? (Object) (long) v : (Object) v;
      }
      try {
        sum = sum * 31 + ((Number) m.invoke(x, a)).longValue();
      } catch (InvocationTargetException e) {
        due.is("run " + seed + ": " + m.getName() + java.util.Arrays.toString(a) + " threw " + e.getCause(), 1, 0);
      }
    }
    return sum;
  }
}
