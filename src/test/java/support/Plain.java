import java.util.ArrayList;
import java.util.Arrays;
import java.util.Collections;
import java.util.Comparator;
import java.util.HashMap;
import java.util.List;
import java.util.Map;
import java.util.Random;
import java.util.TreeMap;
import java.util.TreeSet;

/** The document once more, as plainly as it can be said, to hold the program against. */
final class Plain {
  static final int NONE = -1;

  static final class Person {
    int hours, kind, master = NONE;
  }

  static final class Letter {
    int number, from, to, on, hours, back, after = NONE, worth, by = NONE;

    Letter copy() {
      Letter l = new Letter();
      l.number = number; l.from = from; l.to = to; l.on = on; l.hours = hours;
      l.back = back; l.after = after; l.worth = worth; l.by = by;
      return l;
    }
  }

  int days, post, law, seed = 1, lines;
  boolean lawTold;
  final List<Person> people = new ArrayList<>();
  final List<Letter> letters = new ArrayList<>();

  Plain copy() {
    Plain t = new Plain();
    t.days = days; t.post = post; t.law = law; t.seed = seed; t.lines = lines; t.lawTold = lawTold;
    t.people.addAll(people);
    for (Letter l : letters) t.letters.add(l.copy());
    return t;
  }

  // What is otherwise in thought.
  Letter more;
  TreeSet<Integer> unwritten = new TreeSet<>();
  Map<Integer, Integer> numbers = new HashMap<>();
  int visitLetter = NONE, visitDay = NONE, visitHours;
  int burnPerson = NONE, burnDay = NONE;

  static final class Story {
    final Map<Integer, Integer> came = new TreeMap<>();
    final Map<Integer, Integer> answered = new TreeMap<>();
    final Map<Integer, Integer> answerComes = new TreeMap<>();
    final List<Integer> sequence = new ArrayList<>();
    final List<Map<Integer, Integer>> needs = new ArrayList<>();
    final List<List<TreeSet<Integer>>> piles = new ArrayList<>();
    final List<int[]> idle = new ArrayList<>();
    final List<int[]> waits = new ArrayList<>();
    int[][] heard;
  }

  private int number(int letter) {
    return numbers.getOrDefault(letter, letter);
  }

  Map<Integer, Letter> all() {
    Map<Integer, Letter> all = new TreeMap<>();
    for (Letter l : letters) {
      all.put(l.number, l);
      if (l.back > 0) {
        Letter a = new Letter();
        a.number = 24 + l.number; a.from = l.to; a.to = l.from; a.on = NONE; a.hours = l.back;
        all.put(a.number, a);
      }
    }
    if (more != null) all.put(48, more);
    return all;
  }

  private int hoursNeeded(Letter l) {
    int kind = people.get(l.to).kind;
    if (kind == 1) return l.hours / 2 + l.hours % 2;
    if (kind == 3 && l.worth >= 50) return l.hours * 2;
    return l.hours;
  }

  Comparator<Integer> byLaw(Map<Integer, Letter> all, Story s) {
    Comparator<Integer> oldest = Comparator.<Integer>comparingInt(l -> s.came.get(l)).thenComparingInt(this::number);
    if (law == 0) return oldest;
    if (law == 1) return oldest.reversed();
    if (law == 2) return Comparator.<Integer>comparingInt(l -> -all.get(l).worth).thenComparing(oldest);
    return Comparator.comparingInt(this::number);
  }

  private long x;

  private int draw(int n) {
    x = (1103515245L * x + 12345L) % 2147483648L;
    return (int) ((x / 65536) % n);
  }

  Story live() {
    Story s = new Story();
    Map<Integer, Letter> all = all();
    int n = people.size();
    s.heard = new int[n][n];
    for (int[] row : s.heard) Arrays.fill(row, NONE);
    List<TreeSet<Integer>> piles = new ArrayList<>();
    for (int p = 0; p < n; p++) piles.add(new TreeSet<>());
    Map<Integer, Integer> needs = new TreeMap<>();
    x = seed;
    for (int day = 0; day < days; day++) {
      if (day == burnDay) {
        for (int l : piles.get(burnPerson)) needs.remove(l);
        piles.get(burnPerson).clear();
      }
      for (Letter l : all.values()) {
        boolean comes = l.number < 24 || l.number == 48
            ? l.on == day && !unwritten.contains(l.number)
            : s.answerComes.getOrDefault(l.number - 24, NONE) == day;
        if (comes) {
          s.came.put(l.number, day);
          piles.get(l.to).add(l.number);
          needs.put(l.number, hoursNeeded(l));
          if (s.heard[l.to][l.from] == NONE) s.heard[l.to][l.from] = day;
        }
      }
      for (Map.Entry<Integer, Integer> e : s.answerComes.entrySet()) {
        Letter l = all.get(e.getKey());
        if (e.getValue() == day && s.heard[l.from][l.to] == NONE) s.heard[l.from][l.to] = day;
      }
      if (day == visitDay) {
        Letter l = all.get(visitLetter);
        if (piles.get(l.to).remove(l.number)) {
          s.answered.put(l.number, day);
          s.sequence.add(l.number);
          needs.put(l.number, 0);
          if (s.heard[l.from][l.to] == NONE) s.heard[l.from][l.to] = day;
        }
      }
      int[] idle = new int[n];
      int[] waits = new int[n];
      Arrays.fill(waits, NONE);
      for (int p = 0; p < n; p++) {
        Person person = people.get(p);
        int left = person.kind == 2 && day % 7 == 6 ? 0 : person.hours;
        if (day == visitDay && all.get(visitLetter).from == p) left = Math.max(0, left - visitHours);
        int at = p;
        while (left > 0) {
          if (piles.get(at).isEmpty()) {
            if (at == p && person.kind == 4) {
              at = person.master;
              continue;
            }
            break;
          }
          List<Integer> pile = new ArrayList<>(piles.get(at));
          pile.sort(byLaw(all, s));
          int l = law == 3 ? pile.get(draw(pile.size())) : pile.get(0);
          int c = all.get(l).after;
          if (c != NONE && s.heard[at][c] == NONE) {
            if (at == p) waits[p] = c;
            break;
          }
          while (left > 0 && needs.get(l) > 0) {
            left--;
            needs.put(l, needs.get(l) - 1);
          }
          if (needs.get(l) == 0) {
            piles.get(at).remove(l);
            s.answered.put(l, day);
            s.sequence.add(l);
            if (day + post < days) s.answerComes.put(l, day + post);
          }
        }
        idle[p] = left;
      }
      s.idle.add(idle);
      s.waits.add(waits);
      s.needs.add(new TreeMap<>(needs));
      List<TreeSet<Integer>> seen = new ArrayList<>();
      for (TreeSet<Integer> pile : piles) seen.add(new TreeSet<>(pile));
      s.piles.add(seen);
    }
    return s;
  }

  int stuck(Story s) {
    int bits = 0;
    for (int p = 0; p < people.size(); p++) if (s.waits.get(days - 1)[p] != NONE) bits |= 1 << p;
    return bits;
  }

  boolean inTime(Story s, int letter) {
    Integer day = s.answered.get(letter);
    return day != null && (letters.get(letter).by == NONE || day <= letters.get(letter).by);
  }

  int worth(Story s) {
    int sum = 0;
    for (Letter l : letters) if (inTime(s, l.number)) sum += l.worth;
    return sum;
  }

  int answeredTold(Story s) {
    int n = 0;
    for (Letter l : letters) if (s.answered.containsKey(l.number)) n++;
    return n;
  }

  /** The rings, by their least people. */
  List<Integer> rings(Story s) {
    List<Integer> rings = new ArrayList<>();
    int[] waits = s.waits.get(days - 1);
    for (int p = 0; p < people.size(); p++) {
      int bits = 0;
      int q = p;
      while (q != NONE && (bits & 1 << q) == 0) {
        bits |= 1 << q;
        q = waits[q];
      }
      if (q == p && !rings.contains(bits)) rings.add(bits);
    }
    return rings;
  }

  List<Integer> morning(int person, int day) {
    List<Integer> come = new ArrayList<>();
    for (Letter l : letters) if (l.to == person && l.on == day) come.add(l.number);
    return come;
  }

  static void orders(List<Integer> left, List<Integer> sofar, List<List<Integer>> into) {
    if (left.isEmpty()) into.add(new ArrayList<>(sofar));
    for (int l : left) {
      List<Integer> rest = new ArrayList<>(left);
      rest.remove((Integer) l);
      sofar.add(l);
      orders(rest, sofar, into);
      sofar.remove(sofar.size() - 1);
    }
  }

  int worthOfOrder(List<Integer> order) {
    Plain t = copy();
    List<Integer> sorted = new ArrayList<>(order);
    Collections.sort(sorted);
    for (int i = 0; i < order.size(); i++) t.numbers.put(order.get(i), sorted.get(i));
    return worth(t.live());
  }

  int visitWorth(int letter, int day, int n) {
    Plain t = copy();
    t.visitLetter = letter;
    t.visitDay = day;
    t.visitHours = n;
    return worth(t.live());
  }

  Story withHours(int letter, int n) {
    Plain t = copy();
    t.letters.get(letter).hours = n;
    return t.live();
  }

  Story withMore(int from, int to, int day, int n) {
    Plain t = copy();
    t.more = new Letter();
    t.more.number = 48;
    t.more.from = from;
    t.more.to = to;
    t.more.on = day;
    t.more.hours = n;
    return t.live();
  }

  String text() {
    StringBuilder b = new StringBuilder("town days " + days + " post " + post + ";");
    String[] kinds = {"full", "short", "sunday", "worrier", "clerk"};
    for (Person p : people) {
      b.append("person hours ").append(p.hours).append(' ').append(kinds[p.kind]);
      if (p.kind == 4) b.append(' ').append(p.master);
      b.append(";\n");
    }
    for (Letter l : letters) {
      b.append("letter ").append(l.from).append(" to ").append(l.to).append(" on ").append(l.on).append(" hours ").append(l.hours);
      if (l.back > 0) b.append(" back ").append(l.back);
      if (l.after != NONE) b.append(" after ").append(l.after);
      if (l.worth > 0) b.append(" worth ").append(l.worth);
      if (l.by != NONE) b.append(" by ").append(l.by);
      b.append(';');
    }
    if (lawTold) b.append("law ").append(new String[] {"oldest", "newest", "dearest", "lot " + seed}[law]).append(';');
    return b.toString();
  }

  static Plain random(Random r, int size) {
    Plain t = new Plain();
    t.days = 2 + r.nextInt(Math.min(39, 4 + size * 3));
    t.post = 1 + r.nextInt(r.nextBoolean() ? 2 : 9);
    int n = 2 + r.nextInt(Math.min(7, size + 1));
    for (int p = 0; p < n; p++) {
      Person person = new Person();
      person.hours = 1 + r.nextInt(r.nextBoolean() ? 4 : 12);
      person.kind = r.nextInt(p == 0 ? 4 : 5);
      if (person.kind == 4) person.master = r.nextInt(p);
      t.people.add(person);
    }
    int m = r.nextInt(Math.min(24, 4 + size * 3)) + 1;
    int span = r.nextBoolean() ? t.days : Math.max(1, t.days / 4);
    for (int i = 0; i < m; i++) {
      Letter l = new Letter();
      l.number = i;
      l.from = r.nextInt(n);
      do l.to = r.nextInt(n); while (l.to == l.from);
      l.on = r.nextInt(span);
      l.hours = 1 + r.nextInt(r.nextInt(4) == 0 ? 99 : 8);
      if (r.nextInt(3) == 0) l.back = 1 + r.nextInt(r.nextInt(4) == 0 ? 99 : 8);
      if (r.nextInt(4) == 0) do l.after = r.nextInt(n); while (l.after == l.to);
      if (r.nextInt(3) != 0) l.worth = r.nextInt(100);
      if (r.nextInt(3) == 0) l.by = r.nextInt(t.days);
      t.letters.add(l);
    }
    t.lawTold = r.nextInt(4) != 0;
    if (t.lawTold) t.law = r.nextInt(4);
    if (t.law == 3) t.seed = r.nextInt(10000);
    t.lines = 1 + n + m + (t.lawTold ? 1 : 0);
    return t;
  }
}
