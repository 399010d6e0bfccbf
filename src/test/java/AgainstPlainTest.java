import java.util.ArrayList;
import java.util.List;
import java.util.Map;
import java.util.Random;
import java.util.TreeSet;

/** Random towns, asked everything, held against the plain telling of the document. */
public final class AgainstPlainTest {
  private static final int NONE = -1;
  private static final Due due = new Due();
  private static String where = "";

  private static void is(String call, long got, long want) {
    due.is(where + call, got, want);
  }

  public static void main(String[] args) {
    Random r = new Random(20261118);
    int tries = args.length > 0 ? Integer.parseInt(args[0]) : 400;
    for (int i = 0; i < tries && due.wrong() == 0; i++) {
      Plain t = Plain.random(r, i % 14); // the largest are of 40 days, 8 people and 24 letters
      where = "town " + i + ": " + t.text() + ": ";
      OldestFirst x = Due.townOf(t.text());
      askWhatIsTold(x, t);
      askWhatBecomes(x, t);
      askThoughts(x, t, r);
      if (i % 4 == 0) askDearThoughts(x, t, r);
      askChanged(x, t, r);
    }
    due.close("AgainstPlainTest");
  }

  private static void askWhatIsTold(OldestFirst x, Plain t) {
    is("count(0)", x.count(0), t.people.size());
    is("count(1)", x.count(1), t.letters.size());
    is("count(2)", x.count(2), t.days);
    is("count(3)", x.count(3), t.post);
    is("count(4)", x.count(4), t.law);
    is("count(5)", x.count(5), t.lines);
    is("count(6)", x.count(6), 0);
    is("count(7)", x.count(7), t.seed);
    for (int p = -1; p <= 8; p++) {
      for (int what = -1; what <= 3; what++) {
        int want = -2;
        if (p >= 0 && p < t.people.size() && what >= 0 && what <= 2) {
          Plain.Person q = t.people.get(p);
          want = new int[] {q.hours, q.kind, q.master}[what];
        }
        is("person(" + p + ", " + what + ")", x.person(p, what), want);
      }
    }
    Plain.Story s = t.live();
    Map<Integer, Plain.Letter> all = t.all();
    for (int l = -1; l <= 50; l++) {
      for (int what = -1; what <= 8; what++) {
        int want = -2;
        if (all.containsKey(l) && what >= 0 && what <= 7) {
          Plain.Letter m = all.get(l);
          int on = l < 24 ? m.on : s.came.getOrDefault(l, NONE);
          want = new int[] {m.from, m.to, on, m.hours, m.back, m.after, m.worth, m.by}[what];
        }
        is("letter(" + l + ", " + what + ")", x.letter(l, what), want);
      }
    }
  }

  private static void askWhatBecomes(OldestFirst x, Plain t) {
    Plain.Story s = t.live();
    Map<Integer, Plain.Letter> all = t.all();
    for (int l = -1; l <= 49; l++) {
      boolean there = all.containsKey(l);
      is("answered(" + l + ")", x.answered(l), there ? s.answered.getOrDefault(l, NONE) : -2);
      is("comes(" + l + ")", x.comes(l), there ? s.answerComes.getOrDefault(l, NONE) : -2);
      for (int day = -1; day <= t.days; day++) {
        boolean dayThere = day >= 0 && day < t.days;
        is("needs(" + l + ", " + day + ")", x.needs(l, day), there && dayThere ? s.needs.get(day).getOrDefault(l, NONE) : -2);
        int ahead = -2;
        if (there && dayThere) {
          List<Integer> pile = inOrder(t, s, all, day, all.get(l).to);
          ahead = t.law == 3 ? NONE : pile.indexOf(l);
        }
        is("under(" + l + ", " + day + ")", x.under(l, day), ahead);
      }
    }
    for (int p = -1; p <= t.people.size(); p++) {
      boolean there = p >= 0 && p < t.people.size();
      for (int day = -1; day <= t.days; day++) {
        boolean both = there && day >= 0 && day < t.days;
        long bits = both ? 0 : -2;
        if (both) for (int l : s.piles.get(day).get(p)) bits |= 1L << l;
        is("pile(" + p + ", " + day + ")", x.pile(p, day), bits);
        is("idle(" + p + ", " + day + ")", x.idle(p, day), both ? s.idle.get(day)[p] : -2);
        is("waits(" + p + ", " + day + ")", x.waits(p, day), both ? s.waits.get(day)[p] : -2);
        int top = -2;
        if (both) {
          List<Integer> pile = inOrder(t, s, all, day, p);
          top = t.law == 3 || pile.isEmpty() ? NONE : pile.get(0);
        }
        is("top(" + p + ", " + day + ")", x.top(p, day), top);
      }
      for (int q = -1; q <= t.people.size(); q++) {
        boolean both = there && q >= 0 && q < t.people.size() && p != q;
        is("heard(" + p + ", " + q + ")", x.heard(p, q), both ? s.heard[p][q] : -2);
      }
    }
    askSums(x, t, s);
    askJudge(x, s);
  }

  private static List<Integer> inOrder(Plain t, Plain.Story s, Map<Integer, Plain.Letter> all, int day, int person) {
    List<Integer> pile = new ArrayList<>(s.piles.get(day).get(person));
    pile.sort(t.byLaw(all, s));
    return pile;
  }

  private static void askSums(OldestFirst x, Plain t, Plain.Story s) {
    is("stuck()", x.stuck(), t.stuck(s));
    List<Integer> rings = t.rings(s);
    is("ring(0)", x.ring(0), rings.isEmpty() ? NONE : rings.get(0));
    is("ring(1)", x.ring(1), rings.size());
    is("worth()", x.worth(), t.worth(s));
    int late = 0;
    int firstLate = NONE;
    int together = 0;
    int most = NONE;
    for (Plain.Letter l : t.letters) {
      if (!t.inTime(s, l.number)) {
        late++;
        if (firstLate == NONE) firstLate = l.number;
      }
      if (s.answered.containsKey(l.number)) {
        int days = s.answered.get(l.number) - l.on;
        together += days;
        most = Math.max(most, days);
      }
    }
    is("late(0)", x.late(0), late);
    is("late(1)", x.late(1), firstLate);
    is("sum(0)", x.sum(0), t.answeredTold(s));
    is("sum(1)", x.sum(1), together);
    is("sum(2)", x.sum(2), most);
  }

  private static void askJudge(OldestFirst x, Plain.Story s) {
    List<Integer> told = new ArrayList<>();
    for (int l : s.sequence) if (l < 24) told.add(l);
    x.row(1, 1, told.size() + 1);
    for (int i = 0; i < told.size(); i++) x.write(1, i, told.get(i));
    is("judge(1) of a longer row", x.judge(1), told.size());
    if (told.size() > 2) {
      x.write(1, 2, 30);
      is("judge(1) of a wrong row", x.judge(1), 2);
      x.row(1, 0, 2);
      x.write(1, 0, told.get(0));
      x.write(1, 1, 256 + told.get(1));
      is("judge(1) of a shorter row", x.judge(1), 2);
    }
  }

  private static void askThoughts(OldestFirst x, Plain t, Random r) {
    Plain.Story s = t.live();
    int n = t.people.size();
    int best = 0;
    for (int law = 0; law <= 3; law++) {
      Plain u = t.copy();
      u.law = law;
      u.seed = r.nextInt(2000000001);
      Plain.Story v = u.live();
      String call = "by(" + law + ", " + u.seed + ", ";
      is(call + "0)", x.by(law, u.seed, 0), u.worth(v));
      int late = 0;
      for (Plain.Letter l : t.letters) if (!u.inTime(v, l.number)) late++;
      is(call + "1)", x.by(law, u.seed, 1), late);
      is(call + "2)", x.by(law, u.seed, 2), u.answeredTold(v));
      is(call + "3)", x.by(law, u.seed, 3), Integer.bitCount(u.stuck(v)));
      Plain w = t.copy();
      w.law = best;
      if (law <= 2 && u.worth(v) > w.worth(w.live())) best = law;
    }
    is("best()", x.best(), best);
    for (int i = 0; i < 3; i++) {
      int from = r.nextInt(n);
      int to = (from + 1 + r.nextInt(n - 1)) % n;
      int day = r.nextInt(t.days);
      int hours = 1 + r.nextInt(99);
      askStop(x, t, s, new int[] {from, to, day, hours});
      int letter = r.nextInt(t.letters.size());
      int visit = r.nextInt(25);
      is("visit(" + letter + ", " + day + ", " + visit + ")", x.visit(letter, day, visit), t.visitWorth(letter, day, visit));
      Plain u = t.copy();
      u.burnPerson = to;
      u.burnDay = day;
      is("burn(" + to + ", " + day + ")", x.burn(to, day), u.worth(u.live()));
    }
    int letter = r.nextInt(t.letters.size());
    int seed = r.nextInt(2000000001);
    int lots = 1 + r.nextInt(20);
    int inTime = 0;
    int days = 0;
    for (int i = 0; i < lots; i++) {
      Plain u = t.copy();
      u.law = 3;
      u.seed = seed + i;
      Plain.Story v = u.live();
      if (u.inTime(v, letter)) inTime++;
      days += v.answered.getOrDefault(letter, t.days);
    }
    String call = "chance(" + letter + ", " + seed + ", " + lots + ", ";
    is(call + "0)", x.chance(letter, seed, lots, 0), inTime);
    is(call + "1)", x.chance(letter, seed, lots, 1), days);
  }

  private static void askStop(OldestFirst x, Plain t, Plain.Story s, int[] a) {
    Plain.Story v = t.withMore(a[0], a[1], a[2], a[3]);
    int letters = 0;
    int days = 0;
    int people = 0;
    for (Plain.Letter l : t.letters) {
      int was = s.answered.getOrDefault(l.number, t.days);
      int now = v.answered.getOrDefault(l.number, t.days);
      if (now > was) {
        letters++;
        days += now - was;
        people |= 1 << l.to;
      }
    }
    int[] want = {letters, days, people, t.worth(s) - t.worth(v)};
    for (int what = 0; what <= 3; what++) {
      String call = "stop(" + a[0] + ", " + a[1] + ", " + a[2] + ", " + a[3] + ", " + what + ")";
      is(call, x.stop(a[0], a[1], a[2], a[3], what), want[what]);
    }
  }

  private static void askDearThoughts(OldestFirst x, Plain t, Random r) {
    Plain.Story s = t.live();
    askHours(x, t, s, r);
    askVisits(x, t, s, r);
    askOrders(x, t, t.letters.get(r.nextInt(t.letters.size())));
    askUntie(x, t, s);
  }

  private static void askHours(OldestFirst x, Plain t, Plain.Story s, Random r) {
    int letter = r.nextInt(t.letters.size());
    int day = r.nextInt(t.days);
    int longest = NONE;
    int least = NONE;
    int most = NONE;
    for (int n = 1; n <= 99; n++) {
      Plain.Story v = t.withHours(letter, n);
      if (t.worth(v) >= t.worth(s)) longest = n;
      if (v.answered.getOrDefault(letter, t.days) <= day) {
        if (least == NONE) least = n;
        most = n;
      }
    }
    is("longest(" + letter + ")", x.longest(letter), longest);
    is("just(" + letter + ", " + day + ", 0)", x.just(letter, day, 0), least);
    is("just(" + letter + ", " + day + ", 1)", x.just(letter, day, 1), most);
    int n = t.people.size();
    int from = r.nextInt(n);
    int to = (from + 1 + r.nextInt(n - 1)) % n;
    int on = r.nextInt(t.days);
    int fewest = NONE;
    for (int h = 99; h >= 1; h--) {
      if (t.withMore(from, to, on, h).answered.getOrDefault(letter, t.days) > day) fewest = h;
    }
    is("hold(" + from + ", " + to + ", " + on + ", " + letter + ", " + day + ")", x.hold(from, to, on, letter, day), fewest);
  }

  private static void askVisits(OldestFirst x, Plain t, Plain.Story s, Random r) {
    int n = r.nextInt(6);
    int bestLetter = NONE;
    int bestWorth = t.worth(s);
    for (Plain.Letter l : t.letters) {
      int day = NONE;
      int most = t.worth(s);
      for (int d = 0; d < t.days; d++) {
        int worth = t.visitWorth(l.number, d, n);
        if (worth > most) {
          most = worth;
          day = d;
        }
      }
      is("pays(" + l.number + ", " + n + ")", x.pays(l.number, n), day);
      if (most > bestWorth) {
        bestWorth = most;
        bestLetter = l.number;
      }
    }
    is("instead(" + n + ")", x.instead(n), bestLetter);
  }

  private static void askOrders(OldestFirst x, Plain t, Plain.Letter one) {
    List<Integer> come = t.morning(one.to, one.on);
    String args = one.to + ", " + one.on;
    if (come.size() > 6) {
      is("order(" + args + ")", x.order(one.to, one.on), -3);
      is("place(" + args + ", 0)", x.place(one.to, one.on, 0), -3);
      is("worst(" + args + ")", x.worst(one.to, one.on), -3);
      return;
    }
    List<List<Integer>> orders = new ArrayList<>();
    Plain.orders(come, new ArrayList<>(), orders);
    int most = -1;
    int least = Integer.MAX_VALUE;
    List<Integer> best = null;
    for (List<Integer> order : orders) {
      int worth = t.worthOfOrder(order);
      least = Math.min(least, worth);
      if (worth > most) {
        most = worth;
        best = order;
      }
    }
    is("order(" + args + ")", x.order(one.to, one.on), most);
    is("worst(" + args + ")", x.worst(one.to, one.on), least);
    for (int i = -1; i <= 6; i++) {
      is("place(" + args + ", " + i + ")", x.place(one.to, one.on, i), i >= 0 && i < best.size() ? best.get(i) : NONE);
    }
  }

  private static void askUntie(OldestFirst x, Plain t, Plain.Story s) {
    List<Integer> open = new ArrayList<>();
    for (Plain.Letter l : t.letters) if (!s.answered.containsKey(l.number)) open.add(l.number);
    if (open.size() > 12) {
      is("untie(0)", x.untie(0), -3);
      is("untie(1)", x.untie(1), -3);
      return;
    }
    int fewest = NONE;
    int which = NONE;
    for (int set = 0; set < 1 << open.size() && fewest != 0; set++) {
      if (fewest != NONE && Integer.bitCount(set) >= fewest) continue;
      Plain u = t.copy();
      u.unwritten = new TreeSet<>();
      int bits = 0;
      for (int i = 0; i < open.size(); i++) {
        if ((set & 1 << i) != 0) {
          u.unwritten.add(open.get(i));
          bits |= 1 << open.get(i);
        }
      }
      if (u.stuck(u.live()) == 0) {
        fewest = Integer.bitCount(set);
        which = bits;
      }
    }
    is("untie(0)", x.untie(0), fewest);
    is("untie(1)", x.untie(1), which);
  }

  /** Other hours and laws, images, and what was asked before must not linger. */
  private static void askChanged(OldestFirst x, Plain t, Random r) {
    Plain was = t.copy();
    is("keep(2)", x.keep(2), 0);
    for (int i = 0; i < 3; i++) {
      int letter = r.nextInt(t.letters.size());
      int n = 1 + r.nextInt(20);
      is("hours(" + letter + ", " + n + ")", x.hours(letter, n), t.letters.get(letter).hours);
      t.letters.get(letter).hours = n;
      int law = r.nextInt(4);
      is("law(" + law + ")", x.law(law), t.law);
      t.law = law;
    }
    is("letter told later", x.letter(0, 3), t.letters.get(0).hours);
    askWhatBecomes(x, t);
    Plain.Letter one = t.letters.get(0);
    if (t.morning(one.to, one.on).size() < 4) askOrders(x, t, one);
    is("back(2)", x.back(2), 0);
    askWhatBecomes(x, was);
    if (was.morning(one.to, one.on).size() < 4) askOrders(x, was, one);
  }
}
