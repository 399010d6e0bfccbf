import java.util.Random;

/** Texts spoilt at random: what is read, or the first fault and its place. */
public final class TextsTest {
  private static final Due due = new Due();
  private static final String[] BITS = {"town", "person", "letter", "law", "hours", "back", "after", "worth", "by", "to", "on",
    "days", "post", "full", "short", "sunday", "worrier", "clerk", "oldest", "newest", "dearest", "lot", ";", " ", "\n", "0", "1",
    "7", "8", "9", "12", "13", "23", "39", "40", "41", "99", "100", "9999", "10000", "4294967296", "-", "A", "\t", "\r", "\0", "\u00e9",
    "person hours 3 full;", "letter 0 to 1 on 0 hours 3;", "law lot 4;", "town days 4 post 2;"};

  public static void main(String[] args) {
    Random r = new Random(7);
    OldestFirst x = new OldestFirst();
    Plain was = null;
    int[] seen = new int[4];
    for (int i = 0; i < 30000 && due.wrong() == 0; i++) {
      String text = spoilt(Plain.random(r, i % 8).text(), r);
      if (text.length() > 2400) continue;
      if (i % 3 == 0) text = text.replace(" ", r.nextBoolean() ? "\n" : "  ");
      if (text.length() > 2400) continue;
      PlainReader read = new PlainReader(text);
      seen[read.fault]++;
      x.end(0);
      Due.feed(x, text);
      int lines = x.town();
      due.is("town() of " + text, lines, read.fault == 0 ? read.town.lines : -4);
      due.is("fault(0) of " + text, x.fault(0), read.fault);
      due.is("fault(1) of " + text, x.fault(1), read.place);
      due.is("tape behind " + text, x.count(6), read.fault == 0 ? 0 : text.length());
      if (read.fault == 0) was = read.town;
      if (was != null) same(x, was, text);
    }
    for (int f = 0; f < 4; f++) due.is("some of fault " + f, seen[f] > 20 ? 1 : 0, 1);
    due.close("TextsTest");
  }

  private static String spoilt(String text, Random r) {
    StringBuilder b = new StringBuilder(text);
    for (int n = r.nextInt(3); n > 0; n--) {
      int at = r.nextInt(b.length() + 1);
      String bit = BITS[r.nextInt(BITS.length)];
      switch (r.nextInt(5)) {
        case 0 -> b.insert(at, bit);
        case 1 -> b.setLength(Math.max(1, at));
        case 2 -> b.delete(at, Math.min(b.length(), at + 1 + r.nextInt(3)));
        case 3 -> {
          int end = b.indexOf(";", at);
          for (int k = r.nextInt(9); k >= 0; k--) b.insert(end + 1, bit.endsWith(";") ? bit : " ");
        }
        default -> {
          int blank = b.indexOf(" ", at);
          if (blank >= 0) {
            int next = blank + 1;
            while (next < b.length() && b.charAt(next) != ' ' && b.charAt(next) != ';') next++;
            b.replace(blank + 1, next, bit);
          }
        }
      }
      if (b.length() == 0) b.append(' ');
    }
    return b.toString();
  }

  private static void same(OldestFirst x, Plain t, String text) {
    due.is("people of " + text, x.count(0), t.people.size());
    due.is("letters of " + text, x.count(1), t.letters.size());
    due.is("days of " + text, x.count(2), t.days);
    due.is("post of " + text, x.count(3), t.post);
    due.is("law of " + text, x.count(4), t.law);
    due.is("lines of " + text, x.count(5), t.lines);
    due.is("seed of " + text, x.count(7), t.lines == 0 ? 0 : t.seed);
    for (Plain.Letter l : t.letters) {
      int[] want = {l.from, l.to, l.on, l.hours, l.back, l.after, l.worth, l.by};
      for (int what = 0; what < 8; what++) due.is("letter(" + l.number + ", " + what + ") of " + text, x.letter(l.number, what), want[what]);
    }
    for (int p = 0; p < t.people.size(); p++) {
      Plain.Person q = t.people.get(p);
      int[] want = {q.hours, q.kind, q.master};
      for (int what = 0; what < 3; what++) due.is("person(" + p + ", " + what + ") of " + text, x.person(p, what), want[what]);
    }
  }
}
