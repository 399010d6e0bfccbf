import java.util.ArrayList;
import java.util.List;

/** Reads a text by patterns of words, another way than the program does, and finds its first fault. */
final class PlainReader {
  int fault = 0;
  int place = -1;
  final Plain town = new Plain();

  private record Token(String text, int place) {
    boolean isNumber() {
      return !text.isEmpty() && text.charAt(0) >= '0' && text.charAt(0) <= '9';
    }
  }

  private final List<Token> tokens = new ArrayList<>();
  private int at = 0;
  private int got;

  PlainReader(String text) {
    java.util.regex.Matcher m = java.util.regex.Pattern.compile("[ \n]+|[a-z]+|[0-9]+|.", java.util.regex.Pattern.DOTALL).matcher(text);
    while (m.find()) {
      if (m.group().trim().isEmpty() && (m.group().charAt(0) == 32 || m.group().charAt(0) == 10)) continue;
      tokens.add(new Token(m.group(), m.start()));
    }
    tokens.add(new Token("", text.length()));
    try {
      while (!now().text.isEmpty()) line();
    } catch (IllegalStateException e) {
      if (fault == 0) throw e;
    }
  }

  private Token now() {
    return tokens.get(at);
  }

  private void fail(int why) {
    fault = why;
    place = now().place;
    throw new IllegalStateException("fault");
  }

  private void word(String w) {
    if (!now().text.equals(w)) fail(1);
    at++;
  }

  private int oneOf(String... words) {
    for (int i = 0; i < words.length; i++) {
      if (now().text.equals(words[i])) {
        at++;
        return i;
      }
    }
    fail(1);
    return -1;
  }

  private int number(int least, int most, int butNot) {
    if (!now().isNumber()) fail(1);
    java.math.BigInteger n = new java.math.BigInteger(now().text);
    if (n.compareTo(java.math.BigInteger.valueOf(least)) < 0 || n.compareTo(java.math.BigInteger.valueOf(most)) > 0) fail(2);
    if (n.intValue() == butNot) fail(2);
    at++;
    return n.intValue();
  }

  private boolean maybe(String w) {
    if (!now().text.equals(w)) return false;
    at++;
    return true;
  }

  private void line() {
    String first = now().text;
    if (first.equals("town") != (town.lines == 0)) fail(1);
    if (first.equals("person") && town.people.size() == 8) fail(3);
    if (first.equals("letter") && town.letters.size() == 24) fail(3);
    if (first.equals("law") && town.lawTold) fail(2);
    int which = oneOf("town", "person", "letter", "law");
    int people = town.people.size() - 1;
    if (which == 0) {
      word("days");
      town.days = number(2, 40, -1);
      word("post");
      town.post = number(1, 9, -1);
    } else if (which == 1) {
      Plain.Person p = new Plain.Person();
      word("hours");
      p.hours = number(1, 12, -1);
      p.kind = oneOf("full", "short", "sunday", "worrier", "clerk");
      if (p.kind == 4) p.master = number(0, people, -1);
      town.people.add(p);
    } else if (which == 2) {
      Plain.Letter l = new Plain.Letter();
      l.number = town.letters.size();
      l.from = number(0, people, -1);
      word("to");
      l.to = number(0, people, l.from);
      word("on");
      l.on = number(0, town.days - 1, -1);
      word("hours");
      l.hours = number(1, 99, -1);
      if (maybe("back")) l.back = number(1, 99, -1);
      if (maybe("after")) l.after = number(0, people, l.to);
      if (maybe("worth")) l.worth = number(0, 99, -1);
      if (maybe("by")) l.by = number(0, town.days - 1, -1);
      town.letters.add(l);
    } else {
      town.law = oneOf("oldest", "newest", "dearest", "lot");
      if (town.law == 3) town.seed = number(0, 9999, -1);
      town.lawTold = true;
    }
    word(";");
    town.lines++;
  }
}
