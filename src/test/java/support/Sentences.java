import java.io.IOException;
import java.nio.file.Files;
import java.nio.file.Path;
import java.util.LinkedHashMap;
import java.util.Map;
import java.util.function.IntToLongFunction;
import java.util.regex.Matcher;
import java.util.regex.Pattern;

/**
 * Answers that are due, each told under the sentence of the document that it holds. A quotation that the
 * document does not have, a sentence without an answer and a part of what the test is for that it does not quote
 * are faults of the test.
 */
final class Sentences {
  private static final Path DOCUMENT = Path.of("../shared/DOC.md");
  private static final Pattern PROMISE = Pattern.compile("## Promise (\\d+): .*");
  private static final Pattern TERM = Pattern.compile("([IV]+)\\. (.*)");

  private final Due due = new Due();
  private final String name;
  private final String mine;
  private final Map<String, String> parts = new LinkedHashMap<>();
  private final Map<String, boolean[]> quoted = new LinkedHashMap<>();
  private String sentence = "";
  private int answers = 1;

  /** The test is for the parts of the document whose numbers are of this form. */
  Sentences(String name, String mine) {
    this.name = name;
    this.mine = mine;
    read();
  }

  private void read() {
    Map<String, StringBuilder> found = new LinkedHashMap<>();
    String part = "";
    try {
      for (String line : Files.readAllLines(DOCUMENT)) {
        Matcher promise = PROMISE.matcher(line);
        Matcher term = TERM.matcher(line);
        if (promise.matches()) {
          part = promise.group(1);
          line = "";
        } else if (line.startsWith("#")) {
          part = "";
        } else if (term.matches()) {
          part = term.group(1);
          line = term.group(2);
        } else if (line.startsWith("```")) {
          line = "";
        }
        found.computeIfAbsent(part, p -> new StringBuilder()).append(' ').append(line);
      }
    } catch (IOException e) {
      throw new IllegalStateException(e);
    }
    found.remove("");
    for (Map.Entry<String, StringBuilder> e : found.entrySet()) {
      String text = plain(e.getValue().toString()).replaceFirst("^`[^`]*`: ", "");
      parts.put(e.getKey(), text);
      quoted.put(e.getKey(), new boolean[text.length()]);
    }
  }

  private static String plain(String text) {
    return text.replaceAll("\\s+", " ").trim();
  }

  /** What follows holds this sentence of a term (I .. VI) or a promise (1 .. 45). */
  void says(String part, String quotation) {
    closeSentence();
    sentence = part + " \"" + quotation + "\": ";
    answers = 0;
    String text = parts.getOrDefault(part, "");
    int at = text.indexOf(quotation);
    due.is(sentence + "stands in the document", at >= 0 ? 1 : 0, 1);
    for (; at >= 0; at = text.indexOf(quotation, at + 1)) {
      for (int i = 0; i < quotation.length(); i++) quoted.get(part)[at + i] = true;
    }
  }

  void says(int promise, String quotation) {
    says(Integer.toString(promise), quotation);
  }

  private void closeSentence() {
    if (answers == 0) due.is(sentence + "has an answer", 0, 1);
  }

  void is(String call, long got, long want) {
    answers++;
    due.is(sentence + call, got, want);
  }

  void isNot(String call, long got, long unwanted) {
    answers++;
    if (got == unwanted) due.is(sentence + call + " is not " + unwanted, 0, 1);
  }

  /** Numbers from least to most are taken; what is beyond them, near or far or by a wrap-around, is refused. */
  void bounds(String what, int least, int most, long refusal, IntToLongFunction call) {
    int[] beyond = {least - 1, most + 1, Integer.MIN_VALUE, Integer.MAX_VALUE, Integer.MIN_VALUE + least, Integer.MAX_VALUE - 1,
      least - 256, least - 65536, -1000000};
    for (int v : beyond) is(what + " " + v, call.applyAsLong(v), refusal);
    isNot(what + " " + least, call.applyAsLong(least), refusal);
    isNot(what + " " + most, call.applyAsLong(most), refusal);
  }

  /** A text with a fault at the sign ^, which is not of the text. */
  void fault(int why, String marked) {
    int place = marked.indexOf('^');
    String text = marked.substring(0, place) + marked.substring(place + 1);
    OldestFirst x = new OldestFirst();
    Due.feed(x, text);
    is("town() of " + text, x.town(), -4);
    is("fault(0) of " + text, x.fault(0), why);
    is("fault(1) of " + text, x.fault(1), place);
  }

  /** A text of so many lines. */
  OldestFirst fine(int lines, String text) {
    OldestFirst x = new OldestFirst();
    Due.feed(x, text);
    is("town() of " + text, x.town(), lines);
    is("fault(0) of " + text, x.fault(0), 0);
    is("fault(1) of " + text, x.fault(1), -1);
    return x;
  }

  /** The last line of a test; all of the parts that it is for must be quoted. */
  void close() {
    closeSentence();
    sentence = "";
    for (Map.Entry<String, String> e : parts.entrySet()) {
      boolean[] seen = quoted.get(e.getKey());
      StringBuilder missing = new StringBuilder();
      for (int i = 0; i < seen.length; i++) {
        if (!seen[i] && Character.isLetterOrDigit(e.getValue().charAt(i))) missing.append(e.getValue().charAt(i));
      }
      if (e.getKey().matches(mine)) due.is("of " + e.getKey() + " nobody quotes '" + missing + "'", missing.length(), 0);
    }
    due.close(name);
  }
}
