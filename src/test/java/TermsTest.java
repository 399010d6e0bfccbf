import java.math.BigInteger;
import java.util.ArrayList;
import java.util.List;
import java.util.Random;
import java.util.function.ToLongFunction;

/** The terms (I to VI) of the document, sentence by sentence, at the edges that they name. */
public final class TermsTest {
  private static final int NONE = -1;
  private static final Sentences doc = new Sentences("TermsTest", "[IV]+");

  private static final String TOWN = "town days 9 post 2;";
  private static final String THREE = TOWN + "person hours 1 full;person hours 1 full;person hours 1 full;";
  private static final String LETTER = THREE + "letter 1 to 0 on 8 hours 1 ";

  public static void main(String[] args) {
    lines();
    numbersOfTowns();
    numbersOfLetters();
    laws();
    numbering();
    tokens();
    faults();
    slots();
    mornings();
    heard();
    working();
    hoursNeeded();
    clerks();
    answers();
    firstByLaw();
    lots();
    stuckAndWorth();
    orders();
    oneLetterMore();
    visits();
    draws();
    doc.close();
  }

  private static void is(String call, long got, long want) {
    doc.is(call, got, want);
  }

  private static String times(String text, int n) {
    return text.repeat(n);
  }

  // ---- I

  private static void lines() {
    doc.says("I", "TOWN: {LINE ;}.");
    doc.fine(0, "");
    doc.fine(0, " \n\n ");
    doc.fine(1, TOWN);
    doc.fine(1, "\n" + TOWN + "\n ");
    doc.fault(1, "^;");
    doc.fault(1, "town days 9 post 2^");
    doc.fault(1, TOWN + "^;");
    doc.fault(1, "town days 9 post 2 ^person hours 1 full;");
    doc.says("I", "LINE: town days N post N | person hours N KIND | letter A to B on D hours N [back N] [after C] [worth N] [by D] | law LAW.");
    cutBehindEveryToken(LETTER + "back 2 after 2 worth 3 by 4 ; law lot 5;");
    String[] wishes = {"back 2 ", "after 2 ", "worth 3 ", "by 4 "};
    for (int set = 0; set < 16; set++) {
      StringBuilder b = new StringBuilder(LETTER);
      for (int i = 0; i < 4; i++) if ((set & 1 << i) != 0) b.append(wishes[i]);
      OldestFirst x = doc.fine(5, b + ";");
      is("back of set " + set, x.letter(0, 4), (set & 1) != 0 ? 2 : 0);
      is("after of set " + set, x.letter(0, 5), (set & 2) != 0 ? 2 : NONE);
      is("worth of set " + set, x.letter(0, 6), (set & 4) != 0 ? 3 : 0);
      is("by of set " + set, x.letter(0, 7), (set & 8) != 0 ? 4 : NONE);
    }
    for (int i = 0; i < 4; i++) {
      for (int j = 0; j <= i; j++) doc.fault(1, LETTER + wishes[i] + "^" + wishes[j] + ";");
    }
    doc.fault(1, TOWN + "person ^full hours 1;");
    doc.fault(1, THREE + "letter ^to 0 on 8 hours 1;");
    doc.fault(1, THREE + "letter 1 to 0 ^hours 1 on 8;");
    doc.fault(1, "town ^post 2 days 9;");
    doc.fault(1, THREE + "^back 2;");
  }

  /** Whatever ends amid a line has its fault at the end. */
  private static void cutBehindEveryToken(String text) {
    int lines = 0;
    for (int i = 1; i < text.length(); i++) {
      boolean parted = " ;".indexOf(text.charAt(i)) >= 0 || " ;".indexOf(text.charAt(i - 1)) >= 0;
      if (text.charAt(i - 1) == ';') lines++;
      String cut = text.substring(0, i);
      if (!parted) continue;
      if (cut.trim().endsWith(";")) {
        doc.fine(lines, cut);
      } else {
        doc.fault(1, cut + "^");
      }
    }
  }

  private static void numbersOfTowns() {
    doc.says("I", "town is the first LINE and no other:");
    doc.fault(1, "^person hours 1 full;");
    doc.fault(1, "^law oldest;" + TOWN);
    doc.fault(1, TOWN + "^" + TOWN);
    doc.fault(1, THREE + "^" + TOWN);
    doc.says("I", "days 2 .. 40");
    doc.fault(2, "town days ^0 post 1;");
    doc.fault(2, "town days ^1 post 1;");
    is("days 2", doc.fine(1, "town days 2 post 1;").count(2), 2);
    is("days 40", doc.fine(1, "town days 40 post 1;").count(2), 40);
    doc.fault(2, "town days ^41 post 1;");
    doc.fault(2, "town days ^4294967298 post 1;");
    doc.fault(2, "town days ^18446744073709551618 post 1;");
    doc.fault(2, "town days ^" + times("9", 2000) + " post 1;");
    is("many noughts", doc.fine(1, "town days " + times("0", 2000) + "2 post 1;").count(2), 2);
    doc.says("I", "post 1 .. 9.");
    doc.fault(2, "town days 9 post ^0;");
    is("post 1", doc.fine(1, "town days 9 post 1;").count(3), 1);
    is("post 9", doc.fine(1, "town days 2 post 9;").count(3), 9);
    doc.fault(2, "town days 9 post ^10;");
    doc.says("I", "hours of a person 1 .. 12;");
    doc.fault(2, TOWN + "person hours ^0 full;");
    is("hours 1", doc.fine(2, TOWN + "person hours 1 full;").person(0, 0), 1);
    is("hours 12", doc.fine(2, TOWN + "person hours 12 full;").person(0, 0), 12);
    doc.fault(2, TOWN + "person hours ^13 full;");
    doc.fault(2, TOWN + "person hours ^4294967297 full;");
    kinds();
  }

  private static void kinds() {
    doc.says("I", "KIND: full | short | sunday | worrier | clerk P (P a PERSON told ahead).");
    String[] kinds = {"full", "short", "sunday", "worrier"};
    for (int k = 0; k < 4; k++) {
      is(kinds[k], doc.fine(2, TOWN + "person hours 1 " + kinds[k] + ";").person(0, 1), k);
      doc.fault(1, TOWN + "person hours 1 " + kinds[k] + " ^0;");
      doc.fault(1, TOWN + "person hours 1 ^" + kinds[k] + "s;");
      doc.fault(1, TOWN + "person hours 1 ^" + kinds[k].substring(1) + ";");
    }
    doc.fault(1, TOWN + "person hours 1^;");
    doc.fault(1, TOWN + "person hours 1 ^4;");
    doc.fault(1, THREE + "person hours 1 clerk^;");
    doc.fault(2, TOWN + "person hours 1 clerk ^0;");
    doc.fault(2, THREE + "person hours 1 clerk ^3;");
    doc.fault(2, THREE + "person hours 1 clerk ^4; person hours 1 full;");
    OldestFirst x = doc.fine(5, THREE + "person hours 1 clerk 2;");
    is("clerk 2", x.person(3, 1), 4);
    is("for 2", x.person(3, 2), 2);
    x = doc.fine(9, TOWN + times("person hours 1 full;", 7) + "person hours 1 clerk 6;");
    is("the last clerk", x.person(7, 2), 6);
    doc.fault(2, TOWN + times("person hours 1 full;", 7) + "person hours 1 clerk ^7;");
    String seven = TOWN + times("person hours 1 full;", 7) + "person hours 1 ";
    for (int k = 0; k < 4; k++) is("the last is " + kinds[k], doc.fine(9, seven + kinds[k] + ";").person(7, 1), k);
    is("the last is a clerk", doc.fine(9, seven + "clerk 0;").person(7, 1), 4);
    is("of the first", doc.fine(9, seven + "clerk 0;").person(7, 2), 0);
  }

  private static void numbersOfLetters() {
    doc.says("I", "A, B, C PEOPLE told ahead,");
    doc.fault(2, TOWN + "letter ^0 to 1 on 0 hours 1;");
    doc.fault(2, TOWN + "person hours 1 full; letter 0 to ^1 on 0 hours 1; person hours 1 full;");
    doc.fault(2, THREE + "letter ^3 to 1 on 0 hours 1;");
    doc.fault(2, THREE + "letter 1 to ^3 on 0 hours 1;");
    doc.fault(2, LETTER + "after ^3;");
    doc.fault(2, LETTER + "after ^4294967297;");
    is("the last one", doc.fine(5, THREE + "letter 2 to 1 on 0 hours 1;").letter(0, 0), 2);
    is("the last one", doc.fine(5, THREE + "letter 1 to 2 on 0 hours 1;").letter(0, 1), 2);
    is("told by then", doc.fine(6, THREE + "person hours 1 full; letter 1 to 3 on 0 hours 1;").letter(0, 1), 3);
    doc.says("I", "A and B unlike, C not B;");
    for (int p = 0; p < 3; p++) doc.fault(2, THREE + "letter " + p + " to ^" + p + " on 0 hours 1;");
    doc.fault(2, LETTER + "after ^0;");
    is("after who wrote it", doc.fine(5, LETTER + "after 1;").letter(0, 5), 1);
    is("after another", doc.fine(5, LETTER + "after 2;").letter(0, 5), 2);
    doc.says("I", "on 0 .. days less 1;");
    String two = "town days 2 post 1; person hours 1 full; person hours 1 full;";
    is("on 0", doc.fine(4, two + "letter 0 to 1 on 0 hours 1;").letter(0, 2), 0);
    is("on the last", doc.fine(4, two + "letter 0 to 1 on 1 hours 1;").letter(0, 2), 1);
    doc.fault(2, two + "letter 0 to 1 on ^2 hours 1;");
    doc.fault(2, THREE + "letter 0 to 1 on ^9 hours 1;");
    doc.fault(1, THREE + "letter 0 to 1 on ^-1 hours 1;");
    String forty = two.replace("days 2", "days 40");
    is("on 39", doc.fine(4, forty + "letter 0 to 1 on 39 hours 1;").letter(0, 2), 39);
    doc.fault(2, forty + "letter 0 to 1 on ^40 hours 1;");
    doc.says("I", "hours of a letter 1 .. 99,");
    doc.fault(2, THREE + "letter 0 to 1 on 0 hours ^0;");
    is("hours 1", doc.fine(5, THREE + "letter 0 to 1 on 0 hours 1;").letter(0, 3), 1);
    is("hours 99", doc.fine(5, THREE + "letter 0 to 1 on 0 hours 99;").letter(0, 3), 99);
    doc.fault(2, THREE + "letter 0 to 1 on 0 hours ^100;");
    wishes();
  }

  private static void wishes() {
    doc.says("I", "back 1 .. 99,");
    doc.fault(2, LETTER + "back ^0;");
    is("back 1", doc.fine(5, LETTER + "back 1;").letter(0, 4), 1);
    is("back 99", doc.fine(5, LETTER + "back 99;").letter(0, 4), 99);
    doc.fault(2, LETTER + "back ^100;");
    doc.says("I", "worth 0 .. 99,");
    is("worth 0", doc.fine(5, LETTER + "worth 0;").letter(0, 6), 0);
    is("worth 99", doc.fine(5, LETTER + "worth 99;").letter(0, 6), 99);
    doc.fault(2, LETTER + "worth ^100;");
    doc.fault(2, LETTER + "worth ^4294967296;");
    doc.says("I", "by D 0 .. days less 1");
    is("by 0", doc.fine(5, LETTER + "by 0;").letter(0, 7), 0);
    is("by the last", doc.fine(5, LETTER + "by 8;").letter(0, 7), 8);
    doc.fault(2, LETTER + "by ^9;");
    doc.says("I", "(worth 0, by NONE without).");
    OldestFirst x = doc.fine(6, LETTER + "worth 7 by 3; letter 1 to 0 on 8 hours 1;");
    is("worth without", x.letter(1, 6), 0);
    is("by without", x.letter(1, 7), NONE);
  }

  private static void laws() {
    doc.says("I", "LAW: oldest | newest | dearest | lot N (a seed 0 .. 9,999);");
    String[] laws = {"oldest", "newest", "dearest"};
    for (int l = 0; l < 3; l++) {
      is(laws[l], doc.fine(2, TOWN + "law " + laws[l] + ";").count(4), l);
      doc.fault(1, TOWN + "law " + laws[l] + " ^1;");
      doc.fault(1, TOWN + "law ^" + laws[l] + "s;");
      doc.fault(1, TOWN + "law ^" + laws[l].substring(1) + ";");
    }
    is("lot", doc.fine(2, TOWN + "law lot 0;").count(4), 3);
    is("lot 0", doc.fine(2, TOWN + "law lot 0;").count(7), 0);
    is("lot 9999", doc.fine(2, TOWN + "law lot 9999;").count(7), 9999);
    doc.fault(2, TOWN + "law lot ^10000;");
    doc.fault(2, TOWN + "law lot ^4294967296;");
    doc.fault(1, TOWN + "law lot^;");
    doc.fault(1, TOWN + "law^;");
    doc.fault(1, TOWN + "law ^3;");
    doc.fault(1, TOWN + "law lot 9^,999;");
    doc.says("I", "law once (oldest without).");
    is("without", doc.fine(4, THREE).count(4), 0);
    is("ahead of people", doc.fine(3, TOWN + "law newest; person hours 1 full;").count(4), 1);
    for (String first : new String[] {"oldest", "newest", "lot 1"}) {
      doc.fault(2, TOWN + "law " + first + ";^law " + first + ";");
      doc.fault(2, TOWN + "law " + first + ";person hours 1 full;^law dearest;");
    }
    OldestFirst x = new OldestFirst();
    Due.feed(x, TOWN + "law newest;");
    x.town();
    Due.feed(x, TOWN);
    x.town();
    is("without, behind another town", x.count(4), 0);
    Due.feed(x, TOWN + "law newest;");
    is("once again in another town", x.town(), 2);
  }

  private static void numbering() {
    doc.says("I", "PEOPLE 0 .. 7, told LETTERS 0 .. 23 are numbered as they stand.");
    StringBuilder b = new StringBuilder("town days 40 post 1; person hours 1 full; person hours 2 full;");
    for (int l = 0; l < 24; l++) {
      if (l < 6) b.append("person hours ").append(l + 3).append(" full;");
      b.append("letter 0 to 1 on ").append(l).append(" hours ").append(l + 1).append(" back 1;");
    }
    OldestFirst x = doc.fine(33, b.toString());
    for (int p = 0; p < 8; p++) is("person " + p, x.person(p, 0), p + 1);
    for (int l = 0; l < 24; l++) {
      is("letter " + l, x.letter(l, 2), l);
      is("hours of letter " + l, x.letter(l, 3), l + 1);
    }
    is("person 8", x.person(8, 0), -2);
    is("answer 47", x.letter(47, 3), 1);
    is("letter 48", x.letter(48, 3), -2);
  }

  private static void tokens() {
    doc.says("I", "TOKENS, blanks (32, 10) aside, the longest: words (a .. z), numbers (digits), the sign ; .");
    for (int sign = 0; sign < 256; sign++) {
      boolean known = sign == 32 || sign == 10 || sign == ';' || sign >= 'a' && sign <= 'z' || sign >= '0' && sign <= '9';
      if (!known) {
        doc.fault(1, "^" + (char) sign + TOWN);
        doc.fault(1, "town days 9^" + (char) sign + " post 2;");
        doc.fault(1, "town^" + (char) sign + " days 9 post 2;");
        doc.fault(1, TOWN + " ^" + (char) sign);
      }
    }
    doc.fine(1, "\n town \n\ndays 9 \n post\n2\n;\n");
    doc.fine(3, "town days 9post 2;person hours 12full;law oldest;");
    doc.fine(2, "town days9post2;law lot4;");
    doc.fault(1, "^townd ays 9 post 2;");
    doc.fault(1, "^towndays 9 post 2;");
    doc.fault(1, "^t own days 9 post 2;");
    for (char sign : new char[] {'a', 'z'}) {
      doc.fault(1, "^town" + sign + " days 9 post 2;");
      doc.fault(1, "^" + sign + "town days 9 post 2;");
    }
    for (char digit : new char[] {'0', '9'}) doc.fault(2, "town days ^41" + digit + "post 2;");
    spoilEveryWord(LETTER + "back 2 after 2 worth 3 by 4;" + "person hours 1 short;person hours 1 sunday;person hours 1 worrier;person hours 1 clerk 0;law lot 5;");
    for (String law : new String[] {"oldest", "newest", "dearest"}) spoilEveryWord(TOWN + "law " + law + ";");
    doc.fault(1, "town days 3 ^2 post 2;");
    doc.fault(2, "town days ^99 post 2;");
    doc.fault(1, TOWN + "person hours 1 ^fulllaw oldest;");
    is("leading noughts", doc.fine(1, "town days 009 post 02;").count(2), 9);
  }

  /** A word with one sign otherwise is another word. */
  private static void spoilEveryWord(String text) {
    int start = 0;
    for (int i = 0; i < text.length(); i++) {
      if (!Character.isLetter(text.charAt(i))) {
        start = i + 1;
      } else {
        char other = text.charAt(i) == 'q' ? 'x' : 'q';
        doc.fault(1, text.substring(0, start) + "^" + text.substring(start, i) + other + text.substring(i + 1));
      }
    }
  }

  private static void faults() {
    doc.says("I", "FAULTS, the first by its place (a TOKEN's first byte; the end's),");
    doc.fault(2, "town days ^41 post 0; persons; law law; $");
    doc.fault(1, "town days 9 post 2; ^persons hours 99 full;");
    doc.fault(2, TOWN + "person hours ^0013 lazy;");
    doc.fault(1, TOWN + "   ^lawful;");
    doc.fault(1, "town days 9 post 2 \n \n ^");
    doc.fault(1, "town^");
    doc.fault(1, TOWN + "law lot ^");
    doc.fault(1, times(" ", 2399) + "^x");
    doc.fault(1, "town" + times(" ", 2396) + "^");
    // One place has two faults only where a line's first word stands amid another line.
    doc.says("I", "of one place the least:");
    doc.fault(1, TOWN + "law oldest ^law oldest;");
    doc.fault(1, TOWN + times("person hours 1 full;", 7) + "person hours 1 full ^person hours 1 full;");
    doc.fault(1, THREE + times("letter 0 to 1 on 0 hours 1;", 23) + "letter 0 to 1 on 0 hours 1 ^letter 0 to 1 on 0 hours 1;");
    doc.fault(1, TOWN + "person hours 1 full ^99;");
    doc.says("I", "1 a TOKEN that is none, or can't stand there (town behind the first LINE, another word ahead of it).");
    doc.fault(1, "^Town days 9 post 2;");
    doc.fault(1, "town days 9 post ^-2;");
    doc.fault(1, TOWN + "^town days 41 post 2;");
    for (String word : new String[] {"person", "letter", "law", "days", "post", "towns", "tow", "9"}) {
      doc.fault(1, "^" + word + " days 9 post 2;");
    }
    for (String word : new String[] {"persons", "perso", "letters", "laws", "la", "days", "7", "full"}) {
      doc.fault(1, TOWN + "^" + word + ";");
    }
    doc.says("I", "2 a number out of its bounds, not as said; law told already (at it).");
    doc.fault(2, "town days 9 post ^99;");
    doc.fault(2, THREE + "letter 1 to ^1 on 0 hours 1;");
    doc.fault(2, LETTER + "after ^0 worth 100;");
    doc.fault(2, TOWN + "law oldest; ^law");
    doc.fault(2, TOWN + "law lot 3;   ^law nonsense;");
    doc.says("I", "3 a 9th person, a 25th letter, at its word.");
    String eight = TOWN + times("person hours 1 full;", 8);
    doc.fine(9, eight);
    doc.fault(3, eight + " ^person hours 1 full;");
    doc.fault(3, eight + "^person");
    doc.fault(3, eight + "^person hours 99 lazy;");
    String letters = eight + times("letter 0 to 1 on 0 hours 1;", 24);
    doc.fine(33, letters);
    doc.fault(3, letters + " ^letter 0 to 1 on 0 hours 1;");
    doc.fault(3, letters + "^letter");
    doc.fine(34, letters + "law newest;");
  }

  private static void slots() {
    doc.says("I", "SLOTS 0 .. 3 have rows of numbers of 1, 2, 4 or 8 bytes (WIDTH 0 .. 3), at most 60, or nothing.");
    OldestFirst x = Due.townOf("town days 2 post 1; person hours 2 full; person hours 2 full;"
        + "letter 0 to 1 on 0 hours 1; letter 0 to 1 on 0 hours 1;");
    for (int slot = 0; slot < 4; slot++) is("nothing in " + slot, x.write(slot, 0, 0), -6);
    for (int width = 0; width < 4; width++) {
      is("a row of 60", x.row(width, width, 60), 0);
      is("the last of it", x.write(width, 59, 1), 0);
      is("beyond it", x.write(width, 60, 1), -7);
      int bits = 8 << width;
      // What is one bit too high is cut off; what is the highest bit stays, so that it is not letter 1.
      if (width < 3) {
        x.write(width, 1, (1L << bits) + 1);
        is("cut above " + bits + " bits", x.judge(width), 2);
      }
      x.write(width, 1, (1L << bits - 1) + 1);
      is("not cut in " + bits + " bits", x.judge(width), 1);
    }
    is("a row of 61", x.row(0, 0, 61), -2);
  }

  // ---- II

  private static final String PLAIN = "person hours 1 full; person hours 1 full; person hours 1 full;";

  private static void mornings() {
    doc.says("II", "DAYS 0 .. days less 1.");
    OldestFirst x = Due.townOf("town days 3 post 1;" + PLAIN + "letter 0 to 1 on 2 hours 1;");
    is("the last day", x.needs(0, 2), 0);
    is("behind it", x.needs(0, 3), -2);
    is("ahead of the first", x.needs(0, -1), -2);
    doc.says("II", "On the morning of a DAY what comes then is laid on PILES.");
    is("not the day ahead", x.needs(0, 1), NONE);
    is("on the very day", x.answered(0), 2);
    x = Due.townOf("town days 3 post 1;" + PLAIN + "letter 0 to 1 on 1 hours 9; letter 0 to 2 on 2 hours 9;");
    is("pile(1, 0)", x.pile(1, 0), 0);
    is("pile(1, 1)", x.pile(1, 1), 1);
    is("pile(2, 1)", x.pile(2, 1), 0);
    is("pile(2, 2)", x.pile(2, 2), 2);
    x = Due.townOf("town days 40 post 1;" + PLAIN + "letter 0 to 1 on 39 hours 1; letter 0 to 2 on 39 hours 9; letter 2 to 0 on 38 hours 1 back 9;");
    is("on the last of forty", x.answered(0), 39);
    is("and lies there", x.pile(2, 39), 2 + (1L << 26));
    is("heard then", x.heard(1, 0), 39);
    is("an answer on it", x.letter(26, 2), 39);
    is("and lies there, too", x.needs(26, 39), 9);
    is("heard from then on", x.heard(2, 0), 39);
    // Large piles side by side: 0 to 19 lie with one, 20 to 23 with the next.
    for (int p = 0; p < 7; p++) {
      String there = "town days 20 post 1;" + times("person hours 1 full;", 8);
      there += times("letter " + (p + 2) % 8 + " to " + p + " on 0 hours 1;", 20) + times("letter " + (p + 2) % 8 + " to " + (p + 1) + " on 0 hours 1;", 4);
      x = Due.townOf(there);
      for (int day = 0; day < 20; day++) {
        is("the large pile of " + p + " behind " + day, x.pile(p, day), 0xfffffL & -2L << day);
        is("the pile of " + (p + 1) + " behind " + day, x.pile(p + 1, day), 0xf00000L & -2L << 20 + day);
      }
    }
  }

  private static void heard() {
    doc.says("II", "HEARD: a PERSON has heard from who wrote a LETTER, or an ANSWER, that came to him by that DAY.");
    OldestFirst x = Due.townOf("town days 4 post 1;" + PLAIN
        + "letter 1 to 0 on 0 hours 1 after 2; letter 2 to 0 on 2 hours 1;");
    is("heard by a letter", x.heard(0, 2), 2);
    is("not the day ahead", x.waits(0, 1), 2);
    is("on that very day", x.answered(0), 2);
    is("he who wrote has not heard", x.heard(2, 0), NONE);
    x = Due.townOf("town days 4 post 2;" + PLAIN + "letter 1 to 0 on 0 hours 1 after 2; letter 0 to 2 on 0 hours 1;");
    is("heard by an answer", x.heard(0, 2), 2);
    is("not the day ahead", x.waits(0, 1), 2);
    is("on that very day", x.answered(0), 2);
    x = Due.townOf("town days 2 post 1;" + PLAIN + "letter 1 to 0 on 0 hours 1 after 1;");
    is("by the letter itself", x.answered(0), 0);
    x = Due.townOf("town days 2 post 1;" + PLAIN + "letter 1 to 0 on 0 hours 9; letter 2 to 1 on 0 hours 1 after 0;");
    is("a letter that is not answered brings nothing", x.heard(1, 0), NONE);
  }

  private static void working() {
    doc.says("II", "Then PERSON by PERSON:");
    OldestFirst x = Due.townOf("town days 2 post 1;" + PLAIN + "letter 0 to 2 on 0 hours 1; letter 2 to 0 on 0 hours 1; letter 0 to 1 on 0 hours 1;");
    x.row(0, 0, 3);
    int[] done = {1, 2, 0};
    for (int i = 0; i < 3; i++) x.write(0, i, done[i]);
    is("0, then 1, then 2", x.judge(0), 3);
    doc.says("II", "as long as he has hours left of this DAY, he takes the LETTER of his PILE that is first by LAW:");
    String three = "town days 3 post 1; person hours 1 full; person hours 3 full; person hours 1 full;";
    x = Due.townOf(three + "letter 0 to 1 on 0 hours 2; letter 0 to 1 on 0 hours 2;");
    is("an hour is left for the next", x.needs(1, 0), 1);
    is("and it is done on the next day", x.answered(1), 1);
    is("two hours are left then", x.idle(1, 1), 2);
    x = Due.townOf(three + "letter 0 to 1 on 0 hours 3; letter 0 to 1 on 0 hours 2 after 2;");
    is("none is left for the next", x.needs(1, 0), 2);
    is("so that he stands still for nobody", x.waits(1, 0), NONE);
    is("but does on the next day", x.waits(1, 1), 2);
    x = Due.townOf(three + "letter 0 to 1 on 0 hours 2; letter 0 to 1 on 0 hours 2 after 2;");
    is("one is left: he stands still", x.waits(1, 0), 2);
    is("and does not use it", x.idle(1, 0), 1);
    doc.says("II", "if it is to be ANSWERED after C, and he has not HEARD from C, he STANDS STILL for C till the DAY is over;");
    x = Due.townOf(three + "letter 0 to 1 on 0 hours 1 after 2; letter 0 to 1 on 0 hours 1;");
    for (int day = 0; day < 3; day++) {
      is("all hours of day " + day, x.idle(1, day), 3);
      is("for whom on day " + day, x.waits(1, day), 2);
      is("nothing is done on day " + day, x.pile(1, day), 3);
    }
    doc.says("II", "else he gives it hours till it needs none (it is ANSWERED then, and gone from the PILE) or he has none left.");
    x = Due.townOf(three + "letter 0 to 1 on 0 hours 3; letter 0 to 1 on 1 hours 4;");
    is("all of his hours", x.answered(0), 0);
    is("gone", x.pile(1, 0), 0);
    is("an hour too many", x.needs(1, 1), 1);
    is("it stays", x.pile(1, 1), 2);
    is("he has none left", x.idle(1, 1), 0);
    is("on the next day", x.answered(1), 2);
  }

  private static void hoursNeeded() {
    doc.says("II", "HOURS it needs: as told;");
    needed("full", 1, 0, 1);
    needed("full", 99, 99, 99);
    needed("sunday", 99, 99, 99);
    doc.says("II", "short: half of that, rounded up;");
    needed("short", 1, 0, 1);
    needed("short", 2, 0, 1);
    needed("short", 3, 99, 2);
    needed("short", 98, 0, 49);
    needed("short", 99, 50, 50);
    doc.says("II", "worrier: twice that, if its worth is 50 or more.");
    needed("worrier", 3, 0, 3);
    needed("worrier", 3, 49, 3);
    needed("worrier", 3, 50, 6);
    needed("worrier", 3, 51, 6);
    needed("worrier", 1, 99, 2);
    needed("worrier", 99, 99, 198);
    doc.says("II", "sunday: none on DAYS 6, 13, 20, .. .");
    OldestFirst x = Due.townOf("town days 40 post 1; person hours 1 full; person hours 2 sunday; letter 0 to 1 on 0 hours 99;");
    int left = 99;
    for (int day = 0; day < 40; day++) {
      boolean off = day == 6 || day == 13 || day == 20 || day == 27 || day == 34;
      left -= off ? 0 : 2;
      is("left on day " + day, x.needs(0, day), left);
      is("not used on day " + day, x.idle(1, day), 0);
    }
    x = Due.townOf("town days 40 post 1; person hours 1 full; person hours 2 sunday;");
    for (int day = 0; day < 40; day++) {
      is("nothing to do on day " + day, x.idle(1, day), day % 7 == 6 ? 0 : 2);
      is("another kind on day " + day, x.idle(0, day), 1);
    }
  }

  /** What a letter needs is what lies behind the day on which it comes under one that takes all hours. */
  private static void needed(String kind, int hours, int worth, int want) {
    OldestFirst x = Due.townOf("town days 2 post 1; person hours 1 full; person hours 1 " + kind + ";"
        + "letter 0 to 1 on 0 hours 99; letter 0 to 1 on 1 hours " + hours + " worth " + worth + ";");
    is(kind + ", " + hours + " hours, worth " + worth, x.needs(1, 1), want);
  }

  private static void clerks() {
    String people = "town days 4 post 1; person hours 1 full; person hours 4 clerk 0; person hours 1 full;";
    doc.says("II", "clerk P: when nothing lies on his own PILE (not, if he STANDS STILL) he goes on with P's,");
    OldestFirst x = Due.townOf(people + "letter 2 to 0 on 0 hours 8; letter 2 to 1 on 0 hours 3;");
    is("first his own", x.answered(1), 0);
    is("an hour is left for the other's", x.needs(0, 0), 6);
    is("none is left", x.idle(1, 0), 0);
    x = Due.townOf(people + "letter 2 to 0 on 0 hours 8; letter 2 to 1 on 0 hours 4;");
    is("no hour is left for the other's", x.needs(0, 0), 7);
    x = Due.townOf(people + "letter 2 to 0 on 0 hours 8; letter 0 to 1 on 0 hours 1 after 2;");
    is("he stands still", x.waits(1, 0), 2);
    is("and does not go on", x.needs(0, 0), 7);
    x = Due.townOf(people);
    is("nothing lies anywhere", x.idle(1, 0), 4);
    x = Due.townOf("town days 4 post 1; person hours 1 full; person hours 1 clerk 0; person hours 4 clerk 1; letter 1 to 0 on 0 hours 9;");
    is("P's alone", x.idle(2, 0), 4);
    doc.says("II", "as P would (HEARD by P; he STANDS STILL then for nobody, but his DAY is over, if that one can't be ANSWERED).");
    x = Due.townOf(people + "letter 1 to 0 on 0 hours 3 after 2; letter 2 to 1 on 0 hours 1;");
    is("he has heard", x.heard(1, 2), 0);
    is("P has not", x.answered(0), NONE);
    is("for nobody", x.waits(1, 0), NONE);
    is("his day is over", x.idle(1, 0), 3);
    is("P is stuck, he is not", x.stuck(), 1);
    x = Due.townOf(people + "letter 1 to 0 on 0 hours 1; letter 1 to 0 on 0 hours 1 after 2;");
    is("P has no hours left, and stands still for nobody", x.waits(0, 0), NONE);
    is("nor does he", x.waits(1, 0), NONE);
    is("his day is over all the same", x.idle(1, 0), 4);
    is("P does on the next day", x.waits(0, 1), 2);
    x = Due.townOf(people + "letter 1 to 0 on 3 hours 1; letter 1 to 0 on 3 hours 1 after 2;");
    is("nobody is stuck for what he can't answer", x.stuck(), 0);
    x = Due.townOf("town days 2 post 1; person hours 1 full; person hours 1 full; person hours 4 clerk 1; letter 2 to 1 on 1 hours 1; letter 2 to 1 on 1 hours 1 after 0;");
    is("nor on the second day", x.stuck(), 0);
    x = Due.townOf(people + "letter 2 to 0 on 0 hours 5 after 2;");
    is("P has heard, he has not", x.answered(0), 0);
    is("he never has", x.heard(1, 2), NONE);
    x = Due.townOf(people + "letter 1 to 0 on 0 hours 3 after 2; letter 1 to 0 on 0 hours 3;");
    is("he does not pass over it", x.needs(1, 3), 3);
    x = Due.townOf(people.replace("1 full; person hours 4", "1 short; person hours 4") + "letter 2 to 0 on 0 hours 9;");
    is("hours as P needs them", x.answered(0), 0);
    is("P one, he four", x.idle(1, 0), 0);
  }

  private static void answers() {
    doc.says("II", "The ANSWER of a LETTER comes to who wrote it post DAYS behind the DAY on which it is ANSWERED.");
    OldestFirst x = Due.townOf("town days 10 post 9; person hours 1 full; person hours 1 full; letter 0 to 1 on 0 hours 1; letter 0 to 1 on 1 hours 1;");
    is("on the last day", x.comes(0), 9);
    is("heard then", x.heard(0, 1), 9);
    is("behind the last day", x.comes(1), NONE);
    x = Due.townOf("town days 9 post 9; person hours 1 full; person hours 1 full; letter 0 to 1 on 0 hours 1 back 1;");
    is("a day too late", x.comes(0), NONE);
    is("never heard", x.heard(0, 1), NONE);
    is("no letter", x.letter(24, 2), NONE);
    x = Due.townOf("town days 2 post 1; person hours 1 full; person hours 12 full;" + times("letter 0 to 1 on 0 hours 1 back 1;", 12));
    for (int l = 0; l < 12; l++) {
      is("of one of many on a day", x.comes(l), 1);
      is("comes on the last", x.letter(24 + l, 2), 1);
    }
    doc.says("II", "Of a LETTER with back it is a LETTER, too, 24 and the number of the LETTER, of as many hours as back, that wants nothing, of worth 0.");
    StringBuilder b = new StringBuilder("town days 40 post 1; person hours 12 worrier; person hours 12 full; person hours 1 full;");
    b.append("letter 0 to 1 on 0 hours 1 back 99 after 0 worth 99 by 1;");
    for (int l = 1; l < 23; l++) b.append("letter 0 to 1 on 39 hours 99;");
    b.append("letter 0 to 1 on 0 hours 1 back 7 worth 60;");
    x = Due.townOf(b.toString());
    int[] first = {1, 0, 1, 99, 0, NONE, 0, NONE};
    int[] last = {1, 0, 1, 7, 0, NONE, 0, NONE};
    for (int what = 0; what < 8; what++) {
      is("letter(24, " + what + ")", x.letter(24, what), first[what]);
      is("letter(47, " + what + ")", x.letter(47, what), last[what]);
      is("letter(25, " + what + ")", x.letter(25, what), -2);
    }
    is("99 hours, 12 a day, not twice", x.needs(24, 1), 87);
    is("on the day", x.answered(24), 9);
    is("its own answer", x.comes(24), 10);
    is("the other one", x.answered(47), 9);
  }

  private static void firstByLaw() {
    // To 0 come: letter 1 on day 1, answer 24 on day 1, letter 2 on day 2, letter 3 on day 1.
    OldestFirst x = Due.townOf("town days 3 post 1; person hours 1 sunday; person hours 1 full; letter 0 to 1 on 0 hours 1 back 9;"
        + "letter 1 to 0 on 1 hours 9 worth 5; letter 1 to 0 on 2 hours 9 worth 6; letter 1 to 0 on 1 hours 9 worth 5;");
    doc.says("II", "First by LAW: oldest: the DAY on which it came, the least, then the least number;");
    lie(x, 1, 3, 24, 2);
    doc.says("II", "newest: the greatest DAY, then the greatest number;");
    x.law(1);
    lie(x, 2, 24, 3, 1);
    doc.says("II", "dearest: the greatest worth, then as oldest.");
    x.law(2);
    lie(x, 2, 1, 3, 24);
    x = Due.townOf("town days 3 post 1; person hours 1 full; person hours 1 full;"
        + "letter 1 to 0 on 1 hours 9 worth 99; letter 1 to 0 on 0 hours 9 worth 99; letter 1 to 0 on 0 hours 9 worth 0; letter 1 to 0 on 0 hours 9 worth 1; law dearest;");
    lie(x, 1, 0, 3, 2);
  }

  private static void lie(OldestFirst x, int... order) {
    is("first", x.top(0, 2), order[0]);
    for (int i = 0; i < order.length; i++) is("under(" + order[i] + ", 2)", x.under(order[i], 2), i);
  }

  // From seed 1 the draws are of 16838, 5758, 10113, 17515, 31051, 5627.
  private static void lots() {
    doc.says("II", "lot: each time one takes a LETTER (each morning, and behind each that is ANSWERED) one of the PILE, by a draw of how many there are, by number.");
    String people = "town days 9 post 1; law lot 1; person hours 1 full; person hours 1 full;";
    // Of one letter, too: 16838 and 5758 are drawn of 1, then 10113 of 2.
    answeredOn("of one", people + "letter 0 to 1 on 0 hours 2; letter 0 to 1 on 2 hours 1; letter 0 to 1 on 2 hours 1;", 1, 3, 2);
    // 16838 of 3, 5758 of 2 behind it on the same day, 10113 of 1.
    answeredOn("behind each", people.replace("hours 1 full;", "hours 2 full;") + "letter 0 to 1 on 0 hours 1; letter 0 to 1 on 0 hours 1; letter 0 to 1 on 0 hours 1;", 0, 1, 0);
    // 0 draws 16838 of 3 ahead of 1, who draws 5758 of 3; then 10113 of 2, 17515 of 2; 31051 and 5627 of 1.
    answeredOn("one row of draws for all", people + times("letter 1 to 0 on 0 hours 1;", 3) + times("letter 0 to 1 on 0 hours 1;", 3), 2, 1, 0, 2, 0, 1);
    // A clerk draws of the other's pile: 16838 of 4, 5758 of 3 by the clerk; 10113 of 2, 17515 of 1 by the clerk.
    answeredOn("by a clerk", "town days 9 post 1; law lot 1; person hours 1 full; person hours 1 clerk 0; person hours 1 full;"
        + times("letter 2 to 0 on 0 hours 1;", 4), 1, 0, 0, 1);
    // Nobody draws from an empty pile, nor without hours: 1 draws 16838 of 3 on a sunday, behind 0.
    answeredOn("without hours", "town days 9 post 1; law lot 1; person hours 1 sunday; person hours 1 full;"
        + "letter 1 to 0 on 6 hours 1;" + times("letter 0 to 1 on 6 hours 1;", 3), 7, 8, 7, 6);
    // By number, not by day: 16838 of 1, then 5758 of 3 is 1: the second by number.
    answeredOn("by number", people + "letter 0 to 1 on 1 hours 1; letter 0 to 1 on 0 hours 2; letter 0 to 1 on 1 hours 1;", 3, 1, 2);
    // 16838 of 3 is what waits for 2: the day is over; 5758 of 3 is 1, 10113 of 2 is 1, which waits.
    OldestFirst x = Due.townOf(people + "person hours 1 full;" + times("letter 0 to 1 on 0 hours 1;", 2) + "letter 0 to 1 on 0 hours 1 after 2;");
    is("stands still for what is drawn", x.waits(1, 0), 2);
    is("goes on the next day", x.answered(1), 1);
    is("stands still again", x.waits(1, 2), 2);
    // 16838, 5758 of 2: letter 0; 10113, 17515, 31051 of 2: letter 1; then letter 0 is alone.
    doc.says("II", "(What was given to a LETTER stays.)");
    x = Due.townOf(people + times("letter 0 to 1 on 0 hours 3;", 2));
    int[] first = {2, 1, 1, 1, 1, 0};
    int[] second = {3, 3, 2, 1, 0, 0};
    for (int day = 0; day < 6; day++) {
      is("needs(0, " + day + ")", x.needs(0, day), first[day]);
      is("needs(1, " + day + ")", x.needs(1, day), second[day]);
    }
    x = Due.townOf("town days 4 post 1; law newest; person hours 1 full; person hours 2 full; letter 0 to 1 on 0 hours 3; letter 0 to 1 on 1 hours 2;");
    is("given on day 0", x.needs(0, 0), 1);
    is("under another", x.needs(0, 1), 1);
    is("one hour more", x.idle(1, 2), 1);
  }

  private static void answeredOn(String what, String text, int... days) {
    OldestFirst x = Due.townOf(text);
    for (int l = 0; l < days.length; l++) is(what + ": letter " + l, x.answered(l), days[l]);
  }

  // ---- III

  private static void stuckAndWorth() {
    doc.says("III", "STUCK: who STANDS STILL on the last DAY on his own PILE.");
    OldestFirst x = Due.townOf("town days 3 post 1;" + PLAIN + "letter 1 to 0 on 0 hours 1 after 2; letter 2 to 0 on 2 hours 1;");
    is("he did on the day ahead", x.waits(0, 1), 2);
    is("not on the last", x.stuck(), 0);
    x = Due.townOf("town days 3 post 1;" + PLAIN + "letter 1 to 0 on 2 hours 1 after 2;");
    is("on the last alone", x.stuck(), 1);
    x = Due.townOf("town days 3 post 1; person hours 1 full; person hours 1 clerk 0; person hours 1 full; letter 1 to 0 on 0 hours 1 after 2;");
    is("not on another's pile", x.stuck(), 1);
    x = Due.townOf("town days 7 post 1; person hours 1 sunday; person hours 1 full; person hours 1 full; letter 1 to 0 on 0 hours 1 after 2;");
    is("nobody without hours", x.stuck(), 0);
    StringBuilder all = new StringBuilder("town days 2 post 1;" + times("person hours 1 full;", 8));
    for (int p = 0; p < 8; p++) all.append("letter ").append((p + 2) % 8).append(" to ").append(p).append(" on 0 hours 1 after ").append((p + 1) % 8).append(';');
    is("all", Due.townOf(all.toString()).stuck(), 255);
    doc.says("III", "RING: PEOPLE who are STUCK, each for the next one, round.");
    x = Due.townOf(all.toString());
    is("all in one", x.ring(0), 255);
    is("one", x.ring(1), 1);
    x = Due.townOf("town days 2 post 1;" + times("person hours 1 full;", 5)
        + "letter 4 to 0 on 0 hours 1 after 1; letter 4 to 1 on 0 hours 1 after 2; letter 0 to 2 on 0 hours 1 after 1; letter 0 to 3 on 0 hours 1 after 4;");
    is("all but 4 are stuck", x.stuck(), 15);
    is("not who leads into it, nor who waits for one that is not stuck", x.ring(0), 6);
    is("one ring", x.ring(1), 1);
    doc.says("III", "WORTH: of all told LETTERS that are ANSWERED by their DAY (by), without one: at all; the others are LATE.");
    x = Due.townOf("town days 3 post 1; person hours 1 full; person hours 1 full;"
        + "letter 0 to 1 on 0 hours 2 worth 1 by 1; letter 0 to 1 on 0 hours 1 worth 2;");
    is("on its day, and on the last", x.worth(), 3);
    is("none is late", x.late(0), 0);
    x.hours(0, 3);
    is("a day behind it, and never", x.worth(), 0);
    is("both are late", x.late(0), 2);
    x = Due.townOf("town days 3 post 1; person hours 1 full; person hours 1 full; letter 0 to 1 on 2 hours 1 worth 9 by 1; letter 0 to 1 on 0 hours 1 back 1 worth 8 by 0;");
    is("due ahead of coming", x.worth(), 8);
    is("the sum of many", Due.townOf("town days 2 post 1; person hours 1 full; person hours 12 full;" + times("letter 0 to 1 on 0 hours 1 worth 99;", 24)).worth(), 24 * 99);
  }

  // ---- IV

  private static void orders() {
    doc.says("IV", "ORDER: LETTERS that come to one on one morning lie in the told order: the first of these is as if its number were the least of theirs, the next one the next, and so on;");
    String people = "town days 5 post 1; person hours 1 full; person hours 1 full;";
    OldestFirst x = Due.townOf(people + "letter 0 to 1 on 0 hours 1 worth 1 by 0; letter 0 to 1 on 0 hours 1 worth 2 by 1; letter 0 to 1 on 0 hours 1 worth 4 by 0;");
    is("as they lie", x.worth(), 3);
    is("2, then 1", x.order(1, 0), 6);
    is("place 0", x.place(1, 0, 0), 2);
    is("place 1", x.place(1, 0, 1), 1);
    is("place 2", x.place(1, 0, 2), 0);
    doc.says("IV", "all LAWS (newest, too: the greatest first) go by these numbers.");
    x.law(1);
    is("the last in the order is the first that is answered", x.place(1, 0, 2), 2);
    is("then the one ahead of it", x.place(1, 0, 1), 1);
    x = Due.townOf(people + "law dearest; letter 0 to 1 on 0 hours 2 worth 5; letter 0 to 1 on 0 hours 1 worth 5 by 0; letter 0 to 1 on 0 hours 1 worth 4 by 0;");
    is("dearest: of one worth alone", x.order(1, 0), 10);
    is("dearest: 1 ahead of 0", x.place(1, 0, 0), 1);
    // By lot: 16838 of 1, 5758 of 3 is letter 1, 10113 of 2 is the greater number of 0 and 2.
    x = Due.townOf(people + "law lot 1; letter 0 to 1 on 1 hours 1 worth 5 by 2; letter 0 to 1 on 0 hours 2 worth 1 by 1; letter 0 to 1 on 1 hours 1 worth 3 by 2;");
    is("by lot as they lie", x.worth(), 4);
    is("by lot the other way", x.order(1, 1), 6);
    is("by lot, place 0", x.place(1, 1, 0), 2);
    doc.says("IV", "The first order: by LETTERS, the least first.");
    x = Due.townOf(people + times("letter 0 to 1 on 0 hours 1 worth 1;", 3));
    for (int i = 0; i < 3; i++) is("all are alike: place " + i, x.place(1, 0, i), i);
    x = Due.townOf(people + "letter 0 to 1 on 0 hours 1 worth 1; letter 0 to 1 on 0 hours 1 worth 1; letter 0 to 1 on 0 hours 1 worth 9 by 0;");
    is("2 must be first", x.place(1, 0, 0), 2);
    is("then the least", x.place(1, 0, 1), 0);
  }

  // ---- V

  private static void oneLetterMore() {
    doc.says("V", "In thought:");
    thoughtsLeaveNothing();
    doc.says("V", "one LETTER more: as LETTER 48, of worth 0, that wants nothing.");
    StringBuilder b = new StringBuilder("town days 5 post 1; person hours 1 full; person hours 1 worrier; person hours 1 short;");
    for (int l = 0; l < 23; l++) b.append("letter 0 to 2 on 4 hours 99;");
    b.append("letter 0 to 1 on 1 hours 1 worth 9 by 1;");
    OldestFirst x = Due.townOf(b.toString());
    is("oldest: behind 23", x.stop(0, 1, 1, 99, 0), 0);
    is("oldest: a day older, ahead of 23", x.stop(0, 1, 0, 2, 0), 1);
    is("oldest: a day older, but done by then", x.stop(0, 1, 0, 1, 0), 0);
    x.law(1);
    is("newest: ahead of 23", x.stop(0, 1, 1, 1, 0), 1);
    is("newest: a day older, behind 23", x.stop(0, 1, 0, 99, 0), 0);
    x.law(2);
    is("dearest: of worth 0", x.stop(0, 1, 0, 99, 0), 0);
    is("it is not there", x.letter(48, 0), -2);
    x = Due.townOf("town days 5 post 1; person hours 1 full; person hours 1 worrier; person hours 1 short; law newest;"
        + "letter 0 to 1 on 1 hours 1; letter 0 to 2 on 1 hours 1;");
    is("as many hours of a worrier", x.stop(0, 1, 1, 3, 1), 3);
    is("half of one that is short", x.stop(0, 2, 1, 3, 1), 2);
    x = Due.townOf("town days 5 post 2; person hours 1 full; person hours 1 full; person hours 1 full; letter 2 to 0 on 0 hours 1 after 1 worth 9 by 2;");
    is("its answer is heard", x.stop(0, 1, 0, 1, 3), -9);
    is("too late", x.stop(0, 1, 0, 2, 3), 0);
    is("it is heard itself", x.stop(1, 0, 1, 1, 3), -9);
    is("too late, too", x.stop(1, 0, 3, 1, 3), 0);
    // 48 ahead of 0 on day 0; the answer of 24 comes on day 3, and nothing with it that would hold up letter 1.
    x = Due.townOf("town days 5 post 1; person hours 1 full; person hours 1 full; law newest; letter 0 to 1 on 0 hours 1 back 1; letter 0 to 1 on 3 hours 1;");
    is("it comes once", x.stop(0, 1, 0, 1, 0), 1);
  }

  /** Whatever was thought of ahead, each thought answers as it does in a new object. */
  private static void thoughtsLeaveNothing() {
    Random r = new Random(48);
    for (int i = 0; i < 12; i++) {
      String text = Plain.random(r, 3 + i % 4).text();
      List<ToLongFunction<OldestFirst>> thoughts = thoughts(Due.townOf(text));
      long[] alone = new long[thoughts.size()];
      for (int a = 0; a < alone.length; a++) alone[a] = thoughts.get(a).applyAsLong(Due.townOf(text));
      for (int a = 0; a < alone.length; a++) {
        OldestFirst x = Due.townOf(text);
        for (int b = 0; b < alone.length; b++) {
          is("thought " + a + " of " + text, thoughts.get(a).applyAsLong(x), alone[a]);
          is("thought " + b + " behind " + a + " of " + text, thoughts.get(b).applyAsLong(x), alone[b]);
        }
      }
    }
  }

  private static List<ToLongFunction<OldestFirst>> thoughts(OldestFirst town) {
    int letter = town.count(1) - 1;
    int to = town.letter(letter, 1);
    int on = town.letter(letter, 2);
    int from = town.letter(letter, 0);
    List<ToLongFunction<OldestFirst>> all = new ArrayList<>();
    all.add(OldestFirst::worth);
    all.add(OldestFirst::stuck);
    all.add(x -> x.ring(0));
    all.add(x -> x.late(1));
    all.add(x -> x.sum(1));
    all.add(x -> x.answered(letter));
    all.add(x -> x.comes(letter));
    all.add(x -> x.needs(letter, on));
    all.add(x -> x.pile(to, on));
    all.add(x -> x.idle(to, on));
    all.add(x -> x.waits(to, on));
    all.add(x -> x.top(to, on));
    all.add(x -> x.under(letter, on));
    all.add(x -> x.heard(to, from));
    all.add(x -> x.heard(from, to));
    for (int law = 0; law < 4; law++) {
      int other = law;
      all.add(x -> x.by(other, 12345, 0));
    }
    all.add(OldestFirst::best);
    all.add(x -> x.order(to, on));
    all.add(x -> x.worst(to, on));
    all.add(x -> x.place(to, on, 0));
    all.add(x -> x.longest(letter));
    all.add(x -> x.longest(0));
    all.add(x -> x.just(letter, 1, 1));
    all.add(x -> x.just(letter, x.count(2) - 1, 1));
    all.add(x -> x.stop(from, to, 0, 99, 1));
    all.add(x -> x.stop(to, from, 0, 99, 3));
    all.add(x -> x.hold(from, to, 0, letter, x.count(2) - 1));
    all.add(x -> x.visit(letter, on, 24));
    all.add(x -> x.visit(0, x.letter(0, 2), 24));
    all.add(x -> x.pays(letter, 1));
    all.add(x -> x.instead(1));
    all.add(x -> x.burn(to, 1));
    all.add(x -> x.burn(from, 1));
    all.add(x -> x.untie(1));
    all.add(x -> x.chance(letter, 7, 3, 1));
    return all;
  }

  private static void visits() {
    doc.says("V", "VISIT: on the morning of a DAY, behind the post: if the LETTER lies on the PILE then, it is ANSWERED on that DAY, by word:");
    OldestFirst x = Due.townOf("town days 4 post 1; person hours 2 full; person hours 1 full; person hours 1 full;"
        + "letter 0 to 1 on 1 hours 9 after 2 worth 5 by 2; letter 1 to 0 on 1 hours 2 worth 7 by 1;");
    is("as it is", x.worth(), 7);
    is("on the day ahead it does not lie there", x.visit(0, 0, 0), 7);
    is("behind the post of the day", x.visit(0, 1, 0), 12);
    is("on the day on which it is due", x.visit(0, 2, 0), 12);
    is("a day too late", x.visit(0, 3, 0), 7);
    doc.says("V", "who wrote it has HEARD from to whom it is at once, no ANSWER comes;");
    // 0 hears from 1 at once, and can answer what is due on that very day.
    x = Due.townOf("town days 4 post 3; person hours 2 full; person hours 1 full; person hours 1 full;"
        + "letter 0 to 1 on 1 hours 9; letter 2 to 0 on 0 hours 2 after 1 worth 7 by 1;");
    is("as it is", x.worth(), 0);
    is("at once", x.visit(0, 1, 0), 7);
    is("not yet there", x.visit(0, 0, 0), 0);
    x = Due.townOf("town days 4 post 3; person hours 2 full; person hours 1 full; person hours 1 full;"
        + "letter 2 to 1 on 0 hours 9; letter 0 to 1 on 0 hours 9; letter 2 to 0 on 0 hours 2 after 1 worth 7 by 2;");
    is("he who wrote it, from to whom it is", x.visit(1, 2, 0), 7);
    is("not he who wrote another", x.visit(0, 2, 0), 0);
    is("a day too late", x.visit(1, 3, 0), 0);
    // The answer of letter 0 holds 0 up, by newest: without one letter 1 is in time.
    x = Due.townOf("town days 4 post 1; person hours 1 full; person hours 1 full; law newest;"
        + "letter 0 to 1 on 0 hours 1 back 9; letter 1 to 0 on 0 hours 3 worth 7 by 3;");
    is("the answer holds it up", x.worth(), 0);
    is("no answer comes", x.visit(0, 0, 0), 7);
    doc.says("V", "and he has n hours less on that DAY (0 at least), be it on the PILE or not.");
    x = Due.townOf("town days 4 post 1; person hours 3 full; person hours 3 full;"
        + "letter 0 to 1 on 2 hours 1; letter 1 to 0 on 1 hours 3 worth 7 by 1; letter 0 to 1 on 1 hours 3 worth 3 by 1;");
    is("0 less", x.visit(0, 1, 0), 10);
    is("1 less, though it is not there", x.visit(0, 1, 1), 3);
    is("all less", x.visit(0, 1, 3), 3);
    is("more less than he has", x.visit(0, 1, 24), 3);
    is("on that day alone", x.visit(0, 0, 24), 10);
    x = Due.townOf("town days 4 post 1; person hours 3 full; person hours 3 full;"
        + "letter 0 to 1 on 0 hours 1; letter 1 to 0 on 1 hours 4 worth 7 by 2;");
    is("0 at least, no debt on the next day", x.visit(0, 1, 24), 0);
    is("two of them are left", x.visit(0, 1, 1), 7);
    is("two of them are less", x.visit(0, 1, 2), 7);
    is("he has 3 on the next day", x.visit(0, 1, 3), 0);
    x.hours(1, 3);
    is("3 on the next day are enough", x.visit(0, 1, 24), 7);
    x = Due.townOf("town days 8 post 1; person hours 3 sunday; person hours 3 full; letter 0 to 1 on 6 hours 1; letter 1 to 0 on 6 hours 3 worth 7 by 7;");
    is("less than none on a sunday is none", x.visit(0, 6, 5), 7);
  }

  // ---- VI

  private static void draws() {
    doc.says("VI", "DRAWS: x becomes (1103515245 x + 12345) modulo 2,147,483,648 (at first it is the seed); a draw of n: x / 65536, cut, modulo n.");
    OldestFirst x = Due.townOf("town days 40 post 1; person hours 1 full; person hours 1 full;" + times("letter 0 to 1 on 0 hours 1;", 24));
    int[] seeds = {0, 1, 2, 65535, 65536, 9999, 123456789, 1073741823, 1073741824, 1999999999, 2000000000};
    for (int seed : seeds) {
      List<Integer> drawn = drawn(seed, 24);
      for (int day = 0; day < 24; day++) is("seed " + seed + ", day " + day, x.chance(drawn.get(day), seed, 1, 1), day);
    }
  }

  /** The order in which so many letters are drawn, by large numbers. */
  private static List<Integer> drawn(int seed, int letters) {
    List<Integer> left = new ArrayList<>();
    for (int l = 0; l < letters; l++) left.add(l);
    List<Integer> drawn = new ArrayList<>();
    BigInteger x = BigInteger.valueOf(seed);
    while (!left.isEmpty()) {
      x = x.multiply(BigInteger.valueOf(1103515245)).add(BigInteger.valueOf(12345)).mod(BigInteger.valueOf(2147483648L));
      BigInteger of = BigInteger.valueOf(left.size());
      drawn.add(left.remove(x.divide(BigInteger.valueOf(65536)).mod(of).intValue()));
    }
    return drawn;
  }
}
