/** The promises (1 to 45) of the document, sentence by sentence, at the edges that they name. */
public final class BoundariesTest {
  private static final int NONE = -1;
  private static final int LOW = Integer.MIN_VALUE;
  private static final int HIGH = Integer.MAX_VALUE;
  private static final Sentences doc = new Sentences("BoundariesTest", "[0-9]+");

  // 1 answers letter 0 on day 0, 0 its answer (24) on day 1; letter 1 comes on the last day and needs an hour more.
  private static final String EDGE = "town days 3 post 1; person hours 2 full; person hours 2 full;"
      + "letter 0 to 1 on 0 hours 2 back 1 worth 7 by 1; letter 1 to 0 on 2 hours 3 worth 5;";

  private static final String TWO = "town days 4 post 1; person hours 1 full; person hours 1 full;";
  private static final String THREE = TWO + "person hours 1 full;";

  // 1 stands still for 2, 2 for 3, 3 for 1; under what holds them up each has a letter of the one who waits for him.
  private static final String RING = "town days 9 post 1;" + "person hours 1 full;".repeat(4)
      + "letter 0 to 1 on 0 hours 1 after 2; letter 0 to 2 on 0 hours 1 after 3; letter 0 to 3 on 0 hours 1 after 1;"
      + "letter 1 to 2 on 0 hours 1; letter 2 to 3 on 0 hours 1; letter 3 to 1 on 0 hours 1;";

  public static void main(String[] args) {
    newObject();
    feed();
    end();
    town();
    fault();
    person();
    letter();
    hours();
    law();
    answered();
    comes();
    needs();
    pile();
    idle();
    waits();
    top();
    under();
    heard();
    stuck();
    ring();
    worth();
    late();
    sum();
    by();
    best();
    order();
    place();
    worst();
    longest();
    just();
    stop();
    hold();
    visit();
    pays();
    instead();
    burn();
    untie();
    chance();
    judge();
    count();
    keep();
    back();
    row();
    write();
    paste();
    doc.close();
  }

  private static void is(String call, long got, long want) {
    doc.is(call, got, want);
  }

  private static OldestFirst edge() {
    return Due.townOf(EDGE);
  }

  private static String times(String text, int n) {
    return text.repeat(n);
  }

  /** Every call that needs a town, in a state in which there is none. */
  private static void noTown(OldestFirst x) {
    is("person", x.person(0, 0), -2);
    is("letter", x.letter(0, 0), -2);
    is("letter 24", x.letter(24, 0), -2);
    is("hours", x.hours(0, 1), -2);
    for (int l = 0; l < 4; l++) is("law " + l, x.law(l), -2);
    is("answered", x.answered(0), -2);
    is("comes", x.comes(0), -2);
    is("needs", x.needs(0, 0), -2);
    is("pile", x.pile(0, 0), -2);
    is("idle", x.idle(0, 0), -2);
    is("waits", x.waits(0, 0), -2);
    is("top", x.top(0, 0), -2);
    is("under", x.under(0, 0), -2);
    is("heard", x.heard(0, 1), -2);
    is("stuck", x.stuck(), -2);
    is("worth", x.worth(), -2);
    is("best", x.best(), -2);
    for (int what = 0; what < 3; what++) {
      is("ring " + what, x.ring(what), -2);
      is("late " + what, x.late(what), -2);
      is("sum " + what, x.sum(what), -2);
      is("untie " + what, x.untie(what), -2);
      is("by " + what, x.by(3, 1, what), -2);
    }
    is("order", x.order(0, 0), -2);
    is("place", x.place(0, 0, 0), -2);
    is("worst", x.worst(0, 0), -2);
    is("longest", x.longest(0), -2);
    is("just", x.just(0, 0, 0), -2);
    is("stop", x.stop(0, 1, 0, 1, 0), -2);
    is("hold", x.hold(0, 1, 0, 0, 0), -2);
    is("visit", x.visit(0, 0, 0), -2);
    is("pays", x.pays(0, 0), -2);
    is("instead", x.instead(0), -2);
    is("burn", x.burn(0, 0), -2);
    is("chance", x.chance(0, 0, 1, 0), -2);
    is("judge", x.judge(0), -2);
    for (int what = 0; what < 6; what++) is("count " + what, x.count(what), 0);
    is("count 7", x.count(7), 0);
  }

  // ---- the text

  private static void newObject() {
    doc.says(1, "No TOWN.");
    OldestFirst x = new OldestFirst();
    noTown(x);
    is("tape", x.count(6), 0);
    is("slots", x.count(8), 0);
    for (int k = 0; k < 3; k++) is("image " + k, x.back(k), -6);
  }

  private static void feed() {
    doc.says(2, "Twenty bytes come behind the TAPE, four of each number, the highest first: how many it has;");
    OldestFirst x = new OldestFirst();
    // "town days 7 post 3; " and "law lot 123;\n        " have twenty bytes each.
    is("feed", x.feed(0x746f776e, 0x20646179, 0x73203720, 0x706f7374, 0x20333b20), 20);
    is("feed again", x.feed(0x6c617720, 0x6c6f7420, 0x3132333b, 0x0a202020, 0x20202020), 40);
    is("town()", x.town(), 2);
    is("days", x.count(2), 7);
    is("post", x.count(3), 3);
    is("seed", x.count(7), 123);
    // A byte above 127 is one byte, wherever it stands.
    for (int i = 0; i < 20; i++) {
      int[] five = {0x20202020, 0x20202020, 0x20202020, 0x20202020, 0x20202020};
      five[i / 4] |= 0xff << 24 - 8 * (i % 4);
      x.end(0);
      is("feed", x.feed(five[0], five[1], five[2], five[3], five[4]), 20);
      is("town() of a strange byte", x.town(), -4);
      is("its place", x.fault(1), i);
    }
    doc.says(2, "NONE, and none come, if it would have more than 2,400.");
    x = new OldestFirst();
    Due.feed(x, times(" ", 2380));
    is("2,380 and 20", x.feed(0x746f776e, 0x20646179, 0x73203720, 0x706f7374, 0x20333b20), 2400);
    is("2,400 and 20", x.feed(1, 2, 3, 4, 5), NONE);
    is("none has come", x.count(6), 2400);
    is("as it was", x.town(), 1);
    for (int had = 2381; had < 2400; had++) {
      Due.feed(x, times(" ", 2380));
      x.feed(0x20202020, 0x20202020, 0x20202020, 0x20202020, 0x20202020);
      x.end(had);
      is(had + " and 20", x.feed(-1, -1, -1, -1, -1), NONE);
      is("none has come", x.count(6), had);
      is("blanks alone", x.town(), 0);
    }
  }

  private static void end() {
    doc.says(3, "The TAPE has its first n bytes alone: n;");
    OldestFirst x = new OldestFirst();
    is("0 of 0", x.end(0), 0);
    Due.feed(x, "town days 7 post 3;x");
    is("20 of 20", x.end(20), 20);
    is("19 of 20", x.end(19), 19);
    is("count", x.count(6), 19);
    is("the first ones", x.town(), 1);
    Due.feed(x, "town days 7 post 3;x");
    is("17 of 20", x.end(17), 17);
    Due.feed(x, "4;");
    is("what comes then", x.town(), 1);
    is("stands behind these", x.count(3), 4);
    Due.feed(x, "town days 7 post 3;x");
    is("0 of 20", x.end(0), 0);
    is("none", x.count(6), 0);
    doc.says(3, "NONE, and nothing happens, if it has not so many, or n is below 0.");
    x = new OldestFirst();
    is("1 of 0", x.end(1), NONE);
    Due.feed(x, "town days 7 post 3;x");
    x.end(19);
    for (int n : new int[] {20, 21, 2400, 2401, HIGH, -1, -19, LOW}) {
      is("end(" + n + ")", x.end(n), NONE);
      is("nothing happens", x.count(6), 19);
    }
    is("nor to the bytes", x.town(), 1);
  }

  private static void town() {
    doc.says(4, "The TAPE (empty then) is the TOWN (in place of another): how many LINES");
    OldestFirst x = edge();
    is("empty then", x.count(6), 0);
    is("5 lines", x.count(5), 5);
    Due.feed(x, "town days 2 post 9;");
    is("another", x.town(), 1);
    is("its people", x.count(0), 0);
    is("its letters", x.count(1), 0);
    is("its days", x.count(2), 2);
    is("none of the other's", x.person(0, 0), -2);
    is("nor letters", x.letter(0, 0), -2);
    Due.feed(x, EDGE + "law newest;");
    is("6 lines", x.town(), 6);
    Due.feed(x, EDGE.replace(" back 1", ""));
    is("5 again", x.town(), 5);
    is("no answer is a letter now", x.letter(24, 0), -2);
    String most = "town days 9 post 9;" + times("person hours 1 full;", 8) + times("letter 0 to 1 on 0 hours 1;", 24) + "law lot 1;";
    Due.feed(x, most + times(" ", 2400 - most.length()));
    is("2,400 bytes", x.count(6), 2400);
    is("34 lines, the most", x.town(), 34);
    nothingOfAnother();
    doc.says(4, "(0: there is none then).");
    is("an empty tape", x.town(), 0);
    noTown(x);
    x = edge();
    Due.feed(x, " \n ");
    is("blanks", x.town(), 0);
    noTown(x);
    is("empty", x.count(6), 0);
    doc.says(4, "-4: a FAULT (all stays).");
    x = edge();
    x.law(2);
    x.hours(0, 3);
    x.row(1, 1, 1);
    x.keep(1);
    Due.feed(x, "town days 40 post 9; person hours 9 full; law newest");
    is("a fault", x.town(), -4);
    is("the tape stays", x.count(6), 52);
    int[] count = {2, 2, 3, 1, 2, 5};
    for (int what = 0; what < 6; what++) is("count " + what, x.count(what), count[what]);
    is("person stays", x.person(0, 0), 2);
    is("hours stay", x.letter(0, 3), 3);
    is("slots stay", x.count(8), 1);
    is("images stay", x.back(1), 0);
    is("again the same", x.town(), -4);
    Due.feed(x, ";");
    is("all came behind", x.town(), 3);
    Due.feed(x, "$");
    x.end(1);
    is("a fault in no lines", x.town(), -4);
    is("lines stay", x.count(5), 3);
  }

  /** A text with all that may be told, whether it is a town or has a fault, leaves nothing in the next one. */
  private static void nothingOfAnother() {
    String wishes = "letter 1 to 0 on 1 hours 9 back 9 after 1 worth 99 by 1;";
    String all = "town days 9 post 9; person hours 9 short; person hours 9 worrier;" + times("person hours 9 clerk 0;", 6) + times(wishes, 24) + "law lot 77;";
    String bare = "town days 2 post 1;" + times("person hours 1 full;", 8) + times("letter 0 to 1 on 0 hours 1;", 24);
    for (int end = 0; end < 2; end++) {
      OldestFirst x = new OldestFirst();
      Due.feed(x, all.substring(0, all.length() - end));
      is("all that may be told", x.town(), end == 0 ? 34 : -4);
      x.end(0);
      Due.feed(x, bare);
      is("the bare one", x.town(), 33);
      int[] letter = {0, 1, 0, 1, 0, NONE, 0, NONE};
      for (int l = 0; l < 24; l++) {
        for (int what = 0; what < 8; what++) is("letter(" + l + ", " + what + ") behind another", x.letter(l, what), letter[what]);
        is("letter " + (24 + l) + " behind another", x.letter(24 + l, 0), -2);
      }
      int[] person = {1, 0, NONE};
      for (int p = 0; p < 8; p++) {
        for (int what = 0; what < 3; what++) is("person(" + p + ", " + what + ") behind another", x.person(p, what), person[what]);
      }
      int[] count = {8, 24, 2, 1, 0, 33, 0, 1, 0};
      for (int what = 0; what < 9; what++) is("count(" + what + ") behind another", x.count(what), count[what]);
      is("worth behind another", x.worth(), 0);
      is("hours behind another", x.answered(1), 1);
    }
  }

  private static void fault() {
    doc.says(5, "Of the latest town(), what 0: its FAULT, 0 without, 1: its place (NONE without).");
    OldestFirst x = new OldestFirst();
    Due.feed(x, "town days 1");
    x.town();
    is("2", x.fault(0), 2);
    is("at 10", x.fault(1), 10);
    is("twice asked", x.fault(0), 2);
    x.end(0);
    is("the latest, whatever the tape is", x.fault(1), 10);
    Due.feed(x, ";");
    x.town();
    is("1", x.fault(0), 1);
    is("at 0", x.fault(1), 0);
    x.end(0);
    x.town();
    is("without: an empty tape", x.fault(0), 0);
    is("no place", x.fault(1), NONE);
    Due.feed(x, "town days 2 post 1; person hours 1 full; town");
    x.town();
    is("at 41", x.fault(1), 41);
    x.keep(0);
    x.back(0);
    is("images have none", x.fault(1), 41);
    x.end(19);
    x.town();
    is("without", x.fault(0), 0);
    is("no place then", x.fault(1), NONE);
    doc.says(5, "NONE for another what, and ahead of any (what 1).");
    for (int what : new int[] {-1, 2, 3, LOW, HIGH}) {
      is("fault(" + what + ") ahead", new OldestFirst().fault(what), NONE);
      Due.feed(x, "x");
      x.town();
      is("fault(" + what + ") of one", x.fault(what), NONE);
    }
    is("what 1 ahead of any", new OldestFirst().fault(1), NONE);
    is("what 0 ahead of any", new OldestFirst().fault(0), 0);
  }

  // ---- what is told

  private static void person() {
    doc.says(6, "Of a PERSON, what 0: hours, 1: KIND (0 full, 1 short, 2 sunday, 3 worrier, 4 clerk), 2: for whom he is clerk (NONE).");
    OldestFirst x = Due.townOf("town days 2 post 1; person hours 12 full; person hours 1 short; person hours 2 sunday;"
        + "person hours 3 worrier; person hours 4 clerk 0; person hours 5 clerk 4;");
    int[][] want = {{12, 0, NONE}, {1, 1, NONE}, {2, 2, NONE}, {3, 3, NONE}, {4, 4, 0}, {5, 4, 4}};
    for (int p = 0; p < 6; p++) {
      for (int what = 0; what < 3; what++) is("person(" + p + ", " + what + ")", x.person(p, what), want[p][what]);
    }
    Due.feed(x, THREE);
    x.town();
    is("no clerk now", x.person(0, 2), NONE);
    doc.says(6, "-2: there are none such.");
    doc.bounds("person", 0, 2, -2, p -> x.person(p, 0));
    doc.bounds("what", 0, 2, -2, what -> x.person(0, what));
    Due.feed(x, "town days 2 post 1;" + times("person hours 1 full;", 8));
    x.town();
    doc.bounds("person of eight", 0, 7, -2, p -> x.person(p, 0));
  }

  private static void letter() {
    doc.says(7, "Of a LETTER (told or an ANSWER that is one), what 0: who wrote it, 1: to whom, 2: the DAY on which it comes");
    OldestFirst x = edge();
    int[][] want = {{0, 1, 0, 2, 1, NONE, 7, 1}, {1, 0, 2, 3, 0, NONE, 5, NONE}, {1, 0, 1, 1, 0, NONE, 0, NONE}};
    int[] letters = {0, 1, 24};
    for (int i = 0; i < 3; i++) {
      for (int what = 0; what < 8; what++) is("letter(" + letters[i] + ", " + what + ")", x.letter(letters[i], what), want[i][what]);
    }
    doc.says(7, "(NONE: an ANSWER that never does),");
    OldestFirst y = edge();
    y.hours(0, 6);
    is("its letter is answered on the last day", y.answered(0), 2);
    is("an answer behind the last day", y.letter(24, 2), NONE);
    y.hours(0, 4);
    is("an answer on the last day", y.letter(24, 2), 2);
    y.hours(0, 99);
    is("an answer of what is not answered", y.letter(24, 2), NONE);
    is("who writes it all the same", y.letter(24, 0), 1);
    doc.says(7, "3: hours told (of an ANSWER: back),");
    OldestFirst z = Due.townOf("town days 3 post 1; person hours 1 short; person hours 1 worrier; letter 0 to 1 on 0 hours 9 back 98 worth 99;");
    is("as told, not twice", z.letter(0, 3), 9);
    is("back, not half", z.letter(24, 3), 98);
    doc.says(7, "4: back (0: none),");
    is("back", z.letter(0, 4), 98);
    is("none", x.letter(1, 4), 0);
    is("none of an answer", z.letter(24, 4), 0);
    StringBuilder b = new StringBuilder(THREE);
    for (int l = 0; l < 24; l++) b.append("letter 0 to 1 on 0 hours 1 back ").append(99 - l).append(';');
    OldestFirst backs = Due.townOf(b.toString());
    for (int l = 0; l < 24; l++) {
      is("back of " + l, backs.letter(l, 4), 99 - l);
      is("hours of its answer", backs.letter(24 + l, 3), 99 - l);
      is("back of its answer", backs.letter(24 + l, 4), 0);
    }
    doc.says(7, "5: after whom (NONE),");
    is("nobody", z.letter(0, 5), NONE);
    is("somebody", Due.townOf(THREE + "letter 0 to 1 on 0 hours 1 after 0;").letter(0, 5), 0);
    doc.says(7, "6: worth,");
    is("worth", z.letter(0, 6), 99);
    is("worth of an answer", z.letter(24, 6), 0);
    doc.says(7, "7: by which DAY (NONE).");
    is("none", z.letter(0, 7), NONE);
    is("day 0", Due.townOf(THREE + "letter 0 to 1 on 0 hours 1 by 0;").letter(0, 7), 0);
    doc.says(7, "-2: there are none such.");
    doc.bounds("letter", 0, 1, -2, l -> x.letter(l, 0));
    doc.bounds("answer", 24, 24, -2, l -> l >= 0 && l < 2 ? -2 : x.letter(l, 0));
    doc.bounds("what", 0, 7, -2, what -> x.letter(0, what));
    doc.bounds("what of an answer", 0, 7, -2, what -> x.letter(24, what));
    OldestFirst full = Due.townOf(THREE + times("letter 0 to 1 on 0 hours 1 back 1;", 24));
    doc.bounds("letter of all", 0, 47, -2, l -> full.letter(l, 0));
  }

  private static void hours() {
    doc.says(8, "The hours of a told LETTER are n (1 .. 99) from now on: which they were.");
    OldestFirst x = edge();
    is("from 2 to 1", x.hours(0, 1), 2);
    is("told now", x.letter(0, 3), 1);
    is("from 1 to 99", x.hours(0, 99), 1);
    is("from 99 to 99", x.hours(0, 99), 99);
    is("from now on", x.answered(0), NONE);
    is("from 99 to 2", x.hours(0, 2), 99);
    is("as ahead", x.answered(0), 0);
    is("of the last", x.hours(1, 2), 3);
    is("it is answered now", x.answered(1), 2);
    is("worth now", x.worth(), 12);
    doc.says(8, "-2: there are none such.");
    doc.bounds("n", 1, 99, -2, n -> x.hours(0, n));
    doc.bounds("letter", 0, 1, -2, l -> x.hours(l, 5));
    is("an answer", x.hours(24, 5), -2);
    x.hours(0, 2);
    is("refused", x.hours(0, 100), -2);
    is("nothing happens", x.letter(0, 3), 2);
    is("refused", x.hours(0, 0), -2);
    is("nothing happens", x.answered(0), 0);
  }

  private static void law() {
    doc.says(9, "The LAW is this (0 oldest, 1 newest, 2 dearest, 3 lot; the seed as told, 1 without) from now on: which it was.");
    OldestFirst x = Due.townOf(TWO + "letter 0 to 1 on 0 hours 1; letter 0 to 1 on 0 hours 1 worth 3; letter 0 to 1 on 0 hours 1;");
    is("oldest to oldest", x.law(0), 0);
    is("by oldest", x.answered(0), 0);
    is("to newest", x.law(1), 0);
    is("by newest", x.answered(2), 0);
    is("to dearest", x.law(2), 1);
    is("by dearest", x.answered(1), 0);
    is("to lot", x.law(3), 2);
    is("seed 1", x.count(7), 1);
    // 16838 of 3, 5758 of 2.
    is("by lot from 1", x.answered(2), 0);
    is("by lot from 1, next", x.answered(0), 1);
    is("from lot", x.law(0), 3);
    x = Due.townOf(TWO + "law lot 0;" + times("letter 0 to 1 on 0 hours 1;", 3));
    is("to newest", x.law(1), 3);
    is("to lot again", x.law(3), 1);
    is("seed as told", x.count(7), 0);
    // 0 of 3, 21468 of 2, 9988 of 1.
    for (int l = 0; l < 3; l++) is("by lot from 0: letter " + l, x.answered(l), l);
    doc.says(9, "-2: there is none such, no TOWN.");
    OldestFirst y = edge();
    doc.bounds("law", 0, 3, -2, y::law);
    y.law(1);
    is("refused", y.law(4), -2);
    is("nothing happens", y.count(4), 1);
    doc.is("no town", new OldestFirst().law(0), -2);
  }

  // ---- what becomes of the letters

  private static void answered() {
    doc.says(10, "The DAY on which a LETTER is ANSWERED; NONE: it never is.");
    OldestFirst x = edge();
    is("on day 0", x.answered(0), 0);
    is("an answer", x.answered(24), 1);
    is("an hour too many", x.answered(1), NONE);
    x.hours(1, 2);
    is("on the last day", x.answered(1), 2);
    x.hours(0, 5);
    is("an answer that never comes", x.answered(24), NONE);
    doc.says(10, "-2: there is none such.");
    OldestFirst y = edge();
    doc.bounds("letter", 0, 1, -2, y::answered);
    is("answer 25", y.answered(25), -2);
    is("letter 48", y.answered(48), -2);
  }

  private static void comes() {
    doc.says(11, "The DAY on which its ANSWER comes to who wrote it; NONE: never (in DAYS).");
    OldestFirst x = edge();
    is("day 1", x.comes(0), 1);
    is("of an answer", x.comes(24), 2);
    is("of what is not answered", x.comes(1), NONE);
    x.hours(1, 2);
    is("answered on the last day", x.comes(1), NONE);
    x.hours(0, 4);
    is("on the last day", x.comes(0), 2);
    is("of an answer, behind it", x.comes(24), NONE);
    doc.says(11, "-2 likewise.");
    doc.bounds("letter", 0, 1, -2, edge()::comes);
    is("answer 25", x.comes(25), -2);
    is("letter 48", x.comes(48), -2);
  }

  private static void needs() {
    doc.says(12, "Hours that a LETTER still needs behind a DAY (0: it is ANSWERED);");
    OldestFirst x = edge();
    is("answered", x.needs(0, 0), 0);
    is("for all days then", x.needs(0, 2), 0);
    is("an hour", x.needs(1, 2), 1);
    is("an answer", x.needs(24, 1), 0);
    x.hours(0, 3);
    is("behind day 0", x.needs(0, 0), 1);
    is("behind day 1", x.needs(0, 1), 0);
    doc.says(12, "NONE: it has not come by then, is burnt.");
    is("ahead of its day", x.needs(1, 1), NONE);
    is("an answer ahead of its day", x.needs(24, 1), NONE);
    x.hours(0, 99);
    is("an answer that never comes", x.needs(24, 2), NONE);
    x.burn(1, 1);
    is("burnt in thought alone", x.needs(0, 2), 93);
    doc.says(12, "-2: there are none such.");
    OldestFirst y = edge();
    doc.bounds("letter", 0, 1, -2, l -> y.needs(l, 2));
    doc.bounds("day", 0, 2, -2, day -> y.needs(0, day));
    is("answer 25", y.needs(25, 0), -2);
    is("letter 48", y.needs(48, 0), -2);
  }

  private static void pile() {
    doc.says(13, "The PILE of a PERSON behind a DAY: LETTERS, as bits.");
    OldestFirst x = edge();
    is("nothing", x.pile(0, 1), 0);
    is("letter 1", x.pile(0, 2), 2);
    is("what was answered on it", x.pile(1, 0), 0);
    // 24 told letters come to 0, and on day 1 the answer of the last one.
    x = Due.townOf("town days 3 post 1; person hours 1 full; person hours 12 full;" + times("letter 1 to 0 on 0 hours 99;", 23) + "letter 0 to 1 on 0 hours 1 back 9;");
    is("letters 0 to 22", x.pile(0, 0), (1L << 23) - 1);
    is("47, too", x.pile(0, 1), (1L << 23) - 1 + (1L << 47));
    doc.says(13, "-2: there are none such.");
    OldestFirst y = edge();
    doc.bounds("person", 0, 1, -2, p -> y.pile(p, 0));
    doc.bounds("day", 0, 2, -2, day -> y.pile(0, day));
  }

  private static void idle() {
    doc.says(14, "Hours of a DAY that a PERSON does not use (a clerk's for another are used).");
    OldestFirst x = edge();
    is("all", x.idle(0, 0), 2);
    is("none", x.idle(1, 0), 0);
    is("one", x.idle(0, 1), 1);
    x = Due.townOf("town days 2 post 1; person hours 1 full; person hours 12 clerk 0; letter 1 to 0 on 0 hours 12; letter 1 to 0 on 1 hours 13;");
    is("11 of 12", x.idle(1, 0), 1);
    is("12 of 12", x.idle(1, 1), 0);
    is("who stands still uses none", Due.townOf(RING).idle(1, 8), 1);
    doc.says(14, "-2: there are none such.");
    OldestFirst y = edge();
    doc.bounds("person", 0, 1, -2, p -> y.idle(p, 0));
    doc.bounds("day", 0, 2, -2, day -> y.idle(0, day));
  }

  private static void waits() {
    doc.says(15, "For whom a PERSON STANDS STILL on a DAY (II; on his own PILE); NONE: for nobody.");
    OldestFirst x = Due.townOf("town days 3 post 1; person hours 1 full; person hours 1 full; person hours 1 clerk 1; letter 2 to 1 on 1 hours 1 after 0; letter 0 to 1 on 2 hours 1;");
    is("nothing lies there", x.waits(1, 0), NONE);
    is("for 0", x.waits(1, 1), 0);
    is("not on another's", x.waits(2, 1), NONE);
    is("no more", x.waits(1, 2), NONE);
    doc.says(15, "-2: there are none such.");
    OldestFirst y = edge();
    doc.bounds("person", 0, 1, -2, p -> y.waits(p, 0));
    doc.bounds("day", 0, 2, -2, day -> y.waits(0, day));
  }

  private static void top() {
    doc.says(16, "The LETTER that is first on his PILE by LAW behind a DAY; NONE: none lies there, the LAW is lot.");
    OldestFirst x = edge();
    is("none lies there", x.top(0, 1), NONE);
    is("letter 1", x.top(0, 2), 1);
    is("none is left", x.top(1, 0), NONE);
    x.hours(0, 99);
    is("letter 0", x.top(1, 0), 0);
    x.law(3);
    is("by lot", x.top(0, 2), NONE);
    x.law(1);
    is("by newest", x.top(0, 2), 1);
    doc.says(16, "-2 likewise.");
    OldestFirst y = edge();
    doc.bounds("person", 0, 1, -2, p -> y.top(p, 0));
    doc.bounds("day", 0, 2, -2, day -> y.top(0, day));
    y.law(3);
    doc.bounds("person by lot", 0, 1, -2, p -> y.top(p, 0));
    doc.bounds("day by lot", 0, 2, -2, day -> y.top(0, day));
  }

  private static void under() {
    doc.says(17, "How many LETTERS lie ahead of a LETTER on its PILE by LAW behind a DAY.");
    OldestFirst x = Due.townOf("town days 3 post 1; person hours 1 full; person hours 1 full;" + times("letter 1 to 0 on 0 hours 99;", 23) + "letter 0 to 1 on 0 hours 1 back 9;");
    for (int l = 0; l < 23; l++) is("oldest: letter " + l, x.under(l, 1), l);
    is("oldest: the answer", x.under(47, 1), 23);
    x.law(1);
    is("newest: the answer", x.under(47, 1), 0);
    is("newest: letter 0", x.under(0, 1), 23);
    OldestFirst seven = Due.townOf("town days 2 post 1;" + times("person hours 1 full;", 8) + "letter 7 to 1 on 0 hours 9; letter 0 to 7 on 1 hours 9; letter 1 to 7 on 0 hours 9;");
    is("of the last one of eight", seven.under(1, 1), 1);
    is("the older one", seven.under(2, 1), 0);
    is("of another", seven.under(0, 1), 0);
    doc.says(17, "NONE: it does not lie there, the LAW is lot;");
    is("answered", x.under(23, 1), NONE);
    is("not yet come", x.under(47, 0), NONE);
    x.law(3);
    is("by lot", x.under(0, 1), NONE);
    is("by lot, the answer", x.under(47, 1), NONE);
    doc.says(17, "-2: there are none such.");
    OldestFirst y = edge();
    for (int law = 0; law < 4; law += 3) {
      y.law(law);
      doc.bounds("letter", 0, 1, -2, l -> y.under(l, 2));
      doc.bounds("day", 0, 2, -2, day -> y.under(1, day));
      is("answer 25", y.under(25, 0), -2);
      is("letter 48", y.under(48, 0), -2);
    }
  }

  private static void heard() {
    doc.says(18, "The first DAY on which a PERSON has HEARD from another one; NONE: never.");
    OldestFirst x = edge();
    is("1 from 0 by letter 0", x.heard(1, 0), 0);
    is("0 from 1 by its answer", x.heard(0, 1), 1);
    x = Due.townOf(THREE + "letter 0 to 1 on 3 hours 1; letter 0 to 1 on 2 hours 1;");
    is("the first of two", x.heard(1, 0), 2);
    is("an answer on the last day", x.heard(0, 1), 3);
    is("never", x.heard(0, 2), NONE);
    is("never either", x.heard(2, 0), NONE);
    doc.says(18, "-2: there are none such, one twice.");
    OldestFirst y = edge();
    doc.bounds("person", 0, 0, -2, p -> p == 1 ? -2 : y.heard(p, 1));
    doc.bounds("other", 0, 0, -2, p -> p == 1 ? -2 : y.heard(1, p));
    is("0 twice", y.heard(0, 0), -2);
    is("1 twice", y.heard(1, 1), -2);
    is("2 twice", y.heard(2, 2), -2);
    is("to 2", y.heard(2, 0), -2);
    is("from 2", y.heard(0, 2), -2);
  }

  private static void stuck() {
    doc.says(19, "PEOPLE who are STUCK (III), as bits.");
    is("nobody", edge().stuck(), 0);
    is("1, 2, 3", Due.townOf(RING).stuck(), 14);
    is("the last of eight", Due.townOf("town days 2 post 1;" + times("person hours 1 full;", 8) + "letter 0 to 7 on 1 hours 1 after 1;").stuck(), 128);
    is("nobody is there", Due.townOf("town days 2 post 1;").stuck(), 0);
    doc.says(19, "-2: there is no TOWN.");
    is("no town", new OldestFirst().stuck(), -2);
  }

  private static void ring() {
    doc.says(20, "The RING (III) of the least PERSON who is in one: what 0: its PEOPLE, as bits, 1: how many RINGS there are.");
    OldestFirst x = Due.townOf(RING);
    is("1, 2, 3", x.ring(0), 14);
    is("one", x.ring(1), 1);
    StringBuilder b = new StringBuilder("town days 2 post 1;" + times("person hours 1 full;", 8));
    for (int p = 0; p < 8; p++) b.append("letter ").append((p + 1) % 8).append(" to ").append(p).append(" on 0 hours 1 after ").append(p ^ 4).append(';');
    x = Due.townOf(b.toString());
    is("0 and 4", x.ring(0), 17);
    is("four, the most", x.ring(1), 4);
    // 0 waits for 2, who is in a ring with 3; 0 is in none.
    x = Due.townOf(THREE + "person hours 1 full; letter 1 to 0 on 0 hours 1 after 2; letter 1 to 2 on 0 hours 1 after 3; letter 1 to 3 on 0 hours 1 after 2;");
    is("the least who is in one", x.ring(0), 12);
    is("one ring", x.ring(1), 1);
    doc.says(20, "NONE: there is none (what 1: 0);");
    x = Due.townOf(THREE + "letter 1 to 0 on 0 hours 1 after 2;");
    is("somebody is stuck", x.stuck(), 1);
    is("what 0", x.ring(0), NONE);
    is("what 1", x.ring(1), 0);
    is("nobody: what 0", edge().ring(0), NONE);
    is("nobody: what 1", edge().ring(1), 0);
    doc.says(20, "-2: there is no such what, no TOWN.");
    OldestFirst y = edge();
    doc.bounds("what", 0, 1, -2, y::ring);
    is("no town, what 0", new OldestFirst().ring(0), -2);
    is("no town, what 1", new OldestFirst().ring(1), -2);
  }

  private static void worth() {
    doc.says(21, "WORTH (III).");
    OldestFirst x = edge();
    is("letter 0", x.worth(), 7);
    x.hours(0, 4);
    is("on its day", x.worth(), 7);
    x.hours(0, 5);
    is("a day late", x.worth(), 0);
    x.hours(1, 2);
    is("letter 1 on the last day", x.worth(), 5);
    is("no letters", Due.townOf(TWO).worth(), 0);
    doc.says(21, "-2: there is no TOWN.");
    is("no town", new OldestFirst().worth(), -2);
  }

  private static void late() {
    doc.says(22, "Told LETTERS that are LATE (III): how many (what 0), which (1: the first; NONE).");
    OldestFirst x = edge();
    is("one", x.late(0), 1);
    is("letter 1", x.late(1), 1);
    x.hours(1, 1);
    is("none", x.late(0), 0);
    is("which", x.late(1), NONE);
    x.hours(0, 99);
    x.hours(1, 99);
    is("both", x.late(0), 2);
    is("the first", x.late(1), 0);
    is("all", Due.townOf(TWO + times("letter 0 to 1 on 0 hours 99;", 24)).late(0), 24);
    is("an answer is never late", Due.townOf(TWO + "letter 0 to 1 on 0 hours 1 back 99;").late(0), 0);
    is("no letters", Due.townOf(TWO).late(1), NONE);
    doc.says(22, "-2: there is no such what, no TOWN.");
    OldestFirst y = edge();
    doc.bounds("what", 0, 1, -2, y::late);
    is("no town", new OldestFirst().late(0), -2);
  }

  private static void sum() {
    doc.says(23, "How many told LETTERS are ANSWERED (what 0), their DAYS from coming to being ANSWERED together (1), the most of one (2; NONE: none is).");
    OldestFirst x = edge();
    is("one, the answer aside", x.sum(0), 1);
    is("on the day on which it came", x.sum(1), 0);
    is("the most is 0", x.sum(2), 0);
    x.hours(0, 5);
    is("days", x.sum(1), 2);
    is("the most", x.sum(2), 2);
    x.hours(1, 1);
    is("two", x.sum(0), 2);
    is("together", x.sum(1), 2);
    is("the most of one", x.sum(2), 2);
    x.hours(0, 99);
    x.hours(1, 99);
    is("none", x.sum(0), 0);
    is("none together", x.sum(1), 0);
    is("none: the most", x.sum(2), NONE);
    x = Due.townOf("town days 40 post 1; person hours 1 full; person hours 1 full; letter 0 to 1 on 0 hours 40;");
    is("from the first to the last", x.sum(1), 39);
    x = Due.townOf("town days 40 post 1; person hours 1 full; person hours 1 full; letter 0 to 1 on 1 hours 2; letter 0 to 1 on 1 hours 3; letter 0 to 1 on 9 hours 1;");
    is("1 and 4 and 0", x.sum(1), 5);
    is("4", x.sum(2), 4);
    // 24 told letters, 12 on each of two days; the answer of the first is answered on day 3.
    x = Due.townOf("town days 5 post 1; person hours 1 full; person hours 12 full; letter 0 to 1 on 0 hours 1 back 3;" + times("letter 0 to 1 on 0 hours 1;", 23));
    is("the answer", x.answered(24), 3);
    is("all of 24, no answer", x.sum(0), 24);
    is("12 on the day behind", x.sum(1), 12);
    is("one day the most", x.sum(2), 1);
    is("24 by another law", x.by(1, 0, 2), 24);
    doc.says(23, "-2 likewise.");
    OldestFirst y = edge();
    doc.bounds("what", 0, 2, -2, y::sum);
    is("no town", new OldestFirst().sum(0), -2);
  }

  // ---- other laws

  // By oldest, newest, dearest, and by lot from 1 (the third, the first), one of three is answered in time.
  private static final String LAWS = "town days 2 post 1; person hours 1 full; person hours 1 full; person hours 1 full;"
      + "letter 0 to 1 on 0 hours 1 worth 1 by 0; letter 0 to 1 on 0 hours 1 worth 4 by 0; letter 0 to 1 on 0 hours 1 after 2 worth 2 by 0;";

  private static void by() {
    doc.says(24, "In thought by another LAW (0 .. 3, lot by a seed 0 .. 2,000,000,000): what 0: WORTH, 1: how many are LATE, 2: ANSWERED, 3: STUCK.");
    OldestFirst x = Due.townOf(LAWS);
    int[][] want = {{1, 2, 2, 0}, {0, 3, 0, 1}, {4, 2, 1, 1}};
    for (int law = 0; law < 3; law++) {
      for (int what = 0; what < 4; what++) is("by(" + law + ", 0, " + what + ")", x.by(law, 0, what), want[law][what]);
    }
    // From 0: 0 of 3, then 21468 of 2 is the first of 1 and 2. From 1: 16838 of 3 is 2, which waits; 5758 of 3 is 1.
    int[] from0 = {1, 2, 2, 0};
    int[] from1 = {0, 3, 1, 0};
    for (int what = 0; what < 4; what++) {
      is("by(3, 0, " + what + ")", x.by(3, 0, what), from0[what]);
      is("by(3, 1, " + what + ")", x.by(3, 1, what), from1[what]);
    }
    is("all stays", x.count(4), 0);
    is("so does the seed", x.count(7), 1);
    is("and what is done", x.worth(), 1);
    x.law(1);
    is("whatever the law is", x.by(0, 0, 0), 1);
    is("by its own", x.by(1, 0, 0), 0);
    doc.says(24, "-2: there are none such, no TOWN.");
    OldestFirst y = edge();
    doc.bounds("law", 0, 3, -2, law -> y.by(law, 0, 0));
    doc.bounds("seed", 0, 2000000000, -2, seed -> y.by(3, seed, 0));
    doc.bounds("what", 0, 3, -2, what -> y.by(0, 0, what));
    doc.bounds("what of lot", 0, 3, -2, what -> y.by(3, 0, what));
    is("no town", new OldestFirst().by(0, 0, 0), -2);
  }

  private static void best() {
    doc.says(25, "The LAW (0 .. 2) by which WORTH is most, the least of several.");
    is("dearest alone", Due.townOf(LAWS).best(), 2);
    is("all alike", edge().best(), 0);
    is("no letters", Due.townOf(TWO).best(), 0);
    String two = TWO + "letter 0 to 1 on 0 hours 1 worth 3 by 0; letter 0 to 1 on 0 hours 1 worth ";
    is("newest and dearest", Due.townOf(two + "4 by 0;").best(), 1);
    is("oldest and dearest", Due.townOf(two + "2 by 0;").best(), 0);
    is("oldest, newest and dearest", Due.townOf(two + "3 by 0;").best(), 0);
    is("whatever the law is", Due.townOf(two + "4 by 0; law oldest;").best(), 1);
    // By lot from 1 the third is first, and the first next: all in time, as by no other law.
    is("never lot", Due.townOf(TWO + "law lot 1; letter 0 to 1 on 0 hours 1 worth 5 by 1; letter 0 to 1 on 0 hours 1 worth 20;"
        + "letter 0 to 1 on 0 hours 1 worth 5 by 0;").best(), 0);
    doc.says(25, "-2: there is no TOWN.");
    is("no town", new OldestFirst().best(), -2);
  }

  // ---- orders of one morning's post

  // Of six that come on day 1 the last three days hold three; answers come on that morning, too.
  private static String six(int more) {
    StringBuilder b = new StringBuilder("town days 4 post 1; person hours 1 full; person hours 1 full; letter 1 to 0 on 0 hours 1 back 1;");
    for (int i = 0; i < 6; i++) b.append("letter 0 to 1 on 1 hours 1 worth ").append(i + 1).append(';');
    return b.append(times("letter 0 to 1 on 1 hours 1;", more)).toString();
  }

  private static void order() {
    doc.says(26, "ORDER (IV): the most WORTH by any order in which the told LETTERS that come to a PERSON on a DAY lie.");
    OldestFirst x = Due.townOf(TWO + "letter 0 to 1 on 0 hours 1 worth 1 by 0; letter 0 to 1 on 0 hours 1 worth 2 by 0; letter 0 to 1 on 0 hours 1 worth 4 by 2;");
    is("as it is", x.worth(), 5);
    is("1 first", x.order(1, 0), 6);
    is("none comes", x.order(1, 1), 5);
    is("nor to another", x.order(0, 0), 5);
    is("all stays", x.worth(), 5);
    x.hours(1, 2);
    is("not what was asked ahead", x.order(1, 0), 5);
    is("one comes", edge().order(1, 0), 7);
    doc.says(26, "-2: there are none such;");
    OldestFirst y = edge();
    doc.bounds("person", 0, 1, -2, p -> y.order(p, 0));
    doc.bounds("day", 0, 2, -2, day -> y.order(0, day));
    doc.says(26, "-3: there are more than six.");
    // The answer comes to 1 on that morning, but it is no told letter; it is behind them by number.
    OldestFirst full = Due.townOf(six(0));
    is("the answer comes, too", full.letter(24, 2), 1);
    is("six", full.order(1, 1), 4 + 5 + 6);
    is("seven", Due.townOf(six(1)).order(1, 1), -3);
    is("seventeen", Due.townOf(six(11)).order(1, 1), -3);
    is("seven, another day", Due.townOf(six(1)).order(1, 0), 6);
    is("seven, another person", Due.townOf(six(1)).order(0, 1), 6);
    is("seven, nobody", Due.townOf(six(1)).order(2, 1), -2);
    for (int again = 0; again < 2; again++) {
      is("of 1 on day 1", full.order(1, 1), 4 + 5 + 6);
      is("of another on that day", full.order(0, 1), 6);
      is("of 1 on day 1 again", full.order(1, 1), 4 + 5 + 6);
      is("of him on another day", full.order(1, 0), 6);
      is("of another on another day", full.order(0, 0), 6);
    }
    OldestFirst seven = Due.townOf(six(1));
    for (int again = 0; again < 2; again++) {
      is("one", seven.order(0, 0), 6);
      is("seven behind one", seven.order(1, 1), -3);
      is("seven again", seven.order(1, 1), -3);
      is("place of seven", seven.place(1, 1, 0), -3);
      is("worst of seven", seven.worst(1, 1), -3);
    }
  }

  private static void place() {
    doc.says(27, "The LETTER at place i (from 0) of the first such order; NONE: there are not so many.");
    OldestFirst x = Due.townOf(six(0));
    // The last three must be first; 4, 5, 6 in any order, then 1, 2, 3: the first such order.
    int[] first = {4, 5, 6, 1, 2, 3};
    for (int i = 0; i < 6; i++) is("place " + i, x.place(1, 1, i), first[i]);
    for (int i : new int[] {6, 7, 100, HIGH, -1, LOW}) is("place " + i, x.place(1, 1, i), NONE);
    StringBuilder b = new StringBuilder("town days 6 post 1; person hours 1 full; person hours 1 full;");
    for (int i = 0; i < 6; i++) b.append("letter 0 to 1 on 0 hours 1 worth 1 by ").append(5 - i).append(';');
    OldestFirst last = Due.townOf(b.toString());
    is("by the last of all orders alone", last.order(1, 0), 6);
    for (int i = 0; i < 6; i++) is("the last order, place " + i, last.place(1, 0, i), 5 - i);
    last.law(1);
    is("by the first of all orders alone", last.order(1, 0), 6);
    for (int i = 0; i < 6; i++) is("the first order, place " + i, last.place(1, 0, i), i);
    is("none comes", x.place(1, 0, 0), NONE);
    is("one comes", x.place(0, 0, 0), 0);
    is("one comes, the next", x.place(0, 0, 1), NONE);
    OldestFirst apart = Due.townOf(THREE + "letter 0 to 1 on 0 hours 1; letter 0 to 2 on 0 hours 1; letter 0 to 1 on 1 hours 1;");
    int[][] alone = {{1, 0, 0}, {2, 0, 1}, {1, 1, 2}, {2, 1, NONE}, {0, 0, NONE}};
    for (int[] a : alone) {
      is("to " + a[0] + " on " + a[1], apart.place(a[0], a[1], 0), a[2]);
      is("to " + a[0] + " on " + a[1] + ", the next", apart.place(a[0], a[1], 1), NONE);
    }
    for (int n = 2; n <= 6; n++) everyOrder(new int[n], 0, 0);
    is("the last person on the last day", Due.townOf("town days 40 post 1;" + times("person hours 1 full;", 8)
        + times("letter 0 to 7 on 39 hours 1;", 2) + "letter 0 to 7 on 39 hours 1 worth 1;").place(7, 39, 0), 2);
    x.law(1);
    // By newest the last of the order is answered first: 4, 5, 6 must be the last three; 1, 2, 3 ahead.
    for (int i = 0; i < 6; i++) is("by newest, place " + i, x.place(1, 1, i), i + 1);
    doc.says(27, "-2, -3 likewise.");
    OldestFirst y = edge();
    doc.bounds("person", 0, 1, -2, p -> y.place(p, 0, 0));
    doc.bounds("day", 0, 2, -2, day -> y.place(0, day, 0));
    is("nobody, no place", y.place(2, 0, 9), -2);
    for (int i : new int[] {0, 6, 7, HIGH}) is("place " + i + " of seven", Due.townOf(six(1)).place(1, 1, i), -3);
  }

  /** Each letter is due on the day on which it is answered by one order alone; of six not all orders are asked for. */
  private static void everyOrder(int[] order, int n, int used) {
    if (n < order.length) {
      for (int l = 0; l < order.length; l++) {
        order[n] = l;
        if ((used >> l & 1) == 0) everyOrder(order, n + 1, used | 1 << l);
      }
      return;
    }
    int sum = 0;
    int[] due = new int[n];
    for (int i = 0; i < n; i++) {
      due[order[i]] = i;
      sum = sum * 6 + order[i];
    }
    if (n == 6 && sum % 11 != 0) return;
    inTimeBy(order, due, 1, 0);
    inTimeBy(order, due, 7, 9);
  }

  private static void inTimeBy(int[] order, int[] due, int person, int day) {
    int n = order.length;
    StringBuilder b = new StringBuilder("town days " + (day + n) + " post 1;" + times("person hours 1 full;", person + 1));
    for (int l = 0; l < n; l++) {
      b.append("letter 0 to ").append(person).append(" on ").append(day).append(" hours 1 worth 1 by ").append(day + due[l]).append(';');
    }
    OldestFirst x = Due.townOf(b.toString());
    is("all in time of " + b, x.order(person, day), n);
    for (int i = 0; i < n; i++) is("place " + i + " of " + b, x.place(person, day, i), order[i]);
  }

  private static void worst() {
    doc.says(28, "The least WORTH by any.");
    OldestFirst x = Due.townOf(six(0));
    is("three of six", x.worst(1, 1), 1 + 2 + 3);
    is("none comes", x.worst(1, 0), 6);
    x.law(2);
    is("dearest: all alike", x.worst(1, 1), 15);
    x.law(1);
    // By newest the answer, of number 24, comes first: two days are left.
    is("newest", x.worst(1, 1), 1 + 2);
    doc.says(28, "-2, -3 likewise.");
    OldestFirst y = edge();
    doc.bounds("person", 0, 1, -2, p -> y.worst(p, 0));
    doc.bounds("day", 0, 2, -2, day -> y.worst(0, day));
    is("seven", Due.townOf(six(1)).worst(1, 1), -3);
    is("six behind seven", Due.townOf(six(1)).worst(1, 0), 6);
  }

  // ---- hours

  private static void longest() {
    doc.says(29, "The greatest hours (1 .. 99) of a told LETTER, all else as it is, by which WORTH is no less than it is.");
    OldestFirst x = edge();
    is("2 hours on each of two days", x.longest(0), 4);
    is("worth nothing as it is", x.longest(1), 99);
    is("all stays", x.letter(0, 3), 2);
    x.hours(1, 2);
    is("no hour more", x.longest(1), 2);
    x = Due.townOf("town days 9 post 1; person hours 1 full; person hours 11 full; letter 0 to 1 on 0 hours 5 worth 1;");
    is("99 of 99", x.longest(0), 99);
    is("99 of 108", Due.townOf("town days 9 post 1; person hours 1 full; person hours 12 full; letter 0 to 1 on 0 hours 5 worth 1;").longest(0), 99);
    is("98 of 99, 1 is taken", Due.townOf("town days 9 post 1; person hours 1 full; person hours 11 full; letter 1 to 0 on 0 hours 1; letter 0 to 1 on 0 hours 1; letter 0 to 1 on 0 hours 5 worth 1;").longest(2), 98);
    x = Due.townOf("town days 9 post 1; person hours 1 full; person hours 10 full; letter 0 to 1 on 0 hours 5 worth 1 by 8; letter 0 to 1 on 0 hours 1 worth 1;");
    is("one is left for the other", x.longest(0), 89);
    is("1", Due.townOf("town days 2 post 1; person hours 1 full; person hours 1 full; letter 0 to 1 on 1 hours 1 worth 1;").longest(0), 1);
    doc.says(29, "-2: there is none such.");
    OldestFirst y = edge();
    doc.bounds("letter", 0, 1, -2, y::longest);
    is("an answer", y.longest(24), -2);
  }

  private static void just() {
    doc.says(30, "The least hours with which it is ANSWERED by a DAY, all else as it is; the greatest, if what is 1.");
    OldestFirst x = edge();
    for (int day = 0; day < 3; day++) {
      is("least by day " + day, x.just(0, day, 0), 1);
      is("greatest by day " + day, x.just(0, day, 1), 2 * day + 2);
    }
    is("on the last day", x.just(1, 2, 1), 2);
    is("all stays", x.letter(0, 3), 2);
    x = Due.townOf("town days 9 post 1; person hours 1 full; person hours 11 full; letter 0 to 1 on 0 hours 5;");
    is("88 by the day ahead", x.just(0, 7, 1), 88);
    is("99 of 99", x.just(0, 8, 1), 99);
    is("99 of 108", Due.townOf("town days 9 post 1; person hours 1 full; person hours 12 full; letter 0 to 1 on 0 hours 5;").just(0, 8, 1), 99);
    is("1 is the greatest, too", Due.townOf(TWO + "letter 0 to 1 on 0 hours 5;").just(0, 0, 1), 1);
    doc.says(30, "NONE: by none;");
    x = edge();
    is("ahead of its day, least", x.just(1, 1, 0), NONE);
    is("ahead of its day, greatest", x.just(1, 1, 1), NONE);
    is("never", Due.townOf(RING).just(0, 8, 0), NONE);
    doc.says(30, "-2: there are none such.");
    OldestFirst y = edge();
    doc.bounds("letter", 0, 1, -2, l -> y.just(l, 0, 0));
    doc.bounds("day", 0, 2, -2, day -> y.just(0, day, 0));
    doc.bounds("day, the greatest", 0, 2, -2, day -> y.just(0, day, 1));
    doc.bounds("what", 0, 1, -2, what -> y.just(0, 0, what));
    is("an answer", y.just(24, 2, 0), -2);
  }

  // ---- a letter to hold one up

  // By newest 1 answers what comes on day 0 in two days, and on day 2 what comes then.
  private static final String HELD = "town days 4 post 1; person hours 1 full; person hours 2 full; person hours 1 full; law newest;"
      + "letter 0 to 1 on 0 hours 2 worth 1 by 0; letter 2 to 1 on 0 hours 2 worth 2 by 0; letter 0 to 1 on 2 hours 2 worth 4 by 2;";

  private static void stop() {
    doc.says(31, "STOP: one LETTER more, from a PERSON to another one, on a DAY, of n hours (1 .. 99), in thought (V):");
    OldestFirst x = Due.townOf(HELD);
    is("worth as it is", x.worth(), 6);
    is("an hour", x.stop(0, 1, 3, 1, 0), 0);
    is("99 hours on the last day", x.stop(0, 1, 3, 99, 0), 0);
    is("99 hours on the first", x.stop(0, 1, 0, 99, 0), 2);
    is("all stays", x.worth(), 6);
    is("nothing lies there", x.pile(1, 0), 1);
    doc.says(31, "what 0: how many told LETTERS are ANSWERED later for it, or no more,");
    // 1 on day 1, 0 behind what comes on day 2, on day 3.
    is("later", x.stop(0, 1, 0, 2, 0), 2);
    is("later, and no more", x.stop(0, 1, 0, 4, 0), 2);
    is("an hour: 1 on day 1, and 0 on day 3, an hour behind", x.stop(0, 1, 0, 1, 0), 2);
    is("none to another", x.stop(1, 2, 0, 99, 0), 0);
    doc.says(31, "1: by how many DAYS together (those no more: as on the DAY behind the last),");
    is("1 and 2", x.stop(0, 1, 0, 2, 1), 3);
    is("1 no more, nor 0: 4 less 0, 4 less 1", x.stop(0, 1, 0, 99, 1), 7);
    is("none", x.stop(1, 2, 0, 99, 1), 0);
    OldestFirst full = Due.townOf("town days 5 post 1; person hours 1 full; person hours 12 full; law newest; letter 0 to 1 on 0 hours 1 back 3;" + times("letter 0 to 1 on 0 hours 1;", 23));
    for (int what = 0; what < 4; what++) is("an answer later is no told letter: " + what, full.stop(1, 0, 2, 1, what), 0);
    doc.says(31, "2: to whom (bits),");
    is("1", x.stop(0, 1, 0, 2, 2), 2);
    is("nobody", x.stop(1, 2, 0, 99, 2), 0);
    OldestFirst y = Due.townOf("town days 4 post 1;" + times("person hours 1 full;", 8)
        + "letter 0 to 7 on 0 hours 1; letter 0 to 6 on 0 hours 1; letter 6 to 5 on 0 hours 1 after 7; letter 5 to 7 on 0 hours 1; law newest;");
    // 5 hears from 7 by the answer of letter 3.
    is("7 himself, and 5 who waits for him", y.stop(0, 7, 0, 1, 2), 128 + 32);
    doc.says(31, "3: how much less WORTH.");
    is("2 less", x.stop(0, 1, 0, 1, 3), 2);
    is("2 and 4 less", x.stop(0, 1, 2, 99, 3), 4);
    is("no less", x.stop(1, 2, 0, 99, 3), 0);
    is("more is less below 0", Due.townOf(THREE + "letter 0 to 1 on 0 hours 1 after 2 worth 9;").stop(2, 1, 0, 1, 3), -9);
    doc.says(31, "-2: there are none such, one twice.");
    OldestFirst z = edge();
    doc.bounds("from", 0, 0, -2, p -> p == 1 ? -2 : z.stop(p, 1, 0, 1, 0));
    doc.bounds("to", 0, 0, -2, p -> p == 1 ? -2 : z.stop(1, p, 0, 1, 0));
    doc.bounds("day", 0, 2, -2, day -> z.stop(0, 1, day, 1, 0));
    doc.bounds("n", 1, 99, -2, n -> z.stop(0, 1, 0, n, 0));
    doc.bounds("what", 0, 3, -2, what -> z.stop(0, 1, 0, 1, what));
    is("from 2", z.stop(2, 1, 0, 1, 0), -2);
    is("to 2", z.stop(0, 2, 0, 1, 0), -2);
    is("0 twice", z.stop(0, 0, 0, 1, 0), -2);
    is("1 twice", z.stop(1, 1, 0, 1, 0), -2);
  }

  private static void hold() {
    doc.says(32, "The fewest hours (1 .. 99) of such a one by which a told LETTER is not ANSWERED by a DAY;");
    OldestFirst x = Due.townOf(HELD);
    is("1 by day 0", x.hold(0, 1, 0, 1, 0), 1);
    is("1 by day 1", x.hold(0, 1, 0, 1, 1), 3);
    is("2 by day 2", x.hold(0, 1, 2, 2, 2), 1);
    is("2 by the last day", x.hold(0, 1, 2, 2, 3), 3);
    is("it is not by then without one", x.hold(0, 2, 0, 0, 0), 1);
    is("all stays", x.answered(1), 0);
    String far = "town days 9 post 1; person hours 1 full; person hours 11 full; law newest; letter 0 to 1 on 0 hours 1;";
    is("99", Due.townOf(far).hold(0, 1, 0, 0, 8), 99);
    is("98", Due.townOf(far.replace("hours 1;", "hours 2;")).hold(0, 1, 0, 0, 8), 98);
    // What 2 writes to 1 lets him answer what waits for 2, as soon as it is answered itself.
    OldestFirst after = Due.townOf(THREE + "law newest; letter 0 to 1 on 0 hours 1 after 2;");
    is("from whom he waits for", after.hold(2, 1, 0, 0, 3), 4);
    is("from another", after.hold(0, 1, 0, 0, 3), 1);
    doc.says(32, "NONE: by none.");
    is("100", Due.townOf(far.replace("days 9", "days 10").replace("11 full", "10 full")).hold(0, 1, 0, 0, 9), NONE);
    is("too late", x.hold(0, 1, 1, 1, 3), NONE);
    is("behind it, from whom he waits for", Due.townOf(THREE + "letter 0 to 1 on 0 hours 1 after 2;").hold(2, 1, 0, 0, 0), NONE);
    is("to another", x.hold(0, 2, 0, 1, 3), NONE);
    doc.says(32, "-2: there are none such, one twice.");
    OldestFirst z = edge();
    doc.bounds("from", 0, 0, -2, p -> p == 1 ? -2 : z.hold(p, 1, 0, 0, 0));
    doc.bounds("to", 0, 0, -2, p -> p == 1 ? -2 : z.hold(1, p, 0, 0, 0));
    doc.bounds("day", 0, 2, -2, day -> z.hold(0, 1, day, 0, 0));
    doc.bounds("letter", 0, 1, -2, l -> z.hold(0, 1, 0, l, 0));
    doc.bounds("until", 0, 2, -2, until -> z.hold(0, 1, 0, 0, until));
    is("from 2", z.hold(2, 1, 0, 0, 0), -2);
    is("to 2", z.hold(0, 2, 0, 0, 0), -2);
    is("0 twice", z.hold(0, 0, 0, 0, 0), -2);
    is("1 twice", z.hold(1, 1, 0, 0, 0), -2);
    is("an answer", z.hold(0, 1, 0, 24, 0), -2);
  }

  // ---- visits and burnings

  private static void visit() {
    doc.says(33, "VISIT (V): WORTH, if on a DAY who wrote a told LETTER goes to see to whom it is, n hours (0 .. 24) long, in thought.");
    OldestFirst x = edge();
    is("letter 1 on its day", x.visit(1, 2, 0), 12);
    is("24 hours", x.visit(1, 2, 24), 12);
    is("ahead of its day", x.visit(1, 1, 0), 7);
    // 1 goes to see 0 on day 0, and has no hours for letter 0 then; one day later he has.
    is("24 hours on day 0", x.visit(1, 0, 24), 7);
    x.hours(0, 4);
    is("none of day 0 is left", x.visit(1, 0, 2), 0);
    is("one of day 1 is missing", x.visit(1, 1, 1), 0);
    is("none is missing on day 2", x.visit(1, 2, 2), 12);
    is("all stays", x.worth(), 7);
    doc.says(33, "-2: there are none such.");
    OldestFirst y = edge();
    doc.bounds("letter", 0, 1, -2, l -> y.visit(l, 0, 0));
    doc.bounds("day", 0, 2, -2, day -> y.visit(0, day, 0));
    doc.bounds("n", 0, 24, -2, n -> y.visit(0, 0, n));
    is("an answer", y.visit(24, 1, 0), -2);
  }

  private static void pays() {
    doc.says(34, "The first DAY of those by which that is most, if it is more than without; NONE: it never is.");
    OldestFirst x = edge();
    is("the last day alone", x.pays(1, 0), 2);
    is("24 hours", x.pays(1, 24), 2);
    is("no more than without", x.pays(0, 0), NONE);
    // Letter 0 is never answered; from day 1 on each visit gives as much, but a later one loses no hours.
    x = Due.townOf("town days 5 post 1; person hours 2 full; person hours 2 full; letter 0 to 1 on 1 hours 99 worth 5;");
    is("the first of several", x.pays(0, 24), 1);
    is("the first day of all", Due.townOf(TWO + "letter 0 to 1 on 0 hours 99 worth 5;").pays(0, 24), 0);
    is("the first day alone", Due.townOf(TWO + "letter 0 to 1 on 0 hours 2 worth 5 by 0;").pays(0, 24), 0);
    is("the last day alone", Due.townOf(TWO + "letter 0 to 1 on 3 hours 2 worth 5 by 3;").pays(0, 24), 3);
    x = Due.townOf("town days 5 post 1; person hours 2 full; person hours 2 full; letter 0 to 1 on 1 hours 99 worth 5; letter 1 to 0 on 0 hours 8 worth 1 by 3;");
    is("the first costs hours", x.pays(0, 1), 4);
    is("no hours", x.pays(0, 0), 1);
    x = Due.townOf("town days 5 post 1; person hours 2 full; person hours 2 full; letter 0 to 1 on 1 hours 99 worth 5 by 3; letter 1 to 0 on 0 hours 8 worth 5 by 3;");
    is("as much as without", x.pays(0, 1), NONE);
    doc.says(34, "-2 likewise.");
    OldestFirst y = edge();
    doc.bounds("letter", 0, 1, -2, l -> y.pays(l, 0));
    doc.bounds("n", 0, 24, -2, n -> y.pays(0, n));
    is("an answer", y.pays(24, 0), -2);
  }

  private static void instead() {
    doc.says(35, "The LETTER for which such a VISIT on its best DAY gives most WORTH, the first of several; NONE: none pays.");
    is("letter 1", edge().instead(0), 1);
    String many = "town days 3 post 1; person hours 1 full; person hours 1 full; person hours 1 full;";
    is("the first of several", Due.townOf(many + "letter 0 to 1 on 0 hours 99 worth 5; letter 0 to 2 on 1 hours 99 worth 5;").instead(24), 0);
    is("the most", Due.townOf(many + "letter 0 to 1 on 0 hours 99 worth 5; letter 0 to 2 on 2 hours 99 worth 6;").instead(24), 1);
    is("the last of 24", Due.townOf(many + times("letter 0 to 1 on 2 hours 99 worth 1;", 23) + "letter 0 to 1 on 2 hours 99 worth 2;").instead(1), 23);
    is("on the first day alone", Due.townOf(many + "letter 1 to 0 on 0 hours 1; letter 0 to 1 on 0 hours 2 worth 5 by 0;").instead(24), 1);
    is("on the last day alone", Due.townOf(many + "letter 1 to 0 on 0 hours 1; letter 0 to 1 on 2 hours 2 worth 5;").instead(24), 1);
    // By newest the answer, of 9 hours, lies ahead of 22 and 23; nobody goes to see anybody for an answer.
    // For letter 0, which brings it, 0 would have to leave letter 1.
    is("a told letter", Due.townOf("town days 9 post 1; person hours 1 full; person hours 2 full; law newest; letter 0 to 1 on 0 hours 1 back 9;"
        + "letter 1 to 0 on 0 hours 1 worth 99 by 0;" + times("letter 0 to 1 on 5 hours 1;", 20) + times("letter 1 to 0 on 1 hours 1 worth 9 by 2;", 2)).instead(1), 22);
    is("none pays", Due.townOf(many + "letter 0 to 1 on 0 hours 1 worth 5;").instead(0), NONE);
    is("nothing is worth anything", Due.townOf(many + "letter 0 to 1 on 0 hours 99;").instead(0), NONE);
    is("no letters", Due.townOf(many).instead(0), NONE);
    doc.says(35, "-2: there is no such n, no TOWN.");
    OldestFirst y = edge();
    doc.bounds("n", 0, 24, -2, y::instead);
    is("no town", new OldestFirst().instead(0), -2);
  }

  private static void burn() {
    doc.says(36, "BURNT: WORTH, if on the morning of a DAY all that lies on a PILE is burnt ahead of the post, in thought.");
    OldestFirst x = Due.townOf("town days 4 post 1; person hours 1 full; person hours 1 full; person hours 1 full;"
        + "letter 0 to 1 on 0 hours 2 worth 1; letter 0 to 1 on 0 hours 9 worth 2; letter 0 to 1 on 1 hours 2 worth 4; letter 0 to 1 on 2 hours 2 worth 8;");
    is("as it is", x.worth(), 1);
    is("on the first morning nothing lies there", x.burn(1, 0), 1);
    is("all that came on day 0, not what comes now", x.burn(1, 1), 4);
    is("all that came by day 1", x.burn(1, 2), 9);
    is("on the last morning", x.burn(1, 3), 1);
    is("another's", x.burn(0, 1), 1);
    is("all stays", x.pile(1, 3), 14);
    for (int p = 0; p < 8; p += 7) {
      x = Due.townOf("town days 4 post 1;" + times("person hours 1 full;", 8) + "letter 3 to " + p + " on 0 hours 9; letter 3 to " + p + " on 1 hours 1 worth 5;");
      is("person " + p, x.burn(p, 1), 5);
    }
    // He has heard from whom he needs, though that letter is burnt.
    x = Due.townOf(THREE + "letter 2 to 1 on 0 hours 9; letter 0 to 1 on 1 hours 1 after 2 worth 5;");
    is("heard is heard", x.burn(1, 1), 5);
    doc.says(36, "-2: there are none such.");
    OldestFirst y = edge();
    doc.bounds("person", 0, 1, -2, p -> y.burn(p, 0));
    doc.bounds("day", 0, 2, -2, day -> y.burn(0, day));
  }

  // ---- what must not be written

  private static void untie() {
    doc.says(37, "UNTIE: the fewest told LETTERS of those that are not ANSWERED without which nobody is STUCK: how many (what 0), which (what 1: the least set, as bits).");
    OldestFirst x = Due.townOf(RING);
    is("any of the three holds all up", x.untie(0), 1);
    is("the least of them", x.untie(1), 1);
    is("all stays", x.stuck(), 14);
    is("nobody is stuck: none", edge().untie(0), 0);
    is("nobody is stuck: no bits", edge().untie(1), 0);
    is("nobody is there", Due.townOf("town days 2 post 1;").untie(0), 0);
    // The same ring told the other way round: letters 3, 4, 5 hold up.
    x = Due.townOf("town days 9 post 1;" + times("person hours 1 full;", 4) + "law newest;"
        + "letter 1 to 2 on 0 hours 1; letter 2 to 3 on 0 hours 1; letter 3 to 1 on 0 hours 1;"
        + "letter 0 to 1 on 0 hours 1 after 2; letter 0 to 2 on 0 hours 1 after 3; letter 0 to 3 on 0 hours 1 after 1;");
    is("one of 3, 4, 5", x.untie(0), 1);
    is("3", x.untie(1), 8);
    // 1 has two letters that wait for 2: without both nobody is stuck, but without the one of 2 nobody is either.
    x = Due.townOf(RING.replace("letter 0 to 1 on 0 hours 1 after 2;", "letter 0 to 1 on 0 hours 1 after 2;".repeat(2)));
    is("the fewest, not the least", x.untie(0), 1);
    is("2 alone, not 0 and 1", x.untie(1), 4);
    // 1, 2 and 3 stand still, each for himself; 4 never ends what he has.
    x = Due.townOf(TWO + times("person hours 1 full;", 3) + "letter 0 to 1 on 0 hours 1 after 2; letter 0 to 2 on 0 hours 1 after 1;"
        + times("letter 0 to 4 on 0 hours 99;", 2) + "letter 0 to 3 on 0 hours 1 after 1;");
    is("three of five", x.untie(0), 3);
    is("0, 1 and 4", x.untie(1), 19);
    // 1 would be busy with letter 1, if it came ahead of letter 2; each comes on its own day.
    x = Due.townOf("town days 9 post 1; person hours 1 full; person hours 1 full; person hours 1 full;"
        + "letter 0 to 2 on 0 hours 1; letter 0 to 1 on 5 hours 99; letter 0 to 1 on 2 hours 1 after 2;");
    is("one of two", x.untie(0), 1);
    is("2, which came first", x.untie(1), 4);
    doc.says(37, "NONE: without none of their sets;");
    // 0 has heard from 2 by letter 1 alone, which waits for 3; without it 0 waits for 2.
    x = Due.townOf(TWO + times("person hours 1 full;", 2) + "letter 1 to 0 on 0 hours 1 after 2; letter 2 to 0 on 0 hours 1 after 3;");
    is("0 is stuck", x.stuck(), 1);
    is("what 0", x.untie(0), NONE);
    is("what 1", x.untie(1), NONE);
    doc.says(37, "-2: there is no such what, no TOWN;");
    OldestFirst y = edge();
    doc.bounds("what", 0, 1, -2, y::untie);
    is("no town", new OldestFirst().untie(0), -2);
    doc.says(37, "-3: there are more than twelve that are not ANSWERED.");
    String twelve = THREE + times("letter 0 to 1 on 0 hours 9 after 2;", 12);
    is("twelve", Due.townOf(twelve).untie(0), 12);
    is("which", Due.townOf(twelve).untie(1), 4095);
    is("twelve, and one answered", Due.townOf(THREE + "letter 0 to 1 on 0 hours 1;" + times("letter 0 to 1 on 0 hours 9 after 2;", 12)).untie(1), 8190);
    is("twelve, and an answer", Due.townOf(THREE + "letter 1 to 2 on 0 hours 1 back 99;" + times("letter 0 to 1 on 3 hours 9 after 0;", 12)).untie(0), 0);
    is("thirteen", Due.townOf(twelve + "letter 0 to 1 on 0 hours 9;").untie(0), -3);
    is("thirteen, which", Due.townOf(twelve + "letter 0 to 1 on 0 hours 9;").untie(1), -3);
    is("thirteen, no such what", Due.townOf(twelve + "letter 0 to 1 on 0 hours 9;").untie(2), -2);
    is("thirteen of which nobody is stuck", Due.townOf(THREE + times("letter 0 to 1 on 0 hours 9;", 13)).untie(0), -3);
  }

  // ---- lots

  private static void chance() {
    doc.says(38, "Of n (1 .. 20) lots from seeds, the seed and 1, .., by LAW lot:");
    OldestFirst x = Due.townOf(TWO + "letter 0 to 1 on 0 hours 1 worth 1 by 0; letter 0 to 1 on 0 hours 1 worth 2 by 0;" + "letter 0 to 1 on 0 hours 1 worth 4 by 0;");
    for (int seed : new int[] {0, 1, 77, 1999999981, 2000000000}) {
      int inTime = 0;
      int days = 0;
      for (int n = 1; n <= 20; n++) {
        if (seed + n - 1 <= 2000000000) is("by itself " + n, x.chance(1, seed + n - 1, 1, 0), x.by(3, seed + n - 1, 0) == 2 ? 1 : 0);
        inTime += x.chance(1, Math.min(2000000000, seed + n - 1), 1, 0);
        days += x.chance(1, Math.min(2000000000, seed + n - 1), 1, 1);
        if (seed + n - 1 <= 2000000000) {
          is("in time of " + n, x.chance(1, seed, n, 0), inTime);
          is("days of " + n, x.chance(1, seed, n, 1), days);
        }
      }
    }
    // One of three letters is first in each lot.
    is("beyond the greatest seed", x.chance(0, 2000000000, 20, 0) + x.chance(1, 2000000000, 20, 0) + x.chance(2, 2000000000, 20, 0), 20);
    x.law(1);
    is("whatever the law is", x.chance(2, 1, 1, 0), 1);
    is("all stays", x.count(4), 1);
    is("so does the seed", x.count(7), 1);
    doc.says(38, "what 0: in how many a told LETTER is ANSWERED by its DAY (by; without: at all),");
    // From 1: the third, the first, the second.
    is("on its day", x.chance(2, 1, 1, 0), 1);
    is("a day behind it", x.chance(0, 1, 1, 0), 0);
    x = Due.townOf("town days 2 post 1; person hours 1 full; person hours 1 full;" + times("letter 0 to 1 on 0 hours 1;", 3));
    is("without, on the last day", x.chance(0, 1, 1, 0), 1);
    is("without, never", x.chance(1, 1, 1, 0), 0);
    is("all of 20", Due.townOf(TWO + "letter 0 to 1 on 3 hours 1;").chance(0, 5, 20, 0), 20);
    doc.says(38, "1: DAYS on which it is ANSWERED together (not ANSWERED: DAYS).");
    is("day 0", x.chance(2, 1, 1, 1), 0);
    is("day 1", x.chance(0, 1, 1, 1), 1);
    is("never: 2 days", x.chance(1, 1, 1, 1), 2);
    is("20 times day 3", Due.townOf(TWO + "letter 0 to 1 on 3 hours 1;").chance(0, 5, 20, 1), 60);
    is("20 times 4 days", Due.townOf(TWO + "letter 0 to 1 on 3 hours 2;").chance(0, 5, 20, 1), 80);
    doc.says(38, "-2: there are none such.");
    OldestFirst y = edge();
    doc.bounds("letter", 0, 1, -2, l -> y.chance(l, 0, 1, 0));
    doc.bounds("n", 1, 20, -2, n -> y.chance(0, 0, n, 0));
    doc.bounds("what", 0, 1, -2, what -> y.chance(0, 0, 1, what));
    doc.bounds("seed", 0, 2000000000, -2, seed -> y.chance(0, seed, 1, 0));
    is("an answer", y.chance(24, 0, 1, 0), -2);
  }

  private static void judge() {
    doc.says(39, "A SLOT's row as told LETTERS in the order in which they are ANSWERED (by DAYS; of one DAY in the order in which that is done): the first place at which it is not so");
    // On day 0 0 answers 3, then 1 answers 1; on day 1 0 answers 24 and 2 (by number 2 first), 1 nothing; 0 is never answered.
    OldestFirst x = Due.townOf("town days 2 post 1; person hours 9 full; person hours 1 full;"
        + "letter 0 to 1 on 1 hours 9; letter 0 to 1 on 0 hours 1 back 1; letter 1 to 0 on 1 hours 1; letter 1 to 0 on 0 hours 1;");
    int[] done = {3, 1, 2};
    x.row(0, 0, 3);
    for (int wrong = 0; wrong < 3; wrong++) {
      for (int i = 0; i < 3; i++) x.write(0, i, i == wrong ? 25 : done[i]);
      is("wrong at " + wrong, x.judge(0), wrong);
      x.write(0, wrong, 0);
      is("not answered at " + wrong, x.judge(0), wrong);
      x.write(0, wrong, -1);
      is("below 0 at " + wrong, x.judge(0), wrong);
    }
    doc.says(39, "(as many as there are, if it is so all along, be there more or not).");
    for (int i = 0; i < 3; i++) x.write(0, i, done[i]);
    is("three of three", x.judge(0), 3);
    for (int n = 0; n <= 60; n++) {
      x.row(1, 3, n);
      for (int i = 0; i < n; i++) x.write(1, i, i < 3 ? done[i] : 0);
      is("a row of " + n, x.judge(1), Math.min(3, n));
    }
    // Answer 24 is answered between 0 and 1.
    OldestFirst y = edge();
    y.hours(1, 2);
    y.row(0, 0, 3);
    y.write(0, 1, 1);
    is("told letters alone", y.judge(0), 2);
    y.write(0, 1, 24);
    is("no answers", y.judge(0), 1);
    x.hours(1, 99);
    x.write(0, 1, 2);
    is("other hours", x.judge(0), 2);
    x.hours(1, 1);
    is("the hours again", x.judge(0), 1);
    OldestFirst none = Due.townOf(TWO + "letter 0 to 1 on 0 hours 9;");
    none.row(0, 0, 5);
    is("none is answered", none.judge(0), 0);
    OldestFirst all = Due.townOf("town days 2 post 1; person hours 1 full; person hours 12 full;" + times("letter 0 to 1 on 0 hours 1;", 24));
    all.row(0, 1, 60);
    for (int i = 0; i < 60; i++) all.write(0, i, i);
    is("24 are answered", all.judge(0), 24);
    doc.says(39, "-2: there is no such SLOT, no TOWN;");
    for (int slot = 0; slot < 4; slot++) x.row(slot, 0, 1);
    doc.bounds("slot", 0, 3, -2, x::judge);
    OldestFirst nobody = new OldestFirst();
    is("no town, nothing", nobody.judge(0), -2);
    nobody.row(0, 0, 1);
    is("no town", nobody.judge(0), -2);
    is("no town, no slot", nobody.judge(4), -2);
    doc.says(39, "-6: it has nothing.");
    for (int slot = 0; slot < 4; slot++) is("nothing in " + slot, edge().judge(slot), -6);
    OldestFirst empty = edge();
    empty.row(2, 0, 0);
    is("no numbers are not nothing", empty.judge(2), 0);
  }

  // ---- counts, images, slots

  private static void count() {
    doc.says(40, "0 PEOPLE, 1 told LETTERS, 2 DAYS, 3 post, 4 LAW, 5 LINES, 6 bytes of the TAPE, 7 the seed of lot, 8 SLOTS that have a row.");
    OldestFirst x = Due.townOf("town days 40 post 9;" + times("person hours 1 full;", 8) + times("letter 0 to 1 on 0 hours 1 back 1;", 24) + "law lot 9999;");
    int[] most = {8, 24, 40, 9, 3, 34, 0, 9999, 0};
    for (int what = 0; what < 9; what++) is("count(" + what + ")", x.count(what), most[what]);
    Due.feed(x, "abc");
    is("3 bytes", x.count(6), 3);
    for (int slot = 0; slot < 4; slot++) {
      x.row(slot, slot, 60 * (slot % 2));
      is("slots", x.count(8), slot + 1);
    }
    x.row(0, 1, 5);
    is("the same again", x.count(8), 4);
    x.law(0);
    is("law", x.count(4), 0);
    is("the seed stays", x.count(7), 9999);
    x.end(0);
    Due.feed(x, "town days 2 post 1; law lot 0;");
    x.town();
    int[] least = {0, 0, 2, 1, 3, 2, 0, 0, 4};
    for (int what = 0; what < 9; what++) is("count(" + what + ")", x.count(what), least[what]);
    is("1 without a seed told", Due.townOf(TWO).count(7), 1);
    doc.says(40, "NONE for others.");
    doc.bounds("what", 0, 8, NONE, x::count);
    is("without a town", new OldestFirst().count(9), NONE);
  }

  private static void keep() {
    doc.says(41, "IMAGE k (0 .. 2) keeps the TOWN, hours and LAW as they are: 0.");
    OldestFirst x = edge();
    for (int k = 0; k < 3; k++) {
      x.hours(0, k + 1);
      x.law(k);
      is("keep(" + k + ")", x.keep(k), 0);
    }
    x.hours(0, 99);
    Due.feed(x, TWO);
    x.town();
    for (int k = 2; k >= 0; k--) {
      is("back(" + k + ")", x.back(k), 0);
      is("hours of " + k, x.letter(0, 3), k + 1);
      is("law of " + k, x.count(4), k);
      is("lines of " + k, x.count(5), 5);
    }
    x.hours(0, 50);
    x.keep(0);
    x.back(1);
    x.back(0);
    is("kept anew", x.letter(0, 3), 50);
    doc.says(41, "-2: no such k.");
    doc.bounds("k", 0, 2, -2, x::keep);
    OldestFirst y = edge();
    y.keep(3);
    y.keep(-1);
    for (int k = 0; k < 3; k++) is("none is kept", y.back(k), -6);
  }

  private static void back() {
    doc.says(42, "It is as IMAGE k has it: 0.");
    OldestFirst x = Due.townOf(EDGE + "law lot 5;");
    x.keep(1);
    x.row(0, 0, 3);
    x.law(0);
    x.hours(1, 1);
    is("as it is", x.worth(), 12);
    is("back(1)", x.back(1), 0);
    is("worth", x.worth(), 7);
    is("law", x.count(4), 3);
    is("seed", x.count(7), 5);
    is("slots are not in it", x.count(8), 1);
    x.hours(1, 1);
    is("what is done then", x.worth(), 12);
    x.back(1);
    is("is not in it", x.worth(), 7);
    x.town();
    x.keep(0);
    x.back(1);
    is("a town", x.worth(), 7);
    x.feed(0, 0, 0, 0, 0);
    is("none is an image, too", x.back(0), 0);
    is("the tape is not in it", x.count(6), 20);
    noTown(x);
    OldestFirst y = edge();
    y.keep(0);
    y.order(1, 0);
    y.untie(0);
    Due.feed(y, RING);
    y.town();
    is("another", y.untie(0), 1);
    y.back(0);
    is("nothing lingers of what was asked", y.untie(0), 0);
    is("nor of orders", y.order(1, 0), 7);
    doc.says(42, "-2: no such k;");
    for (int k = 0; k < 3; k++) y.keep(k);
    doc.bounds("k", 0, 2, -2, y::back);
    doc.says(42, "-6: it has nothing.");
    OldestFirst z = edge();
    for (int k = 0; k < 3; k++) is("back(" + k + ")", z.back(k), -6);
    is("all stays", z.worth(), 7);
    z.keep(1);
    is("another has something", z.back(0), -6);
    is("and another", z.back(2), -6);
  }

  private static void row() {
    doc.says(43, "A SLOT (0 .. 3) has a row of n numbers of a WIDTH, all 0 (in place of another one): 0.");
    OldestFirst x = edge();
    for (int slot = 0; slot < 4; slot++) {
      for (int width = 0; width < 4; width++) {
        is("row", x.row(slot, width, 60), 0);
        is("all 0", x.judge(slot), 1);
        is("the last", x.write(slot, 59, 1), 0);
        x.write(slot, 0, 1);
        is("not 0", x.judge(slot), 0);
        is("row of 1", x.row(slot, width, 1), 0);
        is("0 again", x.judge(slot), 1);
        is("one number alone", x.write(slot, 1, 0), -7);
        is("row of 0", x.row(slot, width, 0), 0);
        is("no number", x.write(slot, 0, 0), -7);
        is("row of 60", x.row(slot, width, 60), 0);
      }
    }
    doc.says(43, "-2: there is no such SLOT or WIDTH (0 .. 3), or n is above 60;");
    doc.bounds("slot", 0, 3, -2, slot -> x.row(slot, 0, 1));
    doc.bounds("width", 0, 3, -2, width -> x.row(0, width, 1));
    for (int n : new int[] {61, 62, 256, 65536, HIGH}) is("n " + n, x.row(0, 0, n), -2);
    is("no slot, n below 0", x.row(4, 0, -1), -2);
    is("no width, n below 0", x.row(0, 4, -1), -2);
    x.row(1, 1, 5);
    x.row(1, 1, 61);
    x.row(1, 4, 3);
    is("it stays", x.write(1, 4, 0), 0);
    is("as long as it was", x.write(1, 5, 0), -7);
    doc.says(43, "-3, and the SLOT stays: n is below 0.");
    x.write(1, 0, 1);
    for (int n : new int[] {-1, -60, -61, LOW}) is("n " + n, x.row(1, 0, n), -3);
    is("its numbers stay", x.judge(1), 0);
    is("as many", x.write(1, 4, 0), 0);
    x.row(2, 1, 5);
    is("its width stays", x.paste(2, 0, 1, 0, 5), 0);
    OldestFirst y = edge();
    y.row(0, 0, -1);
    is("nothing stays nothing", y.count(8), 0);
  }

  private static void write() {
    doc.says(44, "Number i of the SLOT's row is v, cut to its WIDTH: 0.");
    OldestFirst x = edge();
    for (int width = 0; width < 4; width++) {
      int bits = 8 << width;
      long high = width == 3 ? 0 : 1L << bits;
      x.row(width, width, 1);
      // Letter 0 is the first that is answered, so that a row is right as long as its first number is 0.
      for (long v : new long[] {0, high, -high, 3 * high}) {
        is("write", x.write(width, 0, v), 0);
        is("cut to 0 of " + bits + " bits: " + v, x.judge(width), 1);
      }
      for (long v : new long[] {1, -1, high - 1, high + 1, 1L << bits - 1, -(1L << bits - 1), Long.MAX_VALUE}) {
        is("write", x.write(width, 0, v), 0);
        is("not 0 of " + bits + " bits: " + v, x.judge(width), 0);
      }
      x.write(width, 0, Long.MIN_VALUE);
      is("the highest of 64 bits", x.judge(width), width == 3 ? 0 : 1);
    }
    doc.says(44, "-2: there is no such SLOT;");
    for (int slot = 0; slot < 4; slot++) x.row(slot, 0, 5);
    doc.bounds("slot", 0, 3, -2, slot -> x.write(slot, 0, 0));
    is("no slot, no number", x.write(4, 9, 0), -2);
    doc.says(44, "-6: it has nothing;");
    for (int slot = 0; slot < 4; slot++) is("nothing in " + slot, edge().write(slot, 0, 0), -6);
    is("nothing, no number", edge().write(0, -1, 0), -6);
    doc.says(44, "-7: there is no such number.");
    doc.bounds("number", 0, 4, -7, i -> x.write(0, i, 0));
    x.row(0, 0, 60);
    doc.bounds("number of 60", 0, 59, -7, i -> x.write(0, i, 0));
    x.row(0, 0, 0);
    is("number 0 of none", x.write(0, 0, 0), -7);
  }

  private static void paste() {
    doc.says(45, "So many numbers of a SLOT's row, from one on, are put to another one's (or its own), from one on, as they were: 0.");
    // Letters 0 to 4 are answered in this order.
    OldestFirst x = Due.townOf("town days 2 post 1; person hours 1 full; person hours 12 full;" + times("letter 0 to 1 on 0 hours 1;", 5));
    x.row(0, 2, 5);
    for (int i = 0; i < 5; i++) x.write(0, i, i);
    x.row(1, 2, 5);
    is("3 from 2", x.paste(0, 2, 1, 2, 3), 0);
    x.write(1, 1, 1);
    is("as they were", x.judge(1), 5);
    is("where they were", x.judge(0), 5);
    x.row(1, 2, 5);
    is("all", x.paste(0, 0, 1, 0, 5), 0);
    is("all came", x.judge(1), 5);
    is("none", x.paste(0, 0, 1, 4, 0), 0);
    is("none at the ends", x.paste(0, 5, 1, 5, 0), 0);
    is("nothing came", x.judge(1), 5);
    // 0 1 2 3 4, and its first four a place on: 0 0 1 2 3.
    is("its own, up", x.paste(0, 0, 0, 1, 4), 0);
    is("0 0", x.judge(0), 1);
    is("its own, down", x.paste(0, 1, 0, 0, 4), 0);
    is("0 1 2 3 3", x.judge(0), 4);
    is("its own, where they are", x.paste(0, 0, 0, 0, 5), 0);
    is("as they are", x.judge(0), 4);
    doc.says(45, "-2: there is no such SLOT;");
    for (int slot = 0; slot < 4; slot++) x.row(slot, 2, 5);
    doc.bounds("slot", 0, 3, -2, slot -> x.paste(slot, 0, 1, 0, 1));
    doc.bounds("to", 0, 3, -2, to -> x.paste(1, 0, to, 0, 1));
    is("no slot, nothing", edge().paste(4, 0, 0, 0, 1), -2);
    is("no slot to put to, nothing", edge().paste(0, 0, 4, 0, 1), -2);
    doc.says(45, "-6: one has nothing;");
    OldestFirst y = edge();
    is("both", y.paste(0, 0, 1, 0, 1), -6);
    is("itself", y.paste(0, 0, 0, 0, 0), -6);
    y.row(0, 2, 5);
    is("to", y.paste(0, 0, 1, 0, 1), -6);
    is("from", y.paste(1, 0, 0, 0, 1), -6);
    is("beyond, too", y.paste(0, 9, 1, 0, 9), -6);
    is("still nothing", y.count(8), 1);
    doc.says(45, "-8: they are not of one WIDTH;");
    for (int one = 0; one < 4; one++) {
      for (int other = 0; other < 4; other++) {
        y.row(0, one, 3);
        y.row(1, other, 3);
        is("width " + one + " to " + other, y.paste(0, 0, 1, 0, 3), one == other ? 0 : -8);
        is("beyond, width " + one + " to " + other, y.paste(0, 1, 1, 0, 3), one == other ? -7 : -8);
        is("below, width " + one + " to " + other, y.paste(0, 0, 1, -1, 3), one == other ? -7 : -8);
      }
    }
    beyondRows();
  }

  private static void beyondRows() {
    doc.says(45, "-7, and nothing happens: some are beyond their rows, or a place or n is below 0.");
    OldestFirst x = Due.townOf("town days 2 post 1; person hours 1 full; person hours 12 full;" + times("letter 0 to 1 on 0 hours 1;", 5));
    x.row(0, 1, 5);
    x.row(1, 1, 3);
    for (int i = 0; i < 5; i++) x.write(0, i, 7);
    for (int i = 0; i < 3; i++) x.write(1, i, i);
    int[][] refused = {{0, 0, 4}, {0, 1, 3}, {3, 0, 3}, {5, 0, 1}, {0, 3, 1}, {-1, 0, 1}, {0, -1, 1}, {0, 0, -1}, {-1, 1, 0}, {1, -1, 0},
      {HIGH, 0, 1}, {0, HIGH, 1}, {0, 0, HIGH}, {HIGH, HIGH, HIGH}, {1, 0, HIGH}, {0, 1, HIGH}, {LOW, 0, 1}, {0, LOW, 1}, {0, 0, LOW},
      {HIGH, 0, LOW}, {3, 3, -3}};
    for (int[] a : refused) {
      is("paste(0, " + a[0] + ", 1, " + a[1] + ", " + a[2] + ")", x.paste(0, a[0], 1, a[1], a[2]), -7);
      is("nothing happens", x.judge(1), 3);
    }
    is("to the last", x.paste(0, 4, 1, 2, 1), 0);
    is("it came", x.judge(1), 2);
    is("from its own end", x.paste(0, 4, 0, 0, 2), -7);
    is("to its own end", x.paste(0, 0, 0, 4, 2), -7);
  }
}
