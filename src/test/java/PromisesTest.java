/** Every promise by its number, with answers worked out by hand. */
public final class PromisesTest {
  private static final int NONE = -1;
  private static final int LOW = Integer.MIN_VALUE;
  private static final int HIGH = Integer.MAX_VALUE;
  private static final Due due = new Due();

  // 1 needs 3 hours of each of the first two; 2 waits for 1, and hears from him on day 3.
  private static final String SMALL = "town days 10 post 2;"
      + "person hours 4 full; person hours 3 short; person hours 5 sunday;"
      + "letter 0 to 1 on 0 hours 6 back 3 worth 40 by 2;"
      + "letter 2 to 1 on 0 hours 5 after 0 worth 10;"
      + "letter 0 to 2 on 1 hours 8 after 1 worth 60 by 5;";

  // 0 waits for 1, whose answer lies under what waits for 3.
  private static final String TIED = "town days 6 post 1;"
      + "person hours 4 full; person hours 4 full; person hours 4 full; person hours 4 full;"
      + "letter 2 to 0 on 0 hours 2 after 1 worth 30;"
      + "letter 2 to 1 on 0 hours 2 after 3 worth 20;"
      + "letter 0 to 1 on 0 hours 2 worth 5;";

  // 0 waits for 1, 1 for 2, 2 for 0; 3 and 4 for one another; 5 for 0.
  private static final String RINGS = "town days 4 post 1;"
      + "person hours 2 full; person hours 2 full; person hours 2 full;"
      + "person hours 2 full; person hours 2 full; person hours 2 full;"
      + "letter 0 to 1 on 0 hours 2 after 2; letter 1 to 2 on 0 hours 2 after 0; letter 2 to 0 on 0 hours 2 after 1;"
      + "letter 5 to 3 on 0 hours 2 after 4; letter 5 to 4 on 0 hours 2 after 3; letter 3 to 5 on 1 hours 2 after 0;";

  // Two letters of 4 hours and one of 2 come to 1 at once; one day holds 4 hours.
  private static final String MORNING = "town days 5 post 1;"
      + "person hours 4 full; person hours 4 full;"
      + "letter 0 to 1 on 0 hours 4 worth 10 by 0;"
      + "letter 0 to 1 on 0 hours 2 worth 20 by 0;"
      + "letter 0 to 1 on 0 hours 4 worth 25 by 1;";

  private static void is(String call, long got, long want) {
    due.is(call, got, want);
  }

  public static void main(String[] args) {
    newObject();
    tape();
    townAndFault();
    told();
    hoursAndLaw();
    answers();
    piles();
    waiting();
    sums();
    otherLaws();
    orders();
    longestAndJust();
    stopAndHold();
    visits();
    burnings();
    untying();
    lots();
    judging();
    counting();
    images();
    slots();
    clerks();
    kinds();
    due.close("PromisesTest");
  }

  /** 1 */
  private static void newObject() {
    OldestFirst x = new OldestFirst();
    is("new worth()", x.worth(), -2);
    is("new count(5)", x.count(5), 0);
    is("new count(8)", x.count(8), 0);
    is("new back(0)", x.back(0), -6);
    is("NONE", OldestFirst.NONE, NONE);
  }

  /** 2, 3 */
  private static void tape() {
    OldestFirst x = new OldestFirst();
    is("end(0) of nothing", x.end(0), 0);
    is("end(1) of nothing", x.end(1), NONE);
    for (int i = 1; i <= 120; i++) is("feed " + i, x.feed(0x746f776e, -1, LOW, HIGH, 0), 20 * i);
    is("feed 121", x.feed(1, 2, 3, 4, 5), NONE);
    is("full", x.count(6), 2400);
    is("end(2401)", x.end(2401), NONE);
    is("end(-1)", x.end(-1), NONE);
    is("end(LOW)", x.end(LOW), NONE);
    is("end(2400)", x.end(2400), 2400);
    is("end(2381)", x.end(2381), 2381);
    is("feed at 2381", x.feed(1, 2, 3, 4, 5), NONE);
    is("stays", x.count(6), 2381);
    is("end(2380)", x.end(2380), 2380);
    is("feed at 2380", x.feed(1, 2, 3, 4, 5), 2400);
    is("end(4)", x.end(4), 4);
    Due.feed(x, " days 2 post 1;");
    is("highest byte first", x.town(), 1);
    is("emptied", x.count(6), 0);
  }

  /** 4, 5 */
  private static void townAndFault() {
    OldestFirst x = new OldestFirst();
    is("fault(0) ahead", x.fault(0), 0);
    is("fault(1) ahead", x.fault(1), NONE);
    is("fault(2)", x.fault(2), NONE);
    is("fault(-1)", x.fault(-1), NONE);
    faulty(x, "town days 5 post 2; person hours 3 full", 1, 39);
    is("tape stays", x.count(6), 39);
    is("no town yet", x.worth(), -2);
    Due.feed(x, ";");
    is("mended", x.town(), 2);
    is("fault(0) mended", x.fault(0), 0);
    is("fault(1) mended", x.fault(1), NONE);
    faulty(x, "town days 1 post 2;", 2, 10);
    is("town stays", x.count(5), 2);
    is("fault(2) of one", x.fault(2), NONE);
    x.end(0);
    Due.feed(x, " \n ");
    is("blanks alone", x.town(), 0);
    is("none then", x.worth(), -2);
    is("count(2) then", x.count(2), 0);
    is("count(7) then", x.count(7), 0);
    faults(x);
    x.end(0);
    Due.feed(x, "town\ndays 007 post 2;person hours 12full;letter");
    x.end(x.count(6) - 6);
    is("blanks where they need be", x.town(), 2);
    is("days 007", x.count(2), 7);
  }

  private static void faulty(OldestFirst x, String text, int fault, int place) {
    x.end(0);
    Due.feed(x, text);
    is("town() of " + text, x.town(), -4);
    is("fault(0) of " + text, x.fault(0), fault);
    is("fault(1) of " + text, x.fault(1), place);
  }

  private static void faults(OldestFirst x) {
    String town = "town days 9 post 2;";
    String two = town + "person hours 1 full;person hours 1 full;person hours 1 full;";
    faulty(x, "law oldest;", 1, 0);
    faulty(x, ";", 1, 0);
    faulty(x, " 7", 1, 1);
    faulty(x, "Town", 1, 0);
    faulty(x, "town days 9 post 2 ", 1, 19);
    faulty(x, town + town, 1, 19);
    faulty(x, town + ";", 1, 19);
    faulty(x, town + "persons hours 1 full;", 1, 19);
    faulty(x, town + "person hour 1 full;", 1, 26);
    faulty(x, town + "person hours 0 full;", 2, 32);
    faulty(x, town + "person hours 13 full;", 2, 32);
    faulty(x, town + "person hours 99999999999999999999 full;", 2, 32);
    faulty(x, town + "person hours 4294967297 full;", 2, 32);
    faulty(x, town + "person hours 3 lazy;", 1, 34);
    faulty(x, town + "person hours 3 clerk 0;", 2, 40);
    faulty(x, town + "person hours 3 clerk;", 1, 39);
    faulty(x, town + "person hours 3 full 0;", 1, 39);
    faulty(x, "town days 41 post 2;", 2, 10);
    faulty(x, "town days 40 post 0;", 2, 18);
    faulty(x, "town days 40 post 10;", 2, 18);
    faulty(x, "town days 4" + (char) 9 + "post 1;", 1, 11);
    faulty(x, "town days 4 post -1;", 1, 17);
    int at = two.length();
    faulty(x, town + "letter 0 to 1 on 0 hours 1;", 2, 26);
    faulty(x, two + "letter 3 to 1 on 0 hours 1;", 2, at + 7);
    faulty(x, two + "letter 1 to 1 on 0 hours 1;", 2, at + 12);
    faulty(x, two + "letter 1 to 3 on 0 hours 1;", 2, at + 12);
    faulty(x, two + "letter 1 to 0 on 9 hours 1;", 2, at + 17);
    faulty(x, two + "letter 1 to 0 on 8 hours 0;", 2, at + 25);
    faulty(x, two + "letter 1 to 0 on 8 hours 100;", 2, at + 25);
    faulty(x, two + "letter 1 to 0 on 8 hours 1 back 0;", 2, at + 32);
    faulty(x, two + "letter 1 to 0 on 8 hours 1 back 100;", 2, at + 32);
    faulty(x, two + "letter 1 to 0 on 8 hours 1 after 0;", 2, at + 33);
    faulty(x, two + "letter 1 to 0 on 8 hours 1 after 3;", 2, at + 33);
    faulty(x, two + "letter 1 to 0 on 8 hours 1 worth 100;", 2, at + 33);
    faulty(x, two + "letter 1 to 0 on 8 hours 1 by 9;", 2, at + 30);
    faulty(x, two + "letter 1 to 0 on 8 hours 1 by 8 worth 1;", 1, at + 32);
    faulty(x, two + "letter 1 to 0 on 8 hours 1 back 1 back 1;", 1, at + 34);
    faulty(x, two + "law lots 1;", 1, at + 4);
    faulty(x, two + "law lot;", 1, at + 7);
    faulty(x, two + "law lot 10000;", 2, at + 8);
    faulty(x, two + "law lot 9999;law oldest;", 2, at + 13);
    faulty(x, two + "law oldest;law $;", 2, at + 11);
    tooMany(x);
  }

  private static void tooMany(OldestFirst x) {
    StringBuilder people = new StringBuilder("town days 9 post 2;");
    for (int i = 0; i < 8; i++) people.append("person hours 1 full;");
    int at = people.length();
    faulty(x, people + "person hours 99 full;", 3, at);
    StringBuilder letters = new StringBuilder(people);
    for (int i = 0; i < 24; i++) letters.append("letter 1 to 0 on 8 hours 1;");
    faulty(x, letters + " letter nonsense", 3, letters.length() + 1);
    x.end(0);
    Due.feed(x, letters.toString());
    is("as many as may be", x.town(), 33);
    is("8 people", x.count(0), 8);
    is("24 letters", x.count(1), 24);
    is("letter(23, 2)", x.letter(23, 2), 8);
    is("letter(24, 0)", x.letter(24, 0), -2);
  }

  private static void row(OldestFirst x, int letter, int... want) {
    for (int what = 0; what < want.length; what++) {
      is("letter(" + letter + ", " + what + ")", x.letter(letter, what), want[what]);
    }
  }

  /** 6, 7 */
  private static void told() {
    OldestFirst x = Due.townOf(SMALL + "person hours 2 worrier; person hours 1 clerk 3;");
    int[][] people = {{4, 0, NONE}, {3, 1, NONE}, {5, 2, NONE}, {2, 3, NONE}, {1, 4, 3}};
    for (int p = 0; p < 5; p++) {
      for (int what = 0; what < 3; what++) is("person(" + p + ", " + what + ")", x.person(p, what), people[p][what]);
      is("person(" + p + ", 3)", x.person(p, 3), -2);
    }
    is("person(5, 0)", x.person(5, 0), -2);
    is("person(-1, 0)", x.person(-1, 0), -2);
    is("person(0, -1)", x.person(0, -1), -2);
    row(x, 0, 0, 1, 0, 6, 3, NONE, 40, 2, -2);
    row(x, 1, 2, 1, 0, 5, 0, 0, 10, NONE, -2);
    row(x, 2, 0, 2, 1, 8, 0, 1, 60, 5, -2);
    row(x, 24, 1, 0, 2, 3, 0, NONE, 0, NONE, -2);
    row(x, 3, -2, -2);
    row(x, 25, -2, -2);
    row(x, -1, -2, -2);
    row(x, 48, -2, -2);
    is("letter(0, -1)", x.letter(0, -1), -2);
    x.hours(0, 99);
    is("an answer that never comes", x.letter(24, 2), NONE);
  }

  /** 8, 9 */
  private static void hoursAndLaw() {
    OldestFirst x = Due.townOf(SMALL);
    is("hours(0, 7)", x.hours(0, 7), 6);
    is("letter(0, 3)", x.letter(0, 3), 7);
    is("answered(0)", x.answered(0), 1);
    is("hours(0, 6)", x.hours(0, 6), 7);
    is("answered(0)", x.answered(0), 0);
    is("hours(0, 0)", x.hours(0, 0), -2);
    is("hours(0, 100)", x.hours(0, 100), -2);
    is("hours(3, 1)", x.hours(3, 1), -2);
    is("hours(24, 1)", x.hours(24, 1), -2);
    is("hours(-1, 1)", x.hours(-1, 1), -2);
    is("law(1)", x.law(1), 0);
    is("answered(1) by newest", x.answered(1), 0);
    is("answered(0) by newest", x.answered(0), 1);
    is("law(4)", x.law(4), -2);
    is("law(-1)", x.law(-1), -2);
    is("law(3)", x.law(3), 1);
    is("seed without one told", x.count(7), 1);
    is("law(2)", x.law(2), 3);
    is("count(4)", x.count(4), 2);
    x = Due.townOf(SMALL + "law lot 77;");
    is("law(0) of lot", x.law(0), 3);
    is("law(3) of oldest", x.law(3), 0);
    is("seed told", x.count(7), 77);
    is("law(0) without a town", new OldestFirst().law(0), -2);
  }

  /** 10, 11, 12 */
  private static void answers() {
    OldestFirst x = Due.townOf(SMALL);
    is("answered(0)", x.answered(0), 0);
    is("answered(1)", x.answered(1), 1);
    is("answered(2)", x.answered(2), 4);
    is("answered(24)", x.answered(24), 2);
    is("answered(25)", x.answered(25), -2);
    is("answered(3)", x.answered(3), -2);
    is("comes(0)", x.comes(0), 2);
    is("comes(1)", x.comes(1), 3);
    is("comes(2)", x.comes(2), 6);
    is("comes(24)", x.comes(24), 4);
    is("comes(-1)", x.comes(-1), -2);
    is("comes(48)", x.comes(48), -2);
    is("needs(0, 0)", x.needs(0, 0), 0);
    is("needs(1, 0)", x.needs(1, 0), 3);
    is("needs(1, 1)", x.needs(1, 1), 0);
    is("needs(2, 0)", x.needs(2, 0), NONE);
    is("needs(2, 2)", x.needs(2, 2), 8);
    is("needs(2, 3)", x.needs(2, 3), 3);
    is("needs(2, 9)", x.needs(2, 9), 0);
    is("needs(24, 1)", x.needs(24, 1), NONE);
    is("needs(24, 2)", x.needs(24, 2), 0);
    is("needs(2, 10)", x.needs(2, 10), -2);
    is("needs(2, -1)", x.needs(2, -1), -2);
    is("needs(3, 0)", x.needs(3, 0), -2);
    x = Due.townOf("town days 3 post 1; person hours 1 full; person hours 1 full; letter 0 to 1 on 1 hours 2; letter 0 to 1 on 2 hours 1 back 1;");
    is("answered on the last day", x.answered(0), 2);
    is("its answer is too late", x.comes(0), NONE);
    is("never answered", x.answered(1), NONE);
    is("nor its answer", x.comes(1), NONE);
    is("an answer never answered", x.answered(25), NONE);
    is("an answer never come", x.needs(25, 2), NONE);
  }

  /** 13, 14, 16, 17 */
  private static void piles() {
    OldestFirst x = Due.townOf(SMALL);
    is("pile(1, 0)", x.pile(1, 0), 2);
    is("pile(1, 1)", x.pile(1, 1), 0);
    is("pile(2, 3)", x.pile(2, 3), 4);
    is("pile(3, 0)", x.pile(3, 0), -2);
    is("pile(0, 10)", x.pile(0, 10), -2);
    is("idle(0, 0)", x.idle(0, 0), 4);
    is("idle(0, 2)", x.idle(0, 2), 1);
    is("idle(1, 1)", x.idle(1, 1), 0);
    is("idle(2, 1)", x.idle(2, 1), 5);
    is("idle(2, 4)", x.idle(2, 4), 2);
    is("idle(2, 6) of a sunday", x.idle(2, 6), 0);
    is("idle(2, 7)", x.idle(2, 7), 5);
    is("idle(-1, 0)", x.idle(-1, 0), -2);
    is("idle(0, -1)", x.idle(0, -1), -2);
    x = Due.townOf("town days 4 post 1; person hours 1 full; person hours 1 full;"
        + "letter 0 to 1 on 0 hours 9 worth 1; letter 0 to 1 on 0 hours 9 worth 8;"
        + "letter 1 to 0 on 0 hours 1 back 9; letter 0 to 1 on 1 hours 9 worth 8;");
    int[][] law = {{0, 1, 3, 26}, {26, 3, 1, 0}, {1, 3, 0, 26}};
    is("pile of a long one", x.pile(1, 1), (1L << 26) + 11);
    for (int l = 0; l < 3; l++) {
      x.law(l);
      is("top(1, 1) by law " + l, x.top(1, 1), law[l][0]);
      for (int i = 0; i < 4; i++) is("under(" + law[l][i] + ", 1) by law " + l, x.under(law[l][i], 1), i);
    }
    is("top of nothing", x.top(0, 0), NONE);
    is("under, not come", x.under(3, 0), NONE);
    is("under, answered", x.under(2, 0), NONE);
    is("top(2, 0)", x.top(2, 0), -2);
    is("top(0, 4)", x.top(0, 4), -2);
    is("under(4, 0)", x.under(4, 0), -2);
    is("under(24, 0)", x.under(24, 0), -2);
    is("under(0, 4)", x.under(0, 4), -2);
    x.law(3);
    is("top by lot", x.top(1, 1), NONE);
    is("under by lot", x.under(0, 1), NONE);
    is("top(2, 0) by lot", x.top(2, 0), -2);
    is("under(4, 0) by lot", x.under(4, 0), -2);
  }

  /** 15, 18, 19, 20 */
  private static void waiting() {
    OldestFirst x = Due.townOf(SMALL);
    int[] waits = {NONE, 1, 1, NONE, NONE};
    for (int day = 0; day < 5; day++) is("waits(2, " + day + ")", x.waits(2, day), waits[day]);
    is("waits(3, 0)", x.waits(3, 0), -2);
    is("waits(0, 10)", x.waits(0, 10), -2);
    is("heard(1, 0)", x.heard(1, 0), 0);
    is("heard(0, 1)", x.heard(0, 1), 2);
    is("heard(2, 1)", x.heard(2, 1), 3);
    is("heard(2, 0)", x.heard(2, 0), 1);
    is("heard(0, 2)", x.heard(0, 2), 6);
    is("heard(0, 0)", x.heard(0, 0), -2);
    is("heard(0, 3)", x.heard(0, 3), -2);
    is("heard(-1, 0)", x.heard(-1, 0), -2);
    is("stuck()", x.stuck(), 0);
    is("ring(0)", x.ring(0), NONE);
    is("ring(1)", x.ring(1), 0);
    is("ring(2)", x.ring(2), -2);
    is("ring(-1)", x.ring(-1), -2);
    x = Due.townOf(TIED);
    is("stuck() of tied", x.stuck(), 3);
    is("waits(0, 5)", x.waits(0, 5), 1);
    is("waits(1, 5)", x.waits(1, 5), 3);
    is("heard(0, 1) never", x.heard(0, 1), NONE);
    is("ring(0) of tied", x.ring(0), NONE);
    x = Due.townOf(RINGS);
    is("stuck() of rings", x.stuck(), 63);
    is("ring(0) of rings", x.ring(0), 7);
    is("ring(1) of rings", x.ring(1), 2);
    is("ring(0) without a town", new OldestFirst().ring(0), -2);
    x = Due.townOf("town days 7 post 1; person hours 1 sunday; person hours 1 full; person hours 1 full; letter 1 to 0 on 0 hours 1 after 2;");
    is("he waits on saturdays", x.waits(0, 5), 2);
    is("not on sundays", x.waits(0, 6), NONE);
    is("stuck() on a sunday", x.stuck(), 0);
    x = Due.townOf("town days 2 post 1; person hours 2 full; person hours 1 full; person hours 1 full; letter 1 to 0 on 0 hours 4 ; letter 1 to 0 on 0 hours 1 after 2;");
    is("no hours left to stand still", x.stuck(), 0);
  }

  /** 21, 22, 23 */
  private static void sums() {
    OldestFirst x = Due.townOf(SMALL);
    is("worth()", x.worth(), 110);
    is("late(0)", x.late(0), 0);
    is("late(1)", x.late(1), NONE);
    is("late(2)", x.late(2), -2);
    is("late(-1)", x.late(-1), -2);
    is("sum(0)", x.sum(0), 3);
    is("sum(1)", x.sum(1), 4);
    is("sum(2)", x.sum(2), 3);
    is("sum(3)", x.sum(3), -2);
    is("sum(-1)", x.sum(-1), -2);
    x.hours(2, 1);
    is("sum(2), the last not the most", x.sum(2), 2);
    is("sum(1) then", x.sum(1), 3);
    x.hours(0, 1);
    x.hours(1, 1);
    is("sum(1) at once", x.sum(1), 1);
    is("sum(2) at once", x.sum(2), 1);
    x = Due.townOf("town days 5 post 1; person hours 1 full; person hours 1 full; letter 0 to 1 on 0 hours 3; letter 0 to 1 on 3 hours 1;");
    is("the most is the first", x.sum(2), 2);
    x = Due.townOf(SMALL);
    x.hours(0, 15);
    is("answered on its day; letter 2 hears too late", x.worth(), 50);
    x.hours(0, 19);
    is("answered behind its day", x.late(1), 0);
    is("worth() then", x.worth(), 10);
    is("late(0) then", x.late(0), 2);
    x = Due.townOf(TIED);
    is("worth() of tied", x.worth(), 0);
    is("late(0) of tied", x.late(0), 3);
    is("sum(0) of tied", x.sum(0), 0);
    is("sum(1) of tied", x.sum(1), 0);
    is("sum(2) of tied", x.sum(2), NONE);
    x = Due.townOf("town days 2 post 1;");
    is("worth() of nobody", x.worth(), 0);
    is("late(0) of nobody", x.late(0), 0);
    is("stuck() of nobody", x.stuck(), 0);
    is("untie(0) of nobody", x.untie(0), 0);
    is("instead(0) of nobody", x.instead(0), NONE);
    is("best() of nobody", x.best(), 0);
  }

  /** 24, 25 */
  private static void otherLaws() {
    OldestFirst x = Due.townOf(MORNING);
    int[][] want = {{10, 2, 3, 0}, {25, 2, 3, 0}, {25, 2, 3, 0}};
    for (int law = 0; law < 3; law++) {
      for (int what = 0; what < 4; what++) is("by(" + law + ", 0, " + what + ")", x.by(law, 0, what), want[law][what]);
    }
    is("best(), the least of two", x.best(), 1);
    x.law(1);
    is("best() whatever the law is", x.best(), 1);
    is("worth() stays", x.worth(), 25);
    is("by(0, 0, 4)", x.by(0, 0, 4), -2);
    is("by(0, 0, -1)", x.by(0, 0, -1), -2);
    is("by(4, 0, 0)", x.by(4, 0, 0), -2);
    is("by(-1, 0, 0)", x.by(-1, 0, 0), -2);
    is("by(3, -1, 0)", x.by(3, -1, 0), -2);
    is("by(3, 2000000001, 0)", x.by(3, 2000000001, 0), -2);
    is("by(3, 2000000000, 2)", x.by(3, 2000000000, 2), 3);
    is("by(0, 0, 3) of tied", Due.townOf(TIED).by(0, 0, 3), 2);
    is("by(1, 0, 3) of tied", Due.townOf(TIED).by(1, 0, 3), 1);
    is("best() without a town", new OldestFirst().best(), -2);
    is("by(0, 0, 0) without a town", new OldestFirst().by(0, 0, 0), -2);
    x = Due.townOf("town days 3 post 1; person hours 2 full; person hours 2 full; letter 0 to 1 on 0 hours 4 worth 3 by 1; letter 0 to 1 on 1 hours 2 worth 9 by 1;");
    is("best() is newest, not dearest", x.best(), 1);
    x = Due.townOf("town days 3 post 1; person hours 1 full; person hours 1 full; law lot 1;"
        + "letter 0 to 1 on 0 hours 1 worth 5 by 1; letter 0 to 1 on 0 hours 1 worth 20; letter 0 to 1 on 0 hours 1 worth 5 by 0;");
    // Drawn 2, 0, 1 from seed 1: all in time; by every other law one is late.
    is("worth() by lot", x.worth(), 30);
    for (int law = 0; law < 3; law++) is("by(" + law + ", 1, 0)", x.by(law, 1, 0), 25);
    is("best() is never lot", x.best(), 0);
    x = Due.townOf("town days 3 post 1; person hours 1 full; person hours 1 full;"
        + "letter 0 to 1 on 0 hours 3 worth 5 by 0; letter 0 to 1 on 0 hours 3 worth 9; letter 0 to 1 on 0 hours 1 worth 8 by 0;");
    is("best() is dearest", x.best(), 2);
  }

  /** 26, 27, 28. By oldest, 1 has 4 hours on day 0 and 4 on day 1. */
  private static void orders() {
    OldestFirst x = Due.townOf(MORNING);
    is("order(1, 0)", x.order(1, 0), 45);
    // First 1 (2 hours), then 2 (2 hours of day 0, 2 of day 1), then 0: 20 and 25.
    int[] first = {1, 2, 0};
    for (int i = 0; i < 3; i++) is("place(1, 0, " + i + ")", x.place(1, 0, i), first[i]);
    is("place(1, 0, 3)", x.place(1, 0, 3), NONE);
    is("place(1, 0, -1)", x.place(1, 0, -1), NONE);
    is("worst(1, 0)", x.worst(1, 0), 10);
    is("order(1, 1)", x.order(1, 1), 10);
    is("place(1, 1, 0)", x.place(1, 1, 0), NONE);
    is("worst(1, 1)", x.worst(1, 1), 10);
    is("order(2, 0)", x.order(2, 0), -2);
    is("place(1, 5, 0)", x.place(1, 5, 0), -2);
    is("worst(-1, 0)", x.worst(-1, 0), -2);
    x.law(1);
    is("order by newest", x.order(1, 0), 45);
    int[] newest = {0, 2, 1};
    for (int i = 0; i < 3; i++) is("place by newest " + i, x.place(1, 0, i), newest[i]);
    x.law(2);
    is("order by dearest", x.order(1, 0), 25);
    is("place by dearest", x.place(1, 0, 1), 1);
    StringBuilder many = new StringBuilder("town days 5 post 1; person hours 1 full; person hours 1 full;");
    for (int i = 0; i < 6; i++) many.append("letter 0 to 1 on 2 hours 1 worth ").append(i + 1).append(" by 4;");
    x = Due.townOf(many.toString());
    is("six", x.order(1, 2), 4 + 5 + 6);
    is("six, the first", x.place(1, 2, 0), 3);
    is("six, the last", x.place(1, 2, 5), 2);
    is("six, the worst", x.worst(1, 2), 1 + 2 + 3);
    x = Due.townOf(many + "letter 0 to 1 on 2 hours 1;");
    is("seven", x.order(1, 2), -3);
    is("place of seven", x.place(1, 2, 0), -3);
    is("place of seven beyond", x.place(1, 2, 9), -3);
    is("worst of seven", x.worst(1, 2), -3);
    is("six behind seven", x.order(1, 1), 6);
  }

  /** 29, 30 */
  private static void longestAndJust() {
    OldestFirst x = Due.townOf(SMALL);
    // Letter 0 is due on day 2, by which 1 has 9 hours for it; but letter 2, due on day 5,
    // waits for the answer of letter 1: 2 hears on day 4 at the latest, so letter 1 by day 2.
    is("longest(0)", x.longest(0), 12);
    is("longest(1)", x.longest(1), 12);
    is("longest(2)", x.longest(2), 15);
    is("longest(3)", x.longest(3), -2);
    is("longest(-1)", x.longest(-1), -2);
    is("longest(24)", x.longest(24), -2);
    is("just(0, 0, 0)", x.just(0, 0, 0), 1);
    is("just(0, 0, 1)", x.just(0, 0, 1), 6);
    is("just(0, 9, 1)", x.just(0, 9, 1), 60);
    is("just(2, 2, 0)", x.just(2, 2, 0), NONE);
    is("just(2, 3, 1)", x.just(2, 3, 1), 5);
    is("just(0, 10, 0)", x.just(0, 10, 0), -2);
    is("just(0, -1, 0)", x.just(0, -1, 0), -2);
    is("just(3, 0, 0)", x.just(3, 0, 0), -2);
    is("just(0, 0, 2)", x.just(0, 0, 2), -2);
    is("hours stay", x.letter(0, 3), 6);
  }

  /** 31, 32 */
  private static void stopAndHold() {
    OldestFirst x = Due.townOf(MORNING);
    // As it is: on days 0, 1 (2 hours of it), 2 (2 of 4 hours on day 1, 2 on day 2).
    is("answered(1)", x.answered(1), 1);
    is("answered(2)", x.answered(2), 2);
    x.law(1);
    // By newest: 2 on day 0, 1 and half of 0 on day 1, 0 on day 2; 48 comes ahead of all.
    is("stop, how many", x.stop(0, 1, 0, 4, 0), 3);
    is("stop, days", x.stop(0, 1, 0, 4, 1), 3);
    is("stop, whom", x.stop(0, 1, 0, 4, 2), 2);
    is("stop, worth", x.stop(0, 1, 0, 4, 3), 0);
    is("stop longer, worth", x.stop(0, 1, 0, 8, 3), 25);
    is("stop longest, how many", x.stop(0, 1, 0, 99, 0), 3);
    is("stop longest, days", x.stop(0, 1, 0, 99, 1), 5 + 4 + 3);
    is("stop another", x.stop(1, 0, 0, 99, 0), 0);
    is("stop(0, 0)", x.stop(0, 0, 0, 1, 0), -2);
    is("stop(2, 1)", x.stop(2, 1, 0, 1, 0), -2);
    is("stop(0, -1)", x.stop(0, -1, 0, 1, 0), -2);
    is("stop on 5", x.stop(0, 1, 5, 1, 0), -2);
    is("stop of 0", x.stop(0, 1, 0, 0, 0), -2);
    is("stop of 100", x.stop(0, 1, 0, 100, 0), -2);
    is("stop what 4", x.stop(0, 1, 0, 1, 4), -2);
    is("hold 2 by day 0", x.hold(0, 1, 0, 2, 0), 1);
    is("hold 2 by day 1", x.hold(0, 1, 0, 2, 1), 5);
    is("hold 0 by day 4", x.hold(0, 1, 0, 0, 4), 11);
    is("hold by another's", x.hold(1, 0, 0, 0, 4), NONE);
    is("hold what is late", x.hold(1, 0, 0, 0, 1), 1);
    is("hold(1, 1)", x.hold(1, 1, 0, 0, 1), -2);
    is("hold of 3", x.hold(1, 0, 0, 3, 1), -2);
    is("hold until 5", x.hold(1, 0, 0, 0, 5), -2);
    is("hold on 5", x.hold(1, 0, 5, 0, 1), -2);
    is("nothing more lies there", x.pile(1, 0), 3);
    x = Due.townOf(TIED);
    // A letter of 3's lets 1 answer, and then 0: there is more worth, not less.
    is("stop that helps", x.stop(3, 1, 0, 1, 3), -55);
    is("stop that helps, how many", x.stop(3, 1, 0, 1, 0), 0);
  }

  /** 33, 34, 35 */
  private static void visits() {
    OldestFirst x = Due.townOf(TIED);
    is("visit(2, 0, 0): 0 hears from 1", x.visit(2, 0, 0), 35);
    is("visit(2, 5, 3): an hour is enough of a start", x.visit(2, 5, 3), 5);
    is("visit(2, 5, 2)", x.visit(2, 5, 2), 35);
    is("visit(2, 5, 24)", x.visit(2, 5, 24), 5);
    is("visit(1, 0, 0): then 1 goes on", x.visit(1, 0, 0), 55);
    is("visit(0, 0, 0)", x.visit(0, 0, 0), 30);
    is("visit(3, 0, 0)", x.visit(3, 0, 0), -2);
    is("visit(-1, 0, 0)", x.visit(-1, 0, 0), -2);
    is("visit(0, 6, 0)", x.visit(0, 6, 0), -2);
    is("visit(0, 0, 25)", x.visit(0, 0, 25), -2);
    is("visit(0, 0, -1)", x.visit(0, 0, -1), -2);
    is("pays(2, 1)", x.pays(2, 1), 0);
    is("pays(3, 1)", x.pays(3, 1), -2);
    is("pays(2, 25)", x.pays(2, 25), -2);
    is("pays(2, -1)", x.pays(2, -1), -2);
    is("instead(0)", x.instead(0), 1);
    is("instead(24)", x.instead(24), 1);
    is("instead(25)", x.instead(25), -2);
    is("instead(-1)", x.instead(-1), -2);
    is("nobody went", x.worth(), 0);
    x = Due.townOf("town days 3 post 1; person hours 2 full; person hours 2 full;"
        + "letter 0 to 1 on 1 hours 9 worth 5; letter 1 to 0 on 1 hours 4 worth 7;");
    is("as it is", x.worth(), 7);
    is("not there yet, hours gone", x.visit(0, 0, 2), 7);
    is("hours gone", x.visit(0, 1, 1), 5);
    is("no hours gone", x.visit(0, 1, 0), 12);
    is("not yet, and no day lost", x.pays(0, 0), 1);
    is("it costs more than it gives", x.pays(0, 1), NONE);
    is("none pays", x.instead(3), NONE);
    x = Due.townOf("town days 3 post 1; person hours 2 full; person hours 2 full;"
        + "letter 0 to 1 on 1 hours 9 worth 5; letter 1 to 0 on 1 hours 9 worth 7;");
    is("the last letter pays most", x.instead(2), 1);
    x = Due.townOf("town days 4 post 1; person hours 2 full; person hours 2 full; person hours 2 full;"
        + "letter 0 to 1 on 0 hours 1 back 1 worth 5; letter 0 to 2 on 2 hours 2 worth 7 by 2;");
    is("all is well", x.worth(), 12);
    is("no visit pays", x.instead(0), NONE);
    is("no day pays", x.pays(1, 0), NONE);
  }

  /** 36 */
  private static void burnings() {
    OldestFirst x = Due.townOf(TIED);
    is("burn ahead of the post", x.burn(1, 0), 0);
    is("burn what lies", x.burn(1, 1), 0);
    x = Due.townOf(MORNING);
    is("burn(1, 1)", x.burn(1, 1), 10);
    is("burn(1, 2)", x.burn(1, 2), 10);
    is("burn(0, 1)", x.burn(0, 1), 10);
    is("burn(2, 0)", x.burn(2, 0), -2);
    is("burn(-1, 0)", x.burn(-1, 0), -2);
    is("burn(0, 5)", x.burn(0, 5), -2);
    is("burn(0, -1)", x.burn(0, -1), -2);
    x = Due.townOf("town days 4 post 1; person hours 2 full; person hours 2 full;"
        + "letter 0 to 1 on 0 hours 9 worth 5; letter 0 to 1 on 1 hours 2 worth 7;");
    is("nothing is done", x.worth(), 0);
    is("the newer one comes behind", x.burn(1, 1), 7);
    is("it burns, too", x.burn(1, 2), 0);
    is("still there", x.pile(1, 3), 3);
  }

  /** 37 */
  private static void untying() {
    OldestFirst x = Due.townOf(TIED);
    is("untie(0)", x.untie(0), 1);
    is("untie(1)", x.untie(1), 2);
    is("untie(2)", x.untie(2), -2);
    is("untie(-1)", x.untie(-1), -2);
    is("untie(0) of none stuck", Due.townOf(SMALL).untie(0), 0);
    is("untie(1) of none stuck", Due.townOf(SMALL).untie(1), 0);
    is("untie(0) of rings", Due.townOf(RINGS).untie(0), 6);
    is("untie(1) of rings", Due.townOf(RINGS).untie(1), 63);
    x.law(1);
    // By newest 1 answers 0 at once, and is stuck himself all the same.
    is("untie(1) by newest", x.untie(1), 2);
    StringBuilder many = new StringBuilder("town days 2 post 1; person hours 1 full; person hours 1 full; person hours 1 full;");
    for (int i = 0; i < 12; i++) many.append("letter 0 to 1 on 0 hours 9 after 2;");
    is("untie(0) of twelve", Due.townOf(many.toString()).untie(0), 12);
    is("untie(1) of twelve", Due.townOf(many.toString()).untie(1), 4095);
    is("untie(0) of thirteen", Due.townOf(many + "letter 0 to 1 on 1 hours 9;").untie(0), -3);
    is("untie(1) of thirteen", Due.townOf(many + "letter 0 to 1 on 1 hours 9;").untie(1), -3);
    is("untie(2) of thirteen", Due.townOf(many + "letter 0 to 1 on 1 hours 9;").untie(2), -2);
  }

  /** 38. From seed 1 x becomes 1103527590, 377401575: draws 16838, 5758, then by their numbers. */
  private static void lots() {
    String two = "town days 3 post 1; person hours 1 full; person hours 1 full;"
        + "letter 0 to 1 on 0 hours 1 worth 3 by 0; letter 0 to 1 on 0 hours 1 worth 4 by 0; letter 0 to 1 on 0 hours 1 worth 5 by 0;";
    OldestFirst x = Due.townOf(two + "law lot 1;");
    // 16838 modulo 3 is 2; 5758 modulo 2 is 0.
    is("drawn first", x.answered(2), 0);
    is("drawn next", x.answered(0), 1);
    is("drawn last", x.answered(1), 2);
    is("worth() by lot", x.worth(), 5);
    is("by(3, 1, 0)", x.by(3, 1, 0), 5);
    is("chance of one lot", x.chance(2, 1, 1, 0), 1);
    is("chance of another", x.chance(0, 1, 1, 0), 0);
    is("days of one lot", x.chance(0, 1, 1, 1), 1);
    int inTime = 0;
    int days = 0;
    for (int seed = 5; seed < 25; seed++) {
      inTime += x.by(3, seed, 0) == 3 ? 1 : 0;
      days += x.chance(0, seed, 1, 1);
    }
    is("chance of twenty", x.chance(0, 5, 20, 0), inTime);
    is("days of twenty", x.chance(0, 5, 20, 1), days);
    x.law(0);
    is("by lot, whatever the law is", x.chance(0, 5, 20, 0), inTime);
    is("chance of 0 lots", x.chance(0, 5, 0, 0), -2);
    is("chance of 21 lots", x.chance(0, 5, 21, 0), -2);
    is("chance what 2", x.chance(0, 5, 1, 2), -2);
    is("chance what -1", x.chance(0, 5, 1, -1), -2);
    is("chance of 3", x.chance(3, 5, 1, 0), -2);
    is("chance of -1", x.chance(-1, 5, 1, 0), -2);
    is("chance from -1", x.chance(0, -1, 1, 0), -2);
    is("chance from the greatest", x.chance(0, 2000000000, 20, 0) >= 0 ? 1 : 0, 1);
    StringBuilder five = new StringBuilder("town days 6 post 1; person hours 1 full; person hours 1 full; law lot 0;");
    for (int i = 0; i < 5; i++) five.append("letter 0 to 1 on 0 hours 1;");
    // From seed 0: 0 of 5, 21468 of 4, 9988 of 3, 22117 of 2.
    x = Due.townOf(five.toString());
    int[] drawn = {0, 1, 3, 4, 2};
    for (int day = 0; day < 5; day++) is("drawn on day " + day, x.answered(drawn[day]), day);
    x = Due.townOf(TIED);
    is("not answered: all days", x.chance(1, 7, 3, 1), 18);
    is("not answered: never in time", x.chance(1, 7, 3, 0), 0);
  }

  /** 39 */
  private static void judging() {
    OldestFirst x = Due.townOf(SMALL);
    is("judge(0) of nothing", x.judge(0), -6);
    is("judge(4)", x.judge(4), -2);
    is("judge(-1)", x.judge(-1), -2);
    x.row(0, 0, 3);
    is("judge(0) of noughts", x.judge(0), 1);
    x.write(0, 1, 1);
    x.write(0, 2, 2);
    is("judge(0), all so", x.judge(0), 3);
    x.row(1, 3, 2);
    is("paste", x.write(1, 1, 1), 0);
    is("judge(1), so as far as it goes", x.judge(1), 2);
    x.write(1, 1, 257);
    is("judge(1), not cut", x.judge(1), 1);
    x.row(2, 2, 60);
    x.write(2, 1, 1);
    x.write(2, 2, 2);
    is("judge(2), more than there are", x.judge(2), 3);
    x.row(3, 1, 0);
    is("judge(3) of no numbers", x.judge(3), 0);
    x = new OldestFirst();
    x.row(0, 0, 1);
    is("judge(0) without a town", x.judge(0), -2);
    x = Due.townOf("town days 3 post 1; person hours 4 full; person hours 1 full; person hours 4 clerk 1;"
        + "letter 0 to 2 on 0 hours 1; letter 2 to 1 on 0 hours 1; letter 0 to 1 on 0 hours 1; letter 1 to 0 on 0 hours 1;");
    x.row(0, 0, 4);
    int[] done = {3, 1, 0, 2};
    for (int i = 0; i < 4; i++) x.write(0, i, done[i]);
    is("of one day, as it is done", x.judge(0), 4);
  }

  /** 40 */
  private static void counting() {
    OldestFirst x = Due.townOf(SMALL + "law lot 9999;");
    int[] want = {3, 3, 10, 2, 3, 8, 0, 9999, 0};
    for (int what = 0; what < want.length; what++) is("count(" + what + ")", x.count(what), want[what]);
    is("count(9)", x.count(9), NONE);
    is("count(-1)", x.count(-1), NONE);
    x.feed(0, 0, 0, 0, 0);
    x.row(3, 0, 0);
    is("count(6)", x.count(6), 20);
    is("count(8)", x.count(8), 1);
  }

  /** 41, 42 */
  private static void images() {
    OldestFirst x = Due.townOf(SMALL);
    is("keep(-1)", x.keep(-1), -2);
    is("keep(3)", x.keep(3), -2);
    is("back(-1)", x.back(-1), -2);
    is("back(3)", x.back(3), -2);
    is("back(2)", x.back(2), -6);
    is("keep(2)", x.keep(2), 0);
    x.hours(0, 99);
    x.law(2);
    is("keep(1)", x.keep(1), 0);
    Due.feed(x, TIED);
    is("another town", x.town(), 8);
    is("back(2)", x.back(2), 0);
    is("worth() again", x.worth(), 110);
    is("law again", x.count(4), 0);
    is("lines again", x.count(5), 7);
    is("hours again", x.letter(0, 3), 6);
    is("back(1)", x.back(1), 0);
    is("hours then", x.letter(0, 3), 99);
    is("law then", x.count(4), 2);
    x.town();
    is("none", x.worth(), -2);
    is("keep(0) of none", x.keep(0), 0);
    x.back(1);
    is("some", x.count(1), 3);
    Due.feed(x, "town");
    is("back(0)", x.back(0), 0);
    is("none again", x.stuck(), -2);
    is("the tape stays", x.count(6), 4);
  }

  /** 43, 44, 45 */
  private static void slots() {
    OldestFirst x = Due.townOf(SMALL);
    is("row(-1)", x.row(-1, 0, 1), -2);
    is("row(4)", x.row(4, 0, 1), -2);
    is("row of width 4", x.row(0, 4, 1), -2);
    is("row of width -1", x.row(0, -1, 1), -2);
    is("row of 61", x.row(0, 0, 61), -2);
    is("row of HIGH", x.row(0, 0, HIGH), -2);
    is("row of -1", x.row(0, 0, -1), -3);
    is("row of -1, width 4", x.row(0, 4, -1), -2);
    is("none yet", x.count(8), 0);
    is("row of 60", x.row(0, 0, 60), 0);
    is("write 59", x.write(0, 59, 1), 0);
    is("write 60", x.write(0, 60, 1), -7);
    is("write -1", x.write(0, -1, 1), -7);
    is("write to nothing", x.write(1, 0, 1), -6);
    is("write to 4", x.write(4, 0, 1), -2);
    is("write to -1", x.write(-1, 0, 1), -2);
    is("row of LOW", x.row(0, 0, LOW), -3);
    is("it stays", x.write(0, 59, 1), 0);
    long[] ones = {0x7f01L << 8 | 1, 0x7f0001L << 8 >> 8 << 16 | 1, 0x7f00000001L, 1L};
    for (int width = 0; width < 4; width++) {
      x.row(1, width, 2);
      x.write(1, 1, ones[width]);
      is("cut to width " + width, x.judge(1), 2);
      x.row(1, width, 2);
      is("all 0 again", x.judge(1), 1);
      if (width < 3) {
        x.row(1, width + 1, 2);
        x.write(1, 1, ones[width]);
        is("not cut to width " + width, x.judge(1), 1);
      }
    }
    pasting(x);
  }

  private static void pasting(OldestFirst x) {
    x.row(0, 2, 5);
    for (int i = 0; i < 5; i++) x.write(0, i, i);
    x.row(1, 2, 3);
    x.row(2, 1, 3);
    is("paste from -1", x.paste(-1, 0, 1, 0, 1), -2);
    is("paste to 4", x.paste(0, 0, 4, 0, 1), -2);
    is("paste to nothing", x.paste(0, 0, 3, 0, 1), -6);
    is("paste from nothing", x.paste(3, 0, 0, 0, 1), -6);
    is("paste to another width", x.paste(0, 0, 2, 0, 9), -8);
    is("paste beyond", x.paste(0, 3, 1, 0, 3), -7);
    is("paste to beyond", x.paste(0, 0, 1, 1, 3), -7);
    is("paste from below", x.paste(0, -1, 1, 0, 1), -7);
    is("paste to below", x.paste(0, 0, 1, -1, 1), -7);
    is("paste below none", x.paste(0, 0, 1, 0, -1), -7);
    is("paste far beyond", x.paste(0, HIGH, 1, 0, HIGH), -7);
    is("nothing happened", x.judge(1), 1);
    is("paste none", x.paste(0, 5, 1, 3, 0), 0);
    is("paste three", x.paste(0, 0, 1, 0, 3), 0);
    is("they came", x.judge(1), 3);
    is("paste upon itself, up", x.paste(0, 0, 0, 2, 3), 0);
    is("as they were, behind", x.judge(0), 2);
    is("paste upon itself, down", x.paste(0, 2, 0, 0, 3), 0);
    is("as they were, ahead", x.judge(0), 3);
    is("paste back", x.paste(0, 2, 1, 0, 3), 0);
    // Slot 0 is 0 1 2 1 2 now.
    is("what came", x.judge(1), 0);
  }

  /** II: a clerk goes on with another's, by what that one has heard. */
  private static void clerks() {
    String people = "town days 4 post 1; person hours 1 short; person hours 6 clerk 0; person hours 1 full;";
    OldestFirst x = Due.townOf(people + "letter 2 to 1 on 0 hours 1; letter 2 to 0 on 0 hours 9;");
    is("his own first", x.answered(0), 0);
    is("the other's, as short as it is to him", x.answered(1), 0);
    is("used hours", x.idle(1, 0), 6 - 1 - 4);
    x = Due.townOf(people + "letter 0 to 1 on 0 hours 1 after 2; letter 2 to 0 on 0 hours 9;");
    is("he stands still for himself", x.waits(1, 0), 2);
    is("and does not go on", x.needs(1, 0), 4);
    is("hours not used", x.idle(1, 0), 6);
    x = Due.townOf(people + "letter 2 to 1 on 0 hours 1; letter 2 to 0 on 0 hours 9 after 1;");
    is("heard by the other one, not by him", x.answered(1), NONE);
    is("he stands still for nobody", x.waits(1, 3), NONE);
    is("but his day is over", x.idle(1, 3), 6);
    is("the other one is stuck", x.stuck(), 1);
    x = Due.townOf(people + "letter 1 to 0 on 0 hours 9 after 2; letter 2 to 0 on 1 hours 9;");
    is("as soon as the other one has heard", x.answered(0), 1);
    is("and the next", x.answered(1), 2);
    x = Due.townOf("town days 7 post 1; person hours 1 sunday; person hours 6 clerk 0; person hours 1 full; letter 1 to 0 on 0 hours 9 after 2;");
    is("whom he works for is not stuck on a sunday", x.stuck(), 0);
    is("nor waits", x.waits(0, 6), NONE);
    x = Due.townOf("town days 7 post 1; person hours 1 sunday; person hours 6 clerk 0; person hours 1 full; letter 1 to 0 on 6 hours 5;");
    is("a clerk works on the other's sunday", x.answered(0), 6);
    x = Due.townOf("town days 3 post 1; person hours 1 full; person hours 1 clerk 0; person hours 1 clerk 1; letter 1 to 0 on 0 hours 3;");
    is("a clerk's clerk has his pile alone", x.answered(0), 1);
    is("and is idle", x.idle(2, 0), 1);
  }

  /** II: what hours are needed, by kinds. */
  private static void kinds() {
    OldestFirst x = Due.townOf("town days 15 post 1; person hours 1 worrier; person hours 1 short; person hours 1 sunday;"
        + "letter 1 to 0 on 0 hours 3 worth 50; letter 1 to 0 on 6 hours 3 worth 49;"
        + "letter 0 to 1 on 0 hours 1 back 4; letter 0 to 1 on 1 hours 4; letter 0 to 2 on 5 hours 9;");
    is("twice", x.answered(0), 5);
    is("once, behind the answer that came on day 1", x.answered(1), 12);
    is("half, rounded up", x.answered(2), 0);
    is("half", x.answered(3), 2);
    is("an answer to a worrier", x.answered(26), 9);
    is("none on the sundays 6 and 13", x.answered(4), NONE);
    is("left on day 12", x.needs(4, 12), 2);
    is("left on day 13", x.needs(4, 13), 2);
    is("left on day 14", x.needs(4, 14), 1);
  }
}
