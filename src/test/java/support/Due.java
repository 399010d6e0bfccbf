/** Counts answers that are not due, and feeds texts. */
final class Due {
  private int wrong = 0;
  private int asked = 0;

  void is(String call, long got, long want) {
    asked++;
    if (got != want) {
      wrong++;
      if (wrong <= 40) {
        System.out.println(call + " answered " + got + ", due is " + want);
      }
    }
  }

  int wrong() {
    return wrong;
  }

  /** The last line of every test: its exit code tells whether it passed. */
  void close(String name) {
    System.out.println(name + ": " + asked + " answers, " + wrong + " not as due");
    if (wrong != 0 || asked == 0) {
      System.exit(1);
    }
  }

  /** Puts a text on the tape, behind what is there. */
  static void feed(OldestFirst x, String text) {
    int had = x.count(6);
    for (int at = 0; at < text.length(); at += 20) {
      int[] five = new int[5];
      for (int i = 0; i < 20; i++) {
        int sign = at + i < text.length() ? text.charAt(at + i) & 255 : 0;
        five[i / 4] |= sign << (24 - 8 * (i % 4));
      }
      x.feed(five[0], five[1], five[2], five[3], five[4]);
    }
    x.end(had + text.length());
  }

  /** A new object with the town of a text. */
  static OldestFirst townOf(String text) {
    OldestFirst x = new OldestFirst();
    feed(x, text);
    if (x.town() < 0) {
      throw new IllegalStateException("fault " + x.fault(0) + " at " + x.fault(1) + " in " + text);
    }
    return x;
  }
}
