import java.util.Arrays;

/** A town of people who write letters, told as a text, and what becomes of their letters. */
public final class OldestFirst {
    public static final int NONE = -1;

    private static final int NO_SUCH = -2;
    private static final int TOO_MANY = -3;
    private static final int BELOW_ZERO = -3;
    private static final int FAULTY = -4;
    private static final int HAS_NOTHING = -6;
    private static final int BEYOND = -7;
    private static final int OTHER_WIDTH = -8;

    private static final int MOST_PEOPLE = 8;
    private static final int MOST_TOLD = 24;
    private static final int EXTRA = 48;
    private static final int MOST_LETTERS = 49;
    private static final int MOST_DAYS = 40;
    private static final int MOST_HOURS = 99;
    private static final int MOST_VISIT = 24;
    private static final int MOST_SEED = 2000000000;
    private static final int MOST_LOTS = 20;
    private static final int MOST_ORDERED = 6;
    private static final int MOST_UNTIED = 12;
    private static final int IMAGES = 3;
    private static final int SLOTS = 4;

    private static final int OLDEST = 0;
    private static final int NEWEST = 1;
    private static final int DEAREST = 2;
    private static final int LOT = 3;

    private static final int FULL = 0;
    private static final int SHORT = 1;
    private static final int SUNDAY = 2;
    private static final int WORRIER = 3;
    private static final int CLERK = 4;

    private final Tape tape = new Tape();
    private final Reader reader = new Reader(tape);
    private final Town current = new Town();
    private final Town[] images = new Town[IMAGES];
    private final boolean[] kept = new boolean[IMAGES];
    private final Slot[] slots = new Slot[SLOTS];
    private final Diary diary = new Diary();
    private final Run base = new Run(diary);
    private final Run trial = new Run(null);
    private final Plan plan = new Plan();
    private final Orders orders = new Orders();
    private final int[] unanswered = new int[MOST_UNTIED];
    private boolean baseKnown = false;
    private boolean untieKnown = false;
    private int untieSet = NONE;

    public OldestFirst() {
        for (int k = 0; k < IMAGES; k++) {
            images[k] = new Town();
        }
        for (int s = 0; s < SLOTS; s++) {
            slots[s] = new Slot();
        }
    }

    // ---- the text

    public int feed(int a, int b, int c, int d, int e) {
        if (!tape.hasRoom()) {
            return NONE;
        }
        tape.append(a);
        tape.append(b);
        tape.append(c);
        tape.append(d);
        tape.append(e);
        return tape.length;
    }

    public int end(int n) {
        if (n < 0 || n > tape.length) {
            return NONE;
        }
        tape.length = n;
        return n;
    }

    public int town() {
        if (!reader.readAll()) {
            return FAULTY;
        }
        current.copyFrom(reader.town);
        tape.length = 0;
        changed();
        return current.lines;
    }

    public int fault(int what) {
        if (what == 0) {
            return reader.fault;
        }
        return what == 1 ? reader.faultPlace : NONE;
    }

    // ---- what is told

    public int person(int person, int what) {
        if (!current.isPerson(person)) {
            return NO_SUCH;
        }
        switch (what) {
            case 0:
                return current.hours[person];
            case 1:
                return current.kind[person];
            case 2:
                return current.master[person];
            default:
                return NO_SUCH;
        }
    }

    public int letter(int letter, int what) {
        if (!current.isLetter(letter)) {
            return NO_SUCH;
        }
        switch (what) {
            case 0:
                return current.from[letter];
            case 1:
                return current.to[letter];
            case 2:
                return letter < MOST_TOLD ? current.on[letter] : asItIs().came[letter];
            case 3:
                return current.told[letter];
            case 4:
                return letter < MOST_TOLD ? current.told[letter + MOST_TOLD] : 0;
            case 5:
                return current.after[letter];
            case 6:
                return current.worth[letter];
            case 7:
                return current.by[letter];
            default:
                return NO_SUCH;
        }
    }

    public int hours(int letter, int n) {
        if (!current.isTold(letter) || n < 1 || n > MOST_HOURS) {
            return NO_SUCH;
        }
        int was = current.told[letter];
        current.told[letter] = n;
        changed();
        return was;
    }

    public int law(int law) {
        if (noTown() || law < OLDEST || law > LOT) {
            return NO_SUCH;
        }
        int was = current.law;
        current.law = law;
        changed();
        return was;
    }

    // ---- what becomes of the letters

    public int answered(int letter) {
        return current.isLetter(letter) ? asItIs().doneOn[letter] : NO_SUCH;
    }

    public int comes(int letter) {
        if (!current.isLetter(letter)) {
            return NO_SUCH;
        }
        int done = asItIs().doneOn[letter];
        if (done == NONE || !current.isDay(done + current.post)) {
            return NONE;
        }
        return done + current.post;
    }

    public int needs(int letter, int day) {
        if (!current.isLetter(letter) || !current.isDay(day)) {
            return NO_SUCH;
        }
        asItIs();
        return diary.needs[day * MOST_LETTERS + letter];
    }

    public long pile(int person, int day) {
        if (!current.isPerson(person) || !current.isDay(day)) {
            return NO_SUCH;
        }
        asItIs();
        return diary.piles[day * MOST_PEOPLE + person];
    }

    public int idle(int person, int day) {
        if (!current.isPerson(person) || !current.isDay(day)) {
            return NO_SUCH;
        }
        asItIs();
        return diary.idle[day * MOST_PEOPLE + person];
    }

    public int waits(int person, int day) {
        if (!current.isPerson(person) || !current.isDay(day)) {
            return NO_SUCH;
        }
        asItIs();
        return diary.waits[day * MOST_PEOPLE + person];
    }

    public int top(int person, int day) {
        if (!current.isPerson(person) || !current.isDay(day)) {
            return NO_SUCH;
        }
        if (current.law == LOT) {
            return NONE;
        }
        Run run = asItIs();
        long lying = diary.piles[day * MOST_PEOPLE + person];
        int first = NONE;
        for (int l = 0; l < MOST_LETTERS; l++) {
            if ((lying >> l & 1L) != 0 && (first == NONE || run.key[l] < run.key[first])) {
                first = l;
            }
        }
        return first;
    }

    public int under(int letter, int day) {
        if (!current.isLetter(letter) || !current.isDay(day)) {
            return NO_SUCH;
        }
        Run run = asItIs();
        long lying = diary.piles[day * MOST_PEOPLE + current.to[letter]];
        if (current.law == LOT || (lying >> letter & 1L) == 0) {
            return NONE;
        }
        int ahead = 0;
        for (int l = 0; l < MOST_LETTERS; l++) {
            if ((lying >> l & 1L) != 0 && run.key[l] < run.key[letter]) {
                ahead++;
            }
        }
        return ahead;
    }

    public int heard(int person, int other) {
        if (!current.isPerson(person) || !current.isPerson(other) || person == other) {
            return NO_SUCH;
        }
        return asItIs().heardOn[person * MOST_PEOPLE + other];
    }

    public int stuck() {
        return noTown() ? NO_SUCH : asItIs().stuckPeople();
    }

    public int ring(int what) {
        if (noTown() || what < 0 || what > 1) {
            return NO_SUCH;
        }
        Run run = asItIs();
        int first = NONE;
        int rings = 0;
        int seen = 0;
        for (int p = 0; p < MOST_PEOPLE; p++) {
            int people = (seen >> p & 1) == 0 ? run.ringOf(p) : 0;
            if (people != 0) {
                seen |= people;
                first = rings == 0 ? people : first;
                rings++;
            }
        }
        return what == 0 ? first : rings;
    }

    public int worth() {
        return noTown() ? NO_SUCH : asItIs().worthIn(current);
    }

    public int late(int what) {
        if (noTown() || what < 0 || what > 1) {
            return NO_SUCH;
        }
        Run run = asItIs();
        if (what == 0) {
            return run.lateIn(current);
        }
        for (int l = 0; l < current.letters; l++) {
            if (!run.inTime(current, l)) {
                return l;
            }
        }
        return NONE;
    }

    public int sum(int what) {
        if (noTown() || what < 0 || what > 2) {
            return NO_SUCH;
        }
        Run run = asItIs();
        if (what == 0) {
            return run.answeredIn(current);
        }
        int together = 0;
        int most = NONE;
        for (int l = 0; l < current.letters; l++) {
            if (run.doneOn[l] != NONE) {
                int days = run.doneOn[l] - current.on[l];
                together += days;
                most = Math.max(most, days);
            }
        }
        return what == 1 ? together : most;
    }

    // ---- other laws

    public int by(int law, int seed, int what) {
        if (noTown() || law < OLDEST || law > LOT || !isSeed(seed) || what < 0 || what > 3) {
            return NO_SUCH;
        }
        plan.take(current);
        plan.town.law = law;
        plan.town.seed = seed;
        trial.go(plan);
        switch (what) {
            case 0:
                return trial.worthIn(current);
            case 1:
                return trial.lateIn(current);
            case 2:
                return trial.answeredIn(current);
            default:
                return Integer.bitCount(trial.stuckPeople());
        }
    }

    public int best() {
        if (noTown()) {
            return NO_SUCH;
        }
        plan.take(current);
        int best = NONE;
        int most = 0;
        for (int law = OLDEST; law <= DEAREST; law++) {
            plan.town.law = law;
            trial.go(plan);
            int worth = trial.worthIn(current);
            if (best == NONE || worth > most) {
                best = law;
                most = worth;
            }
        }
        return best;
    }

    // ---- orders of one morning's post

    public int order(int person, int day) {
        int refused = findOrders(person, day);
        return refused != 0 ? refused : orders.most;
    }

    public int place(int person, int day, int i) {
        int refused = findOrders(person, day);
        if (refused != 0) {
            return refused;
        }
        return i < 0 || i >= orders.count || i >= MOST_ORDERED ? NONE : orders.best[i];
    }

    public int worst(int person, int day) {
        int refused = findOrders(person, day);
        return refused != 0 ? refused : orders.least;
    }

    // ---- hours

    public int longest(int letter) {
        if (!current.isTold(letter)) {
            return NO_SUCH;
        }
        int worth = asItIs().worthIn(current);
        plan.take(current);
        for (int n = MOST_HOURS; n >= 1; n--) {
            plan.town.told[letter] = n;
            trial.go(plan);
            if (trial.worthIn(current) >= worth) {
                return n;
            }
        }
        return NONE;
    }

    public int just(int letter, int day, int what) {
        if (!current.isTold(letter) || !current.isDay(day) || what < 0 || what > 1) {
            return NO_SUCH;
        }
        plan.take(current);
        for (int i = 1; i <= MOST_HOURS; i++) {
            int n = what == 0 ? i : MOST_HOURS + 1 - i;
            plan.town.told[letter] = n;
            trial.go(plan);
            if (trial.doneBy(letter, day)) {
                return n;
            }
        }
        return NONE;
    }

    // ---- a letter to hold one up

    public int stop(int from, int to, int day, int n, int what) {
        if (!isLetterMore(from, to, day) || n < 1 || n > MOST_HOURS || what < 0 || what > 3) {
            return NO_SUCH;
        }
        Run run = asItIs();
        plan.take(current);
        plan.addLetter(from, to, day, n);
        trial.go(plan);
        if (what == 3) {
            return run.worthIn(current) - trial.worthIn(current);
        }
        int letters = 0;
        int days = 0;
        int people = 0;
        for (int l = 0; l < current.letters; l++) {
            int then = trial.doneOn[l] == NONE ? current.days : trial.doneOn[l];
            if (run.doneOn[l] != NONE && then > run.doneOn[l]) {
                letters++;
                days += then - run.doneOn[l];
                people |= 1 << current.to[l];
            }
        }
        if (what == 0) {
            return letters;
        }
        return what == 1 ? days : people;
    }

    public int hold(int from, int to, int day, int letter, int until) {
        if (!isLetterMore(from, to, day) || !current.isTold(letter) || !current.isDay(until)) {
            return NO_SUCH;
        }
        plan.take(current);
        for (int n = 1; n <= MOST_HOURS; n++) {
            plan.addLetter(from, to, day, n);
            trial.go(plan);
            if (!trial.doneBy(letter, until)) {
                return n;
            }
        }
        return NONE;
    }

    // ---- visits and burnings

    public int visit(int letter, int day, int n) {
        if (!current.isTold(letter) || !current.isDay(day) || !isVisit(n)) {
            return NO_SUCH;
        }
        plan.take(current);
        plan.addVisit(letter, day, n);
        trial.go(plan);
        return trial.worthIn(current);
    }

    public int pays(int letter, int n) {
        if (!current.isTold(letter) || !isVisit(n)) {
            return NO_SUCH;
        }
        int most = asItIs().worthIn(current);
        int first = NONE;
        plan.take(current);
        for (int day = 0; day < current.days; day++) {
            plan.addVisit(letter, day, n);
            trial.go(plan);
            int worth = trial.worthIn(current);
            if (worth > most) {
                most = worth;
                first = day;
            }
        }
        return first;
    }

    public int instead(int n) {
        if (noTown() || !isVisit(n)) {
            return NO_SUCH;
        }
        int most = asItIs().worthIn(current);
        int first = NONE;
        plan.take(current);
        for (int l = 0; l < current.letters; l++) {
            for (int day = 0; day < current.days; day++) {
                plan.addVisit(l, day, n);
                trial.go(plan);
                int worth = trial.worthIn(current);
                if (worth > most) {
                    most = worth;
                    first = l;
                }
            }
        }
        return first;
    }

    public int burn(int person, int day) {
        if (!current.isPerson(person) || !current.isDay(day)) {
            return NO_SUCH;
        }
        plan.take(current);
        plan.addBurning(person, day);
        trial.go(plan);
        return trial.worthIn(current);
    }

    // ---- what must not be written

    public int untie(int what) {
        if (noTown() || what < 0 || what > 1) {
            return NO_SUCH;
        }
        Run run = asItIs();
        int open = current.letters - run.answeredIn(current);
        if (open > MOST_UNTIED) {
            return TOO_MANY;
        }
        if (!untieKnown) {
            listUnanswered(run);
            untieSet = leastUntying(open);
            untieKnown = true;
        }
        return what == 1 || untieSet == NONE ? untieSet : Integer.bitCount(untieSet);
    }

    // ---- lots

    public int chance(int letter, int seed, int n, int what) {
        if (!current.isTold(letter) || !isSeed(seed) || n < 1 || n > MOST_LOTS || what < 0 || what > 1) {
            return NO_SUCH;
        }
        plan.take(current);
        plan.town.law = LOT;
        int inTime = 0;
        int days = 0;
        for (int i = 0; i < n; i++) {
            plan.town.seed = seed + i;
            trial.go(plan);
            inTime += trial.inTime(current, letter) ? 1 : 0;
            days += trial.doneOn[letter] == NONE ? current.days : trial.doneOn[letter];
        }
        return what == 0 ? inTime : days;
    }

    public int judge(int slot) {
        if (noTown() || !isSlot(slot)) {
            return NO_SUCH;
        }
        Slot row = slots[slot];
        if (!row.used) {
            return HAS_NOTHING;
        }
        Run run = asItIs();
        int right = 0;
        for (int i = 0; i < run.doneCount; i++) {
            int letter = run.done[i];
            if (letter < MOST_TOLD) {
                if (right >= row.length || row.numbers[right] != letter) {
                    return right;
                }
                right++;
            }
        }
        return right;
    }

    // ---- counts, images, slots

    public int count(int what) {
        switch (what) {
            case 0:
                return current.people;
            case 1:
                return current.letters;
            case 2:
                return current.days;
            case 3:
                return current.post;
            case 4:
                return current.law;
            case 5:
                return current.lines;
            case 6:
                return tape.length;
            case 7:
                return current.seed;
            case 8:
                return usedSlots();
            default:
                return NONE;
        }
    }

    public int keep(int k) {
        if (k < 0 || k >= IMAGES) {
            return NO_SUCH;
        }
        images[k].copyFrom(current);
        kept[k] = true;
        return 0;
    }

    public int back(int k) {
        if (k < 0 || k >= IMAGES) {
            return NO_SUCH;
        }
        if (!kept[k]) {
            return HAS_NOTHING;
        }
        current.copyFrom(images[k]);
        changed();
        return 0;
    }

    public int row(int slot, int width, int n) {
        if (!isSlot(slot) || width < 0 || width > 3 || n > Slot.MOST_NUMBERS) {
            return NO_SUCH;
        }
        if (n < 0) {
            return BELOW_ZERO;
        }
        slots[slot].begin(width, n);
        return 0;
    }

    public int write(int slot, int i, long v) {
        if (!isSlot(slot)) {
            return NO_SUCH;
        }
        Slot row = slots[slot];
        if (!row.used) {
            return HAS_NOTHING;
        }
        if (i < 0 || i >= row.length) {
            return BEYOND;
        }
        row.numbers[i] = row.cut(v);
        return 0;
    }

    public int paste(int slot, int i, int to, int k, int n) {
        if (!isSlot(slot) || !isSlot(to)) {
            return NO_SUCH;
        }
        Slot source = slots[slot];
        Slot target = slots[to];
        if (!source.used || !target.used) {
            return HAS_NOTHING;
        }
        if (source.width != target.width) {
            return OTHER_WIDTH;
        }
        if (!source.spans(i, n) || !target.spans(k, n)) {
            return BEYOND;
        }
        System.arraycopy(source.numbers, i, target.numbers, k, n);
        return 0;
    }

    // ---- helpers of the face

    private boolean noTown() {
        return current.lines == 0;
    }

    private boolean isSeed(int seed) {
        return seed >= 0 && seed <= MOST_SEED;
    }

    private boolean isVisit(int n) {
        return n >= 0 && n <= MOST_VISIT;
    }

    private boolean isSlot(int slot) {
        return slot >= 0 && slot < SLOTS;
    }

    private boolean isLetterMore(int from, int to, int day) {
        return current.isPerson(from) && current.isPerson(to) && from != to && current.isDay(day);
    }

    private int usedSlots() {
        int used = 0;
        for (int s = 0; s < SLOTS; s++) {
            used += slots[s].used ? 1 : 0;
        }
        return used;
    }

    /** Whatever was worked out of the town before holds no more. */
    private void changed() {
        baseKnown = false;
        untieKnown = false;
        orders.known = false;
    }

    private Run asItIs() {
        if (!baseKnown) {
            plan.take(current);
            base.go(plan);
            baseKnown = true;
        }
        return base;
    }

    /** Tries every order of a morning's post once for order, place and worst alike; 0, or why not. */
    private int findOrders(int person, int day) {
        if (!current.isPerson(person) || !current.isDay(day)) {
            return NO_SUCH;
        }
        if (orders.known && orders.person == person && orders.day == day) {
            return 0;
        }
        orders.known = false;
        if (!orders.gather(current, person, day)) {
            return TOO_MANY;
        }
        plan.take(current);
        boolean more = true;
        for (int tried = 0; more && tried < Orders.MOST_TRIED; tried++) {
            orders.putInto(plan);
            trial.go(plan);
            orders.weigh(trial.worthIn(current));
            more = orders.next();
        }
        orders.known = true;
        return 0;
    }

    private void listUnanswered(Run run) {
        int open = 0;
        for (int l = 0; l < current.letters; l++) {
            if (run.doneOn[l] == NONE && open < MOST_UNTIED) {
                unanswered[open] = l;
                open++;
            }
        }
    }

    /** The fewest first, of as many the least: then the first that unties is the one asked for. */
    private int leastUntying(int open) {
        plan.take(current);
        for (int size = 0; size <= open; size++) {
            for (int set = 0; set < 1 << open; set++) {
                if (Integer.bitCount(set) == size) {
                    int left = leaveOut(set, open);
                    trial.go(plan);
                    if (trial.stuckPeople() == 0) {
                        return left;
                    }
                }
            }
        }
        return NONE;
    }

    private int leaveOut(int set, int open) {
        int letters = 0;
        for (int i = 0; i < open && i < MOST_UNTIED; i++) {
            int letter = unanswered[i];
            boolean out = (set >> i & 1) != 0;
            plan.town.on[letter] = out ? NONE : current.on[letter];
            letters |= out ? 1 << letter : 0;
        }
        return letters;
    }

    /** The bytes that a town is read from. */
    private static final class Tape {
        static final int MOST_BYTES = 2400;
        static final int FED_AT_ONCE = 20;

        final byte[] bytes = new byte[MOST_BYTES];
        int length = 0;

        boolean hasRoom() {
            return length + FED_AT_ONCE <= MOST_BYTES;
        }

        void append(int four) {
            for (int shift = 24; shift >= 0 && length < MOST_BYTES; shift -= 8) {
                bytes[length] = (byte) (four >> shift);
                length++;
            }
        }

        /** The byte at a place, NONE at the end. */
        int at(int place) {
            return place >= 0 && place < length && place < MOST_BYTES ? bytes[place] & 255 : NONE;
        }
    }

    /** Reads a tape from left to right, so that the first fault met is the first by its place. */
    private static final class Reader {
        static final int END = 0;
        static final int WORD = 1;
        static final int NUMBER = 2;
        static final int SIGN = 3;
        static final int STRANGE = 4;

        static final int MISPLACED = 1;
        static final int NOT_AS_SAID = 2;
        static final int ONE_TOO_MANY = 3;

        // Far above every bound, so that long numbers may stop growing here.
        static final int VERY_LARGE = 1000000;

        final Tape tape;
        final Town town = new Town();
        int token = END;
        int start = 0;
        int next = 0;
        int value = 0;
        int fault = 0;
        int faultPlace = NONE;

        Reader(Tape tape) {
            this.tape = tape;
        }

        boolean readAll() {
            town.clear();
            fault = 0;
            faultPlace = NONE;
            next = 0;
            step();
            for (int line = 0; line <= Tape.MOST_BYTES && token != END; line++) {
                if (!readLine()) {
                    return false;
                }
                if (token != SIGN) {
                    return fail(MISPLACED);
                }
                town.lines++;
                step();
            }
            return true;
        }

        private boolean readLine() {
            if (town.lines == 0) {
                return readTown();
            }
            if (isWord("person")) {
                return readPerson();
            }
            if (isWord("letter")) {
                return readLetter();
            }
            return isWord("law") ? readLaw() : fail(MISPLACED);
        }

        private boolean readTown() {
            if (!takeWord("town") || !takeWord("days") || !takeNumber(2, MOST_DAYS)) {
                return false;
            }
            town.days = value;
            step();
            if (!takeWord("post") || !takeNumber(1, 9)) {
                return false;
            }
            town.post = value;
            town.seed = 1;
            step();
            return true;
        }

        private boolean readPerson() {
            int person = town.people;
            if (person >= MOST_PEOPLE) {
                return fail(ONE_TOO_MANY);
            }
            step();
            if (!takeWord("hours") || !takeNumber(1, 12)) {
                return false;
            }
            town.hours[person] = value;
            step();
            int kind = kindTold();
            if (kind == NONE) {
                return fail(MISPLACED);
            }
            town.kind[person] = kind;
            town.master[person] = NONE;
            step();
            if (kind == CLERK) {
                if (!takeNumber(0, person - 1)) {
                    return false;
                }
                town.master[person] = value;
                step();
            }
            town.people++;
            return true;
        }

        private int kindTold() {
            if (isWord("full")) {
                return FULL;
            }
            if (isWord("short")) {
                return SHORT;
            }
            if (isWord("sunday")) {
                return SUNDAY;
            }
            if (isWord("worrier")) {
                return WORRIER;
            }
            return isWord("clerk") ? CLERK : NONE;
        }

        private boolean readLetter() {
            int letter = town.letters;
            if (letter >= MOST_TOLD) {
                return fail(ONE_TOO_MANY);
            }
            step();
            if (!takePerson(NONE)) {
                return false;
            }
            town.from[letter] = value;
            step();
            if (!takeWord("to") || !takePerson(town.from[letter])) {
                return false;
            }
            town.to[letter] = value;
            step();
            if (!takeWord("on") || !takeNumber(0, town.days - 1)) {
                return false;
            }
            town.on[letter] = value;
            step();
            if (!takeWord("hours") || !takeNumber(1, MOST_HOURS)) {
                return false;
            }
            town.told[letter] = value;
            step();
            return readWishes(letter);
        }

        private boolean readWishes(int letter) {
            if (isWord("back")) {
                step();
                if (!takeNumber(1, MOST_HOURS)) {
                    return false;
                }
                town.giveBack(letter, value);
                step();
            }
            if (isWord("after")) {
                step();
                if (!takePerson(town.to[letter])) {
                    return false;
                }
                town.after[letter] = value;
                step();
            }
            if (isWord("worth")) {
                step();
                if (!takeNumber(0, 99)) {
                    return false;
                }
                town.worth[letter] = value;
                step();
            }
            if (isWord("by")) {
                step();
                if (!takeNumber(0, town.days - 1)) {
                    return false;
                }
                town.by[letter] = value;
                step();
            }
            town.letters++;
            return true;
        }

        private boolean readLaw() {
            if (town.lawTold) {
                return fail(NOT_AS_SAID);
            }
            town.lawTold = true;
            step();
            int law = lawNamed();
            if (law == NONE) {
                return fail(MISPLACED);
            }
            town.law = law;
            step();
            if (law == LOT) {
                if (!takeNumber(0, 9999)) {
                    return false;
                }
                town.seed = value;
                step();
            }
            return true;
        }

        private int lawNamed() {
            if (isWord("oldest")) {
                return OLDEST;
            }
            if (isWord("newest")) {
                return NEWEST;
            }
            if (isWord("dearest")) {
                return DEAREST;
            }
            return isWord("lot") ? LOT : NONE;
        }

        /** Goes past a word that must stand here. */
        private boolean takeWord(String word) {
            if (!isWord(word)) {
                return fail(MISPLACED);
            }
            step();
            return true;
        }

        /** Looks at a number that must stand here; it stays the token, with its value. */
        private boolean takeNumber(int least, int most) {
            if (token != NUMBER) {
                return fail(MISPLACED);
            }
            return value >= least && value <= most || fail(NOT_AS_SAID);
        }

        private boolean takePerson(int butNot) {
            if (token != NUMBER) {
                return fail(MISPLACED);
            }
            return value < town.people && value != butNot || fail(NOT_AS_SAID);
        }

        private boolean fail(int why) {
            fault = why;
            faultPlace = start;
            return false;
        }

        private boolean isWord(String word) {
            if (token != WORD || next - start != word.length()) {
                return false;
            }
            for (int i = 0; i < word.length(); i++) {
                if (tape.at(start + i) != word.charAt(i)) {
                    return false;
                }
            }
            return true;
        }

        /** Goes on to the next token. */
        private void step() {
            while (next < tape.length && isBlank(tape.at(next))) {
                next++;
            }
            start = next;
            int first = tape.at(next);
            if (first == NONE) {
                token = END;
            } else if (isSmall(first)) {
                token = WORD;
                while (next < tape.length && isSmall(tape.at(next))) {
                    next++;
                }
            } else if (isDigit(first)) {
                token = NUMBER;
                value = 0;
                while (next < tape.length && isDigit(tape.at(next))) {
                    value = Math.min(VERY_LARGE, value * 10 + tape.at(next) - '0');
                    next++;
                }
            } else {
                token = first == ';' ? SIGN : STRANGE;
                next++;
            }
        }

        private static boolean isBlank(int sign) {
            return sign == 32 || sign == 10;
        }

        private static boolean isSmall(int sign) {
            return sign >= 'a' && sign <= 'z';
        }

        private static boolean isDigit(int sign) {
            return sign >= '0' && sign <= '9';
        }
    }

    /** What is told; without lines there is no town. */
    private static final class Town {
        int days = 0;
        int post = 0;
        int law = OLDEST;
        int seed = 0;
        int lines = 0;
        int people = 0;
        int letters = 0;
        boolean lawTold = false;
        final int[] hours = new int[MOST_PEOPLE];
        final int[] kind = new int[MOST_PEOPLE];
        final int[] master = new int[MOST_PEOPLE];
        // Told letters, answers that are letters (24 on) and the one in thought (48) share
        // these rows, so that a run need not tell them apart. told 0: there is none.
        final int[] from = new int[MOST_LETTERS];
        final int[] to = new int[MOST_LETTERS];
        final int[] on = new int[MOST_LETTERS];
        final int[] told = new int[MOST_LETTERS];
        final int[] after = new int[MOST_LETTERS];
        final int[] worth = new int[MOST_LETTERS];
        final int[] by = new int[MOST_LETTERS];

        Town() {
            clear();
        }

        void clear() {
            days = 0;
            post = 0;
            law = OLDEST;
            seed = 0;
            lines = 0;
            people = 0;
            letters = 0;
            lawTold = false;
            Arrays.fill(from, 0);
            Arrays.fill(to, 0);
            Arrays.fill(on, NONE);
            Arrays.fill(told, 0);
            Arrays.fill(after, NONE);
            Arrays.fill(worth, 0);
            Arrays.fill(by, NONE);
        }

        void copyFrom(Town other) {
            days = other.days;
            post = other.post;
            law = other.law;
            seed = other.seed;
            lines = other.lines;
            people = other.people;
            letters = other.letters;
            lawTold = other.lawTold;
            System.arraycopy(other.hours, 0, hours, 0, MOST_PEOPLE);
            System.arraycopy(other.kind, 0, kind, 0, MOST_PEOPLE);
            System.arraycopy(other.master, 0, master, 0, MOST_PEOPLE);
            System.arraycopy(other.from, 0, from, 0, MOST_LETTERS);
            System.arraycopy(other.to, 0, to, 0, MOST_LETTERS);
            System.arraycopy(other.on, 0, on, 0, MOST_LETTERS);
            System.arraycopy(other.told, 0, told, 0, MOST_LETTERS);
            System.arraycopy(other.after, 0, after, 0, MOST_LETTERS);
            System.arraycopy(other.worth, 0, worth, 0, MOST_LETTERS);
            System.arraycopy(other.by, 0, by, 0, MOST_LETTERS);
        }

        /** Its answer is a letter, too. */
        void giveBack(int letter, int n) {
            int answer = letter + MOST_TOLD;
            from[answer] = to[letter];
            to[answer] = from[letter];
            told[answer] = n;
        }

        boolean isPerson(int person) {
            return person >= 0 && person < people;
        }

        boolean isDay(int day) {
            return day >= 0 && day < days;
        }

        boolean isTold(int letter) {
            return letter >= 0 && letter < letters;
        }

        boolean isLetter(int letter) {
            return isTold(letter) || letter >= MOST_TOLD && letter < EXTRA && told[letter] > 0;
        }

        /** The hours that a letter needs of him to whom it is. */
        int hoursNeeded(int letter) {
            int hoursTold = told[letter];
            switch (kind[to[letter]]) {
                case SHORT:
                    return (hoursTold + 1) / 2;
                case WORRIER:
                    return worth[letter] >= 50 ? 2 * hoursTold : hoursTold;
                default:
                    return hoursTold;
            }
        }
    }

    /** A town as a run goes through it: as it is, or in thought. */
    private static final class Plan {
        final Town town = new Town();
        final int[] number = new int[MOST_LETTERS];
        int visitLetter = NONE;
        int visitDay = NONE;
        int visitHours = 0;
        int burnPerson = NONE;
        int burnDay = NONE;

        void take(Town other) {
            town.copyFrom(other);
            for (int l = 0; l < MOST_LETTERS; l++) {
                number[l] = l;
            }
            visitLetter = NONE;
            visitDay = NONE;
            visitHours = 0;
            burnPerson = NONE;
            burnDay = NONE;
        }

        void addLetter(int from, int to, int day, int n) {
            town.from[EXTRA] = from;
            town.to[EXTRA] = to;
            town.on[EXTRA] = day;
            town.told[EXTRA] = n;
        }

        void addVisit(int letter, int day, int n) {
            visitLetter = letter;
            visitDay = day;
            visitHours = n;
        }

        void addBurning(int person, int day) {
            burnPerson = person;
            burnDay = day;
        }

        int hoursOf(int person, int day) {
            if (town.kind[person] == SUNDAY && day % 7 == 6) {
                return 0;
            }
            if (day == visitDay && visitLetter != NONE && town.from[visitLetter] == person) {
                return Math.max(0, town.hours[person] - visitHours);
            }
            return town.hours[person];
        }

        /** The least key is first by law. By lot, keys only keep a pile by number. */
        int keyOf(int letter, int day) {
            int age = day * 64 + number[letter];
            switch (town.law) {
                case NEWEST:
                    return -age;
                case DEAREST:
                    return (99 - town.worth[letter]) * 4096 + age;
                case LOT:
                    return number[letter];
                default:
                    return age;
            }
        }
    }

    /** What a run as it is leaves behind each day, for later questions. */
    private static final class Diary {
        final long[] piles = new long[MOST_DAYS * MOST_PEOPLE];
        final int[] idle = new int[MOST_DAYS * MOST_PEOPLE];
        final int[] waits = new int[MOST_DAYS * MOST_PEOPLE];
        final int[] needs = new int[MOST_DAYS * MOST_LETTERS];
    }

    /** One way through all days. */
    private static final class Run {
        final Diary diary;
        final int[] came = new int[MOST_LETTERS];
        final int[] doneOn = new int[MOST_LETTERS];
        final int[] left = new int[MOST_LETTERS];
        final int[] key = new int[MOST_LETTERS];
        final int[] heardOn = new int[MOST_PEOPLE * MOST_PEOPLE];
        final int[] standing = new int[MOST_PEOPLE];
        // Each pile by its keys, the first by law at its end, where it is quickly taken.
        final int[] pile = new int[MOST_PEOPLE * MOST_LETTERS];
        final int[] size = new int[MOST_PEOPLE];
        // What comes on a day is a chain: letters, and from 49 on answers of letters.
        final int[] firstOf = new int[MOST_DAYS];
        final int[] nextOf = new int[2 * MOST_LETTERS];
        final int[] done = new int[MOST_LETTERS];
        int doneCount = 0;
        int today = 0;
        long lot = 0;

        Run(Diary diary) {
            this.diary = diary;
        }

        void go(Plan plan) {
            begin(plan.town);
            for (int day = 0; day < plan.town.days && day < MOST_DAYS; day++) {
                today = day;
                if (day == plan.burnDay && plan.burnPerson != NONE) {
                    size[plan.burnPerson] = 0;
                }
                bringPost(plan);
                if (day == plan.visitDay && plan.visitLetter != NONE) {
                    seeVisitor(plan.town, plan.visitLetter);
                }
                for (int p = 0; p < plan.town.people; p++) {
                    workOneDay(plan, p);
                }
                if (diary != null) {
                    noteDay(diary);
                }
            }
        }

        private void begin(Town town) {
            Arrays.fill(came, NONE);
            Arrays.fill(doneOn, NONE);
            Arrays.fill(left, NONE);
            Arrays.fill(heardOn, NONE);
            Arrays.fill(standing, NONE);
            Arrays.fill(size, 0);
            Arrays.fill(firstOf, NONE);
            doneCount = 0;
            lot = town.seed;
            for (int l = 0; l < town.letters; l++) {
                expect(l, town.on[l]);
            }
            expect(EXTRA, town.on[EXTRA]);
        }

        private void expect(int what, int day) {
            if (day >= 0 && day < MOST_DAYS) {
                nextOf[what] = firstOf[day];
                firstOf[day] = what;
            }
        }

        private void bringPost(Plan plan) {
            Town town = plan.town;
            int what = firstOf[today];
            for (int i = 0; i < 2 * MOST_LETTERS && what != NONE; i++) {
                if (what < MOST_LETTERS) {
                    lay(plan, what);
                } else {
                    int letter = what - MOST_LETTERS;
                    hear(town.from[letter], town.to[letter]);
                    if (letter < MOST_TOLD && town.told[letter + MOST_TOLD] > 0) {
                        lay(plan, letter + MOST_TOLD);
                    }
                }
                what = nextOf[what];
            }
        }

        private void lay(Plan plan, int letter) {
            int owner = plan.town.to[letter];
            came[letter] = today;
            left[letter] = plan.town.hoursNeeded(letter);
            key[letter] = plan.keyOf(letter, today);
            hear(owner, plan.town.from[letter]);
            if (size[owner] >= MOST_LETTERS) {
                return;
            }
            int bottom = owner * MOST_LETTERS;
            int at = bottom + size[owner];
            while (at > bottom && key[pile[at - 1]] < key[letter]) {
                pile[at] = pile[at - 1];
                at--;
            }
            pile[at] = letter;
            size[owner]++;
        }

        private void hear(int person, int other) {
            if (heardOn[person * MOST_PEOPLE + other] == NONE) {
                heardOn[person * MOST_PEOPLE + other] = today;
            }
        }

        /** By word: no answer is expected of it. */
        private void seeVisitor(Town town, int letter) {
            int owner = town.to[letter];
            for (int i = 0; i < size[owner]; i++) {
                if (pile[owner * MOST_LETTERS + i] == letter) {
                    takeAway(owner, i);
                    hear(town.from[letter], owner);
                    return;
                }
            }
        }

        private void workOneDay(Plan plan, int person) {
            Town town = plan.town;
            standing[person] = NONE;
            int hours = workOn(town, person, plan.hoursOf(person, today), person);
            if (town.kind[person] == CLERK && size[person] == 0) {
                hours = workOn(town, town.master[person], hours, person);
            }
            if (diary != null) {
                diary.idle[today * MOST_PEOPLE + person] = hours;
                diary.waits[today * MOST_PEOPLE + person] = standing[person];
            }
        }

        /** Works on somebody's pile; the hours that are left over. */
        private int workOn(Town town, int owner, int hours, int worker) {
            int spare = hours;
            for (int turn = 0; turn < MOST_LETTERS && spare > 0 && size[owner] > 0; turn++) {
                int at = town.law == LOT ? size[owner] - 1 - draw(size[owner]) : size[owner] - 1;
                int letter = pile[owner * MOST_LETTERS + at];
                int wanted = town.after[letter];
                if (wanted != NONE && heardOn[owner * MOST_PEOPLE + wanted] == NONE) {
                    if (worker == owner) {
                        standing[owner] = wanted;
                    }
                    return spare;
                }
                int given = Math.min(spare, left[letter]);
                spare -= given;
                left[letter] -= given;
                if (left[letter] == 0) {
                    takeAway(owner, at);
                    if (today + town.post < town.days) {
                        expect(MOST_LETTERS + letter, today + town.post);
                    }
                }
            }
            return spare;
        }

        /** A letter that is answered leaves its pile. */
        private void takeAway(int owner, int at) {
            int place = owner * MOST_LETTERS + at;
            int letter = pile[place];
            size[owner]--;
            System.arraycopy(pile, place + 1, pile, place, size[owner] - at);
            left[letter] = 0;
            doneOn[letter] = today;
            if (doneCount < MOST_LETTERS) {
                done[doneCount] = letter;
                doneCount++;
            }
        }

        private int draw(int n) {
            lot = 1103515245L * lot + 12345L & 2147483647L;
            return n < 1 ? 0 : (int) (lot / 65536 % n);
        }

        private void noteDay(Diary into) {
            System.arraycopy(left, 0, into.needs, today * MOST_LETTERS, MOST_LETTERS);
            for (int p = 0; p < MOST_PEOPLE; p++) {
                long lying = 0;
                for (int i = 0; i < size[p]; i++) {
                    lying |= 1L << pile[p * MOST_LETTERS + i];
                }
                into.piles[today * MOST_PEOPLE + p] = lying;
            }
        }

        boolean doneBy(int letter, int day) {
            return doneOn[letter] != NONE && doneOn[letter] <= day;
        }

        boolean inTime(Town town, int letter) {
            return doneBy(letter, town.by[letter] == NONE ? town.days : town.by[letter]);
        }

        int worthIn(Town town) {
            int worth = 0;
            for (int l = 0; l < town.letters; l++) {
                worth += inTime(town, l) ? town.worth[l] : 0;
            }
            return worth;
        }

        int lateIn(Town town) {
            int late = 0;
            for (int l = 0; l < town.letters; l++) {
                late += inTime(town, l) ? 0 : 1;
            }
            return late;
        }

        int answeredIn(Town town) {
            int answered = 0;
            for (int l = 0; l < town.letters; l++) {
                answered += doneOn[l] == NONE ? 0 : 1;
            }
            return answered;
        }

        /** Who stands still on the last day, which is the day that standing tells of now. */
        int stuckPeople() {
            int people = 0;
            for (int p = 0; p < MOST_PEOPLE; p++) {
                people |= standing[p] == NONE ? 0 : 1 << p;
            }
            return people;
        }

        /** The people of the ring that a person is in, 0 if he is in none. */
        int ringOf(int person) {
            int people = 0;
            int p = person;
            for (int i = 0; i < MOST_PEOPLE && standing[p] != NONE; i++) {
                people |= 1 << p;
                p = standing[p];
                if (p == person) {
                    return people;
                }
            }
            return 0;
        }
    }

    /** The orders of one morning's post, from the first on, and what they were worth. */
    private static final class Orders {
        // 6 letters have 720 orders.
        static final int MOST_TRIED = 720;

        final int[] letters = new int[MOST_ORDERED];
        final int[] tried = new int[MOST_ORDERED];
        final int[] best = new int[MOST_ORDERED];
        boolean known = false;
        boolean weighed = false;
        int person = NONE;
        int day = NONE;
        int count = 0;
        int most = 0;
        int least = 0;

        /** Gathers what comes to a person on a day; false, if it is too much. */
        boolean gather(Town town, int toWhom, int onDay) {
            person = toWhom;
            day = onDay;
            count = 0;
            weighed = false;
            for (int l = 0; l < town.letters; l++) {
                if (town.to[l] == toWhom && town.on[l] == onDay) {
                    if (count >= MOST_ORDERED) {
                        return false;
                    }
                    letters[count] = l;
                    tried[count] = l;
                    count++;
                }
            }
            return true;
        }

        void putInto(Plan plan) {
            for (int i = 0; i < count; i++) {
                plan.number[tried[i]] = letters[i];
            }
        }

        void weigh(int worth) {
            if (!weighed || worth > most) {
                most = worth;
                System.arraycopy(tried, 0, best, 0, MOST_ORDERED);
            }
            if (!weighed || worth < least) {
                least = worth;
            }
            weighed = true;
        }

        /** Goes on to the next order; false behind the last one. */
        boolean next() {
            int turn = count - 2;
            while (turn >= 0 && tried[turn] > tried[turn + 1]) {
                turn--;
            }
            if (turn < 0) {
                return false;
            }
            int other = count - 1;
            while (other > turn && tried[other] < tried[turn]) {
                other--;
            }
            swap(turn, other);
            for (int low = turn + 1, high = count - 1; low < high; low++, high--) {
                swap(low, high);
            }
            return true;
        }

        private void swap(int i, int j) {
            int was = tried[i];
            tried[i] = tried[j];
            tried[j] = was;
        }
    }

    /** A row of numbers of one width, or nothing. */
    private static final class Slot {
        static final int MOST_NUMBERS = 60;

        final long[] numbers = new long[MOST_NUMBERS];
        boolean used = false;
        int width = 0;
        int length = 0;

        void begin(int newWidth, int n) {
            used = true;
            width = newWidth;
            length = n;
            Arrays.fill(numbers, 0L);
        }

        long cut(long v) {
            switch (width) {
                case 0:
                    return (byte) v;
                case 1:
                    return (short) v;
                case 2:
                    return (int) v;
                default:
                    return v;
            }
        }

        boolean spans(int i, int n) {
            return i >= 0 && n >= 0 && (long) i + n <= length;
        }
    }
}
