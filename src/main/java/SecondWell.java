import java.util.Arrays;

/** The well of second thoughts: see README.md, and the document for what each call promises. */
public final class SecondWell {
    public static final int NONE = -1;

    private static final int MISSING = -2;
    private static final int BELOW = -3;
    private static final int FAULTY = -4;
    private static final int REFUSED = -5;
    private static final int EMPTY = -6;
    private static final int BEYOND = -7;
    private static final int UNLIKE = -8;
    private static final int LOST = -1000;
    private static final int LOST_BY_ACTS = -1005;

    private static final int MOST_BYTES = 900;
    private static final int MOST_PEOPLE = 6;
    private static final int MOST_MATTERS = 8;
    private static final int MOST_SETS = 256;
    private static final int MOST_ACTS = 60;
    private static final int MOST_NUMBERS = 60;
    private static final int MOST_LEVEL = 99;
    private static final int MOST_PRICE = 99;
    private static final int MOST_TURNS = 4;
    private static final int MOST_DAYS = 60;
    private static final int MOST_YEARS = 20;
    private static final int MOST_SEED = 2000000000;
    private static final int SLOTS = 4;
    private static final int WIDTHS = 4;
    private static final int IMAGES = 3;

    private static final int ACT_DRINK = 10;
    private static final int ACT_DAY = 20;
    private static final int ACT_NOTHING = 30;

    private final byte[] tape;
    private int tapeBytes;
    private final Reader reader;
    private final Town told;
    private final State now;
    private final int[] acts;
    private int actCount;
    private final Course course;
    private final Sets sets;
    private final Game game;
    private final Sips sips;
    private final Minutes minutes;
    private final Years years;
    private final Slot[] slots;
    private final Image[] images;

    public SecondWell() {
        byte[] bytes = new byte[MOST_BYTES];
        Town town = new Town();
        State state = new State(town);
        tape = bytes;
        told = town;
        now = state;
        acts = new int[MOST_ACTS];
        reader = new Reader(bytes);
        course = new Course(town);
        sets = new Sets(town, state);
        game = new Game(town);
        sips = new Sips(town, state);
        minutes = new Minutes(town);
        years = new Years(town);
        slots = new Slot[SLOTS];
        for (int i = 0; i < SLOTS; i++) {
            slots[i] = new Slot();
        }
        images = new Image[IMAGES];
        for (int i = 0; i < IMAGES; i++) {
            images[i] = new Image();
        }
    }

    public int feed(int a, int b, int c, int d, int e) {
        if (tapeBytes + 20 > MOST_BYTES) {
            return NONE;
        }
        putBytes(a);
        putBytes(b);
        putBytes(c);
        putBytes(d);
        putBytes(e);
        return tapeBytes;
    }

    private void putBytes(int four) {
        for (int shift = 24; shift >= 0; shift -= 8) {
            tape[tapeBytes] = (byte) (four >> shift);
            tapeBytes++;
        }
    }

    public int end(int n) {
        if (n < 0 || n > tapeBytes) {
            return NONE;
        }
        tapeBytes = n;
        return n;
    }

    // The TAPE goes empty on a FAULT too: "all stays" is taken to be the TOWN and its ACTS.
    public int town() {
        int lines = reader.read(tapeBytes);
        tapeBytes = 0;
        if (lines < 0) {
            return FAULTY;
        }
        told.copyFrom(reader.made);
        actCount = 0;
        now.begin();
        return lines;
    }

    public int fault(int what) {
        if (what == 0) {
            return reader.fault;
        }
        return what == 1 ? reader.place : NONE;
    }

    public int person(int person, int what) {
        if (!told.hasPerson(person)) {
            return LOST;
        }
        switch (what) {
            case 0:
                return now.cups[person];
            case 1:
                return bitOf(told.stubborn, person);
            case 2:
                return told.mine[person];
            case 3:
                return told.sumOf(person, now.settled);
            default:
                return LOST;
        }
    }

    public int matter(int matter, int what) {
        if (!told.hasMatter(matter)) {
            return LOST;
        }
        switch (what) {
            case 0:
            case 1:
                return told.partyOf(matter, what);
            case 2:
            case 3:
                return told.gainOf(told.partyOf(matter, what - 2), matter);
            case 4:
                return told.on[matter];
            case 5:
                return bitOf(told.dry, matter);
            case 6:
                return bitOf(told.jug, matter);
            case 7:
                return bitOf(now.settled, matter);
            case 8:
                return bitOf(now.drunk, matter);
            default:
                return LOST;
        }
    }

    private static int bitOf(int bits, int i) {
        return (bits >> i) & 1;
    }

    public int level() {
        return told.isTold() ? now.level : MISSING;
    }

    public int settled() {
        return told.isTold() ? now.settled : MISSING;
    }

    public int order(int i) {
        if (!told.isTold()) {
            return MISSING;
        }
        return i >= 0 && i < now.many ? now.order[i] : NONE;
    }

    public int open() {
        return told.isTold() ? now.openOnes() : MISSING;
    }

    public int last(int person) {
        return told.hasPerson(person) ? now.lastOf(person) : MISSING;
    }

    public int fall(int matter) {
        return told.hasMatter(matter) ? told.fallIn(now.settled, matter) : MISSING;
    }

    public int swing(int person, int matter) {
        if (!told.hasPerson(person) || !told.hasMatter(matter)) {
            return LOST;
        }
        return told.swingOf(person, told.fallIn(now.settled, matter));
    }

    public int why(int person) {
        return told.hasPerson(person) ? now.whyNot(person) : MISSING;
    }

    public int wishes() {
        return told.isTold() ? now.wishers() : MISSING;
    }

    public int settle(int matter) {
        if (!told.hasMatter(matter)) {
            return MISSING;
        }
        return takeAct(matter) ? now.many : REFUSED;
    }

    public int drink(int person) {
        if (!told.hasPerson(person)) {
            return MISSING;
        }
        int before = now.many;
        return takeAct(ACT_DRINK + person) ? before - now.many : REFUSED;
    }

    public int day() {
        if (!told.isTold()) {
            return MISSING;
        }
        return takeAct(ACT_DAY) ? now.level : REFUSED;
    }

    private boolean takeAct(int act) {
        if (actCount >= MOST_ACTS || !now.take(act)) {
            return false;
        }
        acts[actCount] = act;
        actCount++;
        return true;
    }

    public int undo() {
        if (!told.isTold()) {
            return MISSING;
        }
        if (actCount == 0) {
            return REFUSED;
        }
        actCount--;
        replay();
        return actCount;
    }

    public int anew() {
        if (!told.isTold()) {
            return MISSING;
        }
        int were = actCount;
        actCount = 0;
        replay();
        return were;
    }

    private void replay() {
        now.begin();
        for (int i = 0; i < actCount; i++) {
            now.take(acts[i]);
        }
    }

    public int act(int i) {
        if (!told.isTold()) {
            return MISSING;
        }
        return i >= 0 && i < actCount ? acts[i] : NONE;
    }

    public int course() {
        if (!told.isTold()) {
            return MISSING;
        }
        course.run(now);
        return course.steps;
    }

    public int step(int i) {
        if (!told.isTold()) {
            return MISSING;
        }
        course.run(now);
        return i >= 0 && i < course.steps ? course.taken[i] : NONE;
    }

    public int ends() {
        if (!told.isTold()) {
            return MISSING;
        }
        course.run(now);
        return course.state.settled;
    }

    public int sips() {
        if (!told.isTold()) {
            return MISSING;
        }
        course.run(now);
        return course.drinks;
    }

    public int brings(int person) {
        if (!told.hasPerson(person)) {
            return LOST;
        }
        course.run(now);
        return told.sumOf(person, course.state.settled);
    }

    public int stands(int set) {
        return told.hasSet(set) ? sets.ordersOf(set) : MISSING;
    }

    public int stood(int set, int i) {
        return told.hasSet(set) ? sets.inFirstOrder(set, i) : MISSING;
    }

    public int best() {
        return told.isTold() ? sets.bestStanding() : MISSING;
    }

    public int closed(int set) {
        if (!told.hasSet(set)) {
            return MISSING;
        }
        return told.isClosed(set) ? 1 : 0;
    }

    public int sets() {
        return told.isTold() ? sets.closedOnes() : MISSING;
    }

    public int rests(int matter) {
        return told.hasMatter(matter) ? told.restsOf(matter) : MISSING;
    }

    public int bears(int matter) {
        return told.hasMatter(matter) ? told.bearsOf(matter) : MISSING;
    }

    public int chain() {
        return told.isTold() ? sets.longestRow() : MISSING;
    }

    public int heaviest() {
        return told.isTold() ? sets.mostBearing() : MISSING;
    }

    public int thirst(int person) {
        if (!told.hasPerson(person)) {
            return MISSING;
        }
        sips.drinkOut(person);
        return sips.times;
    }

    public int dregs(int person) {
        return told.hasPerson(person) ? sips.drinkOut(person) : MISSING;
    }

    public int keep(int set) {
        return told.hasSet(set) ? sets.keptFor(set) : MISSING;
    }

    public int firm(int set) {
        if (!told.hasSet(set)) {
            return MISSING;
        }
        return sets.isFirm(set) ? 1 : 0;
    }

    public int firms() {
        return told.isTold() ? sets.findFirm() : MISSING;
    }

    public int firmest() {
        return told.isTold() ? sets.bestFirm() : MISSING;
    }

    public int sum(int person, int set) {
        return told.hasPerson(person) && told.hasSet(set) ? told.sumOf(person, set) : LOST;
    }

    public int weak(int set) {
        return told.hasSet(set) ? sets.weakestIn(set) : MISSING;
    }

    public int votes(int set, int other) {
        return told.hasSet(set) && told.hasSet(other) ? sets.votersFor(set, other) : MISSING;
    }

    public int elected() {
        return told.isTold() ? sets.electedOne() : MISSING;
    }

    public int game(int person, int other, int n) {
        if (!isGame(person, other, n)) {
            return LOST;
        }
        return game.play(now, person, other, n);
    }

    public int move(int person, int other, int n) {
        if (!isGame(person, other, n)) {
            return MISSING;
        }
        game.play(now, person, other, n);
        return game.firstAct;
    }

    private boolean isGame(int person, int other, int n) {
        return told.hasPerson(person) && told.hasPerson(other) && person != other
                && n >= 0 && n <= MOST_TURNS;
    }

    public int who(int set) {
        return told.hasSet(set) ? sips.drinkersTo(set) : MISSING;
    }

    public int sipped(int set, int n) {
        if (!told.hasSet(set) || n < 0 || n > MOST_TURNS) {
            return MISSING;
        }
        return sips.rowsTo(set, n);
    }

    public int ask() {
        return told.isTold() ? sips.bestQuestion() : MISSING;
    }

    public int leaves() {
        if (!told.isTold()) {
            return MISSING;
        }
        sips.bestQuestion();
        return sips.leftAtWorst;
    }

    public int judge(int slot) {
        int wrong = wrongRow(slot);
        return wrong < 0 ? wrong : minutes.judgeRow(slots[slot]);
    }

    public int held(int slot) {
        int wrong = wrongRow(slot);
        return wrong < 0 ? wrong : minutes.heldBy(slots[slot]);
    }

    public int when(int slot, int matter, int n) {
        if (!told.hasMatter(matter) || n < 0) {
            return MISSING;
        }
        int wrong = wrongRow(slot);
        return wrong < 0 ? wrong : minutes.heldWhen(slots[slot], matter, n);
    }

    public int differs(int slot, int other) {
        int wrong = wrongRow(slot);
        int wrongOther = wrongRow(other);
        if (wrong == MISSING || wrongOther == MISSING) {
            return MISSING;
        }
        if (wrong < 0 || wrongOther < 0) {
            return EMPTY;
        }
        return minutes.firstUnlike(slots[slot], slots[other]);
    }

    /** 0, or why a SLOT's row can't be judged. */
    private int wrongRow(int slot) {
        if (!told.isTold() || !isSlot(slot)) {
            return MISSING;
        }
        if (!slots[slot].has) {
            return EMPTY;
        }
        return minutes.isOfActs(slots[slot]) ? 0 : MISSING;
    }

    private static boolean isSlot(int slot) {
        return slot >= 0 && slot < SLOTS;
    }

    public int lasts(int n) {
        if (!told.isTold() || n < 0 || n > MOST_LEVEL) {
            return MISSING;
        }
        return years.firstDry(now.level, n);
    }

    public int yields() {
        return told.isTold() ? years.mostYield(now.level) : MISSING;
    }

    public int cups() {
        return told.isTold() ? now.allCups() : MISSING;
    }

    public int drawn(int seed, int n, int what) {
        if (!isDrawn(seed, n) || what < 0 || what > 3) {
            return MISSING;
        }
        years.draw(now, seed, n);
        switch (what) {
            case 0:
                return years.state.settled;
            case 1:
                return years.state.level;
            case 2:
                return years.drinks;
            default:
                return years.frosts;
        }
    }

    private boolean isDrawn(int seed, int n) {
        return told.people > 0 && seed >= 0 && seed <= MOST_SEED && n >= 0 && n <= MOST_DAYS;
    }

    public int luck(int seed, int m, int n, int matter) {
        if (!isDrawn(seed, n) || m < 1 || m > MOST_YEARS || !told.hasMatter(matter)) {
            return MISSING;
        }
        int times = 0;
        for (int i = 0; i < m; i++) {
            years.draw(now, (long) seed + i, n);
            times += bitOf(years.state.settled, matter);
        }
        return times;
    }

    public int price(int matter, int party, int n) {
        if (!told.hasMatter(matter) || party < 0 || party > 1 || n < -MOST_PRICE || n > MOST_PRICE) {
            return LOST;
        }
        if (actCount > 0) {
            return LOST_BY_ACTS;
        }
        int person = told.partyOf(matter, party);
        int was = told.gainOf(person, matter);
        told.setGain(person, matter, n);
        return was;
    }

    public int mark(int matter, int what, int is) {
        if (!told.hasMatter(matter) || what < 0 || what > 1 || is < 0 || is > 1) {
            return MISSING;
        }
        if (actCount > 0) {
            return REFUSED;
        }
        int was;
        if (what == 0) {
            was = bitOf(told.dry, matter);
            told.dry = withBit(told.dry, matter, is);
        } else {
            was = bitOf(told.jug, matter);
            told.jug = withBit(told.jug, matter, is);
        }
        return was;
    }

    private static int withBit(int bits, int i, int is) {
        return (bits & ~(1 << i)) | (is << i);
    }

    public int count(int what) {
        switch (what) {
            case 0:
                return told.people;
            case 1:
                return told.matters;
            case 2:
                return told.spring;
            case 3:
                return told.frost;
            case 4:
                return told.lines;
            case 5:
                return tapeBytes;
            case 6:
                return actCount;
            case 7:
                return rowsThere();
            default:
                return NONE;
        }
    }

    private int rowsThere() {
        int rows = 0;
        for (int i = 0; i < SLOTS; i++) {
            if (slots[i].has) {
                rows++;
            }
        }
        return rows;
    }

    public int image(int k) {
        if (k < 0 || k >= IMAGES) {
            return MISSING;
        }
        images[k].store(told, acts, actCount);
        return 0;
    }

    public int back(int k) {
        if (k < 0 || k >= IMAGES) {
            return MISSING;
        }
        if (!images[k].has) {
            return EMPTY;
        }
        actCount = images[k].restore(told, acts);
        replay();
        return 0;
    }

    public int row(int slot, int width, int n) {
        if (!isSlot(slot) || width < 0 || width >= WIDTHS || n > MOST_NUMBERS) {
            return MISSING;
        }
        if (n < 0) {
            return BELOW;
        }
        slots[slot].lay(width, n);
        return 0;
    }

    public int write(int slot, int i, long v) {
        if (!isSlot(slot)) {
            return MISSING;
        }
        Slot to = slots[slot];
        if (!to.has) {
            return EMPTY;
        }
        if (i < 0 || i >= to.many) {
            return BEYOND;
        }
        to.numbers[i] = to.cut(v);
        return 0;
    }

    public int paste(int slot, int i, int to, int k, int n) {
        if (!isSlot(slot) || !isSlot(to)) {
            return MISSING;
        }
        Slot source = slots[slot];
        Slot target = slots[to];
        if (!source.has || !target.has) {
            return EMPTY;
        }
        if (source.width != target.width) {
            return UNLIKE;
        }
        if (!source.spans(i, n) || !target.spans(k, n)) {
            return BEYOND;
        }
        System.arraycopy(source.numbers, i, target.numbers, k, n);
        return 0;
    }

    /** What is told: it changes by town(), price(), mark() and back() alone. */
    private static final class Town {
        int lines;
        int level;
        int spring;
        int frost;
        int people;
        int matters;
        int stubborn;
        int dry;
        int jug;
        final int[] cups = new int[MOST_PEOPLE];
        final int[] mine = new int[MOST_PEOPLE];
        final int[] parties = new int[2 * MOST_MATTERS];
        final int[] on = new int[MOST_MATTERS];
        final int[] gains = new int[MOST_PEOPLE * MOST_MATTERS];

        void clear() {
            lines = 0;
            level = 0;
            spring = 0;
            frost = 0;
            people = 0;
            matters = 0;
            stubborn = 0;
            dry = 0;
            jug = 0;
            Arrays.fill(cups, 0);
            Arrays.fill(mine, 0);
            Arrays.fill(parties, 0);
            Arrays.fill(on, 0);
            Arrays.fill(gains, 0);
        }

        void copyFrom(Town other) {
            lines = other.lines;
            level = other.level;
            spring = other.spring;
            frost = other.frost;
            people = other.people;
            matters = other.matters;
            stubborn = other.stubborn;
            dry = other.dry;
            jug = other.jug;
            System.arraycopy(other.cups, 0, cups, 0, MOST_PEOPLE);
            System.arraycopy(other.mine, 0, mine, 0, MOST_PEOPLE);
            System.arraycopy(other.parties, 0, parties, 0, 2 * MOST_MATTERS);
            System.arraycopy(other.on, 0, on, 0, MOST_MATTERS);
            System.arraycopy(other.gains, 0, gains, 0, MOST_PEOPLE * MOST_MATTERS);
        }

        void addPerson(int personCups, boolean isStubborn) {
            cups[people] = personCups;
            if (isStubborn) {
                stubborn |= 1 << people;
            }
            people++;
        }

        void setParty(int side, int person, int gain) {
            parties[2 * matters + side] = person;
            mine[person] |= 1 << matters;
            setGain(person, matters, gain);
        }

        boolean isTold() {
            return lines > 0;
        }

        boolean hasPerson(int person) {
            return person >= 0 && person < people;
        }

        boolean hasMatter(int matter) {
            return matter >= 0 && matter < matters;
        }

        boolean hasSet(int set) {
            return isTold() && set >= 0 && set < 1 << matters;
        }

        int partyOf(int matter, int side) {
            return parties[2 * matter + side];
        }

        int otherParty(int matter, int person) {
            int first = parties[2 * matter];
            return first == person ? parties[2 * matter + 1] : first;
        }

        int gainOf(int person, int matter) {
            return gains[person * MOST_MATTERS + matter];
        }

        void setGain(int person, int matter, int gain) {
            gains[person * MOST_MATTERS + matter] = gain;
        }

        int sumOf(int person, int set) {
            int sum = 0;
            for (int m = 0; m < matters; m++) {
                if ((set >> m & 1) == 1) {
                    sum += gains[person * MOST_MATTERS + m];
                }
            }
            return sum;
        }

        int sumOfAll(int set) {
            int sum = 0;
            for (int p = 0; p < people; p++) {
                sum += sumOf(p, set);
            }
            return sum;
        }

        // One pass upwards is enough: a MATTER is only on such as were told ahead of it.
        int fallIn(int set, int matter) {
            int fallen = set & (1 << matter);
            for (int m = matter + 1; m < matters; m++) {
                if ((set >> m & 1) == 1 && (on[m] & fallen) != 0) {
                    fallen |= 1 << m;
                }
            }
            return fallen;
        }

        int swingOf(int person, int fallen) {
            return -sumOf(person, fallen);
        }

        boolean agrees(int person, int matter, int swing) {
            return (jug >> matter & 1) == 1 || (stubborn >> person & 1) == 0 && swing >= 0;
        }

        boolean isClosed(int set) {
            for (int m = 0; m < matters; m++) {
                if (bitOf(set, m) == 1 && (on[m] & ~set) != 0) {
                    return false;
                }
            }
            return true;
        }

        int restsOf(int matter) {
            int below = on[matter];
            for (int m = matter - 1; m >= 0; m--) {
                if (bitOf(below, m) == 1) {
                    below |= on[m];
                }
            }
            return below;
        }

        int bearsOf(int matter) {
            return fallIn((1 << matters) - 1, matter) & ~(1 << matter);
        }
    }

    /** Reads the TAPE into a TOWN of its own, up to the first FAULT. */
    private static final class Reader {
        private static final int AT_END = 0;
        private static final int IS_WORD = 1;
        private static final int IS_NUMBER = 2;
        private static final int IS_SIGN = 3;
        private static final int IS_NOTHING = 4;
        private static final int MISPLACED = 1;
        private static final int OUT_OF_BOUNDS = 2;
        private static final int TOO_MANY = 3;
        private static final int ON = 1;
        private static final int DRY = 2;
        private static final int JUG = 4;

        final byte[] bytes;
        final Town made = new Town();
        int length;
        int start;
        int past;
        int kind;
        int fault;
        int place = NONE;

        Reader(byte[] bytes) {
            this.bytes = bytes;
        }

        /** How many LINES; below 0: a FAULT. */
        int read(int length) {
            this.length = length;
            past = 0;
            fault = 0;
            place = NONE;
            made.clear();
            next();
            for (int i = 0; i < MOST_BYTES && kind != AT_END && fault == 0; i++) {
                readLine();
            }
            return fault == 0 ? made.lines : FAULTY;
        }

        private void readLine() {
            if (made.lines == 0) {
                readWell();
            } else if (isWord("person")) {
                readPerson();
            } else if (isWord("matter")) {
                readMatter();
            } else {
                fail(MISPLACED);
            }
            if (kind == IS_SIGN) {
                next();
            } else {
                fail(MISPLACED);
            }
            made.lines++;
        }

        private void readWell() {
            takeWord("well");
            takeWord("level");
            made.level = takeNumber(MOST_LEVEL, NONE);
            takeWord("spring");
            made.spring = takeNumber(9, NONE);
            takeWord("frost");
            made.frost = takeNumber(100, NONE);
        }

        private void readPerson() {
            if (made.people >= MOST_PEOPLE) {
                fail(TOO_MANY);
                return;
            }
            takeWord("person");
            takeWord("cups");
            int cups = takeNumber(9, NONE);
            boolean isStubborn = fault == 0 && isWord("stubborn");
            if (isStubborn) {
                next();
            }
            made.addPerson(cups, isStubborn);
        }

        private void readMatter() {
            if (made.matters >= MOST_MATTERS) {
                fail(TOO_MANY);
                return;
            }
            takeWord("matter");
            int first = takeNumber(made.people - 1, NONE);
            int firstGain = takeGain();
            int second = takeNumber(made.people - 1, first);
            int secondGain = takeGain();
            if (fault != 0) {
                return;
            }
            made.setParty(0, first, firstGain);
            made.setParty(1, second, secondGain);
            readMarks();
            made.matters++;
        }

        // A MARK that is there already is left standing, where the LINE's end is asked for.
        private void readMarks() {
            int marks = 0;
            for (int i = 0; i < 3 && fault == 0; i++) {
                int mark = markHere();
                if (mark == 0 || (marks & mark) != 0) {
                    return;
                }
                marks |= mark;
                next();
                if (mark == ON) {
                    takeMatters();
                } else if (mark == DRY) {
                    made.dry |= 1 << made.matters;
                } else {
                    made.jug |= 1 << made.matters;
                }
            }
        }

        private int markHere() {
            if (isWord("on")) {
                return ON;
            }
            if (isWord("dry")) {
                return DRY;
            }
            return isWord("jug") ? JUG : 0;
        }

        private void takeMatters() {
            int i = 0;
            do {
                int matter = takeNumber(made.matters - 1, NONE);
                made.on[made.matters] |= 1 << matter;
                i++;
            } while (i < MOST_BYTES && fault == 0 && kind == IS_NUMBER);
        }

        private int takeGain() {
            if (fault == 0 && isWord("loses")) {
                next();
                return -takeNumber(MOST_PRICE, NONE);
            }
            takeWord("gains");
            return takeNumber(MOST_PRICE, NONE);
        }

        private void takeWord(String word) {
            if (fault != 0) {
                return;
            }
            if (isWord(word)) {
                next();
            } else {
                fail(MISPLACED);
            }
        }

        /** A number from 0 to the highest, not the unlike one; 0 at a FAULT. */
        private int takeNumber(int highest, int unlike) {
            if (fault != 0) {
                return 0;
            }
            if (kind != IS_NUMBER) {
                fail(MISPLACED);
                return 0;
            }
            int value = 0;
            for (int i = start; i < past; i++) {
                value = Math.min(1000, 10 * value + bytes[i] - '0');
            }
            if (value > highest || value == unlike) {
                fail(OUT_OF_BOUNDS);
                return 0;
            }
            next();
            return value;
        }

        private boolean isWord(String word) {
            if (kind != IS_WORD || past - start != word.length()) {
                return false;
            }
            for (int i = start; i < past; i++) {
                if (bytes[i] != word.charAt(i - start)) {
                    return false;
                }
            }
            return true;
        }

        private void fail(int why) {
            if (fault == 0) {
                fault = why;
                place = start;
            }
        }

        private void next() {
            start = past;
            while (start < length && (bytes[start] == 32 || bytes[start] == 10)) {
                start++;
            }
            past = start;
            kind = AT_END;
            if (start >= length) {
                return;
            }
            past++;
            if (bytes[start] >= 'a' && bytes[start] <= 'z') {
                kind = IS_WORD;
                while (past < length && bytes[past] >= 'a' && bytes[past] <= 'z') {
                    past++;
                }
            } else if (bytes[start] >= '0' && bytes[start] <= '9') {
                kind = IS_NUMBER;
                while (past < length && bytes[past] >= '0' && bytes[past] <= '9') {
                    past++;
                }
            } else {
                kind = bytes[start] == ';' ? IS_SIGN : IS_NOTHING;
            }
        }
    }

    /** What has come of a TOWN by ACTS. */
    private static final class State {
        static final int CAN = 0;
        private static final int NO_LAST = 1;
        private static final int LAST_DRY = 2;
        private static final int LAST_DRUNK = 3;
        private static final int NO_CUP = 4;
        private static final int NO_WATER = 5;
        private static final int NOT_AGREED = 6;

        final Town town;
        int settled;
        int drunk;
        int level;
        int many;
        final int[] order = new int[MOST_MATTERS];
        final int[] cups = new int[MOST_PEOPLE];

        State(Town town) {
            this.town = town;
        }

        void begin() {
            settled = 0;
            drunk = 0;
            level = town.level;
            many = 0;
            System.arraycopy(town.cups, 0, cups, 0, MOST_PEOPLE);
        }

        void copyFrom(State other) {
            settled = other.settled;
            drunk = other.drunk;
            level = other.level;
            many = other.many;
            System.arraycopy(other.order, 0, order, 0, MOST_MATTERS);
            System.arraycopy(other.cups, 0, cups, 0, MOST_PEOPLE);
        }

        boolean isOpen(int matter) {
            return bitOf(settled, matter) == 0 && (town.on[matter] & ~settled) == 0;
        }

        int openOnes() {
            int bits = 0;
            for (int m = 0; m < town.matters; m++) {
                if (isOpen(m)) {
                    bits |= 1 << m;
                }
            }
            return bits;
        }

        int lastOf(int person) {
            for (int i = many - 1; i >= 0; i--) {
                if ((town.mine[person] >> order[i] & 1) == 1) {
                    return order[i];
                }
            }
            return NONE;
        }

        int whyNot(int person) {
            int last = lastOf(person);
            if (last < 0) {
                return NO_LAST;
            }
            if (bitOf(town.dry, last) == 1) {
                return LAST_DRY;
            }
            if (bitOf(drunk, last) == 1) {
                return LAST_DRUNK;
            }
            if (cups[person] < 1) {
                return NO_CUP;
            }
            if (level < 1) {
                return NO_WATER;
            }
            int other = town.otherParty(last, person);
            int swing = -town.sumOf(other, town.fallIn(settled, last));
            return town.agrees(other, last, swing) ? CAN : NOT_AGREED;
        }

        boolean isWilling(int person) {
            return whyNot(person) == CAN && town.swingOf(person, town.fallIn(settled, lastOf(person))) > 0;
        }

        int wishers() {
            int bits = 0;
            for (int p = 0; p < town.people; p++) {
                if (isWilling(p)) {
                    bits |= 1 << p;
                }
            }
            return bits;
        }

        int allCups() {
            int all = 0;
            for (int p = 0; p < town.people; p++) {
                all += cups[p];
            }
            return all;
        }

        /** Whether a number is an ACT of this TOWN, if it can be or not. */
        boolean isAct(long number) {
            return number >= 0 && number < town.matters
                    || number >= ACT_DRINK && number < ACT_DRINK + town.people
                    || number == ACT_DAY;
        }

        /** Whether the ACT could be; only then it is. */
        boolean take(int act) {
            if (town.hasMatter(act)) {
                return takeSettle(act);
            }
            if (town.hasPerson(act - ACT_DRINK)) {
                return takeDrink(act - ACT_DRINK);
            }
            if (act == ACT_DAY) {
                level = Math.min(MOST_LEVEL, level + town.spring);
                return true;
            }
            return false;
        }

        private boolean takeSettle(int matter) {
            if (!isOpen(matter) || many >= MOST_MATTERS) {
                return false;
            }
            order[many] = matter;
            many++;
            settled |= 1 << matter;
            return true;
        }

        private boolean takeDrink(int person) {
            if (whyNot(person) != CAN) {
                return false;
            }
            int last = lastOf(person);
            int fallen = town.fallIn(settled, last);
            int left = 0;
            for (int i = 0; i < many; i++) {
                if (bitOf(fallen, order[i]) == 0) {
                    order[left] = order[i];
                    left++;
                }
            }
            many = left;
            settled &= ~fallen;
            drunk |= 1 << last;
            cups[person]--;
            level--;
            return true;
        }
    }

    /** How it goes by itself. */
    private static final class Course {
        // Each drinking is of another MATTER, and between two no more are settled than there are.
        private static final int MOST_STEPS = 2 * MOST_MATTERS + MOST_MATTERS * MOST_MATTERS;

        final Town town;
        final State state;
        final int[] taken = new int[MOST_STEPS];
        int steps;
        int drinks;

        Course(Town town) {
            this.town = town;
            state = new State(town);
        }

        void run(State from) {
            state.copyFrom(from);
            steps = 0;
            drinks = 0;
            int act = nextAct();
            while (act >= 0 && steps < MOST_STEPS) {
                state.take(act);
                taken[steps] = act;
                steps++;
                if (act >= ACT_DRINK) {
                    drinks++;
                }
                act = nextAct();
            }
        }

        private int nextAct() {
            for (int p = 0; p < town.people; p++) {
                if (state.isWilling(p)) {
                    return ACT_DRINK + p;
                }
            }
            for (int m = 0; m < town.matters; m++) {
                if (state.isOpen(m) && isGainOfBoth(m)) {
                    return m;
                }
            }
            return NONE;
        }

        private boolean isGainOfBoth(int matter) {
            return town.gainOf(town.partyOf(matter, 0), matter) > 0
                    && town.gainOf(town.partyOf(matter, 1), matter) > 0;
        }
    }

    /** Sets of MATTERS: what STANDS, what is FIRM, what is on what. */
    private static final class Sets {
        final Town town;
        final State now;
        final int[] ways = new int[MOST_SETS];
        final int[] wishers = new int[MOST_MATTERS];
        final int[] firm = new int[MOST_SETS];
        final int[] sums = new int[MOST_SETS * MOST_PEOPLE];
        final int[] rows = new int[MOST_MATTERS];
        int firmCount;

        Sets(Town town, State now) {
            this.town = town;
            this.now = now;
        }

        int allSets() {
            return 1 << town.matters;
        }

        // ways[done]: in how many orders the rest of the set can come behind the done ones.
        int ordersOf(int set) {
            findWishers(set);
            ways[set] = 1;
            for (int done = set - 1; done >= 0; done--) {
                if ((done & ~set) == 0) {
                    ways[done] = waysFrom(set, done);
                }
            }
            return ways[0];
        }

        private int waysFrom(int set, int done) {
            int sum = 0;
            for (int m = 0; m < town.matters; m++) {
                if (fits(set, done, m)) {
                    sum += ways[done | 1 << m];
                }
            }
            return sum;
        }

        // Whether m may come next: whose LAST of the set it is must not wish to drink it back.
        private boolean fits(int set, int done, int m) {
            int rest = set & ~done;
            if (bitOf(rest, m) == 0 || (town.on[m] & ~done) != 0) {
                return false;
            }
            int later = rest & ~(1 << m);
            for (int side = 0; side < 2; side++) {
                int person = town.partyOf(m, side);
                if (bitOf(wishers[m], person) == 1 && (town.mine[person] & later) == 0) {
                    return false;
                }
            }
            return true;
        }

        // Who would wish to drink a MATTER back, were it the LAST, all of the set being settled.
        private void findWishers(int set) {
            for (int m = 0; m < town.matters; m++) {
                wishers[m] = 0;
                for (int side = 0; side < 2 && bitOf(set, m) == 1; side++) {
                    int person = town.partyOf(m, side);
                    if (now.level > 0 && now.cups[person] > 0 && gainByFall(set, m, person) > 0) {
                        wishers[m] |= 1 << person;
                    }
                }
            }
        }

        /** What a PARTY gains by the FALL of a MATTER in a set; 0 if it is dry or the other one does not AGREE. */
        private int gainByFall(int set, int matter, int person) {
            int fallen = town.fallIn(set, matter);
            int other = town.otherParty(matter, person);
            if (bitOf(town.dry, matter) == 1 || !town.agrees(other, matter, town.swingOf(other, fallen))) {
                return 0;
            }
            return town.swingOf(person, fallen);
        }

        int inFirstOrder(int set, int i) {
            if (i < 0 || i >= Integer.bitCount(set) || ordersOf(set) == 0) {
                return NONE;
            }
            int done = 0;
            int latest = NONE;
            for (int k = 0; k <= i; k++) {
                latest = firstFit(set, done);
                if (latest < 0) {
                    return NONE;
                }
                done |= 1 << latest;
            }
            return latest;
        }

        private int firstFit(int set, int done) {
            for (int m = 0; m < town.matters; m++) {
                if (fits(set, done, m) && ways[done | 1 << m] > 0) {
                    return m;
                }
            }
            return NONE;
        }

        // The empty set STANDS always, so there is a best one.
        int bestStanding() {
            int best = 0;
            int most = 0;
            for (int set = 1; set < allSets(); set++) {
                int sum = town.sumOfAll(set);
                if (sum > most && ordersOf(set) > 0) {
                    best = set;
                    most = sum;
                }
            }
            return best;
        }

        int closedOnes() {
            int many = 0;
            for (int set = 0; set < allSets(); set++) {
                if (town.isClosed(set)) {
                    many++;
                }
            }
            return many;
        }

        int longestRow() {
            int longest = 0;
            for (int m = 0; m < town.matters; m++) {
                rows[m] = 1;
                for (int k = 0; k < m; k++) {
                    if (bitOf(town.on[m], k) == 1) {
                        rows[m] = Math.max(rows[m], rows[k] + 1);
                    }
                }
                longest = Math.max(longest, rows[m]);
            }
            return longest;
        }

        int mostBearing() {
            int heaviest = NONE;
            int most = NONE;
            for (int m = 0; m < town.matters; m++) {
                int many = Integer.bitCount(town.bearsOf(m));
                if (many > most) {
                    heaviest = m;
                    most = many;
                }
            }
            return heaviest;
        }

        int keptFor(int set) {
            int kept = set;
            for (int m = 0; m < town.matters; m++) {
                if (bitOf(set, m) == 1) {
                    kept |= town.restsOf(m);
                }
            }
            return kept & ~town.dry;
        }

        boolean isFirm(int set) {
            return town.isClosed(set) && weakestIn(set) < 0;
        }

        int weakestIn(int set) {
            if (!town.isClosed(set)) {
                return NONE;
            }
            int weakest = NONE;
            int most = 0;
            for (int m = 0; m < town.matters; m++) {
                for (int side = 0; side < 2 && bitOf(set, m) == 1; side++) {
                    int gain = gainByFall(set, m, town.partyOf(m, side));
                    if (gain > most) {
                        weakest = m;
                        most = gain;
                    }
                }
            }
            return weakest;
        }

        int findFirm() {
            firmCount = 0;
            for (int set = 0; set < allSets(); set++) {
                if (isFirm(set)) {
                    firm[firmCount] = set;
                    firmCount++;
                }
            }
            return firmCount;
        }

        // The empty set is FIRM always, so there is a best one.
        int bestFirm() {
            findFirm();
            int best = 0;
            int most = 0;
            for (int i = 0; i < firmCount; i++) {
                int sum = town.sumOfAll(firm[i]);
                if (sum > most) {
                    best = firm[i];
                    most = sum;
                }
            }
            return best;
        }

        int votersFor(int set, int other) {
            int bits = 0;
            for (int p = 0; p < town.people; p++) {
                if (town.sumOf(p, set) > town.sumOf(p, other)) {
                    bits |= 1 << p;
                }
            }
            return bits;
        }

        // The SUMS are kept in a row, since each is compared with those of all other FIRM sets.
        int electedOne() {
            findFirm();
            for (int i = 0; i < firmCount; i++) {
                for (int p = 0; p < town.people; p++) {
                    sums[i * MOST_PEOPLE + p] = town.sumOf(p, firm[i]);
                }
            }
            for (int i = 0; i < firmCount; i++) {
                if (isUnbeaten(i)) {
                    return firm[i];
                }
            }
            return NONE;
        }

        private boolean isUnbeaten(int i) {
            for (int k = 0; k < firmCount; k++) {
                int lead = 0;
                for (int p = 0; p < town.people; p++) {
                    lead += Integer.signum(sums[i * MOST_PEOPLE + p] - sums[k * MOST_PEOPLE + p]);
                }
                if (lead < 0) {
                    return false;
                }
            }
            return true;
        }
    }

    /** A game of two. */
    private static final class Game {
        final Town town;
        final State[] states = new State[MOST_TURNS + 1];
        int first;
        int second;
        int turns;
        int firstAct;

        Game(Town town) {
            this.town = town;
            for (int i = 0; i <= MOST_TURNS; i++) {
                states[i] = new State(town);
            }
        }

        int play(State from, int person, int other, int n) {
            first = person;
            second = other;
            turns = n;
            firstAct = NONE;
            states[0].copyFrom(from);
            return outcome(0);
        }

        private int outcome(int turn) {
            State here = states[turn];
            if (turn >= turns || turn >= MOST_TURNS) {
                return town.sumOf(first, here.settled) - town.sumOf(second, here.settled);
            }
            boolean isFirst = turn % 2 == 0;
            int mover = isFirst ? first : second;
            boolean found = false;
            int best = 0;
            for (int act = 0; act <= ACT_NOTHING; act++) {
                if (!goOn(turn, mover, act)) {
                    continue;
                }
                int value = outcome(turn + 1);
                if (!found || (isFirst ? value > best : value < best)) {
                    found = true;
                    best = value;
                    if (turn == 0) {
                        firstAct = act;
                    }
                }
            }
            return best;
        }

        /** Whether the mover may take the ACT; then it stands taken in the next turn's state. */
        private boolean goOn(int turn, int mover, int act) {
            boolean isOwn = town.hasMatter(act) && bitOf(town.mine[mover], act) == 1;
            if (!isOwn && act != ACT_DRINK + mover && act != ACT_NOTHING) {
                return false;
            }
            State next = states[turn + 1];
            next.copyFrom(states[turn]);
            return act == ACT_NOTHING || next.take(act);
        }
    }

    /** What comes of drinking alone. */
    private static final class Sips {
        final Town town;
        final State now;
        final State[] states = new State[MOST_TURNS + 1];
        int times;
        int leftAtWorst;

        Sips(Town town, State now) {
            this.town = town;
            this.now = now;
            for (int i = 0; i <= MOST_TURNS; i++) {
                states[i] = new State(town);
            }
        }

        /** One drinks as often as it CAN: what is settled behind that. */
        int drinkOut(int person) {
            State state = states[0];
            state.copyFrom(now);
            times = 0;
            while (times < MOST_MATTERS && state.take(ACT_DRINK + person)) {
                times++;
            }
            return state.settled;
        }

        /** What is settled if a PERSON drinks now; NONE: it can't. */
        private int afterSip(int person) {
            State state = states[0];
            state.copyFrom(now);
            return state.take(ACT_DRINK + person) ? state.settled : NONE;
        }

        int drinkersTo(int set) {
            int bits = 0;
            for (int p = 0; p < town.people; p++) {
                if (afterSip(p) == set) {
                    bits |= 1 << p;
                }
            }
            return bits;
        }

        int rowsTo(int set, int n) {
            states[0].copyFrom(now);
            return rowsFrom(0, set, n);
        }

        private int rowsFrom(int done, int set, int n) {
            if (done >= n || done >= MOST_TURNS) {
                return states[done].settled == set ? 1 : 0;
            }
            int rows = 0;
            for (int p = 0; p < town.people; p++) {
                State next = states[done + 1];
                next.copyFrom(states[done]);
                if (next.take(ACT_DRINK + p)) {
                    rows += rowsFrom(done + 1, set, n);
                }
            }
            return rows;
        }

        int bestQuestion() {
            leftAtWorst = 0;
            for (int p = 0; p < town.people; p++) {
                if (now.whyNot(p) == State.CAN) {
                    leftAtWorst++;
                }
            }
            int question = NONE;
            for (int m = 0; m < town.matters; m++) {
                int worst = worstAnswer(m);
                if (worst < leftAtWorst) {
                    question = m;
                    leftAtWorst = worst;
                }
            }
            return question;
        }

        private int worstAnswer(int matter) {
            int settledThen = 0;
            int fallenThen = 0;
            for (int p = 0; p < town.people; p++) {
                int after = afterSip(p);
                if (after >= 0 && bitOf(after, matter) == 1) {
                    settledThen++;
                } else if (after >= 0) {
                    fallenThen++;
                }
            }
            return Math.max(settledThen, fallenThen);
        }
    }

    /** Rows of ACTS, judged from the told state on. */
    private static final class Minutes {
        final State state;
        final State other;

        Minutes(Town town) {
            state = new State(town);
            other = new State(town);
        }

        boolean isOfActs(Slot row) {
            for (int i = 0; i < row.many; i++) {
                if (!state.isAct(row.numbers[i])) {
                    return false;
                }
            }
            return true;
        }

        int judgeRow(Slot row) {
            return takeFirst(row, row.many);
        }

        int heldBy(Slot row) {
            takeFirst(row, row.many);
            return state.settled;
        }

        int heldWhen(Slot row, int matter, int n) {
            if (takeFirst(row, n) < n) {
                return NONE;
            }
            return bitOf(state.settled, matter);
        }

        /** How many of the first n can be. */
        private int takeFirst(Slot row, int n) {
            state.begin();
            int taken = 0;
            while (taken < n && taken < row.many && state.take((int) row.numbers[taken])) {
                taken++;
            }
            return taken;
        }

        int firstUnlike(Slot row, Slot row2) {
            state.begin();
            other.begin();
            int both = Math.min(row.many, row2.many);
            for (int i = 0; i < both; i++) {
                if (!state.take((int) row.numbers[i]) || !other.take((int) row2.numbers[i])) {
                    return NONE;
                }
                if (state.settled != other.settled) {
                    return i + 1;
                }
            }
            return NONE;
        }
    }

    /** Water, and years drawn. */
    private static final class Years {
        private static final int LAST_DAY = 1000;

        final Town town;
        final State state;
        long x;
        int drinks;
        int frosts;

        Years(Town town) {
            this.town = town;
            state = new State(town);
        }

        int firstDry(int level, int n) {
            int left = level;
            for (int day = 1; day <= LAST_DAY; day++) {
                left = Math.min(MOST_LEVEL, left + town.spring);
                if (left < n) {
                    return day;
                }
                left -= n;
            }
            return NONE;
        }

        // 0 is never missed, so the search ends there at the latest.
        int mostYield(int level) {
            int n = MOST_LEVEL;
            while (n > 0 && firstDry(level, n) != NONE) {
                n--;
            }
            return n;
        }

        void draw(State from, long seed, int days) {
            state.copyFrom(from);
            x = seed;
            drinks = 0;
            frosts = 0;
            for (int i = 0; i < days; i++) {
                drawDay();
            }
        }

        private void drawDay() {
            state.take(ACT_DAY);
            if (nextDraw(100) < town.frost) {
                frosts++;
                return;
            }
            int person = nextDraw(town.people);
            if (state.isWilling(person)) {
                state.take(ACT_DRINK + person);
                drinks++;
            } else {
                settleFor(person);
            }
        }

        private int nextDraw(int n) {
            x = (1103515245L * x + 12345L) & 2147483647L;
            return n > 0 ? (int) (x / 65536L % n) : 0;
        }

        private void settleFor(int person) {
            for (int m = 0; m < town.matters; m++) {
                if (bitOf(town.mine[person], m) == 1 && state.isOpen(m) && isGoodFor(person, m)) {
                    state.take(m);
                    return;
                }
            }
        }

        private boolean isGoodFor(int person, int m) {
            return town.gainOf(person, m) > 0 && town.gainOf(town.otherParty(m, person), m) >= 0;
        }
    }

    /** A row of numbers of one WIDTH, or nothing. */
    private static final class Slot {
        boolean has;
        int width;
        int many;
        final long[] numbers = new long[MOST_NUMBERS];

        void lay(int newWidth, int n) {
            has = true;
            width = newWidth;
            many = n;
            Arrays.fill(numbers, 0L);
        }

        long cut(long v) {
            switch (width) {
                case 0:
                    return (byte) v;
                case 1:
                    return (short) v;
                case 2:
                    return (int) v;
                default:
                    return v;
            }
        }

        // The two are compared by a difference, since a sum could wrap around.
        boolean spans(int from, int n) {
            return from >= 0 && n >= 0 && from <= many && n <= many - from;
        }
    }

    /** A TOWN with its ACTS, kept. */
    private static final class Image {
        boolean has;
        final Town town = new Town();
        final int[] acts = new int[MOST_ACTS];
        int actCount;

        void store(Town told, int[] taken, int many) {
            has = true;
            town.copyFrom(told);
            System.arraycopy(taken, 0, acts, 0, MOST_ACTS);
            actCount = many;
        }

        int restore(Town told, int[] taken) {
            told.copyFrom(town);
            System.arraycopy(acts, 0, taken, 0, MOST_ACTS);
            return actCount;
        }
    }
}
