/** Promises 2 to 5: where the TAPE is full or empty, what stays at a FAULT, what fault() has no answer for. */
public final class TapeEdgesTest {
    private static final String WELL = "well level 5 spring 1 frost 0;";
    private static final String PEOPLE = "person cups 1;person cups 2 stubborn;";

    public static void main(String[] args) {
        feedToTheBrim();
        feedRefused();
        feedBehind();
        feedHighestFirst();
        endOfAll();
        endRefused();
        endOfNone();
        townEmpties();
        townOfTheBrim();
        townInPlace();
        townOfFifteenLines();
        faultStays();
        faultOfTheLatest();
        faultAheadOfAny();
        faultOfAnother();
        Check.finish("TapeEdgesTest");
    }

    private static void feedToTheBrim() {
        for (int cut = 0; cut <= 20; cut++) {
            SecondWell w = new SecondWell();
            for (int bytes = 20; bytes <= 900; bytes += 20) {
                Check.due("feed", w.feed(0, 0, 0, 0, 0), bytes);
            }
            Check.due("end", w.end(900 - cut), 900 - cut);
            Check.due("feed behind " + (900 - cut), w.feed(0, 0, 0, 0, 0), cut < 20 ? -1 : 900);
            Check.due("count(5)", w.count(5), cut < 20 ? 900 - cut : 900);
        }
    }

    // None of the twenty come, not even those for which there is room.
    private static void feedRefused() {
        byte[] text = (WELL + " ".repeat(851)).getBytes();
        SecondWell w = new SecondWell();
        Check.feedBytes(w, text);
        Check.due("count(5)", w.count(5), 881);
        for (int i = 0; i < 3; i++) {
            Check.due("feed to 901", w.feed(0x21212121, 0x21212121, 0x21212121, 0x21212121, 0x21212121), -1);
            Check.due("count(5)", w.count(5), 881);
        }
        Check.due("end(882)", w.end(882), -1);
        Check.due("town()", w.town(), 1);
        Check.due("feed, empty again", w.feed(0, 0, 0, 0, 0), 20);
    }

    // What end() cut is gone; what is fed next comes behind the rest.
    private static void feedBehind() {
        SecondWell w = new SecondWell();
        Check.feed(w, "well level 99999999!");
        Check.due("end(12)", w.end(12), 12);
        Check.feed(w, " spring 1 frost 0;");
        Check.due("count(5)", w.count(5), 30);
        Check.due("town()", w.town(), 1);
        Check.due("level()", w.level(), 9);
    }

    private static void feedHighestFirst() {
        SecondWell w = new SecondWell();
        Check.due("feed", w.feed(0x77656c6c, 0x206c6576, 0x656c2031, 0x32207370, 0x72696e67), 20);
        Check.due("feed", w.feed(0x33206672, 0x6f737420, 0x34353b0a, 0x20200a0a, 0x0a202020), 40);
        Check.due("town()", w.town(), 1);
        Check.due("level()", w.level(), 12);
        Check.due("spring", w.count(2), 3);
        Check.due("frost", w.count(3), 45);
        // Each byte alone, at its place; those of 128 and above too.
        for (int at = 0; at < 20; at++) {
            int[] five = {0x20202020, 0x20202020, 0x20202020, 0x20202020, 0x20202020};
            five[at / 4] ^= (0x20 ^ (128 + at)) << (24 - 8 * (at % 4));
            w.feed(five[0], five[1], five[2], five[3], five[4]);
            Check.due("town() of a byte", w.town(), -4);
            Check.due("its place", w.fault(1), at);
        }
    }

    private static void endOfAll() {
        SecondWell w = new SecondWell();
        Check.feed(w, WELL);
        Check.due("end(30)", w.end(30), 30);
        Check.due("count(5)", w.count(5), 30);
        Check.due("end(29)", w.end(29), 29);
        Check.due("end(30), which is gone", w.end(30), -1);
        Check.due("count(5)", w.count(5), 29);
        Check.due("end(1)", w.end(1), 1);
        Check.due("end(0)", w.end(0), 0);
        Check.due("count(5)", w.count(5), 0);
    }

    private static void endRefused() {
        SecondWell w = new SecondWell();
        Check.feed(w, WELL);
        Check.each("end", w::end, -1, 31, 40, 900, 901, Check.MOST, -1, -30, Check.LEAST);
        Check.due("count(5)", w.count(5), 30);
        Check.due("town()", w.town(), 1);
    }

    private static void endOfNone() {
        SecondWell w = new SecondWell();
        Check.each("end of an empty TAPE", w::end, -1, 1, 20, 900, -1, Check.LEAST, Check.MOST);
        Check.due("end(0)", w.end(0), 0);
    }

    private static void townEmpties() {
        SecondWell w = new SecondWell();
        Check.feed(w, WELL);
        Check.due("town()", w.town(), 1);
        Check.due("count(5)", w.count(5), 0);
        Check.due("end(1)", w.end(1), -1);
        Check.feed(w, "person");
        Check.due("town()", w.town(), -4);
        Check.due("count(5) behind a FAULT", w.count(5), 0);
    }

    private static void townOfTheBrim() {
        String text = WELL + " ".repeat(856) + PEOPLE.substring(0, 14);
        Check.due("bytes", text.length(), 900);
        SecondWell w = new SecondWell();
        Check.feed(w, text);
        Check.due("count(5)", w.count(5), 900);
        Check.due("town()", w.town(), 2);
        Check.due("PEOPLE", w.count(0), 1);
        Check.feed(w, text);
        w.end(899);
        Check.due("town() of 899", w.town(), -4);
        Check.due("fault(1)", w.fault(1), 899);
    }

    // In place of another, with nothing of what that had: ACTS, PEOPLE, MARKS.
    private static void townInPlace() {
        SecondWell w = Check.told(TownTest.TOWN);
        w.price(0, 0, 50);
        w.mark(0, 0, 1);
        Check.take(w, 0, 2, 20);
        Check.feed(w, WELL + "person cups 5;person cups 6;matter 0 gains 7 1 loses 8;");
        Check.due("town()", w.town(), 4);
        SecondWell other = Check.told(WELL + "person cups 5;person cups 6;matter 0 gains 7 1 loses 8;");
        Picture.same("a TOWN in place of another", w, other);
        String plain = WELL + "person cups 1;".repeat(6) + "matter 2 gains 1 3 gains 1;".repeat(8);
        w = Check.told(Towns.BIG.replace(";person", " stubborn;person").replace(" stubborn stubborn", " stubborn"));
        Check.take(w, 0, 1, 2);
        Check.feed(w, plain);
        Check.due("town()", w.town(), 15);
        Picture.same("a plain TOWN in place of another", w, Check.told(plain));
        // Behind a text with a FAULT nothing of that is left either.
        w = new SecondWell();
        Check.feed(w, Towns.BIG + "!");
        Check.due("town()", w.town(), -4);
        Check.feed(w, plain);
        Check.due("town()", w.town(), 15);
        Picture.same("a plain TOWN behind a FAULT", w, Check.told(plain));
    }

    private static void townOfFifteenLines() {
        SecondWell w = Check.readsDue(Towns.BIG, 15);
        Check.due("PEOPLE", w.count(0), 6);
        Check.due("MATTERS", w.count(1), 8);
        Check.readsDue(WELL, 1);
    }

    // All stays: the TOWN, prices and MARKS, ACTS, SLOTS, IMAGES; only fault() tells of it.
    private static void faultStays() {
        for (String text : new String[] {"!", "well level 100;", Towns.BIG + "person cups 1;", TownTest.TOWN + "well"}) {
            SecondWell[] two = {livedIn(), livedIn()};
            for (int i = 0; i < 2; i++) {
                Check.feed(two[i], i == 0 ? text : "x");
                Check.due("town()", two[i].town(), -4);
            }
            Check.due("count(5)", two[0].count(5), 0);
            // Both are told the same FAULT now, so that they differ by nothing else.
            Check.feed(two[0], "x");
            Check.due("town()", two[0].town(), -4);
            Picture.same("behind a FAULT", two[0], two[1]);
            SecondWell w = livedIn();
            Check.feed(w, text);
            w.town();
            Check.due("level()", w.level(), 4);
            Check.due("settled()", w.settled(), 1);
            Check.due("ACTS", w.count(6), 4);
            Check.due("matter(0, 2)", w.matter(0, 2), 50);
            Check.due("undo()", w.undo(), 3);
            Check.due("back(1)", w.back(1), 0);
            Check.due("count(7)", w.count(7), 1);
        }
    }

    private static SecondWell livedIn() {
        SecondWell w = Check.told(TownTest.TOWN);
        w.price(0, 0, 50);
        w.image(1);
        Check.take(w, 0, 2, 10, 20);
        Check.put(w, 0, 0, 0, 1, 20);
        return w;
    }

    private static void faultOfTheLatest() {
        SecondWell w = new SecondWell();
        String[] texts = {"well level 100", WELL, "person", WELL + "!", "", WELL + "person cups 1;".repeat(7), WELL};
        int[] faults = {2, 0, 1, 1, 0, 3, 0};
        int[] places = {11, -1, 0, 30, -1, 114, -1};
        for (int i = 0; i < texts.length; i++) {
            Check.feed(w, texts[i]);
            Check.due("fault(0) while it is fed", w.fault(0), i == 0 ? 0 : faults[i - 1]);
            w.town();
            Check.due("fault(0)", w.fault(0), faults[i]);
            Check.due("fault(1)", w.fault(1), places[i]);
        }
        Check.feed(w, "x");
        w.image(0);
        w.town();
        w.back(0);
        w.day();
        w.anew();
        Check.due("fault(0), behind other calls", w.fault(0), 1);
        Check.due("fault(1), behind other calls", w.fault(1), 0);
    }

    private static void faultAheadOfAny() {
        SecondWell w = new SecondWell();
        Check.due("fault(0)", w.fault(0), 0);
        Check.due("fault(1)", w.fault(1), -1);
        Check.feed(w, "!");
        Check.due("fault(0), fed alone", w.fault(0), 0);
        Check.due("fault(1), fed alone", w.fault(1), -1);
    }

    private static void faultOfAnother() {
        SecondWell w = new SecondWell();
        Check.each("fault ahead of any", w::fault, -1, Check.beyond(2));
        Check.feed(w, "well level 100");
        w.town();
        Check.each("fault behind a FAULT", w::fault, -1, Check.beyond(2));
        Check.feed(w, WELL);
        w.town();
        Check.each("fault without", w::fault, -1, Check.beyond(2));
    }
}
