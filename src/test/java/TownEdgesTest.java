/** Promises 6 to 16 and Terms II: the first and the last PERSON, MATTER, what; who just CAN and who just can't. */
public final class TownEdgesTest {
    public static void main(String[] args) {
        people();
        peopleBeyond();
        matters();
        mattersBeyond();
        levels();
        nothingAtFirst();
        orders();
        opens();
        lasts();
        falls();
        fallsOfSettledAlone();
        swings();
        whys();
        whyFirst();
        agreeing();
        agreeingByTheWholeFall();
        agreeingOfEachPair();
        cupsAndWater();
        wishing();
        wishingOfAll();
        nobodyAndNothing();
        drunkBackOnce();
        Check.finish("TownEdgesTest");
    }

    private static SecondWell allSettled() {
        SecondWell w = Check.told(Towns.BIG);
        Check.take(w, 0, 1, 2, 3, 4, 5, 6, 7);
        return w;
    }

    private static void people() {
        SecondWell w = Check.told(Towns.BIG);
        SecondWell all = allSettled();
        int[][] want = {{9, 0, 97, 100}, {8, 1, 3, -98}, {7, 0, 70, 12}, {6, 0, 12, -3}, {5, 0, 152, 3}, {0, 0, 176, 3}};
        for (int p = 0; p < 6; p++) {
            for (int what = 0; what < 4; what++) {
                int due = want[p][what];
                Check.due("person(" + p + ", " + what + ")", w.person(p, what), what == 3 ? 0 : due);
                Check.due("person(" + p + ", " + what + "), all settled", all.person(p, what), due);
            }
        }
    }

    private static void peopleBeyond() {
        SecondWell big = Check.told(Towns.BIG);
        SecondWell three = Check.told(TownTest.TOWN);
        for (int what = 0; what < 4; what++) {
            int asked = what;
            Check.each("person, what " + what, p -> big.person(p, asked), -1000, Check.beyond(6));
            Check.each("person of three, what " + what, p -> three.person(p, asked), -1000, Check.beyond(3));
        }
        Check.each("person(0, ..)", what -> big.person(0, what), -1000, Check.beyond(4));
        Check.each("person(5, ..)", what -> big.person(5, what), -1000, Check.beyond(4));
        Check.each("person(6, ..)", what -> big.person(6, what), -1000, Check.beyond(4));
    }

    private static void matters() {
        SecondWell w = Check.told(Towns.BIG);
        int[][] want = {{0, 1, 99, -99, 0, 0, 0}, {1, 2, 1, 2, 1, 0, 0}, {2, 3, 3, -3, 2, 0, 1}, {3, 4, 0, 0, 0, 1, 0},
            {4, 5, -5, 5, 8, 0, 0}, {5, 0, 6, -6, 16, 1, 1}, {0, 2, 7, 7, 0, 0, 0}, {4, 5, 8, -8, 127, 0, 0}};
        for (int m = 0; m < 8; m++) {
            for (int what = 0; what < 7; what++) {
                Check.due("matter(" + m + ", " + what + ")", w.matter(m, what), want[m][what]);
            }
            Check.due("matter(" + m + ", 7)", w.matter(m, 7), 0);
            Check.due("matter(" + m + ", 8)", w.matter(m, 8), 0);
        }
        SecondWell all = allSettled();
        for (int m = 0; m < 8; m++) {
            Check.due("matter(" + m + ", 7), all settled", all.matter(m, 7), 1);
            Check.due("matter(" + m + ", 8), all settled", all.matter(m, 8), 0);
        }
    }

    private static void mattersBeyond() {
        SecondWell big = Check.told(Towns.BIG);
        SecondWell four = Check.told(TownTest.TOWN);
        for (int what = 0; what < 9; what++) {
            int asked = what;
            Check.each("matter, what " + what, m -> big.matter(m, asked), -1000, Check.beyond(8));
            Check.each("matter of four, what " + what, m -> four.matter(m, asked), -1000, Check.beyond(4));
        }
        Check.each("matter(0, ..)", what -> big.matter(0, what), -1000, Check.beyond(9));
        Check.each("matter(7, ..)", what -> big.matter(7, what), -1000, Check.beyond(9));
        Check.each("matter(8, ..)", what -> big.matter(8, what), -1000, Check.beyond(9));
    }

    private static void levels() {
        for (int n : new int[] {0, 1, 98, 99}) {
            SecondWell w = Check.told("well level " + n + " spring 1 frost 0;");
            Check.due("level()", w.level(), n);
            w.day();
            Check.due("level() behind a DAY", w.level(), Math.min(99, n + 1));
        }
    }

    private static void nothingAtFirst() {
        SecondWell w = Check.told(Towns.BIG);
        Check.due("settled()", w.settled(), 0);
        Check.due("wishes()", w.wishes(), 0);
        for (int p = 0; p < 6; p++) {
            Check.due("last(" + p + ")", w.last(p), -1);
            Check.due("why(" + p + ")", w.why(p), 1);
        }
    }

    private static void orders() {
        SecondWell none = Check.told(Towns.BIG);
        Check.each("order of nothing", none::order, -1, 0, 1, 7, -1, Check.LEAST, Check.MOST);
        SecondWell w = Check.told(Towns.JUGS);
        int[] order = {7, 3, 0, 6, 1, 5, 2, 4};
        for (int many = 0; many < 8; many++) {
            Check.take(w, order[many]);
            Check.row("order of " + (many + 1), w::order, java.util.Arrays.copyOf(order, many + 1));
            Check.each("order of " + (many + 1), w::order, -1, many + 1, many + 2, -1);
        }
        Check.due("settled()", w.settled(), 255);
        Check.each("order of eight", w::order, -1, Check.beyond(8));
        Check.take(w, 10);
        Check.row("order, the others stay", w::order, 7, 3, 0, 6, 1, 5, 2, -1);
        Check.take(w, 4);
        Check.row("order, settled again", w::order, 7, 3, 0, 6, 1, 5, 2, 4, -1);
        // What falls from the midst goes; the order of the others stays.
        w = Check.told(Towns.ofThree("0 gains 1 1 gains 1", "0 gains 1 1 gains 1", "1 gains 1 2 gains 1 on 0",
                "0 gains 1 1 gains 1 jug", "1 gains 1 2 gains 1 on 3", "1 gains 1 2 gains 1"));
        Check.take(w, 5, 0, 3, 4, 2);
        Check.take(w, 1);
        Check.row("order", w::order, 5, 0, 3, 4, 2, 1, -1);
        w.undo();
        Check.due("last(0)", w.last(0), 3);
        Check.due("drink(0)", w.drink(0), 2);
        Check.row("order behind it", w::order, 5, 0, 2, -1);
    }

    private static void opens() {
        SecondWell w = Check.told(Towns.BIG);
        Check.due("open()", w.open(), 1 + 8 + 64);
        Check.take(w, 0);
        Check.due("open(), 0 is settled", w.open(), 2 + 8 + 64);
        Check.take(w, 1, 2, 3, 4, 6);
        Check.due("open(), 5 is missing for 7", w.open(), 32);
        Check.take(w, 5);
        Check.due("open(), all of 7's are", w.open(), 128);
        Check.take(w, 7);
        Check.due("open(), none", w.open(), 0);
        Check.due("open() of no MATTERS", Check.told("well level 1 spring 1 frost 1;").open(), 0);
    }

    private static void lasts() {
        SecondWell w = Check.told(Towns.BIG);
        Check.each("last", w::last, -2, Check.beyond(6));
        Check.take(w, 0);
        Check.row("last", w::last, 0, 0, -1, -1, -1, -1);
        Check.take(w, 6);
        Check.row("last", w::last, 6, 0, 6, -1, -1, -1);
        Check.take(w, 1, 2, 3, 4, 5, 7);
        Check.row("last", w::last, 5, 1, 2, 3, 7, 7);
        SecondWell one = Check.told("well level 1 spring 1 frost 1;person cups 1;");
        Check.due("last(0), of no MATTERS", one.last(0), -1);
        Check.each("last of one", one::last, -2, Check.beyond(1));
    }

    private static void falls() {
        SecondWell w = Check.told(Towns.BIG);
        Check.row("fall, none settled", w::fall, 0, 0, 0, 0, 0, 0, 0, 0);
        Check.each("fall", w::fall, -2, Check.beyond(8));
        SecondWell all = allSettled();
        Check.row("fall", all::fall, 135, 134, 132, 184, 176, 160, 192, 128);
        Check.each("fall", all::fall, -2, Check.beyond(8));
        Check.each("fall of four", Check.told(TownTest.TOWN)::fall, -2, Check.beyond(4));
    }

    private static void fallsOfSettledAlone() {
        SecondWell w = Check.told(Towns.BIG);
        Check.take(w, 0, 1, 3);
        Check.row("fall of what is settled", w::fall, 3, 2, 0, 8, 0, 0, 0, 0);
        Check.take(w, 4);
        Check.row("fall of what is settled", w::fall, 3, 2, 0, 24, 16, 0, 0, 0);
    }

    private static void swings() {
        SecondWell all = allSettled();
        int[][] want = {{-99, 0, 0, 6, 6, 6, -7, 0}, {98, -1, 0, 0, 0, 0, 0, 0}, {-5, -5, -3, 0, 0, 0, -7, 0},
            {3, 3, 3, 0, 0, 0, 0, 0}, {-8, -8, -8, -3, -3, -8, -8, -8}, {8, 8, 8, -3, -3, 2, 8, 8}};
        SecondWell none = Check.told(Towns.BIG);
        for (int p = 0; p < 6; p++) {
            int person = p;
            Check.row("swing(" + p + ", ..)", m -> all.swing(person, m), want[p]);
            Check.row("swing, none settled", m -> none.swing(person, m), 0, 0, 0, 0, 0, 0, 0, 0);
        }
        Check.each("swing(.., 0)", p -> all.swing(p, 0), -1000, Check.beyond(6));
        Check.each("swing(5, ..)", m -> all.swing(5, m), -1000, Check.beyond(8));
        Check.each("swing(.., 8)", p -> all.swing(p, 8), -1000, 0, 5, 6, -1);
        Check.each("swing(6, ..), not settled", m -> none.swing(6, m), -1000, 0, 7, 8, -1);
        Check.each("swing(0, ..), not settled", m -> none.swing(0, m), -1000, 8, -1);
    }

    // Each answer that why() has, on either side of what makes it.
    private static void whys() {
        SecondWell w = Check.told(TownTest.TOWN);
        Check.each("why", w::why, -2, Check.beyond(3));
        w = Check.told(Towns.ofTwo(1, "0 loses 1 1 gains 0 dry", "0 loses 1 1 gains 0"));
        Check.due("no LAST", w.why(0), 1);
        Check.take(w, 0);
        Check.due("a dry LAST", w.why(0), 2);
        Check.take(w, 1);
        Check.due("a LAST that is not dry", w.why(0), 0);
        Check.take(w, 10);
        Check.due("the dry one is LAST again", w.why(0), 2);
        Check.due("why() of nobody", Check.told("well level 1 spring 1 frost 1;").why(0), -2);
        Check.each("why of six", Check.told(Towns.BIG)::why, -2, Check.beyond(6));
        Check.each("why of six", Check.told(Towns.BIG)::why, 1, 0, 5);
    }

    // Each two of WHY that may come together: the first of them is told.
    private static void whyFirst() {
        String none = "well level 0 spring 0 frost 0;";
        SecondWell w = Check.told(none + "person cups 0;person cups 1;matter 0 gains 1 1 gains 1 dry;");
        Check.take(w, 0);
        Check.due("2 ahead of 4, 5, 6", w.why(0), 2);
        Check.due("2 ahead of 5, 6", w.why(1), 2);
        w = Check.told("well level 1 spring 0 frost 0;person cups 1;person cups 1 stubborn;"
                + "matter 0 gains 1 1 gains 1 dry;");
        Check.take(w, 0);
        Check.due("2 ahead of 6", w.why(0), 2);
        w = Check.told(none + "person cups 0;person cups 1;matter 0 gains 1 1 gains 1;");
        Check.due("1 ahead of 4, 5", w.why(0), 1);
        Check.due("1 ahead of 5", w.why(1), 1);
        Check.take(w, 0);
        Check.due("4 ahead of 5, 6", w.why(0), 4);
        Check.due("5 ahead of 6", w.why(1), 5);
        w = Check.told("well level 1 spring 0 frost 0;person cups 0;person cups 1;matter 0 gains 1 1 gains 1;");
        Check.take(w, 0);
        Check.due("4 ahead of 6", w.why(0), 4);
        Check.due("6 alone", w.why(1), 6);
        w = Check.told("well level 1 spring 1 frost 0;person cups 1;person cups 2;matter 0 gains 1 1 loses 0;"
                + "matter 0 gains 1 1 gains 0 on 0;");
        Check.take(w, 0, 10, 0);
        Check.due("3 ahead of 4, 5", w.why(0), 3);
        Check.due("3 ahead of 5, 6", w.why(1), 3);
        Check.take(w, 20);
        Check.due("3 ahead of 4", w.why(0), 3);
        Check.due("3 ahead of 6", w.why(1), 3);
    }

    // jug, stubborn, and the other one's SWING by -1, 0, 1.
    private static void agreeing() {
        for (int swing = -1; swing <= 1; swing++) {
            for (int kind = 0; kind < 4; kind++) {
                boolean jug = (kind & 1) == 1;
                boolean stubborn = (kind & 2) == 2;
                SecondWell w = Check.told("well level 1 spring 0 frost 0;person cups 1;person cups 1"
                        + (stubborn ? " stubborn" : "") + ";matter 0 loses 1 1 "
                        + (swing < 0 ? "gains 1" : swing == 0 ? "gains 0" : "loses 1") + (jug ? " jug;" : ";"));
                Check.take(w, 0);
                boolean agrees = jug || !stubborn && swing >= 0;
                String how = "jug " + jug + ", stubborn " + stubborn + ", SWING " + swing;
                Check.due("swing(1, 0), " + how, w.swing(1, 0), swing);
                Check.due("why(0), " + how, w.why(0), agrees ? 0 : 6);
                Check.due("wishes(), " + how, w.wishes() & 1, agrees ? 1 : 0);
                Check.due("drink(0), " + how, w.drink(0), agrees ? 1 : -5);
            }
        }
    }

    private static void agreeingByTheWholeFall() {
        for (int swing = -1; swing <= 1; swing++) {
            SecondWell w = Check.told(Towns.ofThree("0 loses 1 1 gains 5", "1 loses " + (5 + swing) + " 2 gains 1 on 0"));
            Check.take(w, 0);
            Check.due("why(0), by it alone", w.why(0), 6);
            Check.take(w, 1);
            Check.due("swing(1, 0)", w.swing(1, 0), swing);
            Check.due("why(0), by all that fall", w.why(0), swing < 0 ? 6 : 0);
        }
        // One that drinks may be stubborn itself.
        SecondWell w = Check.told("well level 1 spring 0 frost 0;person cups 1 stubborn;person cups 1;"
                + "matter 0 loses 1 1 gains 0;");
        Check.take(w, 0);
        Check.due("why(0), itself stubborn", w.why(0), 0);
        Check.due("why(1), the other one stubborn", w.why(1), 6);
        // A MATTER on which the jug is counts for that one alone.
        w = Check.told(Towns.ofThree("0 loses 1 1 gains 5 jug", "0 loses 1 1 gains 5"));
        Check.take(w, 0);
        Check.due("why(0), with a jug", w.why(0), 0);
        Check.take(w, 1);
        Check.due("why(0), without", w.why(0), 6);
    }

    // It is the other PARTY of LAST that is asked, whoever the two are and whichever MATTER it is.
    private static void agreeingOfEachPair() {
        for (int k = 0; k < 8; k++) {
            for (int a = 0; a < 6; a++) {
                for (int b = 0; b < 6; b++) {
                    if (a != b) {
                        pairDue(k, a, b);
                    }
                }
            }
        }
    }

    private static void pairDue(int k, int a, int b) {
        String pair = "MATTER " + k + " of " + a + " and " + b;
        SecondWell w = Check.told(Towns.ofPair(k, b, a + " loses 1 " + b + " gains 0"));
        Check.take(w, k);
        Check.due(pair + ", the second stubborn: why(" + a + ")", w.why(a), 6);
        Check.due(pair + ", the second stubborn: why(" + b + ")", w.why(b), 0);
        w = Check.told(Towns.ofPair(k, 9, a + " loses 1 " + b + " gains 2"));
        Check.take(w, k);
        Check.due(pair + ", the second gains: why(" + a + ")", w.why(a), 6);
        Check.due(pair + ", the second gains: why(" + b + ")", w.why(b), 0);
        Check.due(pair + ": wishes()", w.wishes(), 0);
        w = Check.told(Towns.ofPair(k, 9, a + " gains 0 " + b + " loses 3"));
        Check.take(w, k);
        Check.due(pair + ": wishes()", w.wishes(), 1 << b);
        Check.due(pair + ": last(" + a + ")", w.last(a), k);
        Check.due(pair + ": drink(" + b + ")", w.drink(b), 1);
        Check.due(pair + ": cups", w.person(b, 0), 0);
    }

    private static void cupsAndWater() {
        for (int cups = 0; cups <= 2; cups++) {
            for (int level = 0; level <= 2; level++) {
                SecondWell w = Check.told("well level " + level + " spring 0 frost 0;person cups " + cups
                        + ";person cups 0;matter 0 loses 1 1 gains 0;matter 0 loses 1 1 gains 0;");
                Check.take(w, 0, 1);
                Check.due("why(0)", w.why(0), cups == 0 ? 4 : level == 0 ? 5 : 0);
                if (cups > 0 && level > 0) {
                    Check.due("drink(0)", w.drink(0), 1);
                    Check.due("a cup is gone", w.person(0, 0), cups - 1);
                    Check.due("one of the level is gone", w.level(), level - 1);
                    Check.due("why(0)", w.why(0), cups == 1 ? 4 : level == 1 ? 5 : 0);
                }
            }
        }
    }

    private static void wishing() {
        for (int swing = -1; swing <= 1; swing++) {
            SecondWell w = Check.told(Towns.ofTwo(1, "0 " + (swing < 0 ? "gains 1" : "loses " + swing) + " 1 gains 0"));
            Check.due("wishes(), nothing settled", w.wishes(), 0);
            Check.take(w, 0);
            Check.due("swing(0, 0)", w.swing(0, 0), swing);
            Check.due("why(0)", w.why(0), 0);
            Check.due("wishes(), SWING " + swing, w.wishes(), swing > 0 ? 1 : 0);
        }
        // A SWING above 0 by all that fall, below 0 by LAST alone.
        SecondWell w = Check.told(Towns.ofThree("0 gains 1 1 gains 0", "0 loses 1 2 gains 0 on 0", "1 gains 0 2 gains 0"));
        Check.take(w, 0, 1);
        Check.due("wishes(), its own LAST", w.wishes(), 1);
        w = Check.told(Towns.ofThree("0 gains 1 1 loses 1 jug", "1 loses 1 2 gains 0 on 0", "0 gains 0 2 gains 0 on 1"));
        Check.take(w, 0, 1, 2);
        Check.due("wishes()", w.wishes(), 2);
    }

    private static void wishingOfAll() {
        SecondWell w = Check.told("well level 9 spring 0 frost 0;" + "person cups 1;".repeat(6)
                + "matter 0 loses 1 1 loses 1;matter 2 loses 1 3 loses 1;matter 4 loses 1 5 loses 1;");
        Check.due("wishes()", w.wishes(), 0);
        Check.take(w, 0, 2);
        Check.due("wishes()", w.wishes(), 1 + 2 + 16 + 32);
        Check.take(w, 1);
        Check.due("wishes(), all six", w.wishes(), 63);
        Check.take(w, 15);
        Check.due("wishes()", w.wishes(), 15);
    }

    private static void nobodyAndNothing() {
        SecondWell w = Check.told("well level 7 spring 1 frost 0;");
        Check.due("settled()", w.settled(), 0);
        Check.due("wishes()", w.wishes(), 0);
        Check.each("person of nobody", p -> w.person(p, 0), -1000, 0, 1, -1);
        Check.each("matter of none", m -> w.matter(m, 0), -1000, 0, 1, -1);
        Check.each("last of nobody", w::last, -2, 0, 1, -1);
        Check.each("fall of none", w::fall, -2, 0, 1, -1);
        Check.each("swing of nobody", p -> w.swing(p, 0), -1000, 0, -1);
        Check.each("order", w::order, -1, 0, -1);
        Check.each("settle", w::settle, -2, 0, -1);
        Check.each("drink", w::drink, -2, 0, -1);
        Check.due("day()", w.day(), 8);
    }

    // Never again, whoever asks; what fell with it may be, once.
    private static void drunkBackOnce() {
        SecondWell w = Check.told(Towns.ofThree("0 gains 1 1 gains 1 jug", "1 gains 1 2 gains 1 on 0 jug"));
        Check.take(w, 0, 1);
        Check.due("drink(0)", w.drink(0), 2);
        Check.due("matter(0, 8)", w.matter(0, 8), 1);
        Check.due("matter(1, 8), which fell", w.matter(1, 8), 0);
        Check.take(w, 0);
        Check.due("why(0)", w.why(0), 3);
        Check.due("why(1)", w.why(1), 3);
        Check.take(w, 1);
        Check.due("why(1), what fell", w.why(1), 0);
        Check.due("why(2), what fell", w.why(2), 0);
        Check.due("drink(2)", w.drink(2), 1);
        Check.due("matter(1, 8)", w.matter(1, 8), 1);
        Check.take(w, 1);
        Check.due("why(1), behind that", w.why(1), 3);
        Check.due("why(2), behind that", w.why(2), 3);
    }
}
