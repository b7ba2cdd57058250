/** Promises 57 to 61 and Terms VI: the last drop, the last cup, the first and the last seed, the frost's bound. */
public final class WaterEdgesTest {
    private static final int MOST_SEED = 2000000000;

    public static void main(String[] args) {
        lastsBounds();
        lastsFirstDay();
        lastsLongest();
        lastsAtMost();
        lastsForEver();
        yields();
        cups();
        drawnBounds();
        drawnNobody();
        drawnOfNoDays();
        drawnDays();
        drawnFrost();
        drawnDraws();
        drawnWishes();
        drawnGains();
        drawnOfEachPair();
        drawnLeast();
        luckBounds();
        luckSeeds();
        asAhead();
        Check.finish("WaterEdgesTest");
    }

    private static SecondWell well(int level, int spring) {
        return Check.told("well level " + level + " spring " + spring + " frost 0;");
    }

    private static void lastsBounds() {
        SecondWell w = well(50, 5);
        Check.each("lasts", w::lasts, -2, Check.beyond(100));
        Check.due("lasts(0)", w.lasts(0), -1);
        Check.due("lasts(99)", w.lasts(99), 1);
    }

    // Behind spring the level is below n: by one, not at all.
    private static void lastsFirstDay() {
        SecondWell w = well(3, 2);
        Check.due("lasts(6), of 5 on the first DAY", w.lasts(6), 1);
        Check.due("lasts(5), of 5 on the first DAY", w.lasts(5), 2);
        // 5, 1 and 2, then below 4.
        Check.due("lasts(4)", w.lasts(4), 2);
        // 5, 2 and 2, 1 and 2, then below 3.
        Check.due("lasts(3)", w.lasts(3), 4);
        Check.due("lasts(2)", w.lasts(2), -1);
        w.day();
        Check.due("lasts(6), the level as now", w.lasts(6), 2);
        Check.due("lasts(7)", w.lasts(7), 2);
        Check.due("lasts(8)", w.lasts(8), 1);
    }

    private static void lastsLongest() {
        Check.due("99, one a DAY", well(99, 0).lasts(1), 100);
        Check.due("98, one a DAY", well(98, 0).lasts(1), 99);
        Check.due("1, one a DAY", well(1, 0).lasts(1), 2);
        Check.due("0, one a DAY", well(0, 0).lasts(1), 1);
        Check.due("99, two a DAY", well(99, 1).lasts(2), 99);
        Check.due("99, 98 a DAY", well(99, 0).lasts(98), 2);
    }

    // 99 behind spring, and no more.
    private static void lastsAtMost() {
        Check.due("of 99 on the first DAY", well(99, 9).lasts(99), 2);
        Check.due("of 99 on the first DAY", well(90, 9).lasts(99), 2);
        Check.due("of 98 on the first DAY", well(89, 9).lasts(99), 1);
        // 99 less 54 is 45, with spring 54; 99 less 55 is 44, with spring 53. Were it 108, both were enough.
        Check.due("54 of 99", well(99, 9).lasts(54), 3);
        Check.due("55 of 99", well(99, 9).lasts(55), 2);
        Check.due("10 of 99", well(99, 9).lasts(10), 91);
        Check.due("10 of 90", well(90, 9).lasts(10), 91);
        Check.due("10 of 89", well(89, 9).lasts(10), 90);
    }

    private static void lastsForEver() {
        for (int spring = 0; spring <= 9; spring++) {
            for (int level : new int[] {0, 1, 50, 99}) {
                SecondWell w = well(level, spring);
                Check.due("as much as comes", w.lasts(spring), -1);
                Check.due("one more", w.lasts(spring + 1) > 0 ? 1 : 0, 1);
                Check.due("yields()", w.yields(), spring);
            }
        }
    }

    private static void yields() {
        Check.due("nothing comes", well(99, 0).yields(), 0);
        Check.due("nothing is there", well(0, 9).yields(), 9);
        SecondWell w = well(0, 9);
        w.day();
        Check.due("yields(), now", w.yields(), 9);
        Check.due("level() stays", w.level(), 9);
    }

    private static void cups() {
        String head = "well level 9 spring 0 frost 0;";
        Check.due("of nobody", Check.told(head).cups(), 0);
        Check.due("none", Check.told(head + "person cups 0;".repeat(6)).cups(), 0);
        Check.due("all", Check.told(head + "person cups 9;".repeat(6)).cups(), 54);
        Check.due("of six", Check.told(Towns.BIG).cups(), 35);
        SecondWell w = Check.told(Towns.ofTwo(9, "0 loses 1 1 loses 1", "0 loses 1 1 loses 1"));
        Check.take(w, 0, 1, 10);
        Check.due("one is gone", w.cups(), 1);
        Check.take(w, 11);
        Check.due("both are gone", w.cups(), 0);
        w.undo();
        Check.due("taken back", w.cups(), 1);
    }

    private static void drawnBounds() {
        SecondWell w = Check.told(TownTest.TOWN);
        int[] wrongSeeds = {-1, MOST_SEED + 1, -2, MOST_SEED + 2, Check.LEAST, Check.MOST};
        int[] wrongDays = Check.beyond(61);
        int[] wrongWhats = Check.beyond(4);
        for (int what = 0; what < 4; what++) {
            int asked = what;
            Check.each("drawn, seed", seed -> w.drawn(seed, 0, asked), -2, wrongSeeds);
            Check.each("drawn, seed", seed -> w.drawn(seed, 60, asked), -2, wrongSeeds);
            Check.each("drawn, n", n -> w.drawn(0, n, asked), -2, wrongDays);
            Check.each("drawn, n", n -> w.drawn(MOST_SEED, n, asked), -2, wrongDays);
            Check.due("drawn, within", w.drawn(0, 0, what) >= 0 ? 1 : 0, 1);
            Check.due("drawn, within", w.drawn(MOST_SEED, 60, what) >= 0 ? 1 : 0, 1);
        }
        Check.each("drawn, what", what -> w.drawn(0, 0, what), -2, wrongWhats);
        Check.each("drawn, what", what -> w.drawn(MOST_SEED, 60, what), -2, wrongWhats);
    }

    private static void drawnNobody() {
        SecondWell w = Check.told("well level 1 spring 1 frost 1;");
        for (int what = 0; what < 4; what++) {
            Check.due("drawn of nobody", w.drawn(0, 0, what), -2);
            Check.due("drawn of nobody", w.drawn(7, 60, what), -2);
        }
        Check.due("luck of nobody", w.luck(0, 1, 0, 0), -2);
        SecondWell one = Check.told("well level 1 spring 1 frost 0;person cups 1;");
        drawnDue("of one", one, 0, 60, 0, 61, 0, 0);
    }

    private static void drawnDue(String how, SecondWell w, int seed, int n, int... want) {
        for (int what = 0; what < 4; what++) {
            Check.due(how + ": drawn(" + seed + ", " + n + ", " + what + ")", w.drawn(seed, n, what), want[what]);
        }
    }

    private static void drawnOfNoDays() {
        SecondWell w = Check.told(TownTest.TOWN);
        Check.take(w, 0, 2, 20);
        drawnDue("no DAYS", w, 0, 0, 5, 5, 0, 0);
        drawnDue("no DAYS", w, MOST_SEED, 0, 5, 5, 0, 0);
    }

    // A DAY first, each time; 99 at most.
    private static void drawnDays() {
        SecondWell w = Check.told("well level 96 spring 2 frost 100;person cups 1;");
        for (int n = 0; n <= 60; n++) {
            Check.due("the level", w.drawn(3, n, 1), Math.min(99, 96 + 2 * n));
            Check.due("days of frost", w.drawn(3, n, 3), n);
        }
        for (int i = 0; i < 60; i++) {
            w.day();
        }
        Check.due("behind 60 ACTS", w.drawn(3, 60, 3), 60);
    }

    // Below frost, not at it. From seed 1 the first draw of 100 is 16838 mod 100.
    private static void drawnFrost() {
        int[] frosts = {0, 37, 38, 39, 40, 100};
        for (int frost : frosts) {
            SecondWell w = Check.told("well level 5 spring 0 frost " + frost + ";person cups 1;person cups 1;"
                    + "matter 0 gains 1 1 gains 1;");
            drawnDue("frost " + frost, w, 1, 1, frost > 38 ? 0 : 1, 5, 0, frost > 38 ? 1 : 0);
        }
        // From seed 0 it is 0: frost 1 is above it, frost 0 is not.
        for (int frost = 0; frost <= 1; frost++) {
            SecondWell w = Check.told("well level 5 spring 0 frost " + frost + ";person cups 1;person cups 1;"
                    + "matter 0 gains 1 1 gains 1;");
            drawnDue("frost " + frost, w, 0, 1, 1 - frost, 5, 0, frost);
        }
    }

    /** The draws once more, by whole numbers without a bound. */
    private static int[] draws(long seed, int many) {
        java.math.BigInteger x = java.math.BigInteger.valueOf(seed);
        int[] all = new int[many];
        for (int i = 0; i < many; i++) {
            x = x.multiply(java.math.BigInteger.valueOf(1103515245L)).add(java.math.BigInteger.valueOf(12345L))
                    .mod(java.math.BigInteger.valueOf(2147483648L));
            all[i] = x.divide(java.math.BigInteger.valueOf(65536L)).intValue();
        }
        return all;
    }

    // No second draw on a day of frost, one of as many as PEOPLE on another one.
    private static void drawnDraws() {
        for (int people = 2; people <= 6; people++) {
            StringBuilder b = new StringBuilder("well level 0 spring 0 frost 50;").append("person cups 0;".repeat(people));
            for (int p = 1; p < people; p++) {
                b.append("matter ").append(p).append(" gains 1 0 gains 0;");
            }
            SecondWell w = Check.told(b.toString());
            for (int seed : new int[] {0, 1, 2, 77, 1 << 16, 1 << 30, MOST_SEED - 1, MOST_SEED}) {
                int[] draws = draws(seed, 24);
                int at = 0;
                int frosts = 0;
                int settled = 0;
                for (int n = 1; n <= 12; n++) {
                    if (draws[at++] % 100 < 50) {
                        frosts++;
                    } else {
                        int p = draws[at++] % people;
                        settled |= p == 0 ? 0 : 1 << (p - 1);
                    }
                }
                drawnDue(people + " PEOPLE", w, seed, 12, settled, 0, 0, frosts);
            }
        }
    }

    // One that WISHES drinks; one that CAN alone, or wishes in vain, does not.
    private static void drawnWishes() {
        // From seed 1 the first day is of person 0 of two: 5758 mod 2.
        String[] gains = {"loses 1", "gains 0", "gains 1"};
        for (int k = 0; k < 3; k++) {
            SecondWell w = Check.told("well level 1 spring 0 frost 0;person cups 1;person cups 1;"
                    + "matter 0 " + gains[k] + " 1 gains 0;");
            Check.take(w, 0);
            Check.due("why(0)", w.why(0), 0);
            drawnDue(gains[k], w, 1, 1, k == 0 ? 0 : 1, k == 0 ? 0 : 1, k == 0 ? 1 : 0, 0);
        }
        // The DAY comes first: there is water then.
        SecondWell w = Check.told("well level 0 spring 1 frost 0;person cups 1;person cups 1;matter 0 loses 1 1 gains 0;");
        Check.take(w, 0);
        Check.due("wishes()", w.wishes(), 0);
        drawnDue("water of the DAY", w, 1, 1, 0, 0, 1, 0);
        w = Check.told("well level 0 spring 0 frost 0;person cups 1;person cups 1;matter 0 loses 1 1 gains 0;");
        Check.take(w, 0);
        drawnDue("no water", w, 1, 1, 1, 0, 0, 0);
        // From seed 1 it is person 1 of three, and 4 of six.
        w = Check.told("well level 9 spring 0 frost 0;person cups 1;person cups 1;person cups 1;"
                + "matter 1 loses 1 2 gains 0;");
        Check.take(w, 0);
        drawnDue("of person 1", w, 1, 1, 0, 8, 1, 0);
        w = Check.told("well level 9 spring 0 frost 0;" + "person cups 1;".repeat(6) + "matter 4 loses 1 5 gains 0;");
        Check.take(w, 0);
        drawnDue("of person 4", w, 1, 1, 0, 8, 1, 0);
        // One that drinks settles nothing on that day.
        w = Check.told("well level 9 spring 0 frost 0;person cups 1;person cups 1;matter 0 loses 1 1 gains 0;"
                + "matter 0 gains 1 1 gains 0;");
        Check.take(w, 0);
        drawnDue("drinking alone", w, 1, 1, 0, 8, 1, 0);
    }

    // It gains above 0, the other not below 0.
    private static void drawnGains() {
        String[] gains = {"loses 1", "gains 0", "gains 1"};
        for (int own = 0; own < 3; own++) {
            for (int other = 0; other < 3; other++) {
                SecondWell w = Check.told("well level 0 spring 0 frost 0;person cups 0;person cups 0;"
                        + "matter 0 " + gains[own] + " 1 " + gains[other] + ";");
                Check.due(gains[own] + ", " + gains[other], w.drawn(1, 1, 0), own == 2 && other >= 1 ? 1 : 0);
                w = Check.told("well level 0 spring 0 frost 0;person cups 0;person cups 0;"
                        + "matter 1 " + gains[other] + " 0 " + gains[own] + ";");
                Check.due("as the second PARTY", w.drawn(1, 1, 0), own == 2 && other >= 1 ? 1 : 0);
            }
        }
    }

    // From seed 1 the first day is of person 4 of six, whoever the other one is.
    private static void drawnOfEachPair() {
        for (int k = 0; k < 8; k++) {
            for (int other = 0; other < 6; other++) {
                if (other == 4) {
                    continue;
                }
                String pair = "MATTER " + k + " with " + other;
                String[] texts = {"4 gains 1 " + other + " gains 0", other + " gains 0 4 gains 1",
                    "4 gains 1 " + other + " loses 1", other + " loses 1 4 gains 1"};
                for (int i = 0; i < 4; i++) {
                    SecondWell w = Check.told(Towns.ofPair(k, 9, texts[i]));
                    Check.due(pair + ": drawn", w.drawn(1, 1, 0), i < 2 ? 1 << k : 0);
                    Check.due(pair + ": luck", w.luck(1, 1, 1, k), i < 2 ? 1 : 0);
                }
            }
        }
    }

    // The least MATTER of whose PARTIES it is, that can be settled.
    private static void drawnLeast() {
        String head = "well level 0 spring 0 frost 0;person cups 0;person cups 0;";
        Check.due("the least of two", Check.told(head + "matter 0 gains 1 1 gains 0;matter 0 gains 9 1 gains 9;")
                .drawn(1, 1, 0), 1);
        Check.due("the least that can be", Check.told(head + "matter 0 gains 0 1 gains 0;"
                + "matter 0 gains 1 1 gains 0 on 0;matter 0 gains 1 1 gains 0;matter 0 gains 1 1 gains 0;")
                .drawn(1, 1, 0), 4);
        SecondWell w = Check.told(head + "matter 0 gains 1 1 gains 0;matter 0 gains 1 1 gains 0;");
        Check.take(w, 0);
        Check.due("what is settled is left out", w.drawn(1, 1, 0), 3);
        Check.take(w, 1);
        Check.due("none is left", w.drawn(1, 1, 0), 3);
        String three = "well level 0 spring 0 frost 0;person cups 0;person cups 0;person cups 0;";
        // From seed 1 the first day is of person 1 of three: 5758 mod 3.
        Check.due("its own alone", Check.told(three + "matter 0 gains 1 2 gains 1;matter 1 gains 1 2 gains 1;")
                .drawn(1, 1, 0), 2);
    }

    private static void luckBounds() {
        SecondWell w = Check.told(TownTest.TOWN);
        Check.each("luck, seed", seed -> w.luck(seed, 1, 0, 0), -2, -1, MOST_SEED + 1, Check.LEAST, Check.MOST);
        Check.each("luck, m", m -> w.luck(0, m, 0, 0), -2, 0, 21, -1, 22, 256, Check.LEAST, Check.MOST);
        Check.each("luck, n", n -> w.luck(0, 1, n, 0), -2, Check.beyond(61));
        Check.each("luck, MATTER", m -> w.luck(0, 1, 0, m), -2, Check.beyond(4));
        Check.each("luck, within", m -> w.luck(0, m, 0, 3), 0, 1, 2, 20);
        Check.each("luck, within", n -> w.luck(0, 1, n, 2), 0, 0, 60);
        Check.each("luck, within", seed -> w.luck(seed, 1, 0, 0), 0, 0, MOST_SEED);
        SecondWell none = Check.told("well level 1 spring 1 frost 1;person cups 1;");
        Check.each("luck of no MATTERS", m -> none.luck(0, 1, 0, m), -2, 0, 1, -1);
        SecondWell big = Check.told(Towns.BIG);
        Check.each("luck of eight", m -> big.luck(0, 1, 0, m), -2, Check.beyond(8));
        Check.each("luck of eight", m -> big.luck(0, 1, 0, m), 0, 0, 7);
    }

    // The seed itself is the first of them.
    private static void luckSeeds() {
        SecondWell w = Check.told("well level 9 spring 0 frost 60;person cups 1;person cups 1;person cups 1;"
                + "matter 0 gains 1 1 gains 1;matter 1 gains 1 2 gains 1 on 0;matter 2 gains 1 0 loses 1;");
        for (int seed : new int[] {0, 1, 12345, MOST_SEED - 19}) {
            int settled = 0;
            for (int m = 1; m <= 20; m++) {
                settled += w.drawn(seed + m - 1, 3, 0) & 1;
                Check.due("luck(" + seed + ", " + m + ", 3, 0)", w.luck(seed, m, 3, 0), settled);
            }
        }
        // The first seed has its bound; those behind the last one go on from it.
        SecondWell two = Check.told("well level 0 spring 0 frost 50;person cups 0;person cups 0;matter 0 gains 1 1 gains 1;");
        int count = 0;
        for (int m = 1; m <= 20; m++) {
            count += draws((long) MOST_SEED + m - 1, 1)[0] % 100 < 50 ? 0 : 1;
            Check.due("luck(" + MOST_SEED + ", " + m + ", 1, 0)", two.luck(MOST_SEED, m, 1, 0), count);
        }
        Check.due("luck of what never is", w.luck(0, 20, 60, 2), 0);
        Check.take(w, 0, 1);
        Check.due("luck of what is settled", w.luck(0, 20, 60, 1), 20);
        Check.due("luck of what is settled", w.luck(0, 1, 0, 1), 1);
    }

    private static void asAhead() {
        SecondWell asked = moved();
        asked.lasts(3);
        asked.lasts(100);
        asked.yields();
        asked.cups();
        for (int what = 0; what < 5; what++) {
            asked.drawn(1, 60, what);
            asked.luck(1, 20, 60, what);
        }
        Picture.same("behind questions", asked, moved());
    }

    private static SecondWell moved() {
        SecondWell w = Check.told(TownTest.TOWN);
        w.image(0);
        Check.take(w, 0, 2, 20);
        Check.put(w, 1, 1, 0, 1);
        return w;
    }
}
