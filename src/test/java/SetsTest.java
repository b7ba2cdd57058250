/** Promises 28 to 36 and 39 to 46: sets that stand, are closed, kept dry, firm, voted on. */
public final class SetsTest {
    public static void main(String[] args) {
        standing();
        standingAsNow();
        standingByOrders();
        best();
        closed();
        onWhat();
        kept();
        firm();
        weak();
        sums();
        elected();
        noMatters();
        noTown();
        Check.finish("SetsTest");
    }

    private static void standing() {
        SecondWell w = Check.told(TownTest.TOWN);
        int[] want = {1, 1, 0, 1, 0, 0, 0, 0, 1, 2, 0, 3, 0, 1, 0, 3};
        for (int set = 0; set < 16; set++) {
            Check.due("stands(" + set + ")", w.stands(set), want[set]);
        }
        Check.due("stands(16)", w.stands(16), -2);
        Check.due("stands(-1)", w.stands(-1), -2);
        int[][] rows = {{13, 0, 2, 3, -1}, {15, 0, 1, 2, 3}, {9, 0, 3, -1, -1}, {5, -1, -1, -1, -1},
            {0, -1, -1, -1, -1}, {2, -1, -1, -1, -1}};
        for (int[] row : rows) {
            for (int i = 0; i < 4; i++) {
                Check.due("stood(" + row[0] + ", " + i + ")", w.stood(row[0], i), row[i + 1]);
            }
        }
        Check.due("stood(15, 4)", w.stood(15, 4), -1);
        Check.due("stood(15, -1)", w.stood(15, -1), -1);
        Check.due("stood(16, 0)", w.stood(16, 0), -2);
        Check.due("stood(-1, 0)", w.stood(-1, 0), -2);
    }

    // Cups and level are as now; what was drunk back now counts for nothing.
    private static void standingAsNow() {
        SecondWell w = Check.told("well level 2 spring 0 frost 0;person cups 1;person cups 0;"
                + "matter 0 loses 1 1 gains 1 jug;matter 0 gains 1 1 gains 1;");
        Check.due("stands(1)", w.stands(1), 0);
        w.settle(0);
        Check.due("stands(1), settled now", w.stands(1), 0);
        w.drink(0);
        Check.due("stands(1), no cup", w.stands(1), 1);
        w = Check.told("well level 1 spring 1 frost 0;person cups 2;person cups 0;"
                + "matter 0 loses 1 1 gains 1 jug;");
        w.settle(0);
        w.drink(0);
        Check.due("stands(1), no water", w.stands(1), 1);
        w.day();
        Check.due("stands(1), water, though drunk back", w.stands(1), 0);
        Check.due("why(0)", w.why(0), 1);
    }

    // Person 0 wishes to drink matter 0 back, if it is the last of its: matter 1 or 2 must be behind it.
    private static void standingByOrders() {
        SecondWell w = Check.told("well level 9 spring 0 frost 0;person cups 1;person cups 1;person cups 1;"
                + "matter 0 loses 2 1 loses 1;matter 0 gains 1 2 gains 1;matter 1 gains 1 2 gains 1;");
        Check.due("stands(1)", w.stands(1), 0);
        Check.due("stands(3)", w.stands(3), 0);
        Check.due("stands(5)", w.stands(5), 0);
        Check.due("stands(6)", w.stands(6), 2);
        Check.due("stands(7)", w.stands(7), 2);
        Check.due("stood(7, 0)", w.stood(7, 0), 0);
        Check.due("stood(7, 1)", w.stood(7, 1), 1);
        Check.due("stood(7, 2)", w.stood(7, 2), 2);
        String many = "well level 9 spring 0 frost 0;person cups 1;person cups 1;"
                + "matter 0 gains 1 1 gains 1;".repeat(8);
        Check.due("stands(255)", Check.told(many).stands(255), 40320);
    }

    private static void best() {
        Check.due("best()", Check.told(TownTest.TOWN).best(), 3);
        String head = "well level 9 spring 0 frost 0;person cups 1;person cups 1;";
        Check.due("best() of none that brings", Check.told(head + "matter 0 loses 1 1 gains 1 dry;").best(), 0);
        Check.due("best() that does not stand",
                Check.told(head + "matter 0 gains 9 1 loses 1 jug;matter 0 gains 1 1 gains 1;").best(), 3);
        Check.due("best() that never stands", Check.told(head + "matter 0 gains 9 1 loses 1 jug;").best(), 0);
        Check.due("the least of several",
                Check.told(head + "matter 0 gains 3 1 gains 0;matter 0 loses 2 1 gains 2 dry;").best(), 1);
    }

    private static void closed() {
        SecondWell w = Check.told(TownTest.TOWN);
        int[] want = {1, 1, 0, 1, 0, 1, 0, 1, 1, 1, 0, 1, 0, 1, 0, 1};
        for (int set = 0; set < 16; set++) {
            Check.due("closed(" + set + ")", w.closed(set), want[set]);
        }
        Check.due("closed(16)", w.closed(16), -2);
        Check.due("closed(-1)", w.closed(-1), -2);
        Check.due("sets()", w.sets(), 10);
    }

    private static void onWhat() {
        String head = "well level 9 spring 0 frost 0;person cups 1;person cups 1;";
        String m = "matter 0 gains 1 1 gains 1";
        SecondWell w = Check.told(head + m + ";" + m + ";" + m + " on 1;" + m + " on 2 0;" + m + " on 3;" + m + ";");
        int[] rests = {0, 0, 2, 7, 15, 0};
        int[] bears = {24, 28, 24, 16, 0, 0};
        for (int i = 0; i < 6; i++) {
            Check.due("rests(" + i + ")", w.rests(i), rests[i]);
            Check.due("bears(" + i + ")", w.bears(i), bears[i]);
        }
        for (int i : new int[] {-1, 6, 8}) {
            Check.due("rests(" + i + ")", w.rests(i), -2);
            Check.due("bears(" + i + ")", w.bears(i), -2);
        }
        Check.due("chain()", w.chain(), 4);
        Check.due("heaviest()", w.heaviest(), 1);
        w = Check.told(head + m + ";" + m + ";" + m + " on 1;" + m + " on 0;");
        Check.due("chain()", w.chain(), 2);
        Check.due("heaviest(), the least", w.heaviest(), 0);
        w = Check.told(head + m + ";" + m + ";");
        Check.due("chain()", w.chain(), 1);
        Check.due("heaviest() of nothing", w.heaviest(), 0);
    }

    private static void kept() {
        SecondWell w = Check.told(TownTest.TOWN);
        Check.due("keep(0)", w.keep(0), 0);
        Check.due("keep(2)", w.keep(2), 3);
        Check.due("keep(8), dry already", w.keep(8), 0);
        Check.due("keep(12)", w.keep(12), 5);
        w.mark(0, 0, 1);
        Check.due("keep(6)", w.keep(6), 6);
        Check.due("keep(16)", w.keep(16), -2);
        Check.due("keep(-1)", w.keep(-1), -2);
        String m = "matter 0 gains 1 1 gains 1";
        w = Check.told("well level 9 spring 0 frost 0;person cups 1;person cups 1;" + m + ";" + m + " on 0 dry;"
                + m + " on 1;");
        Check.due("keep(4), at whatever depth", w.keep(4), 5);
    }

    private static void firm() {
        SecondWell w = Check.told(TownTest.TOWN);
        int[] want = {1, 1, 0, 1, 0, 0, 0, 0, 1, 1, 0, 1, 0, 0, 0, 0};
        for (int set = 0; set < 16; set++) {
            Check.due("firm(" + set + ")", w.firm(set), want[set]);
        }
        Check.due("firm(16)", w.firm(16), -2);
        Check.due("firm(-1)", w.firm(-1), -2);
        Check.due("firms()", w.firms(), 6);
        Check.due("firmest()", w.firmest(), 3);
        w.settle(0);
        w.settle(2);
        w.drink(0);
        w.settle(2);
        Check.due("firm(5), what was drunk back aside", w.firm(5), 0);
        String head = "well level 0 spring 0 frost 0;person cups 0;person cups 0 stubborn;";
        w = Check.told(head + "matter 0 loses 2 1 loses 2;");
        Check.due("firm(1), cups and level aside: the stubborn one gains too", w.firm(1), 0);
        w.price(0, 1, 1);
        Check.due("firm(1), the stubborn one does not agree", w.firm(1), 1);
        w.mark(0, 1, 1);
        Check.due("firm(1), by the jug", w.firm(1), 0);
        w.mark(0, 0, 1);
        Check.due("firm(1), dry", w.firm(1), 1);
        Check.due("firmest() of none that brings", w.firmest(), 0);
    }

    private static void weak() {
        SecondWell w = Check.told(TownTest.TOWN);
        Check.due("weak(5)", w.weak(5), 2);
        Check.due("weak(15)", w.weak(15), 2);
        Check.due("weak(3), firm", w.weak(3), -1);
        Check.due("weak(4), not closed", w.weak(4), -1);
        Check.due("weak(16)", w.weak(16), -2);
        Check.due("weak(-1)", w.weak(-1), -2);
        String head = "well level 0 spring 0 frost 0;person cups 0;person cups 0;";
        w = Check.told(head + "matter 0 loses 2 1 gains 0;matter 0 loses 3 1 loses 4 dry;"
                + "matter 0 loses 3 1 gains 5 jug;matter 0 loses 1 1 loses 3;matter 0 loses 9 1 gains 1;");
        Check.due("weak(31), the least of several", w.weak(31), 2);
        Check.due("weak(1)", w.weak(1), 0);
        Check.due("weak(9)", w.weak(9), 3);
        Check.due("weak(16), not agreed", w.weak(16), -1);
    }

    private static void sums() {
        SecondWell w = Check.told(TownTest.TOWN);
        Check.due("sum(2, 3)", w.sum(2, 3), 4);
        Check.due("sum(0, 15)", w.sum(0, 15), 2);
        Check.due("sum(1, 8)", w.sum(1, 8), -2);
        Check.due("sum(0, 0)", w.sum(0, 0), 0);
        Check.due("sum(1, 2), not closed", w.sum(1, 2), 2);
        Check.due("sum(3, 0)", w.sum(3, 0), -1000);
        Check.due("sum(-1, 0)", w.sum(-1, 0), -1000);
        Check.due("sum(0, 16)", w.sum(0, 16), -1000);
        Check.due("sum(0, -1)", w.sum(0, -1), -1000);
        Check.due("votes(3, 1)", w.votes(3, 1), 6);
        Check.due("votes(1, 3)", w.votes(1, 3), 0);
        Check.due("votes(9, 3)", w.votes(9, 3), 1);
        Check.due("votes(5, 5)", w.votes(5, 5), 0);
        Check.due("votes(16, 0)", w.votes(16, 0), -2);
        Check.due("votes(0, 16)", w.votes(0, 16), -2);
        Check.due("votes(-1, 0)", w.votes(-1, 0), -2);
        Check.due("votes(0, -1)", w.votes(0, -1), -2);
    }

    private static void elected() {
        Check.due("elected()", Check.told(TownTest.TOWN).elected(), 3);
        String head = "well level 9 spring 0 frost 0;person cups 1;person cups 1;person cups 1;";
        Check.due("elected(), none", Check.told(head + "matter 2 loses 2 1 gains 1 dry;"
                + "matter 0 gains 2 2 loses 4 dry;matter 1 loses 2 0 gains 3 dry;").elected(), -1);
        Check.due("elected(), the least of like ones",
                Check.told(head + "matter 0 gains 1 1 loses 5 dry;").elected(), 0);
        Check.due("elected(), of firm ones alone",
                Check.told(head + "matter 0 gains 1 1 gains 1;matter 0 gains 9 2 loses 1 jug;").elected(), 1);
    }

    private static void noMatters() {
        SecondWell w = Check.told("well level 9 spring 0 frost 0;");
        Check.due("stands(0)", w.stands(0), 1);
        Check.due("stands(1)", w.stands(1), -2);
        Check.due("stood(0, 0)", w.stood(0, 0), -1);
        Check.due("best()", w.best(), 0);
        Check.due("sets()", w.sets(), 1);
        Check.due("chain()", w.chain(), 0);
        Check.due("heaviest()", w.heaviest(), -1);
        Check.due("keep(0)", w.keep(0), 0);
        Check.due("firms()", w.firms(), 1);
        Check.due("firmest()", w.firmest(), 0);
        Check.due("elected()", w.elected(), 0);
        Check.due("votes(0, 0)", w.votes(0, 0), 0);
        Check.due("weak(0)", w.weak(0), -1);
    }

    private static void noTown() {
        SecondWell w = new SecondWell();
        Check.due("stands(0)", w.stands(0), -2);
        Check.due("stood(0, 0)", w.stood(0, 0), -2);
        Check.due("best()", w.best(), -2);
        Check.due("closed(0)", w.closed(0), -2);
        Check.due("sets()", w.sets(), -2);
        Check.due("rests(0)", w.rests(0), -2);
        Check.due("bears(0)", w.bears(0), -2);
        Check.due("chain()", w.chain(), -2);
        Check.due("heaviest()", w.heaviest(), -2);
        Check.due("keep(0)", w.keep(0), -2);
        Check.due("firm(0)", w.firm(0), -2);
        Check.due("firms()", w.firms(), -2);
        Check.due("firmest()", w.firmest(), -2);
        Check.due("sum(0, 0)", w.sum(0, 0), -1000);
        Check.due("weak(0)", w.weak(0), -2);
        Check.due("votes(0, 0)", w.votes(0, 0), -2);
        Check.due("elected()", w.elected(), -2);
    }
}
