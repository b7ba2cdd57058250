/** Promises 57 to 61: water, cups, years drawn. */
public final class WaterTest {
    public static void main(String[] args) {
        lasting();
        lastingAtMost();
        cups();
        drawing();
        drawingDrinks();
        drawingWishes();
        luck();
        wrongDraws();
        noTown();
        Check.finish("WaterTest");
    }

    private static void lasting() {
        SecondWell w = Check.told(TownTest.TOWN);
        int[] want = {-1, -1, -1, 4, 2, 2, 1};
        for (int n = 0; n < want.length; n++) {
            Check.due("lasts(" + n + ")", w.lasts(n), want[n]);
        }
        Check.due("lasts(99)", w.lasts(99), 1);
        Check.due("lasts(100)", w.lasts(100), -2);
        Check.due("lasts(-1)", w.lasts(-1), -2);
        Check.due("yields()", w.yields(), 2);
        w.day();
        Check.due("lasts(3), the level as now", w.lasts(3), 6);
        Check.due("yields()", w.yields(), 2);
    }

    private static void lastingAtMost() {
        SecondWell w = Check.told("well level 99 spring 9 frost 0;");
        Check.due("lasts(99)", w.lasts(99), 2);
        Check.due("lasts(57), 99 at most", w.lasts(57), 2);
        Check.due("lasts(9)", w.lasts(9), -1);
        Check.due("lasts(10)", w.lasts(10), 91);
        Check.due("yields()", w.yields(), 9);
        w = Check.told("well level 0 spring 0 frost 0;");
        Check.due("lasts(0)", w.lasts(0), -1);
        Check.due("lasts(1)", w.lasts(1), 1);
        Check.due("yields()", w.yields(), 0);
        Check.due("level() is as ahead", w.level(), 0);
    }

    private static void cups() {
        SecondWell w = Check.told(TownTest.TOWN);
        Check.due("cups()", w.cups(), 3);
        w.settle(0);
        w.settle(2);
        w.drink(0);
        Check.due("cups()", w.cups(), 2);
        Check.due("cups() of nobody", Check.told("well level 0 spring 0 frost 0;").cups(), 0);
    }

    private static void drawnDue(SecondWell w, int seed, int n, int... want) {
        for (int what = 0; what < 4; what++) {
            Check.due("drawn(" + seed + ", " + n + ", " + what + ")", w.drawn(seed, n, what), want[what]);
        }
    }

    // From seed 1 the draws of 32768 are 16838, 5758, 10113, 17515, 31051, 5627, 23010, 7419, 16212, 4086.
    private static void drawing() {
        String people = "person cups 1;person cups 1;person cups 1;";
        String matters = "matter 0 gains 5 2 gains 5;matter 1 gains 1 2 loses 1;matter 1 gains 1 2 gains 0;";
        SecondWell w = Check.told("well level 90 spring 2 frost 38;" + people + matters);
        drawnDue(w, 1, 0, 0, 90, 0, 0);
        drawnDue(w, 1, 1, 4, 92, 0, 0);
        drawnDue(w, 1, 2, 4, 94, 0, 1);
        drawnDue(w, 1, 3, 4, 96, 0, 2);
        drawnDue(w, 1, 4, 5, 98, 0, 2);
        drawnDue(w, 1, 5, 5, 99, 0, 3);
        drawnDue(w, 1, 7, 5, 99, 0, 5);
        drawnDue(w, 1, 8, 5, 99, 0, 5);
        // From seed 0 they are 0, 21468, 9988; from 2,000,000,000: 3304, 7133, 3221, 19807, 6926, 6792, 5557.
        drawnDue(w, 0, 1, 0, 92, 0, 1);
        drawnDue(w, 0, 2, 4, 94, 0, 1);
        drawnDue(w, 2000000000, 5, 0, 99, 0, 5);
        drawnDue(w, 2000000000, 6, 4, 99, 0, 5);
        Check.due("settled() is as ahead", w.settled(), 0);
        Check.due("level() is as ahead", w.level(), 90);
        w = Check.told("well level 90 spring 2 frost 39;" + people + matters);
        drawnDue(w, 1, 1, 0, 92, 0, 1);
        w = Check.told("well level 90 spring 2 frost 100;" + people + matters);
        drawnDue(w, 7, 60, 0, 99, 0, 60);
        w = Check.told("well level 0 spring 1 frost 0;person cups 1;");
        drawnDue(w, 2000000000, 60, 0, 60, 0, 0);
    }

    // On the first day from seed 1 it is person 1 of three.
    private static void drawingDrinks() {
        SecondWell w = Check.told("well level 0 spring 1 frost 0;person cups 1;person cups 1;person cups 1;"
                + "matter 1 loses 3 0 gains 3 jug;matter 0 gains 1 1 gains 1 on 0;"
                + "matter 0 gains 1 2 gains 1;");
        w.settle(0);
        w.settle(2);
        drawnDue(w, 1, 1, 4, 0, 1, 0);
        Check.due("matter(0, 8) is as ahead", w.matter(0, 8), 0);
        Check.due("settled() is as ahead", w.settled(), 5);
        w.day();
        w.settle(1);
        Check.due("wishes()", w.wishes(), 0);
        drawnDue(w, 1, 1, 7, 2, 0, 0);
    }

    // One that wishes drinks, and settles nothing on that day; one that CAN but does not wish, settles.
    private static void drawingWishes() {
        String head = "well level 9 spring 0 frost 0;person cups 1;person cups 1;person cups 1;";
        SecondWell w = Check.told(head + "matter 1 gains 0 0 loses 3;matter 1 gains 2 2 gains 0;");
        w.settle(0);
        Check.due("why(1)", w.why(1), 0);
        drawnDue(w, 1, 1, 3, 9, 0, 0);
        w = Check.told(head + "matter 1 gains 0 2 gains 5;");
        drawnDue(w, 1, 1, 0, 9, 0, 0);
        w = Check.told(head + "matter 1 loses 1 0 loses 3;matter 1 gains 2 2 gains 0;");
        w.settle(0);
        drawnDue(w, 1, 1, 0, 8, 1, 0);
    }

    private static void luck() {
        SecondWell w = Check.told("well level 9 spring 0 frost 50;person cups 1;person cups 1;person cups 1;"
                + "matter 0 gains 1 1 gains 1;matter 1 gains 1 2 gains 1 on 0;");
        for (int m = 1; m <= 20; m += 19) {
            for (int matter = 0; matter < 2; matter++) {
                int want = 0;
                for (int i = 0; i < m; i++) {
                    want += w.drawn(5 + i, 4, 0) >> matter & 1;
                }
                Check.due("luck(5, " + m + ", 4, " + matter + ")", w.luck(5, m, 4, matter), want);
            }
        }
        Check.due("luck of no days", w.luck(5, 20, 0, 0), 0);
        Check.due("settled() is as ahead", w.settled(), 0);
        w.settle(0);
        Check.due("luck of no days, settled now", w.luck(2000000000, 20, 0, 0), 20);
        Check.due("luck(5, 0, 4, 0)", w.luck(5, 0, 4, 0), -2);
        Check.due("luck(5, 21, 4, 0)", w.luck(5, 21, 4, 0), -2);
        Check.due("luck(5, 1, 61, 0)", w.luck(5, 1, 61, 0), -2);
        Check.due("luck(5, 1, -1, 0)", w.luck(5, 1, -1, 0), -2);
        Check.due("luck(5, 1, 1, 2)", w.luck(5, 1, 1, 2), -2);
        Check.due("luck(5, 1, 1, -1)", w.luck(5, 1, 1, -1), -2);
        Check.due("luck(-1, 1, 1, 0)", w.luck(-1, 1, 1, 0), -2);
        Check.due("luck(2000000001, 1, 1, 0)", w.luck(2000000001, 1, 1, 0), -2);
    }

    private static void wrongDraws() {
        SecondWell w = Check.told(TownTest.TOWN);
        int[][] wrong = {{-1, 0, 0}, {2000000001, 0, 0}, {0, -1, 0}, {0, 61, 0}, {0, 0, -1}, {0, 0, 4}};
        for (int[] d : wrong) {
            Check.due("drawn of wrong ones", w.drawn(d[0], d[1], d[2]), -2);
        }
        Check.due("drawn of nobody", Check.told("well level 0 spring 0 frost 0;").drawn(0, 0, 0), -2);
    }

    private static void noTown() {
        SecondWell w = new SecondWell();
        Check.due("lasts(0)", w.lasts(0), -2);
        Check.due("yields()", w.yields(), -2);
        Check.due("cups()", w.cups(), -2);
        Check.due("drawn(0, 0, 0)", w.drawn(0, 0, 0), -2);
        Check.due("luck(0, 1, 0, 0)", w.luck(0, 1, 0, 0), -2);
    }
}
