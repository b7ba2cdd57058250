/** Promises 6 to 16: what is told, what is settled, who can and wishes to drink. */
public final class TownTest {
    static final String TOWN = "well level 3 spring 2 frost 10;\n"
            + "person cups 2;\n"
            + "person cups 1;\n"
            + "person cups 0 stubborn;\n"
            + "matter 0 gains 5 1 gains 3;\n"
            + "matter 1 gains 2 2 gains 4 on 0;\n"
            + "matter 0 loses 4 2 gains 1 on 0 jug;\n"
            + "matter 0 gains 1 1 loses 2 dry;\n";

    public static void main(String[] args) {
        people();
        matters();
        settledInOrder();
        falls();
        whyNot();
        whyFirst();
        agreeing();
        wishing();
        noTown();
        Check.finish("TownTest");
    }

    private static void people() {
        SecondWell w = Check.told(TOWN);
        int[][] want = {{2, 0, 13, 0}, {1, 0, 11, 0}, {0, 1, 6, 0}};
        for (int p = 0; p < 3; p++) {
            for (int what = 0; what < 4; what++) {
                Check.due("person(" + p + ", " + what + ")", w.person(p, what), want[p][what]);
            }
        }
        for (int what : new int[] {-1, 4, Integer.MAX_VALUE}) {
            Check.due("person(0, " + what + ")", w.person(0, what), -1000);
        }
        for (int p : new int[] {-1, 3, 6, Integer.MIN_VALUE}) {
            Check.due("person(" + p + ", 0)", w.person(p, 0), -1000);
        }
        w.settle(0);
        w.settle(2);
        w.settle(3);
        Check.due("person(0, 3)", w.person(0, 3), 2);
        Check.due("person(1, 3)", w.person(1, 3), 1);
        Check.due("person(2, 3)", w.person(2, 3), 1);
    }

    private static void matters() {
        SecondWell w = Check.told(TOWN);
        int[][] want = {
            {0, 1, 5, 3, 0, 0, 0, 0, 0},
            {1, 2, 2, 4, 1, 0, 0, 0, 0},
            {0, 2, -4, 1, 1, 0, 1, 0, 0},
            {0, 1, 1, -2, 0, 1, 0, 0, 0}};
        for (int m = 0; m < 4; m++) {
            for (int what = 0; what < 9; what++) {
                Check.due("matter(" + m + ", " + what + ")", w.matter(m, what), want[m][what]);
            }
        }
        for (int what : new int[] {-1, 9, Integer.MIN_VALUE}) {
            Check.due("matter(0, " + what + ")", w.matter(0, what), -1000);
        }
        for (int m : new int[] {-1, 4, 8, Integer.MAX_VALUE}) {
            Check.due("matter(" + m + ", 0)", w.matter(m, 0), -1000);
        }
        w.settle(0);
        w.settle(2);
        Check.due("matter(2, 7)", w.matter(2, 7), 1);
        w.drink(0);
        Check.due("matter(2, 7)", w.matter(2, 7), 0);
        Check.due("matter(2, 8)", w.matter(2, 8), 1);
        Check.due("matter(0, 7)", w.matter(0, 7), 1);
        Check.due("matter(0, 8)", w.matter(0, 8), 0);
    }

    private static void settledInOrder() {
        SecondWell w = Check.told(TOWN);
        Check.due("level()", w.level(), 3);
        Check.due("settled()", w.settled(), 0);
        Check.due("open()", w.open(), 9);
        Check.due("order(0)", w.order(0), -1);
        Check.due("last(0)", w.last(0), -1);
        w.settle(3);
        w.settle(0);
        Check.due("open()", w.open(), 6);
        w.settle(2);
        w.settle(1);
        Check.due("settled()", w.settled(), 15);
        Check.due("open()", w.open(), 0);
        int[] order = {3, 0, 2, 1, -1};
        for (int i = 0; i < 5; i++) {
            Check.due("order(" + i + ")", w.order(i), order[i]);
        }
        Check.due("order(-1)", w.order(-1), -1);
        Check.due("last(0)", w.last(0), 2);
        Check.due("last(1)", w.last(1), 1);
        Check.due("last(2)", w.last(2), 1);
        Check.due("last(3)", w.last(3), -2);
        Check.due("last(-1)", w.last(-1), -2);
        Check.due("drink(0)", w.drink(0), 1);
        Check.due("order(2) moves up", w.order(2), 1);
        Check.due("order(3)", w.order(3), -1);
        Check.due("open() again", w.open(), 4);
        Check.due("last(0)", w.last(0), 0);
        Check.due("level()", w.level(), 2);
    }

    private static void falls() {
        SecondWell w = Check.told("well level 9 spring 0 frost 0;person cups 1;person cups 1;person cups 1;"
                + "matter 0 gains 1 1 gains 2;"
                + "matter 1 gains 4 2 loses 8 on 0;"
                + "matter 0 loses 16 2 gains 32 on 1;"
                + "matter 0 gains 7 1 gains 7;"
                + "matter 1 gains 1 2 gains 1 on 2 3;");
        for (int m : new int[] {3, 0, 1, 2}) {
            Check.due("fall ahead", w.fall(m), 0);
            Check.due("swing ahead", w.swing(0, m), 0);
            w.settle(m);
        }
        Check.due("fall(0)", w.fall(0), 7);
        Check.due("fall(1)", w.fall(1), 6);
        Check.due("fall(2)", w.fall(2), 4);
        Check.due("fall(3)", w.fall(3), 8);
        Check.due("fall(4)", w.fall(4), 0);
        w.settle(4);
        Check.due("fall(0)", w.fall(0), 23);
        Check.due("fall(3)", w.fall(3), 24);
        Check.due("fall(5)", w.fall(5), -2);
        Check.due("fall(-1)", w.fall(-1), -2);
        Check.due("swing(0, 0)", w.swing(0, 0), 15);
        Check.due("swing(1, 0)", w.swing(1, 0), -7);
        Check.due("swing(2, 0)", w.swing(2, 0), -25);
        Check.due("swing(2, 3)", w.swing(2, 3), -1);
        Check.due("swing(0, 3)", w.swing(0, 3), -7);
        Check.due("swing(0, 4)", w.swing(0, 4), 0);
        Check.due("swing(3, 0)", w.swing(3, 0), -1000);
        Check.due("swing(0, 5)", w.swing(0, 5), -1000);
        Check.due("swing(-1, 0)", w.swing(-1, 0), -1000);
        Check.due("swing(0, -1)", w.swing(0, -1), -1000);
    }

    private static void whyNot() {
        SecondWell w = Check.told(TOWN);
        Check.due("why, no LAST", w.why(0), 1);
        w.settle(3);
        Check.due("why, dry", w.why(0), 2);
        w.settle(0);
        w.settle(1);
        w.settle(2);
        Check.due("why(0)", w.why(0), 0);
        Check.due("why(1), the other is stubborn", w.why(1), 6);
        Check.due("why(2), no cup", w.why(2), 4);
        w.drink(0);
        Check.due("why(0), the other loses", w.why(0), 6);
        w.settle(2);
        Check.due("why(0), drunk back", w.why(0), 3);
        Check.due("why(3)", w.why(3), -2);
        Check.due("why(-1)", w.why(-1), -2);
        w = Check.told("well level 0 spring 1 frost 0;person cups 1;person cups 0;matter 0 loses 1 1 gains 1 jug;");
        w.settle(0);
        Check.due("why, no water", w.why(0), 5);
        w.day();
        Check.due("why, water", w.why(0), 0);
    }

    // Of several reasons the first in the document's order.
    private static void whyFirst() {
        SecondWell w = Check.told("well level 0 spring 0 frost 0;person cups 0;person cups 1;"
                + "matter 0 gains 1 1 gains 1 dry;matter 0 gains 1 1 gains 1;");
        w.settle(0);
        Check.due("dry ahead of no cup", w.why(0), 2);
        w.settle(1);
        Check.due("no cup ahead of no water", w.why(0), 4);
        Check.due("no water ahead of not agreeing", w.why(1), 5);
        w = Check.told("well level 1 spring 0 frost 0;person cups 1;person cups 1;matter 0 loses 1 1 gains 1 jug;");
        w.settle(0);
        w.drink(0);
        w.settle(0);
        Check.due("drunk back ahead of no cup", w.why(0), 3);
        Check.due("drunk back, the other one", w.why(1), 3);
    }

    private static void agreeing() {
        String head = "well level 9 spring 0 frost 0;person cups 9;person cups 9 stubborn;person cups 9;";
        SecondWell w = Check.told(head + "matter 0 gains 1 2 gains 0;matter 0 gains 1 1 loses 1;"
                + "matter 0 gains 1 1 gains 9 jug;matter 0 gains 1 2 loses 1 on 0;");
        w.settle(0);
        Check.due("a SWING of 0 agrees", w.why(0), 0);
        w.settle(1);
        Check.due("a stubborn one never", w.why(0), 6);
        w.settle(2);
        Check.due("but by a jug", w.why(0), 0);
        w.settle(3);
        Check.due("by what falls with it", w.why(2), 6);
        Check.due("one that loses agrees", w.why(0), 0);
    }

    private static void wishing() {
        SecondWell w = Check.told(TOWN);
        Check.due("wishes()", w.wishes(), 0);
        w.settle(0);
        w.settle(2);
        Check.due("wishes()", w.wishes(), 1);
        w = Check.told("well level 9 spring 0 frost 0;person cups 9;person cups 9;person cups 9;"
                + "matter 0 gains 0 1 loses 1;matter 1 loses 1 2 loses 1;");
        w.settle(0);
        Check.due("a SWING of 0 wishes nothing", w.wishes(), 2);
        Check.due("but CAN", w.why(0), 0);
        w.settle(1);
        Check.due("wishes()", w.wishes(), 6);
        Check.due("why(0)", w.why(0), 0);
    }

    private static void noTown() {
        SecondWell w = new SecondWell();
        Check.due("order(0)", w.order(0), -2);
        Check.due("open()", w.open(), -2);
        Check.due("last(0)", w.last(0), -2);
        Check.due("fall(0)", w.fall(0), -2);
        Check.due("swing(0, 0)", w.swing(0, 0), -1000);
        Check.due("why(0)", w.why(0), -2);
        Check.due("wishes()", w.wishes(), -2);
    }
}
