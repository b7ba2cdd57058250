/** Promises 53 to 56 and 67 to 69: rows in SLOTS, and minutes that are judged. */
public final class MinutesTest {
    public static void main(String[] args) {
        judging();
        judgingFromNothing();
        whenBelowZero();
        differing();
        noActs();
        rows();
        writing();
        pasting();
        noTown();
        Check.finish("MinutesTest");
    }

    private static void put(SecondWell w, int slot, int width, long... numbers) {
        Check.due("row", w.row(slot, width, numbers.length), 0);
        for (int i = 0; i < numbers.length; i++) {
            Check.due("write", w.write(slot, i, numbers[i]), 0);
        }
    }

    private static void judging() {
        SecondWell w = Check.told(TownTest.TOWN);
        put(w, 0, 0, 0, 1, 2, 10, 20);
        Check.due("judge(0)", w.judge(0), 5);
        Check.due("held(0)", w.held(0), 3);
        Check.due("when(0, 2, 0)", w.when(0, 2, 0), 0);
        Check.due("when(0, 2, 3)", w.when(0, 2, 3), 1);
        Check.due("when(0, 2, 4)", w.when(0, 2, 4), 0);
        Check.due("when(0, 0, 5)", w.when(0, 0, 5), 1);
        Check.due("when(0, 2, 6)", w.when(0, 2, 6), -1);
        Check.due("when(0, 4, 0)", w.when(0, 4, 0), -2);
        Check.due("when(0, -1, 0)", w.when(0, -1, 0), -2);
        put(w, 1, 3, 0, 2, 10, 2, 10, 1);
        Check.due("judge(1), never drunk back again", w.judge(1), 4);
        Check.due("held(1)", w.held(1), 5);
        Check.due("when(1, 1, 4)", w.when(1, 1, 4), 0);
        Check.due("when(1, 1, 5), behind what can't be", w.when(1, 1, 5), -1);
        put(w, 2, 0, 1);
        Check.due("judge(2)", w.judge(2), 0);
        Check.due("held(2)", w.held(2), 0);
        Check.due("row(2, 0, 0)", w.row(2, 0, 0), 0);
        Check.due("write beyond an empty row", w.write(2, 0, 0), -7);
        Check.due("judge(2) of an empty row", w.judge(2), 0);
        Check.due("held(2) of an empty row", w.held(2), 0);
        Check.due("when(2, 0, 0) of an empty row", w.when(2, 0, 0), 0);
        Check.due("judge(3)", w.judge(3), -6);
        Check.due("held(3)", w.held(3), -6);
        Check.due("when(3, 0, 0)", w.when(3, 0, 0), -6);
        for (int slot : new int[] {-1, 4}) {
            Check.due("judge(" + slot + ")", w.judge(slot), -2);
            Check.due("held(" + slot + ")", w.held(slot), -2);
            Check.due("when(" + slot + ", 0, 0)", w.when(slot, 0, 0), -2);
        }
    }

    // There is no such n, as there may be no such MATTER: asked ahead of a SLOT that has nothing.
    private static void whenBelowZero() {
        SecondWell w = Check.told(TownTest.TOWN);
        put(w, 0, 0, 0, 1, 2, 10, 20);
        Check.due("row(1, 0, 0)", w.row(1, 0, 0), 0);
        put(w, 2, 0, 0, 9);
        for (int n : new int[] {-1, -2, -60, Integer.MIN_VALUE}) {
            Check.due("when(0, 2, " + n + ") of a row", w.when(0, 2, n), -2);
            Check.due("when(1, 0, " + n + ") of an empty row", w.when(1, 0, n), -2);
            Check.due("when(2, 0, " + n + ") of no ACTS", w.when(2, 0, n), -2);
            Check.due("when(3, 0, " + n + ") of nothing", w.when(3, 0, n), -2);
            Check.due("when(4, 0, " + n + ") of no SLOT", w.when(4, 0, n), -2);
            Check.due("when(3, 4, " + n + ") of no MATTER", w.when(3, 4, n), -2);
        }
        Check.due("when(3, 0, 0) of nothing", w.when(3, 0, 0), -6);
        Check.due("when(3, 0, 61) of nothing", w.when(3, 0, 61), -6);
        Check.due("when(1, 0, 1) of an empty row", w.when(1, 0, 1), -1);
        Check.due("when(0, 0, top) of a row", w.when(0, 0, Integer.MAX_VALUE), -1);
    }

    private static void judgingFromNothing() {
        SecondWell w = Check.told("well level 1 spring 0 frost 0;person cups 1;person cups 0;"
                + "matter 0 loses 1 1 gains 1 jug;matter 0 loses 1 1 gains 1 jug;");
        w.settle(0);
        w.drink(0);
        w.settle(1);
        put(w, 0, 1, 0, 10, 1, 10);
        Check.due("judge(0), cups and level as told", w.judge(0), 3);
        Check.due("held(0)", w.held(0), 2);
        Check.due("settled() is as ahead", w.settled(), 2);
        Check.due("count(6) is as ahead", w.count(6), 3);
        w.row(1, 0, 60);
        for (int i = 0; i < 60; i++) {
            w.write(1, i, 20);
        }
        Check.due("judge(1), sixty", w.judge(1), 60);
    }

    private static void differing() {
        SecondWell w = Check.told(TownTest.TOWN);
        put(w, 0, 0, 0, 1, 2, 10, 20);
        put(w, 1, 2, 0, 2, 1);
        Check.due("differs(0, 1)", w.differs(0, 1), 2);
        Check.due("differs(1, 0)", w.differs(1, 0), 2);
        Check.due("differs(0, 0)", w.differs(0, 0), -1);
        put(w, 2, 0, 1);
        Check.due("differs(0, 2), which goes nowhere", w.differs(0, 2), -1);
        Check.due("differs(0, 3)", w.differs(0, 3), -6);
        Check.due("differs(3, 0)", w.differs(3, 0), -6);
        Check.due("differs(3, 4)", w.differs(3, 4), -2);
        Check.due("differs(-1, 3)", w.differs(-1, 3), -2);
        w.write(2, 0, 4);
        Check.due("differs(2, 3), no ACT ahead of nothing", w.differs(2, 3), -2);
        Check.due("differs(3, 2)", w.differs(3, 2), -2);
        Check.due("differs(0, 2)", w.differs(0, 2), -2);
        put(w, 2, 0, 20, 0);
        Check.due("differs(0, 2)", w.differs(0, 2), 1);
        put(w, 1, 0, 0, 1, 2, 20, 20);
        Check.due("differs(0, 1)", w.differs(0, 1), 4);
        put(w, 1, 0, 0, 1, 2, 1, 20);
        Check.due("differs(0, 1), as far as both go", w.differs(0, 1), -1);
        put(w, 1, 0, 0, 1);
        put(w, 2, 0, 0, 2);
        Check.due("differs(1, 2), behind the last", w.differs(1, 2), 2);
        put(w, 2, 0, 0, 1, 3);
        Check.due("differs(1, 2), the shorter", w.differs(1, 2), -1);
    }

    // A number must be an ACT of this TOWN, wherever in the row it stands.
    private static void noActs() {
        SecondWell w = Check.told(TownTest.TOWN);
        for (long number : new long[] {-1, 4, 7, 8, 9, 13, 15, 16, 19, 21, 30, 100}) {
            put(w, 0, 0, 1, number);
            Check.due("judge(0) with " + number, w.judge(0), -2);
            Check.due("held(0) with " + number, w.held(0), -2);
            Check.due("when(0, 0, 0) with " + number, w.when(0, 0, 0), -2);
        }
        for (long number : new long[] {0, 3, 10, 12, 20}) {
            put(w, 0, 0, 1, number);
            Check.due("judge(0) with " + number, w.judge(0), 0);
        }
    }

    private static void rows() {
        SecondWell w = Check.told(TownTest.TOWN);
        Check.due("row(0, 0, 60)", w.row(0, 0, 60), 0);
        Check.due("row(0, 0, 61)", w.row(0, 0, 61), -2);
        Check.due("row(0, 4, 1)", w.row(0, 4, 1), -2);
        Check.due("row(0, -1, 1)", w.row(0, -1, 1), -2);
        Check.due("row(4, 0, 1)", w.row(4, 0, 1), -2);
        Check.due("row(-1, 0, 1)", w.row(-1, 0, 1), -2);
        Check.due("row(0, 0, -1)", w.row(0, 0, -1), -3);
        Check.due("row(4, 0, -1)", w.row(4, 0, -1), -2);
        Check.due("row(0, 4, -1)", w.row(0, 4, -1), -2);
        Check.due("row(1, 0, -1)", w.row(1, 0, -1), -3);
        Check.due("count(7)", w.count(7), 1);
        Check.due("write(0, 59), the SLOT stayed", w.write(0, 59, 20), 0);
        put(w, 0, 0, 20, 20, 20);
        Check.due("row(0, 0, 3)", w.row(0, 0, 3), 0);
        Check.due("judge(0), all 0", w.judge(0), 1);
        Check.due("held(0), all 0", w.held(0), 1);
    }

    private static void writing() {
        SecondWell w = Check.told(TownTest.TOWN);
        Check.due("write(0, 0, 0)", w.write(0, 0, 0), -6);
        Check.due("write(4, 0, 0)", w.write(4, 0, 0), -2);
        Check.due("write(-1, 0, 0)", w.write(-1, 0, 0), -2);
        w.row(0, 0, 2);
        Check.due("write(0, 2, 0)", w.write(0, 2, 0), -7);
        Check.due("write(0, -1, 0)", w.write(0, -1, 0), -7);
        long[] beyond = {1L << 8, 1L << 16, 1L << 32};
        for (int width = 0; width < 4; width++) {
            for (int k = 0; k < 3; k++) {
                put(w, 0, width, beyond[k] + 20);
                Check.due("judge of a cut number", w.judge(0), width <= k ? 1 : -2);
            }
        }
        put(w, 0, 0, 128 + 20);
        Check.due("judge of a number below 0", w.judge(0), -2);
        put(w, 0, 0, -256 + 20);
        Check.due("judge of a cut number below 0", w.judge(0), 1);
        put(w, 0, 3, Long.MIN_VALUE);
        Check.due("judge of the least number", w.judge(0), -2);
    }

    private static void pasting() {
        SecondWell w = Check.told(TownTest.TOWN);
        Check.due("paste, nothing", w.paste(0, 0, 1, 0, 1), -6);
        put(w, 0, 0, 20, 0, 1, 2, 20);
        Check.due("paste to nothing", w.paste(0, 0, 1, 0, 1), -6);
        Check.due("paste from nothing", w.paste(1, 0, 0, 0, 1), -6);
        Check.due("paste(4, ..)", w.paste(4, 0, 0, 0, 1), -2);
        Check.due("paste(.., -1, ..)", w.paste(0, 0, -1, 0, 1), -2);
        Check.due("no such SLOT ahead of nothing", w.paste(1, 0, 4, 0, 1), -2);
        w.row(1, 1, 5);
        Check.due("unlike WIDTHS", w.paste(0, 0, 1, 0, 1), -8);
        Check.due("unlike WIDTHS ahead of beyond", w.paste(0, -1, 1, 0, 99), -8);
        put(w, 1, 0, 3, 3, 3);
        int[][] beyond = {{-1, 0, 1}, {0, -1, 1}, {0, 0, -1}, {3, 0, 3}, {0, 1, 3}, {0, 0, 4}, {5, 0, 1},
            {Integer.MAX_VALUE, 0, 1}, {0, Integer.MAX_VALUE, 1}, {1, 1, Integer.MAX_VALUE},
            {Integer.MAX_VALUE, Integer.MAX_VALUE, Integer.MAX_VALUE}};
        for (int[] b : beyond) {
            Check.due("paste beyond", w.paste(0, b[0], 1, b[1], b[2]), -7);
        }
        Check.due("nothing has happened", w.judge(1), 1);
        Check.due("nothing has happened", w.held(1), 8);
        Check.due("paste of none", w.paste(0, 5, 1, 3, 0), 0);
        Check.due("paste", w.paste(0, 1, 1, 1, 2), 0);
        Check.due("judge(1)", w.judge(1), 3);
        Check.due("held(1)", w.held(1), 11);
        Check.due("paste up its own row", w.paste(0, 0, 0, 1, 4), 0);
        // 20 20 0 1 2
        Check.due("judge(0)", w.judge(0), 5);
        Check.due("held(0)", w.held(0), 7);
        Check.due("when(0, 0, 2)", w.when(0, 0, 2), 0);
        Check.due("when(0, 0, 3)", w.when(0, 0, 3), 1);
        Check.due("paste down its own row", w.paste(0, 2, 0, 0, 3), 0);
        // 0 1 2 1 2
        Check.due("judge(0)", w.judge(0), 3);
        Check.due("held(0)", w.held(0), 7);
        Check.due("when(0, 0, 1)", w.when(0, 0, 1), 1);
    }

    private static void noTown() {
        SecondWell w = new SecondWell();
        w.row(0, 0, 1);
        Check.due("judge(0)", w.judge(0), -2);
        Check.due("held(0)", w.held(0), -2);
        Check.due("when(0, 0, 0)", w.when(0, 0, 0), -2);
        Check.due("differs(0, 0)", w.differs(0, 0), -2);
        Check.due("differs(1, 1)", w.differs(1, 1), -2);
    }
}
