/** Promises 53 to 56 and 67 to 69: SLOTS, WIDTHS and rows at their ends, numbers that are no ACTS, what stays. */
public final class MinutesEdgesTest {
    public static void main(String[] args) {
        rowBounds();
        rowWrongAhead();
        rowStays();
        rowInPlace();
        rowAllNoughts();
        writeBounds();
        writeRefused();
        writeCut();
        pasteBounds();
        pasteWrongAhead();
        pasteStays();
        pasteOfNone();
        pasteOfItsOwn();
        pasteAsTheyWere();
        judgeSlots();
        judgeOfActs();
        judgeNoActs();
        judgeOfTheTown();
        judgeAsTold();
        judgeOfSixty();
        heldBounds();
        whenBounds();
        whenWrongAhead();
        differsBounds();
        differsWrongAhead();
        asAhead();
        Check.finish("MinutesEdgesTest");
    }

    /** The ACTS of a row, as far as judge() and when() tell: here all are such as can be. */
    private static void rowDue(String what, SecondWell w, int slot, int judge, int held) {
        Check.due(what + ": judge(" + slot + ")", w.judge(slot), judge);
        Check.due(what + ": held(" + slot + ")", w.held(slot), held);
    }

    private static void rowBounds() {
        SecondWell w = Check.told(Towns.JUGS);
        Check.each("row, SLOT", slot -> w.row(slot, 0, 1), -2, Check.beyond(4));
        Check.each("row, WIDTH", width -> w.row(0, width, 1), -2, Check.beyond(4));
        Check.each("row, n", n -> w.row(0, 0, n), -2, 61, 62, 256, 1 << 16, Check.MOST);
        Check.each("row, n below 0", n -> w.row(0, 0, n), -3, -1, -2, -60, -256, Check.LEAST);
        Check.due("count(7)", w.count(7), 0);
        Check.each("row, SLOT", slot -> w.row(slot, 0, 1), 0, 0, 1, 2, 3);
        Check.each("row, WIDTH", width -> w.row(0, width, 1), 0, 0, 1, 2, 3);
        Check.each("row, n", n -> w.row(3, 3, n), 0, 0, 1, 59, 60);
        Check.due("write(3, 59)", w.write(3, 59, 0), 0);
        Check.due("write(3, 60)", w.write(3, 60, 0), -7);
        Check.due("row without a TOWN", new SecondWell().row(3, 3, 60), 0);
    }

    // No such SLOT or WIDTH, and n below 0.
    private static void rowWrongAhead() {
        SecondWell w = new SecondWell();
        Check.each("row, SLOT and n", slot -> w.row(slot, 0, -1), -2, Check.beyond(4));
        Check.each("row, WIDTH and n", width -> w.row(0, width, -1), -2, Check.beyond(4));
        Check.each("row, all", slot -> w.row(slot, slot, Check.LEAST), -2, Check.beyond(4));
    }

    private static void rowStays() {
        for (int[] wrong : new int[][] {{0, 0, -1}, {0, 3, Check.LEAST}, {0, 0, 61}, {0, 4, 1}, {0, -1, 1}, {4, 0, 1}}) {
            SecondWell w = rows();
            Check.due("row, refused", w.row(wrong[0], wrong[1], wrong[2]) < 0 ? 1 : 0, 1);
            Picture.same("a row refused", w, rows());
        }
        SecondWell w = rows();
        Check.due("row of nothing, refused", w.row(3, 0, -1), -3);
        Check.due("it has nothing", w.judge(3), -6);
        Check.due("count(7)", w.count(7), 3);
    }

    private static SecondWell rows() {
        SecondWell w = Check.told(Towns.JUGS);
        Check.put(w, 0, 0, 1, 0, 20);
        Check.put(w, 1, 1, 0, 1, 10);
        Check.put(w, 2, 0, 20, 20, 20, 1, 0);
        return w;
    }

    private static void rowInPlace() {
        SecondWell w = rows();
        Check.due("row, in place", w.row(2, 3, 2), 0);
        Check.due("count(7)", w.count(7), 3);
        Check.due("write, the last", w.write(2, 1, 7), 0);
        Check.due("write, beyond", w.write(2, 2, 7), -7);
        rowDue("in place", w, 2, 2, 129);
        Check.due("paste, another WIDTH", w.paste(0, 0, 2, 0, 1), -8);
        Check.due("row of none", w.row(2, 0, 0), 0);
        rowDue("of none", w, 2, 0, 0);
        Check.due("it is a row", w.count(7), 3);
    }

    private static void rowAllNoughts() {
        SecondWell w = Check.told(Towns.JUGS);
        for (int slot = 0; slot < 4; slot++) {
            for (int width = 0; width < 4; width++) {
                w.row(slot, width, 60);
                for (int i = 0; i < 3; i++) {
                    w.write(slot, i, 20);
                }
                w.write(slot, 59, 77);
                Check.due("judge, no ACT at the end", w.judge(slot), -2);
                Check.due("row", w.row(slot, width, 60), 0);
                Check.due("judge, all 0", w.judge(slot), 1);
                Check.due("held, all 0", w.held(slot), 1);
            }
        }
        // What a longer row had beyond a shorter one's end is no more there.
        Check.put(w, 0, 0, 20, 20, 20, 20);
        w.row(0, 0, 1);
        w.row(0, 0, 4);
        Check.due("judge, all 0", w.judge(0), 1);
    }

    private static void writeBounds() {
        SecondWell w = Check.told(Towns.JUGS);
        for (int n : new int[] {1, 2, 60}) {
            w.row(3, 0, n);
            Check.each("write to a row of " + n, i -> w.write(3, i, 20), -7, Check.beyond(n));
            Check.due("write, the first", w.write(3, 0, 7), 0);
            Check.due("write, the last", w.write(3, n - 1, 7), 0);
        }
        w.row(0, 0, 0);
        Check.each("write to a row of none", i -> w.write(0, i, 20), -7, 0, 1, -1);
        Check.each("write, SLOT", slot -> w.write(slot, 0, 20), -2, Check.beyond(4));
        Check.each("write, SLOT and number", slot -> w.write(slot, -1, 20), -2, Check.beyond(4));
        Check.each("write to nothing", slot -> w.write(slot, 0, 20), -6, 1, 2);
        Check.each("write to nothing, no number", i -> w.write(1, i, 20), -6, Check.beyond(60));
    }

    private static void writeRefused() {
        SecondWell w = rows();
        Check.each("write", i -> w.write(0, i, 5), -7, Check.beyond(3));
        Check.each("write", slot -> w.write(slot, 0, 5), -2, Check.beyond(4));
        Check.due("write", w.write(3, 0, 5), -6);
        Picture.same("writes refused", w, rows());
    }

    // To 1, 2, 4 and 8 bytes: 20 and a bit just within, just beyond.
    private static void writeCut() {
        int[] bits = {8, 16, 32, 64};
        for (int width = 0; width < 4; width++) {
            SecondWell w = Check.told(Towns.JUGS);
            w.row(0, width, 1);
            for (int bit = 5; bit < 64; bit++) {
                w.write(0, 0, 20L + (1L << bit));
                Check.due("WIDTH " + width + ", 20 and bit " + bit, w.judge(0), bit < bits[width] ? -2 : 1);
            }
        }
        SecondWell w = Check.told(Towns.JUGS);
        for (int width = 0; width < 4; width++) {
            w.row(0, width, 1);
            w.write(0, 0, Long.MIN_VALUE);
            Check.due("the least, WIDTH " + width, w.judge(0), width == 3 ? -2 : 1);
            w.write(0, 0, Long.MAX_VALUE);
            Check.due("the most, WIDTH " + width, w.judge(0), -2);
            w.write(0, 0, -1L);
            Check.due("-1, WIDTH " + width, w.judge(0), -2);
        }
        // A cut number stays cut, where it is put to another row.
        w.row(0, 0, 1);
        w.row(1, 0, 1);
        w.write(0, 0, 256 + 7);
        w.paste(0, 0, 1, 0, 1);
        rowDue("cut and put", w, 1, 1, 128);
    }

    private static void pasteBounds() {
        SecondWell w = rows();
        // SLOT 0 has three numbers, SLOT 2 five, of one WIDTH.
        int[][] within = {{0, 0, 3}, {0, 2, 3}, {2, 4, 1}, {1, 3, 2}, {3, 5, 0}, {0, 0, 0}};
        for (int[] p : within) {
            Check.due("paste within", w.paste(0, p[0], 2, p[1], p[2]), 0);
        }
        int[][] beyond = {{0, 0, 4}, {1, 0, 3}, {3, 0, 1}, {4, 0, 0}, {0, 3, 3}, {0, 5, 1}, {0, 6, 0}, {-1, 0, 1}, {0, -1, 1},
            {0, 0, -1}, {-1, 0, 0}, {0, -1, 0}, {-1, -1, -1}, {Check.LEAST, 0, 1}, {0, Check.LEAST, 1},
            {0, 0, Check.LEAST}, {Check.MOST, 0, 1}, {0, Check.MOST, 1}, {0, 0, Check.MOST}, {1, 1, Check.MOST},
            {Check.MOST, Check.MOST, 2}, {Check.LEAST, 0, Check.MOST}, {0, Check.LEAST, Check.LEAST},
            {Check.MOST, 0, Check.MOST}};
        for (int[] p : beyond) {
            Check.due("paste beyond, from " + p[0] + " to " + p[1] + ", " + p[2], w.paste(0, p[0], 2, p[1], p[2]), -7);
        }
        Check.each("paste, from SLOT", slot -> w.paste(slot, 0, 0, 0, 1), -2, Check.beyond(4));
        Check.each("paste, to SLOT", slot -> w.paste(0, 0, slot, 0, 1), -2, Check.beyond(4));
        Check.due("paste from nothing", w.paste(3, 0, 0, 0, 1), -6);
        Check.due("paste to nothing", w.paste(0, 0, 3, 0, 1), -6);
        Check.due("paste of unlike WIDTHS", w.paste(0, 0, 1, 0, 1), -8);
        Check.due("paste of unlike WIDTHS", w.paste(1, 0, 0, 0, 1), -8);
        Check.due("paste of a full row", full(w, 3), 0);
    }

    private static int full(SecondWell w, int slot) {
        w.row(slot, 2, 60);
        w.row(0, 2, 60);
        return w.paste(slot, 0, 0, 0, 60);
    }

    // -2 ahead of -6, that ahead of -8, that ahead of -7.
    private static void pasteWrongAhead() {
        SecondWell w = rows();
        Check.due("no SLOT, nothing to", w.paste(4, 0, 3, 0, 1), -2);
        Check.due("nothing from, no SLOT", w.paste(3, 0, 4, 0, 1), -2);
        Check.due("no SLOT, beyond", w.paste(-1, 9, 0, 9, -1), -2);
        Check.due("beyond, no SLOT", w.paste(0, 9, -1, 9, -1), -2);
        Check.due("nothing from, beyond", w.paste(3, -1, 0, 9, 9), -6);
        Check.due("nothing to, beyond", w.paste(0, -1, 3, 9, 9), -6);
        Check.due("nothing at all, beyond", w.paste(3, -1, 3, 9, 9), -6);
        Check.due("nothing at all, n is 0", w.paste(3, 0, 3, 0, 0), -6);
        // SLOT 3 would be of WIDTH 0 as it was made; it has nothing all the same.
        Check.due("nothing, like SLOT 1 of WIDTH 1", w.paste(1, 0, 3, 0, 0), -6);
        Check.due("unlike WIDTHS, beyond", w.paste(0, -1, 1, 0, 1), -8);
        Check.due("unlike WIDTHS, beyond", w.paste(1, 0, 0, 99, 1), -8);
        Check.due("unlike WIDTHS, n below 0", w.paste(1, 0, 0, 0, -1), -8);
        Check.due("unlike WIDTHS, n is 0", w.paste(1, 0, 0, 0, 0), -8);
    }

    private static void pasteStays() {
        SecondWell w = rows();
        w.paste(0, 0, 2, 0, 4);
        w.paste(0, 0, 2, 3, 3);
        w.paste(0, 2, 2, 0, 2);
        w.paste(0, -1, 2, 0, 2);
        w.paste(2, 3, 0, -1, 2);
        w.paste(2, 3, 0, 0, -1);
        w.paste(2, 3, 1, 0, 1);
        w.paste(1, 0, 2, 0, 1);
        w.paste(2, 0, 3, 0, 1);
        w.paste(2, 0, 4, 0, 1);
        w.paste(2, 0, 0, 0, 4);
        Picture.same("pastes refused", w, rows());
    }

    private static void pasteOfNone() {
        SecondWell w = rows();
        Check.due("at the first", w.paste(2, 0, 0, 0, 0), 0);
        Check.due("at the ends", w.paste(2, 5, 0, 3, 0), 0);
        Picture.same("pastes of none", w, rows());
        SecondWell none = Check.told(Towns.JUGS);
        none.row(0, 0, 0);
        none.row(1, 0, 0);
        Check.due("of rows of none", none.paste(0, 0, 1, 0, 0), 0);
        Check.due("of rows of none", none.paste(0, 0, 1, 0, 1), -7);
        Check.due("of rows of none", none.paste(0, 1, 1, 0, 0), -7);
    }

    // As they were ahead of it, also where the two places meet.
    private static void pasteOfItsOwn() {
        SecondWell w = Check.told(Towns.JUGS);
        Check.put(w, 0, 0, 7, 6, 5, 4, 3);
        Check.due("one up", w.paste(0, 0, 0, 1, 4), 0);
        actsDue("one up", w, 0, 7, 7, 6, 5, 4);
        Check.put(w, 0, 0, 7, 6, 5, 4, 3);
        Check.due("one down", w.paste(0, 1, 0, 0, 4), 0);
        actsDue("one down", w, 0, 6, 5, 4, 3, 3);
        Check.put(w, 0, 0, 7, 6, 5, 4, 3);
        Check.due("on itself", w.paste(0, 0, 0, 0, 5), 0);
        actsDue("on itself", w, 0, 7, 6, 5, 4, 3);
    }

    /** A row's numbers, MATTERS, each put alone to a row of one and held there. */
    private static void actsDue(String what, SecondWell w, int slot, long... want) {
        for (int i = 0; i < want.length; i++) {
            w.row(3, 0, 1);
            w.paste(slot, i, 3, 0, 1);
            Check.due(what + ": number " + i, w.held(3), 1 << want[i]);
        }
    }

    private static void pasteAsTheyWere() {
        for (int width = 0; width < 4; width++) {
            SecondWell w = Check.told(Towns.JUGS);
            Check.put(w, 0, width, 7, 6, 5, 4, 3);
            Check.put(w, 1, width, 0, 1, 2);
            w.paste(0, 3, 1, 1, 2);
            w.row(3, width, 1);
            for (int i = 0; i < 3; i++) {
                w.paste(1, i, 3, 0, 1);
                Check.due("number " + i, w.held(3), 1 << new int[] {0, 4, 3}[i]);
            }
            rowDue("the source stays", w, 0, 5, 248);
        }
    }

    private static void judgeSlots() {
        SecondWell w = rows();
        int[] beyond = Check.beyond(4);
        Check.each("judge", w::judge, -2, beyond);
        Check.each("held", w::held, -2, beyond);
        Check.each("when", slot -> w.when(slot, 0, 0), -2, beyond);
        Check.each("differs(.., 0)", slot -> w.differs(slot, 0), -2, beyond);
        Check.each("differs(0, ..)", slot -> w.differs(0, slot), -2, beyond);
        Check.due("judge of nothing", w.judge(3), -6);
        Check.due("held of nothing", w.held(3), -6);
        Check.due("when of nothing", w.when(3, 0, 0), -6);
        Check.due("differs of nothing", w.differs(3, 3), -6);
        w.row(3, 0, 0);
        rowDue("a row of none", w, 3, 0, 0);
        Check.due("when(3, 0, 0)", w.when(3, 0, 0), 0);
        Check.due("when(3, 0, 1)", w.when(3, 0, 1), -1);
        Check.due("differs(3, 3)", w.differs(3, 3), -1);
    }

    // How many ahead of the first that can't be: none, some, all.
    private static void judgeOfActs() {
        SecondWell w = Check.told(TownTest.TOWN);
        long[][] rows = {{1}, {0, 0}, {0, 1, 1}, {0, 1, 2, 12}, {0, 1, 2, 3}, {10}, {0, 10}, {0, 2, 10}, {0, 2, 10, 2, 10},
            {3, 10}, {20, 20, 1}, {0, 2, 11}};
        int[] judge = {0, 1, 2, 3, 4, 0, 1, 3, 4, 1, 2, 2};
        int[] held = {0, 1, 3, 7, 15, 0, 1, 1, 5, 8, 0, 5};
        for (int i = 0; i < rows.length; i++) {
            Check.put(w, 0, i % 4, rows[i]);
            rowDue("row " + i, w, 0, judge[i], held[i]);
        }
        // Behind the first that can't be nothing counts, though it could.
        Check.put(w, 0, 0, 1, 0, 3, 20);
        rowDue("the first can't", w, 0, 0, 0);
    }

    private static void judgeNoActs() {
        SecondWell w = Check.told(Towns.BIG);
        for (long number = -2; number <= 40; number++) {
            boolean isAct = number >= 0 && number <= 7 || number >= 10 && number <= 15 || number == 20;
            for (int width = 0; width < 4; width += 3) {
                Check.put(w, 0, width, number);
                Check.due("judge with " + number, w.judge(0) < 0 ? -2 : 0, isAct ? 0 : -2);
            }
        }
        for (long number : new long[] {100, 127, -128, -1, Long.MIN_VALUE, Long.MAX_VALUE, (1L << 32) + 20, 1L << 32,
            (1L << 63) + 20, Integer.MIN_VALUE, Integer.MAX_VALUE}) {
            Check.put(w, 0, 3, number);
            Check.due("judge with " + number, w.judge(0), -2);
        }
    }

    // A number is an ACT by the MATTERS and PEOPLE that there are; all numbers of a row are asked.
    private static void judgeOfTheTown() {
        SecondWell w = Check.told(TownTest.TOWN);
        for (long number : new long[] {0, 3, 10, 12, 20}) {
            Check.put(w, 0, 0, 20, number);
            Check.due("judge with " + number, w.judge(0) < 0 ? -2 : 0, 0);
        }
        for (long number : new long[] {-1, 4, 7, 8, 9, 13, 15, 16, 19, 21, 30}) {
            for (int place = 0; place < 3; place++) {
                Check.put(w, 0, 0, 20, 1, 20);
                w.write(0, place, number);
                Check.due("judge with " + number + " at " + place, w.judge(0), -2);
                Check.due("held with " + number + " at " + place, w.held(0), -2);
                Check.due("when with " + number + " at " + place, w.when(0, 0, 0), -2);
                Check.due("when with " + number + " at " + place + ", fewer", w.when(0, 0, 9), -2);
            }
        }
        Check.put(w, 0, 0, 20);
        Check.due("judge of a well alone", judgedIn("well level 1 spring 1 frost 1;", 20), 1);
        Check.due("judge, no MATTER", judgedIn("well level 1 spring 1 frost 1;", 0), -2);
        Check.due("judge, nobody", judgedIn("well level 1 spring 1 frost 1;", 10), -2);
    }

    private static int judgedIn(String text, long number) {
        SecondWell w = Check.told(text);
        Check.put(w, 0, 0, number);
        return w.judge(0);
    }

    // Cups and level are as told, nothing is settled or drunk back; prices and MARKS are as now.
    private static void judgeAsTold() {
        SecondWell w = Check.told(Towns.ofTwo(1, "0 loses 1 1 gains 0"));
        Check.put(w, 0, 0, 0, 10, 0);
        Check.take(w, 0, 10, 0);
        rowDue("as told", w, 0, 3, 1);
        w.anew();
        w.mark(0, 0, 1);
        rowDue("dry now", w, 0, 1, 1);
        w.mark(0, 0, 0);
        w.price(0, 1, 1);
        rowDue("not agreed now", w, 0, 1, 1);
        Check.put(w, 0, 0, 0, 20, 20);
        for (int i = 0; i < 60; i++) {
            w.day();
        }
        rowDue("behind 60 ACTS", w, 0, 3, 1);
        // The water of a DAY in the row.
        SecondWell dry = Check.told(Towns.ofTwo(0, "0 loses 1 1 gains 0"));
        Check.put(dry, 0, 0, 0, 10);
        Check.put(dry, 1, 0, 0, 20, 10);
        rowDue("no water", dry, 0, 1, 1);
        rowDue("water", dry, 1, 3, 0);
        Check.take(dry, 20);
        rowDue("no water, as told", dry, 0, 1, 1);
    }

    private static void judgeOfSixty() {
        SecondWell w = Check.told(TownTest.TOWN);
        w.row(0, 0, 60);
        for (int i = 0; i < 60; i++) {
            w.write(0, i, 20);
        }
        rowDue("sixty DAYS", w, 0, 60, 0);
        Check.due("when(0, 0, 60)", w.when(0, 0, 60), 0);
        Check.due("when(0, 0, 61)", w.when(0, 0, 61), -1);
        w.row(1, 0, 60);
        w.paste(0, 0, 1, 0, 60);
        Check.due("differs(0, 1)", w.differs(0, 1), -1);
        w.write(1, 59, 3);
        rowDue("the last is another one", w, 1, 60, 8);
        Check.due("differs(0, 1), at the last", w.differs(0, 1), 60);
        w.write(1, 59, 1);
        rowDue("the last can't be", w, 1, 59, 0);
        Check.due("differs(0, 1)", w.differs(0, 1), -1);
        w.write(1, 59, 9);
        Check.due("judge(1), the last is no ACT", w.judge(1), -2);
    }

    private static void heldBounds() {
        SecondWell w = Check.told(Towns.JUGS);
        Check.put(w, 0, 0, 0, 1, 2, 3, 4, 5, 6, 7);
        rowDue("all eight", w, 0, 8, 255);
        Check.put(w, 0, 0, 7, 10, 7, 10, 6);
        rowDue("never again", w, 0, 3, 128);
        Check.due("settled() stays", w.settled(), 0);
    }

    private static void whenBounds() {
        SecondWell w = Check.told(Towns.JUGS);
        Check.put(w, 0, 0, 7, 0, 10, 20, 7);
        int[][] want = {{0, 0, 1, 0, 0, -1}, {0, 1, 1, 1, 1, -1}};
        for (int n = 0; n < 6; n++) {
            Check.due("when(0, 0, " + n + ")", w.when(0, 0, n), want[0][n]);
            Check.due("when(0, 7, " + n + ")", w.when(0, 7, n), want[1][n]);
        }
        // The row has five, judge() has four.
        Check.due("judge(0)", w.judge(0), 4);
        Check.each("when, they are fewer", n -> w.when(0, 7, n), -1, 5, 6, 60, 61, 256, Check.MOST);
        Check.each("when, n below 0", n -> w.when(0, 7, n), -2, -1, -2, -256, Check.LEAST);
        Check.each("when, MATTER", m -> w.when(0, m, 0), -2, Check.beyond(8));
        SecondWell four = Check.told(TownTest.TOWN);
        Check.put(four, 0, 0, 20);
        Check.each("when of four", m -> four.when(0, m, 1), -2, Check.beyond(4));
        Check.each("when of four", m -> four.when(0, m, 1), 0, 0, 3);
    }

    // -2, for whatever there is none such, ahead of -6 and of NONE.
    private static void whenWrongAhead() {
        SecondWell w = Check.told(TownTest.TOWN);
        Check.put(w, 0, 0, 20);
        Check.each("no MATTER, nothing", m -> w.when(3, m, 0), -2, Check.beyond(4));
        Check.each("n below 0, nothing", n -> w.when(3, 0, n), -2, -1, -60, Check.LEAST);
        Check.each("no MATTER, fewer", m -> w.when(0, m, 2), -2, Check.beyond(4));
        Check.each("nothing, any n", n -> w.when(3, 0, n), -6, 0, 1, 60, 61, Check.MOST);
        Check.each("no SLOT, any n", n -> w.when(4, 0, n), -2, 0, 1, 60, 61, Check.MOST);
    }

    private static void differsBounds() {
        SecondWell w = Check.told(Towns.JUGS);
        Check.put(w, 0, 0, 0, 1, 2);
        Check.put(w, 1, 3, 0, 1, 3);
        Check.put(w, 2, 1, 0, 2, 1);
        Check.due("at the last", w.differs(0, 1), 3);
        Check.due("and back", w.differs(1, 0), 3);
        Check.due("ahead of it, though alike behind", w.differs(0, 2), 2);
        Check.due("with itself", w.differs(0, 0), -1);
        Check.put(w, 1, 0, 5);
        Check.due("at the first", w.differs(0, 1), 1);
        Check.put(w, 1, 0, 20);
        Check.due("at the first, by a DAY", w.differs(1, 0), 1);
        // As far as both go: the shorter row, the one that can't go on.
        Check.put(w, 1, 0, 0, 1);
        Check.due("up to the shorter one's end", w.differs(0, 1), -1);
        Check.put(w, 1, 0, 20);
        Check.put(w, 2, 0, 20, 1);
        Check.due("one has no more ACTS", w.differs(1, 2), -1);
        Check.due("the other has no more ACTS", w.differs(2, 1), -1);
        Check.put(w, 1, 0, 0, 1, 1, 5);
        Check.due("up to what can't be", w.differs(0, 1), -1);
        Check.due("up to what can't be", w.differs(1, 0), -1);
        w.row(1, 0, 0);
        Check.due("with a row of none", w.differs(0, 1), -1);
        Check.due("with a row of none", w.differs(1, 0), -1);
        // By what is settled, in whatever order and by whomever.
        Check.put(w, 1, 0, 0, 10, 20);
        Check.put(w, 2, 0, 0, 11, 20);
        Check.due("drunk back by another one", w.differs(1, 2), -1);
        Check.put(w, 2, 0, 0, 20, 10);
        Check.due("drunk back later", w.differs(1, 2), 2);
    }

    // -2 of either ahead of -6 of the other.
    private static void differsWrongAhead() {
        SecondWell w = Check.told(TownTest.TOWN);
        Check.put(w, 0, 0, 20);
        Check.put(w, 1, 0, 4);
        Check.due("nothing", w.differs(0, 3), -6);
        Check.due("nothing", w.differs(3, 0), -6);
        Check.due("nothing twice", w.differs(2, 3), -6);
        Check.each("no SLOT, nothing", slot -> w.differs(slot, 3), -2, Check.beyond(4));
        Check.each("nothing, no SLOT", slot -> w.differs(3, slot), -2, Check.beyond(4));
        Check.due("no ACT, nothing", w.differs(1, 3), -2);
        Check.due("nothing, no ACT", w.differs(3, 1), -2);
        Check.due("no ACT, ACTS", w.differs(1, 0), -2);
        Check.due("ACTS, no ACT", w.differs(0, 1), -2);
        Check.due("no ACT twice", w.differs(1, 1), -2);
        Check.due("no ACT, no SLOT", w.differs(1, 4), -2);
        // Also where the rows differ, or one can't go on, ahead of it.
        Check.put(w, 0, 0, 0, 20);
        Check.put(w, 1, 0, 20, 9);
        Check.due("no ACT behind a difference", w.differs(0, 1), -2);
        Check.put(w, 1, 0, 1, 9);
        Check.due("no ACT behind what can't be", w.differs(0, 1), -2);
    }

    private static void asAhead() {
        SecondWell asked = rows();
        Check.take(asked, 0, 20);
        for (int slot = -1; slot <= 4; slot++) {
            asked.judge(slot);
            asked.held(slot);
            asked.when(slot, 0, 1);
            asked.when(slot, 9, 1);
            asked.differs(slot, 0);
            asked.differs(2, slot);
        }
        SecondWell other = rows();
        Check.take(other, 0, 20);
        Picture.same("behind questions", asked, other);
    }
}
