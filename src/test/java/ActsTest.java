/** Promises 17 to 22 and 62 to 66: ACTS, taking them back, changes, counts, IMAGES. */
public final class ActsTest {
    public static void main(String[] args) {
        acting();
        drinking();
        days();
        takingBack();
        sixty();
        pricing();
        marking();
        counting();
        images();
        imageOfNothing();
        Check.finish("ActsTest");
    }

    private static void acting() {
        SecondWell w = Check.told(TownTest.TOWN);
        Check.due("settle(1), on 0", w.settle(1), -5);
        Check.due("settle(0)", w.settle(0), 1);
        Check.due("settle(0) twice", w.settle(0), -5);
        Check.due("settle(1)", w.settle(1), 2);
        Check.due("settle(2)", w.settle(2), 3);
        Check.due("settle(4)", w.settle(4), -2);
        Check.due("settle(-1)", w.settle(-1), -2);
        Check.due("drink(1)", w.drink(1), -5);
        Check.due("drink(3)", w.drink(3), -2);
        Check.due("drink(-1)", w.drink(-1), -2);
        Check.due("drink(0)", w.drink(0), 1);
        Check.due("cups", w.person(0, 0), 1);
        Check.due("level", w.level(), 2);
        Check.due("day()", w.day(), 4);
        int[] acts = {0, 1, 2, 10, 20, -1};
        for (int i = 0; i < acts.length; i++) {
            Check.due("act(" + i + ")", w.act(i), acts[i]);
        }
        Check.due("act(-1)", w.act(-1), -1);
        Check.due("count(6)", w.count(6), 5);
    }

    private static void drinking() {
        SecondWell w = Check.told("well level 9 spring 0 frost 0;person cups 3;person cups 0;"
                + "matter 0 loses 1 1 gains 1 jug;matter 0 gains 1 1 gains 1 on 0 jug;"
                + "matter 0 gains 1 1 gains 1 jug;");
        w.settle(0);
        w.settle(2);
        w.settle(1);
        Check.due("drink(0)", w.drink(0), 1);
        Check.due("settle(1) again", w.settle(1), 3);
        Check.due("never drunk back again", w.drink(0), -5);
        w.undo();
        Check.due("drink(0)", w.drink(0), 1);
        Check.due("settled", w.settled(), 1);
        Check.due("settle(1)", w.settle(1), 2);
        Check.due("drunk back once", w.why(0), 3);
        w.undo();
        Check.due("drink(0)", w.drink(0), 1);
        Check.due("cups", w.person(0, 0), 0);
        Check.due("settled", w.settled(), 0);
        w = Check.told("well level 9 spring 0 frost 0;person cups 3;person cups 1;person cups 0;"
                + "matter 0 loses 1 1 gains 1 jug;matter 1 gains 1 2 gains 1 on 0 jug;");
        w.settle(0);
        w.settle(1);
        Check.due("two fall", w.drink(0), 2);
        w.settle(0);
        w.settle(1);
        Check.due("what fell with another may be drunk back", w.drink(1), 1);
        Check.due("what was may not", w.drink(0), -5);
    }

    private static void days() {
        SecondWell w = Check.told("well level 95 spring 3 frost 0;");
        Check.due("day()", w.day(), 98);
        Check.due("day(), 99 at most", w.day(), 99);
        Check.due("day()", w.day(), 99);
        w.undo();
        w.undo();
        Check.due("level()", w.level(), 98);
        w = new SecondWell();
        Check.due("day()", w.day(), -2);
        Check.due("settle(0)", w.settle(0), -2);
        Check.due("drink(0)", w.drink(0), -2);
        Check.due("act(0)", w.act(0), -2);
    }

    private static void takingBack() {
        SecondWell w = Check.told(TownTest.TOWN);
        Check.due("undo()", w.undo(), -5);
        Check.due("anew()", w.anew(), 0);
        w.settle(0);
        w.settle(1);
        w.settle(2);
        w.drink(0);
        w.settle(2);
        Check.due("undo()", w.undo(), 4);
        Check.due("matter(2, 8)", w.matter(2, 8), 1);
        Check.due("undo()", w.undo(), 3);
        Check.due("matter(2, 8)", w.matter(2, 8), 0);
        Check.due("settled()", w.settled(), 7);
        Check.due("order(2)", w.order(2), 2);
        Check.due("cups", w.person(0, 0), 2);
        Check.due("level()", w.level(), 3);
        Check.due("drink(0)", w.drink(0), 1);
        Check.due("anew()", w.anew(), 4);
        Check.due("settled()", w.settled(), 0);
        Check.due("matter(2, 8)", w.matter(2, 8), 0);
        Check.due("level()", w.level(), 3);
        Check.due("cups()", w.cups(), 3);
        Check.due("act(0)", w.act(0), -1);
    }

    private static void sixty() {
        SecondWell w = Check.told(TownTest.TOWN);
        w.settle(0);
        w.settle(2);
        for (int i = 2; i < 60; i++) {
            w.day();
        }
        Check.due("count(6)", w.count(6), 60);
        Check.due("why(0)", w.why(0), 0);
        Check.due("drink(0)", w.drink(0), -5);
        Check.due("settle(1)", w.settle(1), -5);
        Check.due("settle(4)", w.settle(4), -2);
        Check.due("drink(3)", w.drink(3), -2);
        Check.due("day()", w.day(), -5);
        Check.due("act(59)", w.act(59), 20);
        Check.due("act(60)", w.act(60), -1);
        Check.due("undo()", w.undo(), 59);
        Check.due("drink(0)", w.drink(0), 1);
        Check.due("act(59)", w.act(59), 10);
        Check.due("anew()", w.anew(), 60);
    }

    private static void pricing() {
        SecondWell w = Check.told(TownTest.TOWN);
        Check.due("price(0, 0, 9)", w.price(0, 0, 9), 5);
        Check.due("matter(0, 2)", w.matter(0, 2), 9);
        Check.due("price(2, 0, -99)", w.price(2, 0, -99), -4);
        Check.due("price(2, 0, 99)", w.price(2, 0, 99), -99);
        Check.due("price(2, 1, 0)", w.price(2, 1, 0), 1);
        Check.due("sum(0, 5)", w.sum(0, 5), 108);
        Check.due("sum(2, 7)", w.sum(2, 7), 4);
        Check.due("price(0, 2, 0)", w.price(0, 2, 0), -1000);
        Check.due("price(0, -1, 0)", w.price(0, -1, 0), -1000);
        Check.due("price(4, 0, 0)", w.price(4, 0, 0), -1000);
        Check.due("price(-1, 0, 0)", w.price(-1, 0, 0), -1000);
        Check.due("price(0, 0, 100)", w.price(0, 0, 100), -1000);
        Check.due("price(0, 0, -100)", w.price(0, 0, -100), -1000);
        Check.due("price(0, 0, least)", w.price(0, 0, Integer.MIN_VALUE), -1000);
        w.day();
        Check.due("price with ACTS", w.price(0, 0, 0), -1005);
        Check.due("price(4, 0, 0) with ACTS", w.price(4, 0, 0), -1000);
        w.undo();
        Check.due("price(0, 0, 1)", w.price(0, 0, 1), 9);
        Check.due("of no TOWN", new SecondWell().price(0, 0, 0), -1000);
    }

    private static void marking() {
        SecondWell w = Check.told(TownTest.TOWN);
        Check.due("mark(2, 1, 0)", w.mark(2, 1, 0), 1);
        Check.due("matter(2, 6)", w.matter(2, 6), 0);
        Check.due("mark(2, 1, 0)", w.mark(2, 1, 0), 0);
        Check.due("mark(3, 0, 1)", w.mark(3, 0, 1), 1);
        Check.due("mark(0, 0, 1)", w.mark(0, 0, 1), 0);
        Check.due("matter(0, 5)", w.matter(0, 5), 1);
        Check.due("matter(0, 6)", w.matter(0, 6), 0);
        Check.due("mark(0, 2, 0)", w.mark(0, 2, 0), -2);
        Check.due("mark(0, -1, 0)", w.mark(0, -1, 0), -2);
        Check.due("mark(0, 0, 2)", w.mark(0, 0, 2), -2);
        Check.due("mark(0, 0, -1)", w.mark(0, 0, -1), -2);
        Check.due("mark(4, 0, 0)", w.mark(4, 0, 0), -2);
        w.settle(0);
        Check.due("dry from now on", w.why(0), 2);
        Check.due("mark with ACTS", w.mark(0, 0, 0), -5);
        Check.due("mark(4, 0, 0) with ACTS", w.mark(4, 0, 0), -2);
        w.anew();
        Check.due("mark(0, 0, 0)", w.mark(0, 0, 0), 1);
        Check.due("of no TOWN", new SecondWell().mark(0, 0, 0), -2);
    }

    private static void counting() {
        SecondWell w = Check.told(TownTest.TOWN);
        int[] want = {3, 4, 2, 10, 8, 0, 0, 0, -1};
        for (int what = 0; what < want.length; what++) {
            Check.due("count(" + what + ")", w.count(what), want[what]);
        }
        Check.due("count(-1)", w.count(-1), -1);
        w.row(0, 0, 3);
        w.row(3, 1, 0);
        w.row(3, 1, 4);
        Check.due("count(7)", w.count(7), 2);
        w.feed(0, 0, 0, 0, 0);
        Check.due("count(5)", w.count(5), 20);
        w.settle(0);
        w.day();
        w.undo();
        Check.due("count(6)", w.count(6), 1);
    }

    private static void images() {
        SecondWell w = Check.told(TownTest.TOWN);
        Check.due("back(0)", w.back(0), -6);
        w.price(0, 0, 7);
        w.settle(0);
        w.settle(2);
        w.drink(0);
        Check.due("image(2)", w.image(2), 0);
        Check.due("image(3)", w.image(3), -2);
        Check.due("image(-1)", w.image(-1), -2);
        w.anew();
        w.mark(2, 1, 0);
        w.price(0, 0, 1);
        w.row(1, 0, 2);
        Check.due("image(0)", w.image(0), 0);
        Check.feed(w, "well level 1 spring 1 frost 1;");
        w.town();
        w.feed(0, 0, 0, 0, 0);
        Check.due("back(2)", w.back(2), 0);
        Check.due("count(4)", w.count(4), 8);
        Check.due("the TAPE is no part of it", w.count(5), 20);
        Check.due("nor are SLOTS", w.count(7), 1);
        Check.due("settled()", w.settled(), 1);
        Check.due("level()", w.level(), 2);
        Check.due("matter(2, 6)", w.matter(2, 6), 1);
        Check.due("matter(2, 8)", w.matter(2, 8), 1);
        Check.due("matter(0, 2)", w.matter(0, 2), 7);
        Check.due("act(2)", w.act(2), 10);
        Check.due("undo()", w.undo(), 2);
        Check.due("settled()", w.settled(), 5);
        Check.due("back(0)", w.back(0), 0);
        Check.due("count(6)", w.count(6), 0);
        Check.due("matter(2, 6)", w.matter(2, 6), 0);
        Check.due("matter(0, 2)", w.matter(0, 2), 1);
        w.price(0, 0, 50);
        w.settle(0);
        Check.due("back(0) twice", w.back(0), 0);
        Check.due("matter(0, 2)", w.matter(0, 2), 1);
        Check.due("settled()", w.settled(), 0);
        Check.due("back(1)", w.back(1), -6);
        Check.due("back(3)", w.back(3), -2);
        Check.due("back(-1)", w.back(-1), -2);
    }

    private static void imageOfNothing() {
        SecondWell w = Check.told(TownTest.TOWN);
        w.town();
        for (int what = 0; what < 8; what++) {
            Check.due("count(" + what + ") without a TOWN", w.count(what), 0);
        }
        w = new SecondWell();
        Check.due("image(1)", w.image(1), 0);
        Check.feed(w, TownTest.TOWN);
        w.town();
        w.settle(0);
        Check.due("back(1)", w.back(1), 0);
        Check.due("level()", w.level(), -2);
        Check.due("count(6)", w.count(6), 0);
        Check.due("count(1)", w.count(1), 0);
    }
}
