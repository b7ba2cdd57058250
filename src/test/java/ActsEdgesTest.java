import java.util.function.Consumer;
import java.util.function.Supplier;

/** Promises 17 to 22 and 62 to 66: the first and the last ACT, what is refused and stays, what is kept. */
public final class ActsEdgesTest {
    public static void main(String[] args) {
        settling();
        settleRefused();
        settleBeyond();
        drinkRefused();
        drinkBeyond();
        drinkFalls();
        dayToTheBrim();
        sixtyOfSettling();
        sixtyOfDrinking();
        sixtyOfDays();
        sixtyBeyond();
        undoOfNone();
        undoOfEach();
        anewOfNoneAndAll();
        actBounds();
        priceBounds();
        priceBehindActs();
        markBounds();
        markBehindActs();
        countOfFull();
        countOfOthers();
        imageBounds();
        imageIsAlone();
        imageOfSixty();
        backOfNothing();
        backBeyond();
        Check.finish("ActsEdgesTest");
    }

    /** Calls that must change nothing are asked of one of two like objects. */
    private static void stays(String what, Supplier<SecondWell> make, Consumer<SecondWell> calls) {
        SecondWell asked = make.get();
        calls.accept(asked);
        Picture.same(what, asked, make.get());
    }

    private static SecondWell livedIn() {
        SecondWell w = Check.told(TownTest.TOWN);
        w.price(0, 0, 50);
        w.mark(1, 1, 1);
        w.image(1);
        Check.take(w, 0, 2, 10, 20, 1);
        Check.put(w, 0, 0, 0, 1, 20);
        Check.feed(w, "well level 8 spring 1 frost 1;");
        return w;
    }

    private static SecondWell sixty() {
        SecondWell w = Check.told(TownTest.TOWN);
        Check.take(w, 0, 2);
        for (int i = 2; i < 60; i++) {
            w.day();
        }
        return w;
    }

    private static void settling() {
        SecondWell w = Check.told(Towns.JUGS);
        for (int m = 7; m >= 0; m--) {
            Check.due("settle(" + m + ")", w.settle(m), 8 - m);
        }
        Check.take(w, 10, 11);
        Check.due("how many are then", w.settle(1), 7);
    }

    private static void settleRefused() {
        stays("settled already", ActsEdgesTest::livedIn, w -> {
            Check.due("settle(0)", w.settle(0), -5);
            Check.due("settle(1)", w.settle(1), -5);
        });
        SecondWell w = Check.told(Towns.ofTwo(1, "0 gains 1 1 gains 1", "0 gains 1 1 gains 1",
                "0 gains 1 1 gains 1 on 0 1"));
        Check.due("settle(2), on none of two", w.settle(2), -5);
        Check.take(w, 1);
        Check.due("settle(2), on one of two", w.settle(2), -5);
        Check.due("count(6)", w.count(6), 1);
        Check.due("settled()", w.settled(), 2);
        Check.take(w, 0);
        Check.due("settle(2), on both", w.settle(2), 3);
    }

    private static void settleBeyond() {
        stays("no such MATTER", ActsEdgesTest::livedIn, w -> Check.each("settle", w::settle, -2, Check.beyond(4)));
        Check.each("settle of eight", Check.told(Towns.BIG)::settle, -2, Check.beyond(8));
        Check.due("settle(7) can't be", Check.told(Towns.BIG).settle(7), -5);
    }

    // For each WHY but 0.
    private static void drinkRefused() {
        stays("1, no LAST", () -> Check.told(TownTest.TOWN), w -> Check.each("drink", w::drink, -5, 0, 1, 2));
        stays("2, dry", () -> taken(TownTest.TOWN, 3), w -> Check.each("drink", w::drink, -5, 0, 1));
        stays("3, drunk back", () -> taken(TownTest.TOWN, 0, 2, 10, 2), w -> Check.due("drink(0)", w.drink(0), -5));
        stays("4, no cup", () -> taken(TownTest.TOWN, 0, 2), w -> Check.due("drink(2)", w.drink(2), -5));
        stays("5, no water", () -> taken(Towns.ofTwo(0, "0 loses 1 1 loses 1"), 0),
                w -> Check.each("drink", w::drink, -5, 0, 1));
        stays("6, not agreed", () -> taken(TownTest.TOWN, 0), w -> Check.each("drink", w::drink, -5, 0, 1));
        stays("5, then water", () -> taken(Towns.ofTwo(0, "0 loses 1 1 loses 1"), 0, 20, 10), w -> w.drink(0));
    }

    private static SecondWell taken(String text, int... acts) {
        SecondWell w = Check.told(text);
        Check.take(w, acts);
        return w;
    }

    private static void drinkBeyond() {
        stays("no such PERSON", ActsEdgesTest::livedIn, w -> Check.each("drink", w::drink, -2, Check.beyond(3)));
        Check.each("drink of six", Check.told(Towns.BIG)::drink, -2, Check.beyond(6));
        Check.each("drink of six", Check.told(Towns.BIG)::drink, -5, 0, 5);
    }

    // One falls, all of eight do.
    private static void drinkFalls() {
        StringBuilder b = new StringBuilder("well level 1 spring 0 frost 0;person cups 1;person cups 1;person cups 1;"
                + "matter 0 gains 1 1 gains 1 jug;");
        for (int m = 1; m < 8; m++) {
            b.append("matter 1 gains 1 2 gains 1 on ").append(m - 1).append(';');
        }
        for (int many = 1; many <= 8; many++) {
            SecondWell w = Check.told(b.toString());
            for (int m = 0; m < many; m++) {
                Check.take(w, m);
            }
            Check.due("drink(0)", w.drink(0), many);
            Check.due("settled()", w.settled(), 0);
            Check.due("order(0)", w.order(0), -1);
            Check.due("level()", w.level(), 0);
            Check.due("cups", w.person(0, 0), 0);
        }
    }

    private static void dayToTheBrim() {
        int[][] all = {{0, 0, 0}, {0, 9, 9}, {89, 9, 98}, {90, 9, 99}, {91, 9, 99}, {98, 1, 99}, {98, 2, 99}, {99, 0, 99},
            {99, 1, 99}, {99, 9, 99}};
        for (int[] day : all) {
            SecondWell w = Check.told("well level " + day[0] + " spring " + day[1] + " frost 100;");
            Check.due("day()", w.day(), day[2]);
            Check.due("level()", w.level(), day[2]);
            Check.due("undo()", w.undo(), 0);
            Check.due("level(), taken back", w.level(), day[0]);
        }
        SecondWell w = taken(Towns.ofTwo(99, "0 loses 1 1 loses 1"), 0, 20, 10);
        Check.due("level(), a DAY at 99 counts for nothing later", w.level(), 98);
    }

    // The 60th ACT is one, whichever it is; a 61st is not.
    private static void sixtyOfSettling() {
        SecondWell w = Check.told(TownTest.TOWN);
        for (int i = 0; i < 59; i++) {
            w.day();
        }
        Check.due("settle(0), the 60th", w.settle(0), 1);
        Check.due("act(59)", w.act(59), 0);
        Check.due("settle(3), the 61st", w.settle(3), -5);
        Check.due("open()", w.open(), 14);
        stays("61st", ActsEdgesTest::sixty, x -> Check.each("settle", x::settle, -5, 0, 1, 2, 3));
        Check.due("undo()", w.undo(), 59);
        Check.due("settle(3), the 60th", w.settle(3), 1);
    }

    private static void sixtyOfDrinking() {
        stays("61st", ActsEdgesTest::sixty, x -> {
            Check.due("why(0)", x.why(0), 0);
            Check.each("drink", x::drink, -5, 0, 1, 2);
        });
        SecondWell w = sixty();
        w.undo();
        Check.due("drink(0), the 60th", w.drink(0), 1);
        Check.due("act(59)", w.act(59), 10);
        Check.due("count(6)", w.count(6), 60);
    }

    private static void sixtyOfDays() {
        SecondWell w = Check.told("well level 0 spring 1 frost 0;");
        for (int i = 1; i <= 60; i++) {
            Check.due("day() " + i, w.day(), i);
        }
        Check.due("day() 61", w.day(), -5);
        Check.due("level()", w.level(), 60);
        Check.due("count(6)", w.count(6), 60);
        Check.due("anew()", w.anew(), 60);
        Check.due("level()", w.level(), 0);
        Check.due("day()", w.day(), 1);
        stays("61st", ActsEdgesTest::sixty, x -> Check.due("day()", x.day(), -5));
    }

    private static void sixtyBeyond() {
        SecondWell w = sixty();
        Check.each("settle, no such MATTER, 60 ACTS", w::settle, -2, Check.beyond(4));
        Check.each("drink, no such PERSON, 60 ACTS", w::drink, -2, Check.beyond(3));
    }

    private static void undoOfNone() {
        stays("nothing to take back", () -> Check.told(TownTest.TOWN), w -> Check.due("undo()", w.undo(), -5));
        SecondWell w = Check.told(TownTest.TOWN);
        Check.take(w, 0);
        Check.due("undo()", w.undo(), 0);
        Check.due("undo()", w.undo(), -5);
        Check.due("count(6)", w.count(6), 0);
        // An ACT that was refused is none.
        Check.due("settle(1)", w.settle(1), -5);
        Check.due("drink(0)", w.drink(0), -5);
        Check.due("undo()", w.undo(), -5);
    }

    // Taken back one by one, each state is as it was on the way there.
    private static void undoOfEach() {
        int[] acts = {0, 2, 20, 10, 1, 2, 3, 20, 20};
        for (int many = 0; many <= acts.length; many++) {
            SecondWell w = taken(TownTest.TOWN, acts);
            for (int i = acts.length - 1; i >= many; i--) {
                Check.due("undo()", w.undo(), i);
            }
            Picture.same("taken back", w, taken(TownTest.TOWN, java.util.Arrays.copyOf(acts, many)));
        }
    }

    private static void anewOfNoneAndAll() {
        stays("none to take back", () -> Check.told(TownTest.TOWN), w -> Check.due("anew()", w.anew(), 0));
        SecondWell w = taken(TownTest.TOWN, 0, 2, 20, 10, 1, 2, 3);
        Check.due("anew()", w.anew(), 7);
        Check.due("anew() twice", w.anew(), 0);
        Picture.same("anew", w, Check.told(TownTest.TOWN));
        Check.due("anew() of 60", sixty().anew(), 60);
        // Prices and MARKS are no ACTS.
        w = Check.told(TownTest.TOWN);
        w.price(0, 0, 50);
        w.mark(0, 0, 1);
        Check.take(w, 0);
        w.anew();
        Check.due("matter(0, 2)", w.matter(0, 2), 50);
        Check.due("matter(0, 5)", w.matter(0, 5), 1);
        Check.due("undo()", w.undo(), -5);
    }

    private static void actBounds() {
        SecondWell none = Check.told(TownTest.TOWN);
        Check.each("act of none", none::act, -1, 0, 1, -1, Check.LEAST, Check.MOST);
        SecondWell w = taken(TownTest.TOWN, 0, 2, 20, 10);
        Check.row("act", w::act, 0, 2, 20, 10, -1, -1);
        w.undo();
        Check.row("act", w::act, 0, 2, 20, -1, -1);
        SecondWell full = sixty();
        Check.due("act(0)", full.act(0), 0);
        Check.due("act(59)", full.act(59), 20);
        Check.each("act of 60", full::act, -1, Check.beyond(60));
        // The last PERSON and the last MATTER by their numbers.
        SecondWell six = Check.told("well level 9 spring 0 frost 0;" + "person cups 1;".repeat(6)
                + "matter 0 gains 1 5 gains 1 jug;".repeat(8));
        Check.take(six, 7, 15);
        Check.row("act", six::act, 7, 15, -1);
    }

    private static void priceBounds() {
        SecondWell w = Check.told(Towns.BIG);
        for (int m : new int[] {0, 7}) {
            for (int party = 0; party < 2; party++) {
                int was = w.matter(m, 2 + party);
                for (int n : new int[] {-99, -98, 0, 98, 99}) {
                    Check.due("price", w.price(m, party, n), was);
                    Check.due("matter", w.matter(m, 2 + party), n);
                    was = n;
                }
            }
        }
        SecondWell x = Check.told(Towns.BIG);
        for (int party = 0; party < 2; party++) {
            int side = party;
            Check.each("price, n", n -> x.price(7, side, n), -1000, -100, 100, -101, 101, -355, 157, Check.LEAST, Check.MOST);
            Check.each("price, MATTER", m -> x.price(m, side, 1), -1000, Check.beyond(8));
        }
        Check.each("price, PARTY", party -> x.price(0, party, 1), -1000, Check.beyond(2));
        Picture.same("prices refused", x, Check.told(Towns.BIG));
        // The other PARTY's, and other MATTERS', stay.
        SecondWell y = Check.told(TownTest.TOWN);
        Check.due("price(1, 1, -9)", y.price(1, 1, -9), 4);
        Check.due("matter(1, 2)", y.matter(1, 2), 2);
        Check.due("matter(1, 3)", y.matter(1, 3), -9);
        Check.due("matter(0, 3)", y.matter(0, 3), 3);
        Check.due("sum(2, 6)", y.sum(2, 6), -8);
    }

    private static void priceBehindActs() {
        stays("price with ACTS", ActsEdgesTest::livedIn, w -> {
            Check.due("price(0, 0, 7)", w.price(0, 0, 7), -1005);
            Check.due("price(3, 1, -99)", w.price(3, 1, -99), -1005);
            Check.each("no such MATTER is asked ahead", m -> w.price(m, 0, 0), -1000, Check.beyond(4));
            Check.each("no such PARTY is asked ahead", p -> w.price(0, p, 0), -1000, Check.beyond(2));
            Check.each("no such n is asked ahead", n -> w.price(0, 0, n), -1000, -100, 100, Check.LEAST, Check.MOST);
        });
        SecondWell w = taken(TownTest.TOWN, 20);
        Check.due("price, a DAY is an ACT", w.price(0, 0, 7), -1005);
        w.undo();
        Check.due("price, taken back", w.price(0, 0, 7), 5);
        Check.take(w, 0, 20);
        Check.due("price", w.price(0, 0, 8), -1005);
        w.anew();
        Check.due("price, taken back", w.price(0, 0, 8), 7);
    }

    private static void markBounds() {
        SecondWell w = Check.told(Towns.BIG);
        for (int m : new int[] {0, 7}) {
            for (int what = 0; what < 2; what++) {
                Check.due("mark, is", w.mark(m, what, 1), 0);
                Check.due("matter", w.matter(m, 5 + what), 1);
                Check.due("mark, is already", w.mark(m, what, 1), 1);
                Check.due("matter", w.matter(m, 5 + what), 1);
                Check.due("mark, is not", w.mark(m, what, 0), 1);
                Check.due("matter", w.matter(m, 5 + what), 0);
                Check.due("mark, is not already", w.mark(m, what, 0), 0);
                Check.due("matter", w.matter(m, 5 + what), 0);
            }
        }
        Picture.same("marked and not again", w, Check.told(Towns.BIG));
        SecondWell x = Check.told(Towns.BIG);
        Check.each("mark, MATTER", m -> x.mark(m, 0, 1), -2, Check.beyond(8));
        Check.each("mark, MATTER", m -> x.mark(m, 1, 0), -2, Check.beyond(8));
        Check.each("mark, what", what -> x.mark(0, what, 1), -2, Check.beyond(2));
        Check.each("mark, is", is -> x.mark(0, 0, is), -2, Check.beyond(2));
        Check.each("mark, is", is -> x.mark(0, 1, is), -2, Check.beyond(2));
        Picture.same("marks refused", x, Check.told(Towns.BIG));
        // Of one MATTER, and of one kind.
        SecondWell y = Check.told(Towns.BIG);
        y.mark(4, 0, 1);
        Check.due("matter(4, 5)", y.matter(4, 5), 1);
        Check.due("matter(4, 6)", y.matter(4, 6), 0);
        Check.due("matter(5, 5)", y.matter(5, 5), 1);
        Check.due("matter(0, 5)", y.matter(0, 5), 0);
    }

    private static void markBehindActs() {
        stays("mark with ACTS", ActsEdgesTest::livedIn, w -> {
            Check.due("mark(0, 0, 1)", w.mark(0, 0, 1), -5);
            Check.due("mark(2, 1, 1), which it has", w.mark(2, 1, 1), -5);
            Check.each("no such MATTER", m -> w.mark(m, 0, 0), -2, Check.beyond(4));
            Check.each("no such what", what -> w.mark(0, what, 0), -2, Check.beyond(2));
            Check.each("no such is", is -> w.mark(0, 0, is), -2, Check.beyond(2));
        });
        SecondWell w = taken(TownTest.TOWN, 20);
        Check.due("mark, a DAY is an ACT", w.mark(0, 0, 1), -5);
        w.undo();
        Check.due("mark, taken back", w.mark(0, 0, 1), 0);
        Check.take(w, 20, 0);
        Check.due("mark", w.mark(0, 0, 0), -5);
        w.anew();
        Check.due("mark, taken back", w.mark(0, 0, 0), 1);
    }

    private static void countOfFull() {
        SecondWell w = Check.told(Towns.BIG);
        for (int i = 0; i < 60; i++) {
            w.day();
        }
        for (int i = 0; i < 45; i++) {
            w.feed(0, 0, 0, 0, 0);
        }
        for (int slot = 0; slot < 4; slot++) {
            Check.due("count(7)", w.count(7), slot);
            w.row(slot, slot, 60 * (slot % 2));
        }
        Check.row("count", w::count, 6, 8, 9, 100, 15, 900, 60, 4, -1);
        w.undo();
        w.end(899);
        Check.row("count", w::count, 6, 8, 9, 100, 15, 899, 59, 4, -1);
        w = Check.told("well level 9 spring 0 frost 0;");
        Check.row("count of a well alone", w::count, 0, 0, 0, 0, 1, 0, 0, 0, -1);
    }

    private static void countOfOthers() {
        Check.each("count", new SecondWell()::count, -1, Check.beyond(8));
        Check.each("count", Check.told(Towns.BIG)::count, -1, Check.beyond(8));
    }

    private static void imageBounds() {
        stays("no such IMAGE", ActsEdgesTest::livedIn, w -> Check.each("image", w::image, -2, Check.beyond(3)));
        SecondWell w = new SecondWell();
        Check.each("image without a TOWN", w::image, -2, Check.beyond(3));
        Check.each("image", w::image, 0, 0, 1, 2);
    }

    // Each keeps its own; what comes later is no part of it, and it may be gone back to again.
    private static void imageIsAlone() {
        SecondWell w = Check.told(TownTest.TOWN);
        w.image(0);
        w.price(0, 0, 50);
        w.mark(0, 1, 1);
        w.image(1);
        Check.take(w, 0, 2, 20, 10);
        w.image(2);
        Check.take(w, 20, 3);
        Check.feed(w, Towns.BIG);
        w.town();
        for (int twice = 0; twice < 2; twice++) {
            Check.due("back(2)", w.back(2), 0);
            Check.row("act", w::act, 0, 2, 20, 10, -1);
            Check.due("level()", w.level(), 4);
            Check.due("matter(2, 8)", w.matter(2, 8), 1);
            Check.due("price, its ACTS are there", w.price(0, 0, 1), -1005);
            Check.due("mark, its ACTS are there", w.mark(0, 0, 1), -5);
            Check.due("undo()", w.undo(), 3);
            Check.due("back(0)", w.back(0), 0);
            Check.due("matter(0, 2)", w.matter(0, 2), 5);
            Check.due("matter(0, 6)", w.matter(0, 6), 0);
            Check.due("count(6)", w.count(6), 0);
            Check.due("price", w.price(0, 0, 1), 5);
            Check.take(w, 3);
            Check.due("back(1)", w.back(1), 0);
            Check.due("matter(0, 2)", w.matter(0, 2), 50);
            Check.due("matter(0, 6)", w.matter(0, 6), 1);
            Check.due("settled()", w.settled(), 0);
            Check.due("mark", w.mark(0, 1, 0), 1);
        }
        // An IMAGE in place of another one.
        w.back(2);
        w.image(0);
        w.anew();
        Check.due("back(0)", w.back(0), 0);
        Check.due("count(6)", w.count(6), 4);
    }

    private static void imageOfSixty() {
        SecondWell w = sixty();
        w.image(2);
        w.anew();
        Check.take(w, 3);
        Check.due("back(2)", w.back(2), 0);
        Check.due("count(6)", w.count(6), 60);
        Check.due("day()", w.day(), -5);
        Check.due("act(59)", w.act(59), 20);
        Check.due("settled()", w.settled(), 5);
        SecondWell one = Check.told(Towns.BIG);
        one.image(0);
        Check.feed(one, "well level 1 spring 1 frost 1;");
        one.town();
        one.back(0);
        Picture.same("gone back to eight MATTERS", imaged(one), imaged(Check.told(Towns.BIG)));
    }

    /** The same in all IMAGES. */
    private static SecondWell imaged(SecondWell w) {
        for (int k = 0; k < 3; k++) {
            w.image(k);
        }
        return w;
    }

    private static void backOfNothing() {
        stays("an IMAGE that has nothing", ActsEdgesTest::livedIn, w -> Check.each("back", w::back, -6, 0, 2));
        SecondWell w = new SecondWell();
        Check.each("back", w::back, -6, 0, 1, 2);
        w.image(1);
        Check.each("back", w::back, -6, 0, 2);
        Check.due("back(1)", w.back(1), 0);
    }

    private static void backBeyond() {
        stays("no such IMAGE", ActsEdgesTest::livedIn, w -> Check.each("back", w::back, -2, Check.beyond(3)));
        Check.each("back of a new object", new SecondWell()::back, -2, Check.beyond(3));
    }
}
