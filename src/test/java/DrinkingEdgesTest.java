/** Promises 37, 38, 47 to 52 and Terms V: the last cup, the last turn, of like ACTS the least, who is left. */
public final class DrinkingEdgesTest {
    public static void main(String[] args) {
        thirstBounds();
        thirstByCups();
        thirstByWater();
        thirstTillItCant();
        thirstWishedOrNot();
        gameBounds();
        gameTurns();
        gameOfOwnMatters();
        gameOfOpenMatters();
        gameOfDrinking();
        gameOfTheOtherOne();
        gameOfLikeActs();
        gameOfTheLast();
        whoBounds();
        whoOfJustASet();
        sippedBounds();
        sippedOfNone();
        sippedOfFour();
        askOfFew();
        askOfMany();
        askTheLeast();
        asAhead();
        Check.finish("DrinkingEdgesTest");
    }

    private static SecondWell taken(String text, int... acts) {
        SecondWell w = Check.told(text);
        Check.take(w, acts);
        return w;
    }

    private static void thirstBounds() {
        SecondWell w = Check.told(Towns.BIG);
        Check.each("thirst", w::thirst, -2, Check.beyond(6));
        Check.each("dregs", w::dregs, -2, Check.beyond(6));
        Check.each("thirst, nothing settled", w::thirst, 0, 0, 5);
        Check.each("dregs, nothing settled", w::dregs, 0, 0, 5);
        SecondWell three = Check.told(TownTest.TOWN);
        Check.each("thirst of three", three::thirst, -2, Check.beyond(3));
        Check.each("dregs of three", three::dregs, -2, Check.beyond(3));
        SecondWell nobody = Check.told("well level 1 spring 1 frost 1;");
        Check.each("thirst of nobody", nobody::thirst, -2, 0, -1);
        Check.each("dregs of nobody", nobody::dregs, -2, 0, -1);
    }

    private static void thirstByCups() {
        for (int cups = 0; cups <= 9; cups++) {
            SecondWell w = taken("well level 99 spring 0 frost 0;person cups " + cups + ";person cups 9;"
                    + "matter 0 gains 1 1 gains 1 jug;".repeat(8), 0, 1, 2, 3, 4, 5, 6, 7);
            int times = Math.min(8, cups);
            Check.due("thirst(0), cups " + cups, w.thirst(0), times);
            Check.due("dregs(0), cups " + cups, w.dregs(0), (1 << (8 - times)) - 1);
            Check.due("thirst(1)", w.thirst(1), 8);
            Check.due("dregs(1)", w.dregs(1), 0);
        }
    }

    private static void thirstByWater() {
        for (int level = 0; level <= 9; level++) {
            SecondWell w = taken("well level " + level + " spring 0 frost 0;person cups 9;person cups 9;"
                    + "matter 0 gains 1 1 gains 1 jug;".repeat(8), 0, 1, 2, 3, 4, 5, 6, 7);
            int times = Math.min(8, level);
            Check.due("thirst(0), level " + level, w.thirst(0), times);
            Check.due("dregs(0), level " + level, w.dregs(0), (1 << (8 - times)) - 1);
        }
    }

    // Up to one that is dry, was drunk back, or is not agreed to.
    private static void thirstTillItCant() {
        SecondWell w = taken(Towns.ofThree("0 gains 1 1 gains 1 jug", "0 gains 1 1 gains 1 dry jug",
                "0 gains 1 1 gains 1 jug"), 0, 1, 2);
        Check.due("thirst(0), up to a dry one", w.thirst(0), 1);
        Check.due("dregs(0)", w.dregs(0), 3);
        w = taken(Towns.ofThree("0 gains 1 1 gains 1 jug", "0 gains 1 1 gains 1 jug"), 0, 10, 0, 1);
        Check.due("thirst(0), up to what was drunk back", w.thirst(0), 1);
        Check.due("dregs(0)", w.dregs(0), 1);
        w = taken(Towns.ofThree("0 gains 1 1 gains 1", "0 gains 1 1 gains 0"), 0, 1);
        Check.due("thirst(0), up to what is not agreed to", w.thirst(0), 1);
        Check.due("dregs(0)", w.dregs(0), 1);
        // What rests on it falls too, also what is no matter of its own.
        w = taken(Towns.ofThree("0 gains 1 1 gains 1 jug", "1 gains 1 2 gains 1 on 0", "1 gains 1 2 gains 1"), 0, 1, 2);
        Check.due("thirst(0)", w.thirst(0), 1);
        Check.due("dregs(0)", w.dregs(0), 4);
        Check.due("thirst(2)", w.thirst(2), 0);
        Check.due("dregs(2), all that is settled", w.dregs(2), 7);
    }

    private static void thirstWishedOrNot() {
        SecondWell w = taken(Towns.ofThree("0 gains 99 1 gains 99 jug", "0 loses 1 1 loses 1"), 0, 1);
        Check.due("wishes()", w.wishes(), 3);
        Check.due("thirst(0), the second unwished", w.thirst(0), 2);
        Check.due("dregs(0)", w.dregs(0), 0);
    }

    private static void gameBounds() {
        SecondWell w = Check.told(Towns.BIG);
        Check.each("game, first", p -> w.game(p, 0, 1), -1000, Check.beyond(6));
        Check.each("game, second", p -> w.game(0, p, 1), -1000, Check.beyond(6));
        Check.each("game, one twice", p -> w.game(p, p, 1), -1000, 0, 1, 2, 3, 4, 5, 6, -1);
        Check.each("game, n", n -> w.game(0, 5, n), -1000, Check.beyond(5));
        Check.each("game, one twice, n", n -> w.game(0, 0, n), -1000, 0, 4, 5, -1);
        Check.each("move, first", p -> w.move(p, 0, 1), -2, Check.beyond(6));
        Check.each("move, second", p -> w.move(0, p, 1), -2, Check.beyond(6));
        Check.each("move, one twice", p -> w.move(p, p, 1), -2, 0, 1, 2, 3, 4, 5, 6, -1);
        Check.each("move, n", n -> w.move(0, 5, n), -2, Check.beyond(5));
        Check.each("move, n is 0 and nobody", p -> w.move(p, 0, 0), -2, Check.beyond(6));
        Check.each("move, n is 0, one twice", p -> w.move(p, p, 0), -2, 0, 5);
        Check.due("game(0, 5, 0)", w.game(0, 5, 0), 0);
        Check.due("move(0, 5, 0)", w.move(0, 5, 0), -1);
        Check.due("move(5, 0, 0)", w.move(5, 0, 0), -1);
        Check.due("game(5, 0, 0)", w.game(5, 0, 0), 0);
    }

    // Each settles what it has, the first on turns 1 and 3, the second on 2 and 4.
    private static void gameTurns() {
        SecondWell w = Check.told("well level 0 spring 0 frost 0;person cups 0;person cups 0;person cups 0;"
                + "matter 0 gains 2 2 gains 0;matter 1 gains 1 2 gains 0;matter 0 gains 5 2 gains 0;"
                + "matter 1 gains 3 2 gains 0;matter 0 gains 1 2 gains 0;");
        Check.row("game(0, 1, ..)", n -> w.game(0, 1, n), 0, 5, 2, 4, 3, -1000);
        Check.row("move(0, 1, ..)", n -> w.move(0, 1, n), -1, 2, 2, 0, 0, -2);
        Check.row("game(1, 0, ..)", n -> w.game(1, 0, n), 0, 3, -2, -1, -3, -1000);
        Check.row("move(1, 0, ..)", n -> w.move(1, 0, n), -1, 3, 3, 1, 1, -2);
        Check.take(w, 2);
        Check.row("game(0, 1, ..), from now on", n -> w.game(0, 1, n), 5, 7, 4, 5, 4);
        Check.row("game(1, 0, ..), from now on", n -> w.game(1, 0, n), -5, -2, -4, -3, -4);
    }

    // Of whose PARTIES one is, and no other.
    private static void gameOfOwnMatters() {
        SecondWell w = Check.told(Towns.ofThree("1 loses 9 2 gains 0", "0 gains 0 2 gains 9"));
        Check.due("game(0, 1, 1), not its own", w.game(0, 1, 1), 0);
        Check.due("move(0, 1, 1)", w.move(0, 1, 1), 1);
        Check.due("game(2, 1, 1), its own", w.game(2, 1, 1), 9);
        Check.due("game(2, 0, 1)", w.game(2, 0, 1), 9);
        Check.due("move(2, 1, 1), of like ones the least", w.move(2, 1, 1), 0);
        Check.due("game(2, 1, 2)", w.game(2, 1, 2), 9);
        Check.due("game(1, 2, 2)", w.game(1, 2, 2), -9);
        // One between both of them.
        w = Check.told(Towns.ofThree("0 gains 2 1 gains 1"));
        Check.due("game(0, 1, 1)", w.game(0, 1, 1), 1);
        Check.due("game(1, 0, 1)", w.game(1, 0, 1), 0);
        Check.due("move(1, 0, 1)", w.move(1, 0, 1), 30);
    }

    private static void gameOfOpenMatters() {
        SecondWell w = Check.told("well level 0 spring 0 frost 0;person cups 0;person cups 0;person cups 0;"
                + "matter 0 loses 1 2 gains 0;matter 0 gains 9 2 gains 0 on 0;");
        Check.row("game(0, 1, ..), 1 is on 0", n -> w.game(0, 1, n), 0, 0, 0, 8, 8);
        Check.row("move(0, 1, ..)", n -> w.move(0, 1, n), -1, 30, 30, 0, 0);
        Check.take(w, 0, 1);
        Check.row("game(0, 1, ..), all is settled", n -> w.game(0, 1, n), 8, 8, 8, 8, 8);
        Check.row("move(0, 1, ..)", n -> w.move(0, 1, n), -1, 30, 30, 30, 30);
    }

    // If it CAN, wished or not.
    private static void gameOfDrinking() {
        String[] ways = {"well level 1 spring 0 frost 0;person cups 1;", "well level 0 spring 0 frost 0;person cups 1;",
            "well level 1 spring 0 frost 0;person cups 0;"};
        for (int k = 0; k < 3; k++) {
            SecondWell w = taken(ways[k] + "person cups 0;person cups 0;matter 0 loses 5 2 gains 0;", 0);
            Check.due("why(0)", w.why(0), k == 0 ? 0 : k == 1 ? 5 : 4);
            Check.due("game(0, 1, 1)", w.game(0, 1, 1), k == 0 ? 0 : -5);
            Check.due("move(0, 1, 1)", w.move(0, 1, 1), k == 0 ? 10 : 30);
        }
        // Unwished, since the other one of the game loses more by it.
        SecondWell w = taken(Towns.ofThree("0 gains 1 1 gains 5 jug"), 0);
        Check.due("wishes()", w.wishes(), 0);
        Check.due("game(0, 1, 1)", w.game(0, 1, 1), 0);
        Check.due("move(0, 1, 1)", w.move(0, 1, 1), 10);
        // One cup: what the other one settles again stays.
        SecondWell one = taken("well level 9 spring 0 frost 0;person cups 1;person cups 0;matter 0 loses 5 1 gains 0;", 0);
        Check.row("game(0, 1, ..), one cup", n -> one.game(0, 1, n), -5, 0, -5, 0, -5);
    }

    // The second wants it least.
    private static void gameOfTheOtherOne() {
        SecondWell w = Check.told("well level 9 spring 0 frost 0;person cups 0;person cups 1;person cups 0;"
                + "matter 0 gains 5 1 gains 0 jug;matter 0 gains 4 1 gains 0;");
        Check.due("game(0, 1, 1)", w.game(0, 1, 1), 5);
        Check.due("move(0, 1, 1)", w.move(0, 1, 1), 0);
        Check.due("game(0, 1, 2), it is drunk back", w.game(0, 1, 2), 4);
        Check.due("move(0, 1, 2)", w.move(0, 1, 2), 1);
        Check.due("game(1, 0, 1)", w.game(1, 0, 1), 0);
        Check.due("game(1, 0, 2)", w.game(1, 0, 2), -5);
    }

    private static void gameOfLikeActs() {
        SecondWell w = Check.told(Towns.ofThree("0 gains 1 2 gains 0", "0 gains 2 2 gains 0", "0 gains 2 2 gains 0"));
        Check.due("move, the least of two", w.move(0, 1, 1), 1);
        w = Check.told(Towns.ofThree("0 gains 0 2 gains 0"));
        Check.due("move, settling ahead of nothing", w.move(0, 1, 1), 0);
        Check.take(w, 0);
        Check.due("move, drinking ahead of nothing", w.move(0, 1, 1), 10);
        Check.due("move, of one that has no LAST", w.move(1, 0, 1), 30);
        w = taken(Towns.ofThree("0 gains 0 2 gains 0", "0 gains 0 2 gains 0"), 0);
        Check.due("move, settling ahead of drinking", w.move(0, 1, 1), 1);
        Check.due("move, of the last PERSON", w.move(2, 1, 1), 1);
        Check.take(w, 1);
        Check.due("move, of the last PERSON", w.move(2, 1, 1), 12);
    }

    // PERSON 5 and MATTER 7.
    private static void gameOfTheLast() {
        SecondWell w = Check.told("well level 9 spring 0 frost 0;" + "person cups 1;".repeat(6)
                + "matter 0 gains 0 1 gains 0;".repeat(7) + "matter 4 gains 0 5 gains 3 jug;");
        Check.due("game(5, 0, 1)", w.game(5, 0, 1), 3);
        Check.due("move(5, 0, 1)", w.move(5, 0, 1), 7);
        Check.due("game(0, 5, 1)", w.game(0, 5, 1), 0);
        Check.due("game(0, 5, 2)", w.game(0, 5, 2), -3);
        Check.take(w, 7);
        w.undo();
        w.price(7, 1, -3);
        Check.take(w, 7);
        Check.due("game(5, 0, 1)", w.game(5, 0, 1), 0);
        Check.due("move(5, 0, 1)", w.move(5, 0, 1), 15);
    }

    private static void whoBounds() {
        SecondWell w = Check.told(Towns.BIG);
        Check.each("who", w::who, -2, Check.beyond(256));
        Check.each("who, nobody CAN", w::who, 0, 0, 1, 255);
        SecondWell four = Check.told(TownTest.TOWN);
        Check.each("who of four", four::who, -2, Check.beyond(16));
        SecondWell none = Check.told("well level 1 spring 1 frost 1;");
        Check.each("who of none", none::who, -2, Check.beyond(1));
        Check.due("who(0) of none", none.who(0), 0);
    }

    private static void whoOfJustASet() {
        SecondWell w = taken("well level 9 spring 0 frost 0;" + "person cups 1;".repeat(6)
                + "matter 0 gains 1 1 gains 1 jug;matter 2 gains 1 3 gains 1 jug on 0;"
                + "matter 4 gains 1 5 gains 1 jug;", 0, 1, 2);
        Check.row("who", w::who, 0, 0, 0, 48, 3, 12, 0, 0);
        Check.take(w, 14);
        Check.row("who, behind that", w::who, 3, 12, 0, 0, 0, 0, 0, 0);
        Check.take(w, 12);
        Check.row("who, of cups that are left", w::who, 3, 0, 0, 0, 0, 0, 0, 0);
    }

    private static void sippedBounds() {
        SecondWell w = Check.told(Towns.BIG);
        for (int n = 0; n <= 4; n++) {
            int rows = n;
            Check.each("sipped, n " + n, set -> w.sipped(set, rows), -2, Check.beyond(256));
        }
        Check.each("sipped(0, ..)", n -> w.sipped(0, n), -2, Check.beyond(5));
        Check.each("sipped(255, ..)", n -> w.sipped(255, n), -2, Check.beyond(5));
        Check.each("sipped(256, ..)", n -> w.sipped(256, n), -2, Check.beyond(5));
        Check.each("sipped(255, ..)", n -> w.sipped(255, n), 0, 0, 1, 2, 3, 4);
        SecondWell none = Check.told("well level 1 spring 1 frost 1;");
        Check.row("sipped(0, ..) of none", n -> none.sipped(0, n), 1, 0, 0, 0, 0, -2);
        Check.each("sipped of none", set -> none.sipped(set, 0), -2, Check.beyond(1));
    }

    private static void sippedOfNone() {
        SecondWell w = taken(Towns.JUGS, 0, 7);
        Check.due("just what is settled", w.sipped(129, 0), 1);
        Check.each("another one", set -> w.sipped(set, 0), 0, 0, 1, 128, 255);
        Check.due("what is settled, one drinks", w.sipped(129, 1), 0);
        Check.due("two of them", w.sipped(1, 1), 2);
    }

    private static void sippedOfFour() {
        SecondWell w = taken(Towns.JUGS, 0, 1, 2, 3, 4, 5);
        Check.row("as it goes down", n -> w.sipped((1 << (6 - n)) - 1, n), 1, 2, 4, 8, 16);
        Check.due("another end", w.sipped(1, 4), 0);
        // The cups of both, the water of three.
        SecondWell cups = taken("well level 9 spring 0 frost 0;person cups 2;person cups 1;"
                + "matter 0 gains 1 1 gains 1 jug;".repeat(4), 0, 1, 2, 3);
        Check.row("by three cups", n -> cups.sipped((1 << (4 - n)) - 1, n), 1, 2, 3, 3, 0);
        SecondWell water = taken("well level 3 spring 0 frost 0;person cups 9;person cups 9;"
                + "matter 0 gains 1 1 gains 1 jug;".repeat(4), 0, 1, 2, 3);
        Check.row("by water of three", n -> water.sipped((1 << (4 - n)) - 1, n), 1, 2, 4, 8, 0);
        // Like ends by unlike rows.
        SecondWell four = taken("well level 9 spring 0 frost 0;" + "person cups 1;".repeat(4)
                + "matter 0 gains 1 1 gains 1 jug;matter 2 gains 1 3 gains 1 jug;", 0, 1);
        Check.row("sipped(.., 1)", set -> four.sipped(set, 1), 0, 2, 2, 0);
        Check.row("sipped(.., 2)", set -> four.sipped(set, 2), 8, 0, 0, 0);
        Check.row("sipped(.., 3)", set -> four.sipped(set, 3), 0, 0, 0, 0);
    }

    private static void askDue(String what, SecondWell w, int ask, int leaves) {
        Check.due(what + ": ask()", w.ask(), ask);
        Check.due(what + ": leaves()", w.leaves(), leaves);
    }

    private static void askOfFew() {
        askDue("nobody", Check.told("well level 1 spring 1 frost 1;"), -1, 0);
        askDue("no MATTERS", Check.told("well level 1 spring 1 frost 1;person cups 1;"), -1, 0);
        askDue("nothing settled", Check.told(Towns.JUGS), -1, 0);
        askDue("one alone CAN", taken(Towns.ofTwo(1, "0 loses 1 1 gains 1", "0 loses 1 1 gains 0"), 1), -1, 2);
        askDue("one alone CAN", taken("well level 1 spring 1 frost 1;person cups 1;person cups 0;"
                + "matter 0 gains 1 1 gains 0;matter 0 gains 1 1 gains 1;", 0), -1, 1);
        askDue("two, of one MATTER", taken(Towns.ofThree("0 gains 1 1 gains 1 jug"), 0), -1, 2);
        // 0 and 2 drink 1 back, 1 drinks 0 back: of three at worst two are left.
        askDue("three", taken(Towns.ofThree("0 gains 1 1 gains 1 jug", "0 gains 1 2 gains 1 jug"), 0, 1), 0, 2);
        askDue("two, of two", taken("well level 9 spring 0 frost 0;person cups 1;person cups 0;person cups 1;"
                + "person cups 0;matter 0 gains 1 1 gains 1 jug;matter 2 gains 1 3 gains 1 jug;", 0, 1), 0, 1);
        askDue("two, no water", taken("well level 0 spring 0 frost 0;person cups 1;person cups 0;person cups 1;"
                + "person cups 0;matter 0 gains 1 1 gains 1 jug;matter 2 gains 1 3 gains 1 jug;", 0, 1), -1, 0);
    }

    private static void askOfMany() {
        String six = "well level 9 spring 0 frost 0;" + "person cups 1;".repeat(6);
        String three = six + "matter 0 gains 1 1 gains 1 jug;matter 2 gains 1 3 gains 1 jug;"
                + "matter 4 gains 1 5 gains 1 jug;";
        askDue("six, of three", taken(three, 2, 1, 0), 0, 4);
        askDue("four, of two", taken(three, 2, 1), 1, 2);
        askDue("two, of one", taken(three, 2), -1, 2);
        // By 1 it is three and three: what 0 and 1, or 3 or 4 or 5 drink back.
        askDue("six, three and three", taken(six + "matter 0 gains 1 1 gains 1 jug;matter 2 gains 1 3 gains 1 on 0 jug;"
                + "matter 4 gains 1 5 gains 1 jug;matter 4 gains 1 3 gains 1 jug;", 0, 1, 2, 3), 1, 3);
    }

    // Of MATTERS that leave as few, the least; and one that is not settled tells nothing.
    private static void askTheLeast() {
        String four = "well level 9 spring 0 frost 0;" + "person cups 1;".repeat(4);
        askDue("0 and 1 alike", taken(four + "matter 0 gains 1 1 gains 1 jug;matter 2 gains 1 3 gains 1 jug;", 1, 0), 0, 2);
        askDue("1 and 2 alike, 0 not settled", taken(four + "matter 0 gains 1 1 gains 1 jug;"
                + "matter 0 gains 1 1 gains 1 jug;matter 2 gains 1 3 gains 1 jug;", 2, 1), 1, 2);
        String m = " gains 1 jug;";
        askDue("2 is better than 0", taken(four + "matter 0 gains 1 1" + m + "matter 0 gains 1 2" + m
                + "matter 0 gains 1 3" + m, 0, 1, 2), 2, 2);
    }

    private static void asAhead() {
        SecondWell asked = moved();
        for (int p = -1; p <= 3; p++) {
            asked.thirst(p);
            asked.dregs(p);
            for (int n = 0; n <= 5; n++) {
                asked.game(p, 0, n);
                asked.move(0, p, n);
            }
        }
        for (int set = -1; set <= 16; set++) {
            asked.who(set);
            asked.sipped(set, 4);
        }
        asked.ask();
        asked.leaves();
        Picture.same("behind questions", asked, moved());
    }

    private static SecondWell moved() {
        SecondWell w = Check.told(TownTest.TOWN);
        w.image(0);
        Check.take(w, 0, 2, 20);
        Check.put(w, 1, 1, 0, 1);
        return w;
    }
}
