/** Promises 37, 38, 47 to 52: drinking alone, a game of two, who drank, what to ask. */
public final class DrinkingTest {
    private static final String FOUR = "well level 9 spring 0 frost 0;"
            + "person cups 1;person cups 1;person cups 1;person cups 1;"
            + "matter 0 gains 1 1 gains 1 jug;matter 2 gains 1 3 gains 1 jug;";

    public static void main(String[] args) {
        thirst();
        games();
        gameOfDrinking();
        gameOfLike();
        wrongGames();
        who();
        sipped();
        asking();
        noTown();
        Check.finish("DrinkingTest");
    }

    private static void thirst() {
        SecondWell w = Check.told(TownTest.TOWN);
        Check.due("thirst(0)", w.thirst(0), 0);
        Check.due("dregs(0)", w.dregs(0), 0);
        w.settle(0);
        w.settle(1);
        w.settle(2);
        Check.due("thirst(0)", w.thirst(0), 1);
        Check.due("dregs(0)", w.dregs(0), 3);
        Check.due("thirst(1)", w.thirst(1), 0);
        Check.due("dregs(1)", w.dregs(1), 7);
        Check.due("thirst(3)", w.thirst(3), -2);
        Check.due("dregs(3)", w.dregs(3), -2);
        Check.due("thirst(-1)", w.thirst(-1), -2);
        Check.due("dregs(-1)", w.dregs(-1), -2);
        Check.due("settled() is as ahead", w.settled(), 7);
        String m = "matter 0 gains 1 1 gains 1 jug;";
        w = Check.told("well level 2 spring 0 frost 0;person cups 3;person cups 1;" + m + m + m);
        w.settle(2);
        w.settle(0);
        w.settle(1);
        Check.due("thirst(0), as long as there is water", w.thirst(0), 2);
        Check.due("dregs(0), wished or not", w.dregs(0), 4);
        Check.due("thirst(1), as long as there are cups", w.thirst(1), 1);
        Check.due("dregs(1)", w.dregs(1), 5);
        Check.due("person(0, 0) is as ahead", w.person(0, 0), 3);
        m = "matter 0 gains 1 1 gains 1 jug";
        w = Check.told("well level 99 spring 0 frost 0;person cups 9;person cups 1;" + m + ";" + m + " on 0;"
                + (m + ";").repeat(6));
        for (int i = 0; i < 8; i++) {
            w.settle(i);
        }
        Check.due("thirst(0), of all", w.thirst(0), 8);
        Check.due("dregs(0), of all", w.dregs(0), 0);
    }

    private static void games() {
        SecondWell w = Check.told(TownTest.TOWN);
        Check.due("game(0, 1, 0)", w.game(0, 1, 0), 0);
        Check.due("move(0, 1, 0)", w.move(0, 1, 0), -1);
        Check.due("game(0, 1, 1)", w.game(0, 1, 1), 3);
        Check.due("move(0, 1, 1)", w.move(0, 1, 1), 3);
        Check.due("game(0, 1, 2)", w.game(0, 1, 2), 3);
        Check.due("move(0, 1, 2)", w.move(0, 1, 2), 3);
        Check.due("game(1, 0, 1)", w.game(1, 0, 1), 0);
        Check.due("move(1, 0, 1)", w.move(1, 0, 1), 30);
        Check.due("game(2, 0, 1), none of its is open", w.game(2, 0, 1), 0);
        Check.due("move(2, 0, 1)", w.move(2, 0, 1), 30);
        w.settle(0);
        Check.due("game(0, 1, 0), settled now", w.game(0, 1, 0), 2);
        Check.due("game(1, 0, 0)", w.game(1, 0, 0), -2);
        Check.due("settled() is as ahead", w.settled(), 1);
    }

    private static void gameOfDrinking() {
        SecondWell w = Check.told(TownTest.TOWN);
        w.settle(0);
        w.settle(1);
        w.settle(2);
        Check.due("game(0, 2, 1)", w.game(0, 2, 1), 1);
        Check.due("move(0, 2, 1)", w.move(0, 2, 1), 10);
        // 0 drinks 2 back, 2 settles it again: -4; 0 settles 3, 2 can do nothing: -3
        Check.due("game(0, 2, 2)", w.game(0, 2, 2), -3);
        Check.due("move(0, 2, 2)", w.move(0, 2, 2), 3);
        // 0 waits, so that 2 can't settle it again; 3, which is dry, must not come behind it
        Check.due("game(0, 2, 3)", w.game(0, 2, 3), 1);
        Check.due("move(0, 2, 3)", w.move(0, 2, 3), 30);
        Check.due("level() is as ahead", w.level(), 3);
    }

    private static void gameOfLike() {
        SecondWell w = Check.told("well level 9 spring 0 frost 0;person cups 1;person cups 1;"
                + "matter 0 gains 1 1 gains 1;matter 0 gains 4 1 gains 1;matter 0 gains 3 1 gains 0;");
        Check.due("game(0, 1, 1)", w.game(0, 1, 1), 3);
        Check.due("move(0, 1, 1), the least of like ACTS", w.move(0, 1, 1), 1);
        Check.due("game(1, 0, 1)", w.game(1, 0, 1), 0);
        Check.due("move(1, 0, 1), settling ahead of nothing", w.move(1, 0, 1), 0);
        Check.due("game(0, 1, 4)", w.game(0, 1, 4), 6);
        Check.due("move(0, 1, 4)", w.move(0, 1, 4), 1);
    }

    private static void wrongGames() {
        SecondWell w = Check.told(TownTest.TOWN);
        int[][] wrong = {{0, 0, 1}, {0, 3, 1}, {3, 0, 1}, {-1, 0, 1}, {0, -1, 1}, {0, 1, 5}, {0, 1, -1}};
        for (int[] g : wrong) {
            Check.due("game of wrong ones", w.game(g[0], g[1], g[2]), -1000);
            Check.due("move of wrong ones", w.move(g[0], g[1], g[2]), -2);
        }
    }

    private static void who() {
        SecondWell w = Check.told(FOUR);
        w.settle(0);
        w.settle(1);
        Check.due("who(2)", w.who(2), 3);
        Check.due("who(1)", w.who(1), 12);
        Check.due("who(3)", w.who(3), 0);
        Check.due("who(0)", w.who(0), 0);
        Check.due("who(4)", w.who(4), -2);
        Check.due("who(-1)", w.who(-1), -2);
        w.drink(2);
        Check.due("who(0)", w.who(0), 3);
        Check.due("who(1), nobody has just drunk", w.who(1), 0);
    }

    private static void sipped() {
        SecondWell w = Check.told(FOUR);
        Check.due("sipped(0, 0)", w.sipped(0, 0), 1);
        Check.due("sipped(0, 1)", w.sipped(0, 1), 0);
        w.settle(0);
        w.settle(1);
        Check.due("sipped(3, 0)", w.sipped(3, 0), 1);
        Check.due("sipped(2, 0)", w.sipped(2, 0), 0);
        Check.due("sipped(2, 1)", w.sipped(2, 1), 2);
        Check.due("sipped(0, 1)", w.sipped(0, 1), 0);
        Check.due("sipped(0, 2)", w.sipped(0, 2), 8);
        Check.due("sipped(0, 3)", w.sipped(0, 3), 0);
        Check.due("sipped(0, 4)", w.sipped(0, 4), 0);
        Check.due("sipped(0, 5)", w.sipped(0, 5), -2);
        Check.due("sipped(0, -1)", w.sipped(0, -1), -2);
        Check.due("sipped(4, 1)", w.sipped(4, 1), -2);
        Check.due("sipped(-1, 1)", w.sipped(-1, 1), -2);
        String m = "matter 0 gains 1 1 gains 1 jug;";
        w = Check.told("well level 9 spring 0 frost 0;person cups 3;person cups 1;" + m.repeat(4));
        for (int i = 0; i < 4; i++) {
            w.settle(i);
        }
        Check.due("sipped(0, 4), one cup is the other's", w.sipped(0, 4), 4);
        Check.due("sipped(1, 3)", w.sipped(1, 3), 4);
    }

    private static void asking() {
        SecondWell w = Check.told(FOUR);
        Check.due("ask(), nobody CAN", w.ask(), -1);
        Check.due("leaves()", w.leaves(), 0);
        w.settle(1);
        Check.due("ask(), no answer tells", w.ask(), -1);
        Check.due("leaves(), all that CAN", w.leaves(), 2);
        w.settle(0);
        Check.due("ask()", w.ask(), 0);
        Check.due("leaves()", w.leaves(), 2);
        String m = " gains 1 jug;";
        w = Check.told("well level 9 spring 0 frost 0;" + "person cups 1;".repeat(6)
                + "matter 0 gains 1 1" + m + "matter 2 gains 1 3" + m.replace("jug", "on 0 jug")
                + "matter 4 gains 1 5" + m);
        w.settle(0);
        w.settle(1);
        w.settle(2);
        // behind 0 or 1: {2}; behind 2 or 3: {0, 2}; behind 4 or 5: {0, 1}
        Check.due("ask(), six", w.ask(), 0);
        Check.due("leaves(), six", w.leaves(), 4);
        w = Check.told("well level 9 spring 0 frost 0;" + "person cups 1;".repeat(4)
                + "matter 0 gains 1 1" + m + "matter 0 gains 1 2" + m + "matter 0 gains 1 3" + m);
        w.settle(0);
        w.settle(1);
        w.settle(2);
        // 1 drinks 0 back, 2 drinks 1 back, 0 and 3 drink 2 back: by 2 it is two and two
        Check.due("ask(), the best, not the first", w.ask(), 2);
        Check.due("leaves()", w.leaves(), 2);
    }

    private static void noTown() {
        SecondWell w = new SecondWell();
        Check.due("thirst(0)", w.thirst(0), -2);
        Check.due("dregs(0)", w.dregs(0), -2);
        Check.due("game(0, 1, 0)", w.game(0, 1, 0), -1000);
        Check.due("move(0, 1, 0)", w.move(0, 1, 0), -2);
        Check.due("who(0)", w.who(0), -2);
        Check.due("sipped(0, 0)", w.sipped(0, 0), -2);
        Check.due("ask()", w.ask(), -2);
        Check.due("leaves()", w.leaves(), -2);
    }
}
