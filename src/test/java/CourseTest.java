/** Promises 23 to 27: how it goes by itself. */
public final class CourseTest {
    public static void main(String[] args) {
        settlingAlone();
        drinkingFirst();
        longer();
        gainless();
        noTown();
        Check.finish("CourseTest");
    }

    private static void courseDue(SecondWell w, int[] steps, int ends, int sips) {
        Check.due("course()", w.course(), steps.length);
        for (int i = 0; i < steps.length; i++) {
            Check.due("step(" + i + ")", w.step(i), steps[i]);
        }
        Check.due("step behind the last", w.step(steps.length), -1);
        Check.due("step(-1)", w.step(-1), -1);
        Check.due("ends()", w.ends(), ends);
        Check.due("sips()", w.sips(), sips);
    }

    private static void settlingAlone() {
        SecondWell w = Check.told(TownTest.TOWN);
        courseDue(w, new int[] {0, 1}, 3, 0);
        Check.due("brings(0)", w.brings(0), 5);
        Check.due("brings(1)", w.brings(1), 5);
        Check.due("brings(2)", w.brings(2), 4);
        Check.due("brings(3)", w.brings(3), -1000);
        Check.due("brings(-1)", w.brings(-1), -1000);
        Check.due("settled() is as ahead", w.settled(), 0);
        Check.due("count(6) is as ahead", w.count(6), 0);
    }

    private static void drinkingFirst() {
        SecondWell w = Check.told(TownTest.TOWN);
        w.settle(0);
        w.settle(2);
        courseDue(w, new int[] {10, 1}, 3, 1);
        Check.due("settled() is as ahead", w.settled(), 5);
        Check.due("level() is as ahead", w.level(), 3);
        Check.due("matter(2, 8) is as ahead", w.matter(2, 8), 0);
        w.settle(1);
        courseDue(w, new int[] {10}, 3, 1);
        w.drink(0);
        w.settle(2);
        courseDue(w, new int[] {}, 7, 0);
    }

    // What fell with a MATTER is settled again behind it; of those that wish the least one drinks.
    private static void longer() {
        SecondWell w = Check.told("well level 2 spring 0 frost 0;person cups 1;person cups 1;person cups 1;"
                + "matter 0 loses 9 1 loses 9;matter 0 gains 1 2 gains 1;matter 1 gains 1 2 gains 1 on 1;"
                + "matter 2 gains 1 1 gains 1 on 0;matter 2 loses 5 1 loses 5;");
        w.settle(0);
        w.settle(4);
        courseDue(w, new int[] {10, 11, 1, 2}, 6, 2);
        w.settle(1);
        courseDue(w, new int[] {11, 2, 3}, 15, 1);
        Check.due("brings(0)", w.brings(0), -8);
    }

    // Both must gain above 0; a MATTER that can't be settled yet comes when it can.
    private static void gainless() {
        SecondWell w = Check.told("well level 2 spring 0 frost 0;person cups 1;person cups 1;"
                + "matter 0 gains 0 1 gains 5;matter 0 gains 5 1 gains 0;matter 0 gains 1 1 gains 1 on 0;"
                + "matter 0 gains 1 1 gains 1;");
        courseDue(w, new int[] {3}, 8, 0);
        w.settle(0);
        courseDue(w, new int[] {2, 3}, 13, 0);
        courseDue(Check.told("well level 2 spring 0 frost 0;"), new int[] {}, 0, 0);
    }

    private static void noTown() {
        SecondWell w = new SecondWell();
        Check.due("course()", w.course(), -2);
        Check.due("step(0)", w.step(0), -2);
        Check.due("ends()", w.ends(), -2);
        Check.due("sips()", w.sips(), -2);
        Check.due("brings(0)", w.brings(0), -1000);
    }
}
