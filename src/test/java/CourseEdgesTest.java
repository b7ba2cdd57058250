/** Promises 23 to 27 and Terms III: the least that wishes, what is just a gain, the shortest and a long COURSE. */
public final class CourseEdgesTest {
    public static void main(String[] args) {
        noStep();
        stepsBeyond();
        bothGain();
        leastMatter();
        leastPerson();
        drinkingAheadOfSettling();
        wishedAlone();
        tillNeither();
        eightDrunkBack();
        beyondSixtyActs();
        bringsBounds();
        fromNowOn();
        asAhead();
        Check.finish("CourseEdgesTest");
    }

    private static void courseDue(String what, SecondWell w, int ends, int sips, int... steps) {
        Check.due(what + ": course()", w.course(), steps.length);
        Check.row(what + ": step", w::step, steps);
        Check.each(what + ": step", w::step, -1, steps.length, steps.length + 1, -1, Check.LEAST, Check.MOST);
        Check.due(what + ": ends()", w.ends(), ends);
        Check.due(what + ": sips()", w.sips(), sips);
    }

    private static void noStep() {
        courseDue("nobody", Check.told("well level 9 spring 9 frost 0;"), 0, 0);
        courseDue("no MATTERS", Check.told("well level 9 spring 9 frost 0;person cups 9;"), 0, 0);
        courseDue("no gain", Check.told(Towns.ofTwo(9, "0 gains 0 1 gains 0")), 0, 0);
        SecondWell w = Check.told(Towns.ofTwo(9, "0 gains 1 1 gains 1"));
        Check.take(w, 0);
        courseDue("all is settled", w, 1, 0);
    }

    private static void stepsBeyond() {
        SecondWell w = Check.told(Towns.JUGS);
        courseDue("eight", w, 255, 0, 0, 1, 2, 3, 4, 5, 6, 7);
        Check.each("step of eight", w::step, -1, Check.beyond(8));
    }

    // Above 0, both of them.
    private static void bothGain() {
        String[] gains = {"loses 1", "gains 0", "gains 1"};
        for (int first = 0; first < 3; first++) {
            for (int second = 0; second < 3; second++) {
                SecondWell w = Check.told(Towns.ofTwo(0, "0 " + gains[first] + " 1 " + gains[second]));
                if (first == 2 && second == 2) {
                    courseDue("both gain", w, 1, 0, 0);
                } else {
                    courseDue(gains[first] + ", " + gains[second], w, 0, 0);
                }
            }
        }
    }

    private static void leastMatter() {
        SecondWell w = Check.told(Towns.ofTwo(0, "0 gains 0 1 gains 9", "0 gains 1 1 gains 1", "0 gains 9 1 gains 9",
                "0 gains 9 1 gains 9 on 0", "0 gains 9 1 gains 9 on 1"));
        courseDue("the least that can be", w, 22, 0, 1, 2, 4);
        Check.take(w, 0, 2);
        courseDue("the rest of them", w, 31, 0, 1, 3, 4);
    }

    private static void leastPerson() {
        SecondWell w = Check.told("well level 9 spring 0 frost 0;" + "person cups 1;".repeat(6)
                + "matter 4 loses 1 5 loses 1;matter 2 loses 1 3 loses 1;matter 1 loses 1 0 loses 1;");
        Check.take(w, 2, 0, 1);
        courseDue("the least of six", w, 0, 3, 10, 12, 14);
    }

    private static void drinkingAheadOfSettling() {
        SecondWell w = Check.told("well level 9 spring 0 frost 0;" + "person cups 1;".repeat(6)
                + "matter 0 gains 1 1 gains 1;matter 4 loses 1 5 gains 0;");
        Check.take(w, 1);
        courseDue("drinking first", w, 1, 1, 14, 0);
        Check.take(w, 0);
        courseDue("drinking alone", w, 1, 1, 14);
    }

    // One that CAN but does not wish does nothing; one that wishes but can't does neither.
    private static void wishedAlone() {
        SecondWell w = Check.told(Towns.ofTwo(9, "0 gains 0 1 gains 0"));
        Check.take(w, 0);
        Check.due("why(0)", w.why(0), 0);
        courseDue("CAN alone", w, 1, 0);
        w = Check.told(Towns.ofTwo(0, "0 loses 9 1 loses 9"));
        Check.take(w, 0);
        courseDue("no water", w, 1, 0);
        Check.take(w, 20);
        courseDue("water", w, 0, 1, 10);
        w = Check.told(Towns.ofTwo(9, "0 loses 9 1 gains 1"));
        Check.take(w, 0);
        courseDue("not agreed", w, 1, 0);
    }

    // By one cup and the water of one: the second one that wishes has none left.
    private static void tillNeither() {
        String two = "person cups 1;person cups 1;matter 0 loses 1 1 loses 1;matter 0 loses 1 1 loses 1;"
                + "matter 0 loses 1 1 loses 1;";
        SecondWell w = Check.told("well level 1 spring 9 frost 0;" + two);
        Check.take(w, 0, 1, 2);
        courseDue("the water of one", w, 3, 1, 10);
        w = Check.told("well level 2 spring 9 frost 0;" + two);
        Check.take(w, 0, 1, 2);
        courseDue("the water of two", w, 1, 2, 10, 11);
        w = Check.told("well level 9 spring 9 frost 0;" + two);
        Check.take(w, 0, 1, 2);
        courseDue("two cups", w, 1, 2, 10, 11);
        // What fell with another one can't be settled without that.
        w = Check.told(Towns.ofThree("0 loses 1 1 gains 1 jug", "1 gains 1 2 gains 1 on 0", "1 gains 1 2 gains 1"));
        Check.take(w, 0, 1);
        courseDue("fallen with another one", w, 4, 1, 10, 2);
    }

    private static void eightDrunkBack() {
        SecondWell w = Check.told("well level 99 spring 0 frost 0;person cups 9;person cups 9;"
                + "matter 0 loses 1 1 loses 1;".repeat(8));
        Check.take(w, 0, 1, 2, 3, 4, 5, 6, 7);
        courseDue("eight", w, 0, 8, 10, 10, 10, 10, 10, 10, 10, 10);
        w = Check.told("well level 99 spring 0 frost 0;person cups 9;person cups 9;person cups 0;"
                + "matter 0 gains 1 1 gains 1 jug;".repeat(4) + "matter 0 loses 9 2 gains 0 on 0;"
                + "matter 0 loses 9 2 gains 0 on 1;matter 0 loses 9 2 gains 0 on 2;matter 0 loses 9 2 gains 0 on 3;");
        Check.take(w, 0, 1, 2, 3, 4, 5, 6, 7);
        courseDue("four of eight", w, 15, 4, 10, 10, 10, 10);
    }

    private static void beyondSixtyActs() {
        SecondWell w = Check.told(Towns.JUGS);
        for (int i = 0; i < 60; i++) {
            w.day();
        }
        courseDue("behind 60 ACTS", w, 255, 0, 0, 1, 2, 3, 4, 5, 6, 7);
    }

    private static void bringsBounds() {
        SecondWell w = Check.told(Towns.BIG);
        // 1, 2 and 7 are no gain of both, or rest on what is none: 6 alone comes.
        courseDue("of eight", w, 64, 0, 6);
        Check.row("brings", w::brings, 7, 0, 7, 0, 0, 0);
        Check.each("brings", w::brings, -1000, Check.beyond(6));
        SecondWell three = Check.told(TownTest.TOWN);
        Check.each("brings of three", three::brings, -1000, Check.beyond(3));
        Check.row("brings of three", three::brings, 5, 5, 4);
        Check.each("brings of nobody", Check.told("well level 1 spring 1 frost 1;")::brings, -1000, 0, -1);
        SecondWell loss = Check.told(Towns.ofTwo(0, "0 loses 99 1 loses 99"));
        Check.take(loss, 0);
        Check.row("brings, a loss", loss::brings, -99, -99);
    }

    // Each goes by the COURSE from now on, whatever was asked ahead of an ACT, and by itself.
    private static void fromNowOn() {
        Check.due("course()", another().course(), 1);
        Check.due("step(0)", another().step(0), 10);
        Check.due("step(1)", another().step(1), -1);
        Check.due("ends()", another().ends(), 1);
        Check.due("sips()", another().sips(), 1);
        Check.due("brings(0)", another().brings(0), 1);
        SecondWell w = another();
        w.undo();
        w.undo();
        Check.due("ends(), taken back", w.ends(), 1);
        w.price(0, 0, 0);
        Check.due("ends(), no gain now", w.ends(), 0);
        Check.due("step(0), no gain now", w.step(0), -1);
    }

    /** It was asked for a COURSE of other steps, ahead of ACTS. */
    private static SecondWell another() {
        SecondWell w = Check.told(Towns.ofTwo(9, "0 gains 1 1 gains 1", "0 loses 1 1 loses 2", "0 gains 0 1 gains 0"));
        Check.take(w, 1);
        courseDue("ahead", w, 1, 1, 10, 0);
        w.undo();
        courseDue("at first", w, 1, 0, 0);
        Check.take(w, 0, 1);
        return w;
    }

    private static void asAhead() {
        SecondWell asked = moved();
        asked.course();
        asked.step(0);
        asked.step(99);
        asked.ends();
        asked.sips();
        asked.brings(0);
        asked.brings(9);
        Picture.same("behind a COURSE", asked, moved());
    }

    private static SecondWell moved() {
        SecondWell w = Check.told(TownTest.TOWN);
        w.image(0);
        Check.take(w, 0, 2, 20);
        Check.put(w, 1, 1, 0, 1);
        return w;
    }
}
