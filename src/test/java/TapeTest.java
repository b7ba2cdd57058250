/** Promises 1 to 5: a new object, the TAPE, reading it, FAULTS. */
public final class TapeTest {
    private static final String WELL = "well level 5 spring 1 frost 0;";
    private static final String PAIR = WELL + "person cups 1;person cups 2 stubborn;";

    public static void main(String[] args) {
        newObject();
        feedAndEnd();
        byteOrder();
        reading();
        blanksAndNumbers();
        nothingTold();
        faultOfPlace();
        faultOfBounds();
        faultOfNumber();
        firstFault();
        afterFault();
        faultAsked();
        Check.finish("TapeTest");
    }

    private static void newObject() {
        SecondWell w = new SecondWell();
        Check.due("NONE", SecondWell.NONE, -1);
        Check.due("level()", w.level(), -2);
        Check.due("settled()", w.settled(), -2);
        Check.due("person(0, 0)", w.person(0, 0), -1000);
        Check.due("matter(0, 0)", w.matter(0, 0), -1000);
        for (int what = 0; what < 8; what++) {
            Check.due("count of a new object", w.count(what), 0);
        }
        Check.due("undo()", w.undo(), -2);
        Check.due("anew()", w.anew(), -2);
        Check.due("stands(0)", w.stands(0), -2);
        Check.due("drawn(0, 0, 0)", w.drawn(0, 0, 0), -2);
        Check.due("judge(0)", w.judge(0), -2);
    }

    private static void feedAndEnd() {
        SecondWell w = new SecondWell();
        for (int bytes = 20; bytes <= 900; bytes += 20) {
            Check.due("feed", w.feed(1, 2, 3, 4, 5), bytes);
        }
        Check.due("feed beyond 900", w.feed(1, 2, 3, 4, 5), -1);
        Check.due("count(5)", w.count(5), 900);
        Check.due("end(901)", w.end(901), -1);
        Check.due("end(-1)", w.end(-1), -1);
        Check.due("end(900)", w.end(900), 900);
        Check.due("end(881)", w.end(881), 881);
        Check.due("feed to 901", w.feed(0, 0, 0, 0, 0), -1);
        Check.due("count(5)", w.count(5), 881);
        Check.due("end(882)", w.end(882), -1);
        Check.due("end(880)", w.end(880), 880);
        Check.due("feed to 900", w.feed(0, 0, 0, 0, 0), 900);
        Check.due("end(0)", w.end(0), 0);
        Check.due("end(1)", w.end(1), -1);
        Check.due("count(5)", w.count(5), 0);
    }

    private static void byteOrder() {
        SecondWell w = new SecondWell();
        // "well" " lev" "el 7" " spr" "ing " / "0 fr" "ost " "0;  " and two of blanks
        Check.due("feed", w.feed(0x77656c6c, 0x206c6576, 0x656c2037, 0x20737072, 0x696e6720), 20);
        Check.due("feed", w.feed(0x30206672, 0x6f737420, 0x303b2020, 0x20202020, 0x0a0a0a0a), 40);
        Check.due("town()", w.town(), 1);
        Check.due("level()", w.level(), 7);
        Check.due("count(5) behind town()", w.count(5), 0);
    }

    private static void reading() {
        SecondWell w = Check.told(PAIR + "matter 1 gains 99 0 loses 7 jug dry;"
                + "matter 0 gains 0 1 loses 0 dry on 0 0 jug;");
        Check.due("LINES", w.count(4), 5);
        Check.due("PEOPLE", w.count(0), 2);
        Check.due("MATTERS", w.count(1), 2);
        Check.due("fault(0)", w.fault(0), 0);
        Check.due("fault(1)", w.fault(1), -1);
        Check.due("matter(0, 0)", w.matter(0, 0), 1);
        Check.due("matter(0, 2)", w.matter(0, 2), 99);
        Check.due("matter(0, 3)", w.matter(0, 3), -7);
        Check.due("matter(1, 4)", w.matter(1, 4), 1);
        Check.due("matter(1, 5)", w.matter(1, 5), 1);
        Check.due("matter(1, 6)", w.matter(1, 6), 1);
        w.settle(0);
        w.image(0);
        Check.feed(w, WELL);
        Check.due("town() in place of another", w.town(), 1);
        Check.due("PEOPLE", w.count(0), 0);
        Check.due("ACTS of a new TOWN", w.count(6), 0);
        Check.due("settled()", w.settled(), 0);
        Check.due("matter(0, 0)", w.matter(0, 0), -1000);
    }

    private static void blanksAndNumbers() {
        SecondWell w = Check.told("\n well\nlevel5spring007frost0100 ;\nperson  cups\n9 stubborn;person cups 0\n;\n");
        Check.due("LINES", w.count(4), 3);
        Check.due("spring", w.count(2), 7);
        Check.due("frost", w.count(3), 100);
        Check.due("person(0, 0)", w.person(0, 0), 9);
        Check.due("person(0, 1)", w.person(0, 1), 1);
        Check.due("person(1, 1)", w.person(1, 1), 0);
        w = Check.told("well level 99 spring 9 frost 100;person cups 9;");
        Check.due("level()", w.level(), 99);
    }

    private static void nothingTold() {
        SecondWell w = Check.told(PAIR);
        w.day();
        Check.due("town() of nothing", w.town(), 0);
        Check.due("level()", w.level(), -2);
        Check.due("count(0)", w.count(0), 0);
        Check.due("count(6)", w.count(6), 0);
        Check.feed(w, PAIR);
        w.town();
        Check.feed(w, " \n ");
        Check.due("town() of blanks", w.town(), 0);
        Check.due("settled()", w.settled(), -2);
        Check.due("fault(0)", w.fault(0), 0);
    }

    private static void faultOfPlace() {
        Check.faultDue("person cups 1;", 1, 0);
        Check.faultDue(";", 1, 0);
        Check.faultDue("7", 1, 0);
        Check.faultDue("Well", 1, 0);
        Check.faultDue("wells level 1 spring 1 frost 1;", 1, 0);
        Check.faultDue("wel", 1, 0);
        Check.faultDue("well level 5 spring 1;", 1, 21);
        Check.faultDue("well level 5 spring 1 frost 0", 1, 29);
        Check.faultDue("well level 5 spring 1 frost 0 \n", 1, 31);
        Check.faultDue("well level 5 spring 1 frost 0 0;", 1, 30);
        Check.faultDue("well level -5 spring 1 frost 0;", 1, 11);
        Check.faultDue("well spring 1 level 5 frost 0;", 1, 5);
        Check.faultDue(WELL + ";", 1, 30);
        Check.faultDue(WELL + "well level 5 spring 1 frost 0;", 1, 30);
        Check.faultDue(WELL + "person cups 1 stubborn stubborn;", 1, 53);
        Check.faultDue(WELL + "person cups 1 dry;", 1, 44);
        Check.faultDue(WELL + "person cups stubborn;", 1, 42);
        Check.faultDue(WELL + "\u0000", 1, 30);
        Check.faultDue(WELL + "\t", 1, 30);
        Check.faultDue(WELL + "person cups\u00e9 1;", 1, 41);
        int at = PAIR.length();
        Check.faultDue(PAIR + "matter 0 1 gains 2;", 1, at + 9);
        Check.faultDue(PAIR + "matter 0 wins 1 1 gains 2;", 1, at + 9);
        Check.faultDue(PAIR + "matter 0 gains 1;", 1, at + 16);
        Check.faultDue(PAIR + "matter 0 gains 1 1 gains 2 dry jug dry;", 1, at + 35);
        Check.faultDue(PAIR + "matter 0 gains 1 1 gains 2 jug jug;", 1, at + 31);
        Check.faultDue(PAIR + "matter 0 gains 1 1 gains 2 stubborn;", 1, at + 27);
        Check.faultDue(PAIR + "matter 0 gains 1 1 gains 2 dry 0;", 1, at + 31);
        String one = PAIR + "matter 0 gains 1 1 gains 2;";
        at = one.length();
        Check.faultDue(one + "matter 0 gains 1 1 gains 2 on;", 1, at + 29);
        Check.faultDue(one + "matter 0 gains 1 1 gains 2 on dry;", 1, at + 30);
        Check.faultDue(one + "matter 0 gains 1 1 gains 2 on 0 dry on 0;", 1, at + 36);
        Check.faultDue(one + "matter 0 gains 1 1 gains 2 on 0", 1, at + 31);
    }

    private static void faultOfBounds() {
        Check.faultDue("well level 100 spring 1 frost 0;", 2, 11);
        Check.faultDue("well level 1 spring 10 frost 0;", 2, 20);
        Check.faultDue("well level 1 spring 9 frost 101;", 2, 28);
        Check.faultDue("well level 4294967297 spring 1 frost 0;", 2, 11);
        Check.faultDue(WELL + "person cups 10;", 2, 42);
        Check.faultDue(WELL + "matter 0 gains 1 1 gains 1;", 2, 37);
        int at = PAIR.length();
        Check.faultDue(PAIR + "matter 2 gains 1 1 gains 1;", 2, at + 7);
        Check.faultDue(PAIR + "matter 0 gains 1 0 gains 1;", 2, at + 17);
        Check.faultDue(PAIR + "matter 0 gains 1 2 gains 1;", 2, at + 17);
        Check.faultDue(PAIR + "matter 0 gains 100 1 gains 1;", 2, at + 15);
        Check.faultDue(PAIR + "matter 0 gains 1 1 loses 100;", 2, at + 25);
        Check.faultDue(PAIR + "matter 0 gains 1 1 gains 1 on 0;", 2, at + 30);
        String one = PAIR + "matter 0 gains 1 1 gains 2;";
        Check.faultDue(one + "matter 0 gains 1 1 gains 2 on 0 1;", 2, one.length() + 32);
        Check.faultDue(one + "matter 0 gains 1 1 gains 2 on 7;", 2, one.length() + 30);
    }

    private static void faultOfNumber() {
        String six = WELL + "person cups 1;".repeat(6);
        Check.due("six PEOPLE", Check.told(six).count(0), 6);
        Check.faultDue(six + "person cups 1;", 3, six.length());
        Check.faultDue(six + "person", 3, six.length());
        String eight = six + "matter 0 gains 1 5 gains 1;".repeat(8);
        Check.due("eight MATTERS", Check.told(eight).count(1), 8);
        Check.faultDue(eight + "matter 0 gains 1 1 gains 1;", 3, eight.length());
        Check.faultDue(eight + "\n\nmatter 9", 3, eight.length() + 2);
    }

    private static void firstFault() {
        Check.faultDue("well level 100 level", 2, 11);
        Check.faultDue("well level 1 level 100", 1, 13);
        Check.faultDue(WELL + "person cups 11 stubborn stubborn;", 2, 42);
        Check.faultDue(PAIR + "matter 0 gains 1 0 wins 100 on", 2, PAIR.length() + 17);
    }

    // The TAPE is empty behind a FAULT too; what was told stays, with its ACTS.
    private static void afterFault() {
        SecondWell w = Check.told(PAIR);
        Check.due("day()", w.day(), 6);
        Check.feed(w, "well level 3;");
        Check.due("town()", w.town(), -4);
        Check.due("fault(0)", w.fault(0), 1);
        Check.due("fault(1)", w.fault(1), 12);
        Check.due("level() stays", w.level(), 6);
        Check.due("ACTS stay", w.count(6), 1);
        Check.due("LINES stay", w.count(4), 3);
        Check.due("count(5)", w.count(5), 0);
        Check.feed(w, WELL);
        Check.due("town()", w.town(), 1);
        Check.due("fault(0)", w.fault(0), 0);
        Check.due("fault(1)", w.fault(1), -1);
    }

    private static void faultAsked() {
        SecondWell w = new SecondWell();
        Check.due("fault(0) ahead of any", w.fault(0), 0);
        Check.due("fault(1) ahead of any", w.fault(1), -1);
        Check.due("fault(2)", w.fault(2), -1);
        Check.due("fault(-1)", w.fault(-1), -1);
        Check.feed(w, "on");
        Check.due("town()", w.town(), -4);
        Check.due("fault(0)", w.fault(0), 1);
        Check.due("fault(1)", w.fault(1), 0);
        Check.due("fault(2)", w.fault(2), -1);
    }
}
