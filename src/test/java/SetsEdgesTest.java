/** Promises 28 to 36, 39 to 46 and Terms IV: the first and the last set, the least of several, what just is FIRM. */
public final class SetsEdgesTest {
    public static void main(String[] args) {
        setsBeyond();
        setsOfNone();
        standsByCups();
        standsByWater();
        standsBySwing();
        standsAgreed();
        standsByOrder();
        standsFromNothing();
        standsOfAll();
        stoodBounds();
        stoodLeast();
        bestOfSeveral();
        bestThatStands();
        closedOnes();
        manySets();
        restsAndBears();
        chains();
        heaviest();
        kept();
        firmBySwing();
        firmAgreed();
        firmOfEachPair();
        firmDry();
        firmWithoutCups();
        firmestOfSeveral();
        sums();
        weakOfSeveral();
        weakByTheWholeFall();
        votes();
        elected();
        asAhead();
        Check.finish("SetsEdgesTest");
    }

    private static void setsBeyond() {
        for (String text : new String[] {Towns.BIG, TownTest.TOWN, "well level 1 spring 1 frost 1;"}) {
            SecondWell w = Check.told(text);
            int all = 1 << w.count(1);
            int[] beyond = Check.beyond(all);
            Check.each("stands", w::stands, -2, beyond);
            Check.each("stood", set -> w.stood(set, 0), -2, beyond);
            Check.each("stood, no such place", set -> w.stood(set, -1), -2, beyond);
            Check.each("closed", w::closed, -2, beyond);
            Check.each("keep", w::keep, -2, beyond);
            Check.each("firm", w::firm, -2, beyond);
            Check.each("weak", w::weak, -2, beyond);
            Check.each("votes(.., 0)", set -> w.votes(set, 0), -2, beyond);
            Check.each("votes(0, ..)", set -> w.votes(0, set), -2, beyond);
            Check.each("votes of both", set -> w.votes(set, set), -2, beyond);
            Check.each("sum(0, ..)", set -> w.sum(0, set), -1000, beyond);
            Check.each("sum(-1, ..)", set -> w.sum(-1, set), -1000, beyond);
        }
        SecondWell w = Check.told(Towns.BIG);
        Check.due("closed(255)", w.closed(255), 1);
        Check.due("stands(255)", w.stands(255) < 0 ? 0 : 1, 1);
        Check.due("keep(255), two are dry", w.keep(255), 255 - 8 - 32);
        Check.due("sum(5, 255)", w.sum(5, 255), 3);
        Check.due("votes(255, 0)", w.votes(255, 0), 1 + 4 + 16 + 32);
        Check.due("votes(0, 255)", w.votes(0, 255), 2 + 8);
    }

    private static void setsOfNone() {
        SecondWell w = Check.told("well level 1 spring 1 frost 1;person cups 1;");
        Check.due("stands(0)", w.stands(0), 1);
        Check.due("stood(0, 0)", w.stood(0, 0), -1);
        Check.due("best()", w.best(), 0);
        Check.due("closed(0)", w.closed(0), 1);
        Check.due("sets()", w.sets(), 1);
        Check.due("chain()", w.chain(), 0);
        Check.due("heaviest()", w.heaviest(), -1);
        Check.each("rests", w::rests, -2, 0, 1, -1);
        Check.each("bears", w::bears, -2, 0, 1, -1);
        Check.due("keep(0)", w.keep(0), 0);
        Check.due("firm(0)", w.firm(0), 1);
        Check.due("firms()", w.firms(), 1);
        Check.due("firmest()", w.firmest(), 0);
        Check.due("sum(0, 0)", w.sum(0, 0), 0);
        Check.due("weak(0)", w.weak(0), -1);
        Check.due("votes(0, 0)", w.votes(0, 0), 0);
        Check.due("elected()", w.elected(), 0);
    }

    private static void standsByCups() {
        for (int cups = 0; cups <= 1; cups++) {
            SecondWell w = Check.told("well level 1 spring 0 frost 0;person cups " + cups + ";person cups 0;"
                    + "matter 0 loses 1 1 gains 0;");
            Check.due("stands(1), cups " + cups, w.stands(1), 1 - cups);
            Check.due("stood(1, 0), cups " + cups, w.stood(1, 0), cups == 0 ? 0 : -1);
        }
        // Cups as now: the last one is gone by another MATTER.
        SecondWell w = Check.told("well level 9 spring 0 frost 0;person cups 1;person cups 0;"
                + "matter 0 loses 1 1 gains 0;matter 0 loses 1 1 gains 0;");
        Check.due("stands(1)", w.stands(1), 0);
        Check.take(w, 1, 10);
        Check.due("stands(1), no cup left", w.stands(1), 1);
        w.undo();
        Check.due("stands(1), a cup again", w.stands(1), 0);
    }

    private static void standsByWater() {
        SecondWell w = Check.told(Towns.ofTwo(0, "0 loses 1 1 gains 0"));
        Check.due("stands(1), no water", w.stands(1), 1);
        Check.take(w, 20);
        Check.due("stands(1), water", w.stands(1), 0);
    }

    private static void standsBySwing() {
        for (int swing = -1; swing <= 1; swing++) {
            String own = swing < 0 ? "gains 1" : "loses " + swing;
            Check.due("SWING of the first " + swing, Check.told(Towns.ofTwo(1, "0 " + own + " 1 gains 0")).stands(1),
                    swing > 0 ? 0 : 1);
            Check.due("SWING of the second " + swing, Check.told(Towns.ofTwo(1, "0 gains 0 1 " + own)).stands(1),
                    swing > 0 ? 0 : 1);
        }
        Check.due("dry", Check.told(Towns.ofTwo(1, "0 loses 1 1 loses 1 dry")).stands(1), 1);
    }

    private static void standsAgreed() {
        Check.due("it agrees at 0", Check.told(Towns.ofTwo(1, "0 loses 1 1 gains 0")).stands(1), 0);
        Check.due("not below 0", Check.told(Towns.ofTwo(1, "0 loses 1 1 gains 1")).stands(1), 1);
        Check.due("by a jug", Check.told(Towns.ofTwo(1, "0 loses 1 1 gains 1 jug")).stands(1), 0);
        String stubborn = "well level 1 spring 0 frost 0;person cups 1;person cups 0 stubborn;matter 0 loses 1 1 gains 0";
        Check.due("not if it is stubborn", Check.told(stubborn + ";").stands(1), 1);
        Check.due("but by a jug", Check.told(stubborn + " jug;").stands(1), 0);
        Check.due("by all that fall", Check.told(Towns.ofThree("0 loses 1 1 gains 1", "1 loses 1 2 gains 1 on 0"))
                .stands(3), 0);
        Check.due("by all that fall", Check.told(Towns.ofThree("0 loses 1 1 gains 2", "1 loses 1 2 gains 1 on 0"))
                .stands(3), 1);
    }

    // A LAST that one would drink back must have another one behind it, of the same PERSON.
    private static void standsByOrder() {
        SecondWell w = Check.told(Towns.ofThree("0 loses 1 1 gains 0", "0 gains 1 2 gains 1", "1 gains 1 2 gains 1"));
        Check.row("stands", w::stands, 1, 0, 1, 1, 1, 0, 2, 3);
        Check.row("stood(3, ..)", i -> w.stood(3, i), 0, 1, -1);
        Check.row("stood(7, ..)", i -> w.stood(7, i), 0, 1, 2, -1);
        SecondWell x = Check.told(Towns.ofThree("0 gains 1 2 gains 1", "1 gains 1 2 gains 1", "0 loses 1 1 gains 0"));
        Check.due("stands(7)", x.stands(7), 3);
        Check.row("stood(7, ..), the least row", i -> x.stood(7, i), 1, 2, 0, -1);
    }

    // Nothing is drunk back then, whatever was; and what is settled now is not.
    private static void standsFromNothing() {
        SecondWell w = Check.told(Towns.ofThree("0 loses 1 1 gains 0", "0 gains 1 1 gains 1 on 0"));
        Check.take(w, 0, 10, 0);
        Check.due("why(0), drunk back now", w.why(0), 3);
        Check.due("stands(1), not then", w.stands(1), 0);
        Check.due("stands(2), not closed though 0 is settled", w.stands(2), 0);
        Check.due("stood(2, 0)", w.stood(2, 0), -1);
        Check.due("stands(0), though 0 is settled", w.stands(0), 1);
        Check.due("stands(3)", w.stands(3), 1);
    }

    private static void standsOfAll() {
        SecondWell w = Check.told(Towns.JUGS);
        int factorial = 1;
        for (int many = 0; many <= 8; many++) {
            factorial *= Math.max(1, many);
            Check.due("stands of " + many, w.stands((1 << many) - 1), factorial);
        }
        StringBuilder chain = new StringBuilder("well level 9 spring 0 frost 0;person cups 1;person cups 1;"
                + "matter 0 gains 1 1 gains 1;");
        for (int m = 1; m < 8; m++) {
            chain.append("matter 0 gains 1 1 gains 1 on ").append(m - 1).append(';');
        }
        SecondWell c = Check.told(chain.toString());
        for (int set = 0; set < 256; set++) {
            Check.due("stands(" + set + ") of a chain", c.stands(set), (set & (set + 1)) == 0 ? 1 : 0);
        }
    }

    private static void stoodBounds() {
        SecondWell w = Check.told(Towns.JUGS);
        Check.row("stood(255, ..)", i -> w.stood(255, i), 0, 1, 2, 3, 4, 5, 6, 7, -1);
        Check.each("stood(255, ..)", i -> w.stood(255, i), -1, Check.beyond(8));
        Check.row("stood(160, ..)", i -> w.stood(160, i), 5, 7, -1);
        Check.each("stood(160, ..)", i -> w.stood(160, i), -1, Check.beyond(2));
        Check.each("stood(0, ..)", i -> w.stood(0, i), -1, 0, 1, -1);
        SecondWell none = Check.told(Towns.ofTwo(1, "0 loses 1 1 loses 1"));
        Check.each("stood of what never stands", i -> none.stood(1, i), -1, 0, 1, -1, Check.MOST);
    }

    private static void stoodLeast() {
        // 0 is on nothing and must have 1 or 2 behind it; 3 is on 2: the least row has 0 as early as can be.
        SecondWell w = Check.told(Towns.ofThree("0 loses 1 1 loses 1", "0 gains 1 2 gains 1", "1 gains 1 2 gains 1",
                "1 gains 1 2 gains 1 on 2"));
        Check.row("stood(15, ..)", i -> w.stood(15, i), 0, 1, 2, 3, -1);
        // Both of 0's PARTIES wish; a set with a MATTER behind for one of them alone does not stand.
        Check.due("stands(3)", w.stands(3), 0);
        Check.due("stands(5)", w.stands(5), 0);
        Check.due("stands(7), 0 ahead of both", w.stands(7), 2);
    }

    private static void bestOfSeveral() {
        Check.due("of like ones the least", Check.told(Towns.ofTwo(0, "0 gains 2 1 gains 2", "0 loses 1 1 gains 1",
                "0 gains 0 1 gains 0")).best(), 1);
        Check.due("of like ones the least", Check.told(Towns.ofTwo(0, "0 gains 0 1 gains 0", "0 gains 2 1 gains 2",
                "0 gains 0 1 gains 0")).best(), 2);
        Check.due("a SUM of 0 is none more", Check.told(Towns.ofTwo(0, "0 gains 1 1 loses 1")).best(), 0);
        Check.due("a SUM of 1", Check.told(Towns.ofTwo(0, "0 gains 1 1 gains 0")).best(), 1);
        Check.due("a SUM of -1", Check.told(Towns.ofTwo(0, "0 loses 1 1 gains 0")).best(), 0);
        Check.due("all of eight", Check.told(Towns.JUGS).best(), 255);
    }

    private static void bestThatStands() {
        SecondWell w = Check.told(Towns.ofTwo(1, "0 gains 9 1 loses 1 jug", "0 gains 1 1 loses 1 dry"));
        Check.due("stands(1)", w.stands(1), 0);
        Check.due("best(), with one behind it", w.best(), 3);
        w = Check.told(Towns.ofTwo(1, "0 gains 9 1 loses 1 jug"));
        Check.due("best(), which is nothing", w.best(), 0);
        Check.take(w, 0, 11);
        Check.due("best(), no water left", w.best(), 1);
        Check.due("best(), not closed", Check.told(Towns.ofTwo(0, "0 loses 9 1 loses 9", "0 gains 9 1 gains 8 on 0"))
                .best(), 0);
        Check.due("best(), closed", Check.told(Towns.ofTwo(0, "0 loses 9 1 loses 9", "0 gains 9 1 gains 10 on 0"))
                .best(), 3);
    }

    private static void closedOnes() {
        SecondWell w = Check.told(Towns.BIG);
        int many = 0;
        for (int set = 0; set < 256; set++) {
            int due = closedBy(set, 0, 1, 2) && closedBy(set, 3, 4, 5) && (set < 128 || set == 255) ? 1 : 0;
            Check.due("closed(" + set + ")", w.closed(set), due);
            many += due;
        }
        Check.due("sets()", w.sets(), many);
        Check.due("sets()", many, 33);
    }

    private static boolean closedBy(int set, int a, int b, int c) {
        return (set >> a & 1) >= (set >> b & 1) && (set >> b & 1) >= (set >> c & 1);
    }

    private static void manySets() {
        Check.due("sets(), all", Check.told(Towns.JUGS).sets(), 256);
        Check.due("sets() of one", Check.told(Towns.ofTwo(0, "0 gains 1 1 gains 1")).sets(), 2);
        Check.due("sets() of two, one on the other", Check.told(Towns.ofTwo(0, "0 gains 1 1 gains 1",
                "0 gains 1 1 gains 1 on 0")).sets(), 3);
    }

    private static void restsAndBears() {
        SecondWell w = Check.told(Towns.BIG);
        Check.row("rests", w::rests, 0, 1, 3, 0, 8, 24, 0, 127);
        Check.row("bears", w::bears, 134, 132, 128, 176, 160, 128, 128, 0);
        Check.each("rests", w::rests, -2, Check.beyond(8));
        Check.each("bears", w::bears, -2, Check.beyond(8));
        Check.take(w, 0, 3);
        Check.row("rests, whatever is settled", w::rests, 0, 1, 3, 0, 8, 24, 0, 127);
        Check.row("bears, whatever is settled", w::bears, 134, 132, 128, 176, 160, 128, 128, 0);
        SecondWell four = Check.told(TownTest.TOWN);
        Check.each("rests of four", four::rests, -2, Check.beyond(4));
        Check.each("bears of four", four::bears, -2, Check.beyond(4));
    }

    private static void chains() {
        StringBuilder b = new StringBuilder("well level 9 spring 0 frost 0;person cups 1;person cups 1;");
        for (int m = 0; m < 8; m++) {
            Check.due("chain() of " + m, Check.told(b.toString()).chain(), m);
            b.append("matter 0 gains 1 1 gains 1").append(m == 0 ? ";" : " on " + (m - 1) + ";");
        }
        SecondWell w = Check.told(b.toString());
        Check.due("chain() of eight", w.chain(), 8);
        Check.due("rests(7)", w.rests(7), 127);
        Check.due("bears(0)", w.bears(0), 254);
        Check.due("heaviest()", w.heaviest(), 0);
        Check.due("chain() of eight on nothing", Check.told(Towns.JUGS).chain(), 1);
        Check.due("chain(), the longest of several", Check.told(Towns.BIG).chain(), 4);
        // On two, of which the one has the longer row.
        String m = "0 gains 1 1 gains 1";
        Check.due("chain()", Check.told(Towns.ofTwo(0, m, m + " on 0", m, m + " on 2 1")).chain(), 3);
        Check.due("chain()", Check.told(Towns.ofTwo(0, m, m + " on 0", m + " on 1", m, m + " on 3", m + " on 4 2"))
                .chain(), 4);
    }

    private static void heaviest() {
        String m = "0 gains 1 1 gains 1";
        Check.due("none on any", Check.told(Towns.JUGS).heaviest(), 0);
        Check.due("one on 1", Check.told(Towns.ofTwo(0, m, m, m + " on 1")).heaviest(), 1);
        Check.due("one on 0, one on 1", Check.told(Towns.ofTwo(0, m, m, m + " on 1", m + " on 0")).heaviest(), 0);
        Check.due("two on 1", Check.told(Towns.ofTwo(0, m, m, m + " on 1", m + " on 0", m + " on 1")).heaviest(), 1);
        Check.due("at whatever depth", Check.told(Towns.ofTwo(0, m, m, m + " on 0", m + " on 0", m + " on 1", m + " on 4",
                m + " on 5")).heaviest(), 1);
        Check.due("0 and 3 alike", Check.told(Towns.BIG).heaviest(), 0);
    }

    private static void kept() {
        SecondWell w = Check.told(Towns.BIG);
        Check.due("keep(0)", w.keep(0), 0);
        int[] want = {1, 3, 7, 0, 16, 16, 64, 255 - 8 - 32};
        for (int m = 0; m < 8; m++) {
            Check.due("keep of " + m, w.keep(1 << m), want[m]);
        }
        Check.due("keep of 1 and 4", w.keep(18), 19);
        w.mark(4, 0, 1);
        Check.due("keep of 5, all are dry", w.keep(32), 0);
        w.mark(3, 0, 0);
        Check.due("keep of 5, 3 is not", w.keep(32), 8);
        w.mark(5, 0, 0);
        Check.due("keep of 5, nor is it", w.keep(32), 40);
        // What is settled, cups and level count for nothing.
        Check.take(w, 0);
        Check.due("keep of 1", w.keep(2), 3);
        Check.due("keep of 2 without water", Check.told(Towns.ofTwo(0, "0 gains 1 1 gains 1")).keep(1), 1);
    }

    private static void firmBySwing() {
        for (int swing = -1; swing <= 1; swing++) {
            String own = swing < 0 ? "gains 1" : "loses " + swing;
            SecondWell w = Check.told(Towns.ofTwo(1, "0 " + own + " 1 gains 0"));
            Check.due("firm(1), SWING " + swing, w.firm(1), swing > 0 ? 0 : 1);
            Check.due("firms(), SWING " + swing, w.firms(), swing > 0 ? 1 : 2);
            Check.due("weak(1), SWING " + swing, w.weak(1), swing > 0 ? 0 : -1);
            w = Check.told(Towns.ofTwo(1, "0 gains 0 1 " + own));
            Check.due("firm(1), the other's SWING " + swing, w.firm(1), swing > 0 ? 0 : 1);
        }
        // By any MATTER of the set, LAST or not; by all that fall in the set alone.
        SecondWell w = Check.told(Towns.ofTwo(1, "0 loses 1 1 gains 0", "0 gains 1 1 gains 0 on 0",
                "0 gains 9 1 gains 0"));
        Check.row("firm", w::firm, 1, 0, 0, 1, 1, 0, 0, 1);
    }

    private static void firmAgreed() {
        Check.due("it agrees at 0", Check.told(Towns.ofTwo(1, "0 loses 1 1 gains 0")).firm(1), 0);
        Check.due("not below 0", Check.told(Towns.ofTwo(1, "0 loses 1 1 gains 1")).firm(1), 1);
        Check.due("by a jug", Check.told(Towns.ofTwo(1, "0 loses 1 1 gains 1 jug")).firm(1), 0);
        String stubborn = "well level 1 spring 0 frost 0;person cups 1;person cups 0 stubborn;matter 0 loses 1 1 gains 0";
        Check.due("not if it is stubborn", Check.told(stubborn + ";").firm(1), 1);
        Check.due("but by a jug", Check.told(stubborn + " jug;").firm(1), 0);
        SecondWell w = Check.told(Towns.ofThree("0 loses 1 1 gains 1", "1 loses 1 2 gains 1 on 0"));
        Check.due("firm(1)", w.firm(1), 1);
        Check.due("firm(3), by all that fall", w.firm(3), 0);
    }

    private static void firmOfEachPair() {
        for (int k = 0; k < 8; k++) {
            for (int a = 0; a < 6; a++) {
                for (int b = 0; b < 6; b++) {
                    if (a != b) {
                        pairDue(k, a, b);
                    }
                }
            }
        }
    }

    private static void pairDue(int k, int a, int b) {
        String pair = "MATTER " + k + " of " + a + " and " + b + ": ";
        SecondWell w = Check.told(Towns.ofPair(k, 9, a + " loses 1 " + b + " gains 0"));
        Check.due(pair + "firm", w.firm(1 << k), 0);
        Check.due(pair + "weak", w.weak(1 << k), k);
        Check.due(pair + "stands", w.stands(1 << k), 0);
        w = Check.told(Towns.ofPair(k, b, a + " loses 1 " + b + " gains 0"));
        Check.due(pair + "firm, the second stubborn", w.firm(1 << k), 1);
        Check.due(pair + "stands, the second stubborn", w.stands(1 << k), 1);
        w = Check.told(Towns.ofPair(k, a, a + " loses 1 " + b + " gains 0"));
        Check.due(pair + "firm, the first stubborn", w.firm(1 << k), 0);
        Check.due(pair + "stands, the first stubborn", w.stands(1 << k), 0);
        w = Check.told(Towns.ofPair(k, 9, a + " gains 1 " + b + " loses 1"));
        Check.due(pair + "firm, the first gains", w.firm(1 << k), 1);
        Check.due(pair + "weak, the first gains", w.weak(1 << k), -1);
        Check.due(pair + "stands, the first gains", w.stands(1 << k), 1);
        Check.due(pair + "votes", w.votes(1 << k, 0), 1 << a);
        Check.due(pair + "votes", w.votes(0, 1 << k), 1 << b);
    }

    private static void firmDry() {
        SecondWell w = Check.told(Towns.ofTwo(1, "0 loses 1 1 gains 0"));
        Check.due("firm(1)", w.firm(1), 0);
        w.mark(0, 0, 1);
        Check.due("firm(1), dry", w.firm(1), 1);
        Check.due("weak(1), dry", w.weak(1), -1);
        w.mark(0, 0, 0);
        Check.due("firm(1), not", w.firm(1), 0);
        w = Check.told(Towns.ofTwo(1, "0 gains 1 1 gains 0", "0 loses 9 1 gains 0 on 0 dry"));
        Check.due("firm(3), it falls with another one", w.firm(3), 0);
        Check.due("weak(3)", w.weak(3), 0);
        Check.due("firm(2), not closed", w.firm(2), 0);
        Check.due("weak(2), not closed", w.weak(2), -1);
    }

    // Cups and level count for nothing here, nor does what was drunk back.
    private static void firmWithoutCups() {
        SecondWell w = Check.told("well level 0 spring 0 frost 0;person cups 0;person cups 0;matter 0 loses 1 1 gains 0;");
        Check.due("firm(1)", w.firm(1), 0);
        Check.due("stands(1)", w.stands(1), 1);
        w = Check.told(Towns.ofTwo(1, "0 loses 1 1 gains 0"));
        Check.take(w, 0, 10, 0);
        Check.due("firm(1), drunk back", w.firm(1), 0);
        Check.due("weak(1), drunk back", w.weak(1), 0);
    }

    private static void firmestOfSeveral() {
        Check.due("a SUM of 0 is none more", Check.told(Towns.ofTwo(0, "0 gains 0 1 gains 0")).firmest(), 0);
        Check.due("a SUM of 1", Check.told(Towns.ofTwo(0, "0 gains 1 1 gains 0")).firmest(), 1);
        Check.due("a SUM of -1", Check.told(Towns.ofTwo(0, "0 loses 2 1 gains 1")).firmest(), 0);
        Check.due("of like ones the least", Check.told(Towns.ofTwo(0, "0 gains 0 1 gains 0", "0 gains 2 1 gains 2",
                "0 loses 1 1 gains 1")).firmest(), 2);
        Check.due("of firm ones alone", Check.told(Towns.ofTwo(0, "0 gains 1 1 gains 1", "0 gains 9 1 loses 1 jug"))
                .firmest(), 1);
        Check.due("all of eight", Check.told(Towns.JUGS).firmest(), 255);
        Check.due("firms(), all", Check.told(Towns.JUGS).firms(), 256);
    }

    private static void sums() {
        SecondWell w = Check.told(Towns.BIG);
        for (int p = 0; p < 6; p++) {
            Check.due("sum(" + p + ", 0)", w.sum(p, 0), 0);
            for (int m = 0; m < 8; m++) {
                int side = w.matter(m, 0) == p ? 0 : w.matter(m, 1) == p ? 1 : -1;
                Check.due("sum(" + p + ", of " + m + ")", w.sum(p, 1 << m), side < 0 ? 0 : w.matter(m, 2 + side));
            }
        }
        Check.row("sum(.., 255)", p -> w.sum(p, 255), 100, -98, 12, -3, 3, 3);
        Check.each("sum(.., 0)", p -> w.sum(p, 0), -1000, Check.beyond(6));
        Check.each("sum(.., 255)", p -> w.sum(p, 255), -1000, Check.beyond(6));
        Check.each("sum(.., 256)", p -> w.sum(p, 256), -1000, 0, 5, 6, -1);
        Check.each("sum of nobody", p -> Check.told("well level 1 spring 1 frost 1;").sum(p, 0), -1000, 0, -1);
        SecondWell all = Check.told("well level 1 spring 1 frost 1;person cups 1;person cups 1;"
                + "matter 0 gains 99 1 loses 99;".repeat(8));
        Check.due("sum, the most", all.sum(0, 255), 792);
        Check.due("sum, the least", all.sum(1, 255), -792);
    }

    private static void weakOfSeveral() {
        SecondWell w = Check.told(Towns.ofTwo(0, "0 loses 2 1 gains 0", "0 gains 0 1 loses 3", "0 loses 3 1 gains 0",
                "0 loses 9 1 gains 1", "0 loses 9 1 gains 0 dry"));
        Check.due("the most", w.weak(1 + 4), 2);
        Check.due("of like ones the least", w.weak(1 + 2 + 4), 1);
        Check.due("of like ones the least", w.weak(2 + 4), 1);
        Check.due("one alone", w.weak(1), 0);
        Check.due("what is not agreed", w.weak(1 + 8), 0);
        Check.due("not agreed alone", w.weak(8), -1);
        Check.due("what is dry", w.weak(1 + 16), 0);
        Check.due("dry alone", w.weak(16), -1);
        Check.due("nothing", w.weak(0), -1);
        Check.due("all", w.weak(31), 1);
        SecondWell eight = Check.told("well level 1 spring 1 frost 1;person cups 1;person cups 1;"
                + "matter 0 gains 0 1 gains 0;".repeat(7) + "matter 0 gains 0 1 loses 1;");
        Check.due("the last of eight", eight.weak(255), 7);
        Check.due("without it", eight.weak(127), -1);
    }

    private static void weakByTheWholeFall() {
        SecondWell w = Check.told(Towns.ofThree("0 gains 1 1 gains 0", "0 loses 3 2 gains 0 on 0",
                "0 loses 2 1 gains 0"));
        Check.due("1 by 3, 0 by 2, 2 by 2", w.weak(7), 1);
        Check.due("0 and 2 by 2", w.weak(5), 2);
        w.price(0, 0, -1);
        Check.due("0 by 4", w.weak(7), 0);
    }

    private static void votes() {
        SecondWell w = Check.told(Towns.ofThree("0 gains 1 1 loses 1", "0 gains 1 2 gains 0", "0 gains 2 2 gains 1"));
        Check.due("votes(1, 0)", w.votes(1, 0), 1);
        Check.due("votes(0, 1)", w.votes(0, 1), 2);
        Check.due("votes(1, 2), like SUMS", w.votes(1, 2), 0);
        Check.due("votes(2, 1)", w.votes(2, 1), 2);
        Check.due("votes(4, 2)", w.votes(4, 2), 5);
        Check.due("votes(7, 7)", w.votes(7, 7), 0);
        Check.due("votes(3, 4), like SUMS of the first", w.votes(3, 4), 0);
        Check.due("votes(4, 3)", w.votes(4, 3), 6);
        SecondWell one = Check.told(Towns.ofThree("0 gains 1 1 gains 1 ", "0 gains 1 1 gains 1 on 0"));
        Check.due("votes for what is not closed", one.votes(2, 0), 3);
    }

    private static void elected() {
        // As many for as against: both are elected, so the least is.
        Check.due("as many", Check.told(Towns.ofTwo(0, "0 gains 1 1 loses 1 dry")).elected(), 0);
        Check.due("one more", Check.told(Towns.ofThree("0 gains 1 1 gains 1")).elected(), 1);
        Check.due("one fewer", Check.told(Towns.ofThree("0 loses 1 1 gains 0 dry")).elected(), 0);
        Check.due("nobody votes", Check.told(Towns.ofThree("0 gains 0 1 gains 0")).elected(), 0);
        Check.due("all of eight", Check.told(Towns.JUGS).elected(), 255);
        // Three sets that beat one another in a round, and each beats nothing: none.
        Check.due("in a round", Check.told(Towns.ofThree("2 loses 2 1 gains 1 dry", "0 gains 2 2 loses 4 dry",
                "1 loses 2 0 gains 3 dry")).elected(), -1);
        SecondWell w = Check.told(Towns.ofThree("0 gains 1 1 gains 1", "0 gains 9 2 loses 1 jug"));
        Check.due("firm(2), which most would vote for", w.firm(2), 0);
        Check.due("of firm ones alone", w.elected(), 1);
    }

    private static void asAhead() {
        SecondWell asked = moved();
        for (int set = -1; set <= 16; set += 4) {
            asked.stands(set);
            asked.stood(set, 0);
            asked.closed(set);
            asked.keep(set);
            asked.firm(set);
            asked.weak(set);
            asked.votes(set, 3);
            asked.sum(0, set);
        }
        asked.best();
        asked.sets();
        asked.rests(1);
        asked.bears(1);
        asked.chain();
        asked.heaviest();
        asked.firms();
        asked.firmest();
        asked.elected();
        Picture.same("behind questions", asked, moved());
    }

    private static SecondWell moved() {
        SecondWell w = Check.told(TownTest.TOWN);
        w.image(0);
        Check.take(w, 0, 2, 20);
        Check.put(w, 1, 1, 0, 1);
        return w;
    }
}
