/** What each call answers while there is no TOWN, in whatever way it came to that. */
public final class NoTownTest {
    private static final String TOWN = TownTest.TOWN;

    public static void main(String[] args) {
        ofNew();
        ofNothingTold();
        ofBlanksTold();
        ofAnImage();
        ofAFault();
        ofRefused();
        Check.finish("NoTownTest");
    }

    // Promise 1.
    private static void ofNew() {
        SecondWell w = new SecondWell();
        for (int what = 0; what < 8; what++) {
            Check.due("count(" + what + ")", w.count(what), 0);
        }
        for (int k = 0; k < 3; k++) {
            Check.due("back(" + k + ")", w.back(k), -6);
        }
        for (int slot = 0; slot < 4; slot++) {
            Check.due("write to nothing", w.write(slot, 0, 0), -6);
            Check.due("paste of nothing", w.paste(slot, 0, slot, 0, 0), -6);
        }
        noneDue(w, "new");
    }

    private static void ofNothingTold() {
        SecondWell w = Check.told(TOWN);
        Check.take(w, 0, 20);
        Check.due("town() of nothing", w.town(), 0);
        noneDue(w, "nothing told");
    }

    private static void ofBlanksTold() {
        SecondWell w = Check.told(TOWN);
        Check.take(w, 0, 20);
        Check.feed(w, " \n  \n");
        Check.due("town() of blanks", w.town(), 0);
        Check.due("fault(0)", w.fault(0), 0);
        Check.due("fault(1)", w.fault(1), -1);
        noneDue(w, "blanks told");
    }

    private static void ofAnImage() {
        SecondWell w = new SecondWell();
        Check.due("image(0)", w.image(0), 0);
        Check.feed(w, TOWN);
        w.town();
        Check.take(w, 0, 20);
        Check.due("back(0)", w.back(0), 0);
        noneDue(w, "an IMAGE of nothing");
    }

    private static void ofAFault() {
        SecondWell w = new SecondWell();
        Check.feed(w, TOWN + "!");
        Check.due("town()", w.town(), -4);
        noneDue(w, "a FAULT ahead of any");
    }

    // Nothing comes of ACTS that are refused for want of a TOWN.
    private static void ofRefused() {
        SecondWell w = new SecondWell();
        Check.due("settle(0)", w.settle(0), -2);
        Check.due("drink(0)", w.drink(0), -2);
        Check.due("day()", w.day(), -2);
        Check.due("undo()", w.undo(), -2);
        Check.due("anew()", w.anew(), -2);
        Check.due("price(0, 0, 5)", w.price(0, 0, 5), -1000);
        Check.due("mark(0, 0, 1)", w.mark(0, 0, 1), -2);
        Picture.same("refused without a TOWN", w, new SecondWell());
        SecondWell later = new SecondWell();
        later.day();
        Check.feed(later, TOWN);
        Check.due("town()", later.town(), 8);
        Check.due("ACTS", later.count(6), 0);
        Check.due("level()", later.level(), 3);
    }

    private static void noneDue(SecondWell w, String how) {
        for (int what = 0; what < 5; what++) {
            Check.due(how + ": count(" + what + ")", w.count(what), 0);
        }
        Check.due(how + ": count(6)", w.count(6), 0);
        Check.due(how + ": level()", w.level(), -2);
        Check.due(how + ": settled()", w.settled(), -2);
        Check.due(how + ": open()", w.open(), -2);
        Check.due(how + ": wishes()", w.wishes(), -2);
        Check.due(how + ": day()", w.day(), -2);
        Check.due(how + ": undo()", w.undo(), -2);
        Check.due(how + ": anew()", w.anew(), -2);
        Check.due(how + ": course()", w.course(), -2);
        Check.due(how + ": ends()", w.ends(), -2);
        Check.due(how + ": sips()", w.sips(), -2);
        Check.due(how + ": best()", w.best(), -2);
        Check.due(how + ": sets()", w.sets(), -2);
        Check.due(how + ": chain()", w.chain(), -2);
        Check.due(how + ": heaviest()", w.heaviest(), -2);
        Check.due(how + ": firms()", w.firms(), -2);
        Check.due(how + ": firmest()", w.firmest(), -2);
        Check.due(how + ": elected()", w.elected(), -2);
        Check.due(how + ": ask()", w.ask(), -2);
        Check.due(how + ": leaves()", w.leaves(), -2);
        Check.due(how + ": yields()", w.yields(), -2);
        Check.due(how + ": cups()", w.cups(), -2);
        for (int n : new int[] {-1, 0, 1}) {
            ofOneDue(w, how, n);
        }
        ofMoreDue(w, how);
    }

    private static void ofOneDue(SecondWell w, String how, int n) {
        String with = how + ", with " + n + ": ";
        Check.due(with + "order", w.order(n), -2);
        Check.due(with + "last", w.last(n), -2);
        Check.due(with + "fall", w.fall(n), -2);
        Check.due(with + "why", w.why(n), -2);
        Check.due(with + "settle", w.settle(n), -2);
        Check.due(with + "drink", w.drink(n), -2);
        Check.due(with + "act", w.act(n), -2);
        Check.due(with + "step", w.step(n), -2);
        Check.due(with + "brings", w.brings(n), -1000);
        Check.due(with + "stands", w.stands(n), -2);
        Check.due(with + "stood", w.stood(n, 0), -2);
        Check.due(with + "closed", w.closed(n), -2);
        Check.due(with + "rests", w.rests(n), -2);
        Check.due(with + "bears", w.bears(n), -2);
        Check.due(with + "thirst", w.thirst(n), -2);
        Check.due(with + "dregs", w.dregs(n), -2);
        Check.due(with + "keep", w.keep(n), -2);
        Check.due(with + "firm", w.firm(n), -2);
        Check.due(with + "weak", w.weak(n), -2);
        Check.due(with + "who", w.who(n), -2);
        Check.due(with + "lasts", w.lasts(n), -2);
        Check.due(with + "judge", w.judge(n), -2);
        Check.due(with + "held", w.held(n), -2);
    }

    private static void ofMoreDue(SecondWell w, String how) {
        Check.due(how + ": person(0, 0)", w.person(0, 0), -1000);
        Check.due(how + ": matter(0, 0)", w.matter(0, 0), -1000);
        Check.due(how + ": swing(0, 0)", w.swing(0, 0), -1000);
        Check.due(how + ": sum(0, 0)", w.sum(0, 0), -1000);
        Check.due(how + ": votes(0, 0)", w.votes(0, 0), -2);
        Check.due(how + ": game(0, 1, 0)", w.game(0, 1, 0), -1000);
        Check.due(how + ": move(0, 1, 0)", w.move(0, 1, 0), -2);
        Check.due(how + ": move(0, 1, 1)", w.move(0, 1, 1), -2);
        Check.due(how + ": sipped(0, 0)", w.sipped(0, 0), -2);
        Check.due(how + ": drawn(0, 0, 0)", w.drawn(0, 0, 0), -2);
        Check.due(how + ": luck(0, 1, 0, 0)", w.luck(0, 1, 0, 0), -2);
        Check.due(how + ": price(0, 0, 0)", w.price(0, 0, 0), -1000);
        Check.due(how + ": mark(0, 0, 0)", w.mark(0, 0, 0), -2);
        // -2 is asked ahead of -6, and for a row of ACTS too.
        Check.due(how + ": when(3, 0, 0)", w.when(3, 0, 0), -2);
        Check.due(how + ": differs(3, 3)", w.differs(3, 3), -2);
        Check.put(w, 2, 0, 20, 20);
        Check.due(how + ": judge(2)", w.judge(2), -2);
        Check.due(how + ": held(2)", w.held(2), -2);
        Check.due(how + ": when(2, 0, 0)", w.when(2, 0, 0), -2);
        Check.due(how + ": differs(2, 2)", w.differs(2, 2), -2);
    }
}
