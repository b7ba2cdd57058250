import java.util.ArrayList;
import java.util.List;

/**
 * All that can be seen of an object's state. Where a call must change nothing, an object that was asked it
 * and one that was not answer alike. One picture takes some 300 calls, of the 512 that an object has, and
 * uses the object up: its TOWN is another one then.
 */
final class Picture {
    private final List<String> calls = new ArrayList<>();
    private final List<Integer> answers = new ArrayList<>();

    private Picture(SecondWell w) {
        told(w);
        for (int slot = 0; slot < 4; slot++) {
            row(w, slot);
        }
        tape(w);
        for (int k = 0; k < 3; k++) {
            note("back(" + k + ")", w.back(k));
            image(w, k);
        }
    }

    static void same(String what, SecondWell got, SecondWell want) {
        Picture a = new Picture(got);
        Picture b = new Picture(want);
        for (int i = 0; i < a.answers.size(); i++) {
            Check.due(what + ": " + a.calls.get(i), a.answers.get(i), b.answers.get(i));
        }
    }

    private void note(String call, int answer) {
        calls.add(call);
        answers.add(answer);
    }

    private void told(SecondWell w) {
        for (int what = 0; what < 8; what++) {
            note("count(" + what + ")", w.count(what));
        }
        note("fault(0)", w.fault(0));
        note("fault(1)", w.fault(1));
        int people = w.count(0);
        for (int p = 0; p < people; p++) {
            for (int what = 0; what < 4; what++) {
                note("person(" + p + ", " + what + ")", w.person(p, what));
            }
        }
        int matters = w.count(1);
        for (int p = 0; p < people; p++) {
            note("sum(" + p + ", all)", w.sum(p, (1 << matters) - 1));
        }
        for (int m = 0; m < matters; m++) {
            for (int what = 0; what < 9; what++) {
                note("matter(" + m + ", " + what + ")", w.matter(m, what));
            }
        }
        note("level()", w.level());
        for (int i = 0; i < 9; i++) {
            note("order(" + i + ")", w.order(i));
        }
        int acts = w.count(6);
        for (int i = 0; i < acts; i++) {
            note("act(" + i + ")", w.act(i));
        }
    }

    private void row(SecondWell w, int slot) {
        note("judge(" + slot + ")", w.judge(slot));
        note("held(" + slot + ")", w.held(slot));
        for (int m = 0; m < 2; m++) {
            for (int n = 0; n < 5; n++) {
                note("when(" + slot + ", " + m + ", " + n + ")", w.when(slot, m, n));
            }
        }
        // That tells whether its WIDTH is SLOT 0's; pasting a row on itself, how long it is.
        note("paste(" + slot + ", 0, 0, 0, 0)", w.paste(slot, 0, 0, 0, 0));
        for (int n : new int[] {1, 2, 5, 60}) {
            note("paste of " + n, w.paste(slot, 0, slot, 0, n));
        }
    }

    // What is on the TAPE shows by what town() reads, and by nothing else.
    private void tape(SecondWell w) {
        note("town()", w.town());
        note("fault(0) of the TAPE", w.fault(0));
        note("fault(1) of the TAPE", w.fault(1));
        note("level() of the TAPE", w.level());
    }

    private void image(SecondWell w, int k) {
        String of = " of IMAGE " + k;
        for (int what = 0; what < 7; what++) {
            note("count(" + what + ")" + of, w.count(what));
        }
        note("level()" + of, w.level());
        note("settled()" + of, w.settled());
        note("cups()" + of, w.cups());
        note("act(0)" + of, w.act(0));
        note("act of the latest" + of, w.act(w.count(6) - 1));
        note("sum(0, 1)" + of, w.sum(0, 1));
        note("matter(0, 5)" + of, w.matter(0, 5));
        note("matter(0, 6)" + of, w.matter(0, 6));
    }
}
