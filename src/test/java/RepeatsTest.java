import java.util.LinkedHashMap;
import java.util.Map;
import java.util.function.ToIntFunction;

/** A question's answer goes by the state alone: not by what was asked ahead of it, nor by how often. */
public final class RepeatsTest {
    private static final Map<String, ToIntFunction<SecondWell>> QUESTIONS = new LinkedHashMap<>();

    public static void main(String[] args) {
        fill();
        int[][] states = {{}, {0}, {0, 2}, {0, 1, 2}, {3, 0, 2, 10, 20}, {0, 2, 10, 2, 1}, {0, 1, 2, 10, 20, 3}};
        for (int[] acts : states) {
            askedAgain(acts);
        }
        for (int i = 0; i < states.length; i++) {
            askedAhead(states[i], states[(i + 3) % states.length]);
        }
        Check.finish("RepeatsTest");
    }

    private static void fill() {
        QUESTIONS.put("level", SecondWell::level);
        QUESTIONS.put("settled", SecondWell::settled);
        QUESTIONS.put("order(1)", w -> w.order(1));
        QUESTIONS.put("open", SecondWell::open);
        QUESTIONS.put("last(1)", w -> w.last(1));
        QUESTIONS.put("fall(0)", w -> w.fall(0));
        QUESTIONS.put("swing(1, 0)", w -> w.swing(1, 0));
        QUESTIONS.put("why(0)", w -> w.why(0));
        QUESTIONS.put("wishes", SecondWell::wishes);
        QUESTIONS.put("act(1)", w -> w.act(1));
        QUESTIONS.put("ends", SecondWell::ends);
        QUESTIONS.put("sips", SecondWell::sips);
        QUESTIONS.put("step(0)", w -> w.step(0));
        QUESTIONS.put("step(1)", w -> w.step(1));
        QUESTIONS.put("brings(1)", w -> w.brings(1));
        QUESTIONS.put("course", SecondWell::course);
        for (int set = 1; set < 16; set += 2) {
            int asked = set;
            QUESTIONS.put("stands(" + set + ")", w -> w.stands(asked));
            QUESTIONS.put("stood(" + set + ", 1)", w -> w.stood(asked, 1));
            QUESTIONS.put("firm(" + set + ")", w -> w.firm(asked));
            QUESTIONS.put("weak(" + set + ")", w -> w.weak(asked));
            QUESTIONS.put("who(" + set + ")", w -> w.who(asked));
            QUESTIONS.put("sipped(" + set + ", 2)", w -> w.sipped(asked, 2));
        }
        QUESTIONS.put("elected", SecondWell::elected);
        QUESTIONS.put("firmest", SecondWell::firmest);
        QUESTIONS.put("firms", SecondWell::firms);
        QUESTIONS.put("best", SecondWell::best);
        QUESTIONS.put("sets", SecondWell::sets);
        QUESTIONS.put("chain", SecondWell::chain);
        QUESTIONS.put("heaviest", SecondWell::heaviest);
        QUESTIONS.put("rests(2)", w -> w.rests(2));
        QUESTIONS.put("bears(0)", w -> w.bears(0));
        QUESTIONS.put("keep(6)", w -> w.keep(6));
        QUESTIONS.put("votes(3, 1)", w -> w.votes(3, 1));
        QUESTIONS.put("sum(2, 6)", w -> w.sum(2, 6));
        fillMore();
    }

    private static void fillMore() {
        QUESTIONS.put("dregs(0)", w -> w.dregs(0));
        QUESTIONS.put("thirst(0)", w -> w.thirst(0));
        QUESTIONS.put("thirst(1)", w -> w.thirst(1));
        for (int n = 0; n <= 4; n++) {
            int asked = n;
            QUESTIONS.put("move(0, 2, " + n + ")", w -> w.move(0, 2, asked));
            QUESTIONS.put("game(0, 2, " + n + ")", w -> w.game(0, 2, asked));
            QUESTIONS.put("drawn(5, 9, " + n + ")", w -> w.drawn(5, 9, asked));
            QUESTIONS.put("luck(5, 9, 9, " + n + ")", w -> w.luck(5, 9, 9, asked));
            QUESTIONS.put("lasts(" + n + ")", w -> w.lasts(asked));
            QUESTIONS.put("judge(" + n + ")", w -> w.judge(asked));
            QUESTIONS.put("held(" + n + ")", w -> w.held(asked));
            QUESTIONS.put("when(0, 2, " + n + ")", w -> w.when(0, 2, asked));
            QUESTIONS.put("differs(0, " + n + ")", w -> w.differs(0, asked));
        }
        QUESTIONS.put("leaves", SecondWell::leaves);
        QUESTIONS.put("ask", SecondWell::ask);
        QUESTIONS.put("yields", SecondWell::yields);
        QUESTIONS.put("cups", SecondWell::cups);
        QUESTIONS.put("fault(1)", w -> w.fault(1));
    }

    private static SecondWell moved(int... acts) {
        SecondWell w = Check.told(TownTest.TOWN);
        Check.put(w, 0, 0, 0, 2, 10, 20);
        Check.put(w, 1, 0, 0, 2, 1);
        Check.take(w, acts);
        return w;
    }

    // Alone of a new object; twice; each behind all others, and behind all that came behind it.
    private static void askedAgain(int... acts) {
        Map<String, Integer> alone = new LinkedHashMap<>();
        for (Map.Entry<String, ToIntFunction<SecondWell>> q : QUESTIONS.entrySet()) {
            SecondWell w = moved(acts);
            int answer = q.getValue().applyAsInt(w);
            Check.due(q.getKey() + " twice", q.getValue().applyAsInt(w), answer);
            alone.put(q.getKey(), answer);
        }
        String[] names = QUESTIONS.keySet().toArray(new String[0]);
        SecondWell w = moved(acts);
        for (int i = 0; i < 2 * names.length; i++) {
            String name = names[i < names.length ? i : 2 * names.length - 1 - i];
            Check.due(name + " behind others", QUESTIONS.get(name).applyAsInt(w), alone.get(name));
        }
    }

    // In another state first: nothing of that is left in the answer.
    private static void askedAhead(int[] first, int[] second) {
        for (Map.Entry<String, ToIntFunction<SecondWell>> q : QUESTIONS.entrySet()) {
            SecondWell w = moved(first);
            q.getValue().applyAsInt(w);
            w.anew();
            Check.take(w, second);
            Check.due(q.getKey() + " in another state", q.getValue().applyAsInt(w), q.getValue().applyAsInt(moved(second)));
        }
    }
}
