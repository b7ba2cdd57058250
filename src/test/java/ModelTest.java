import java.lang.reflect.Method;
import java.nio.charset.StandardCharsets;
import java.util.ArrayList;
import java.util.HashMap;
import java.util.List;
import java.util.Map;
import java.util.Random;

/** Runs of calls at random, on the class and on the model: each answer must be the same. */
public final class ModelTest {
    // What each call takes: p a person, m a matter, s a set, i a place, w a what, t a slot, g turns,
    // d a seed, y days, l a level, r years, q a price, b a bit, k an image, h a width, c a length, v a number.
    private static final String[] CALLS = {
        "fault w", "person pw", "matter mw", "level ", "settled ", "order i", "open ", "last p", "fall m",
        "swing pm", "why p", "wishes ", "course ", "step i", "ends ", "sips ", "brings p", "stands s",
        "stood si", "closed s", "sets ", "rests m", "bears m", "chain ", "heaviest ", "thirst p", "dregs p",
        "keep s", "firm s", "firms ", "firmest ", "sum ps", "weak s", "votes ss", "elected ", "game ppg",
        "move ppg", "who s", "sipped sg", "ask ", "leaves ", "judge t", "held t", "when tmi", "differs tt",
        "lasts l", "yields ", "cups ", "drawn dyw", "luck dryM", "act i", "count w", "best ",
    };
    private static final String[] ACTS = {
        "settle m", "settle m", "settle m", "settle m", "settle m", "drink p", "drink p", "day ", "undo ",
    };
    private static final String[] CHANGES = {
        "anew ", "price mbq", "mark mbb", "image k", "back k", "row thc", "write tiv", "write tiv", "write tiv",
        "write tiv", "paste titii", "end l", "undo ",
    };

    private final Random dice;
    private final StringBuilder log = new StringBuilder();
    private final SecondWell well = new SecondWell();
    private final ModelWell model = new ModelWell();
    private final Map<String, Method> ofWell = new HashMap<>();
    private final Map<String, Method> ofModel = new HashMap<>();
    private int people;
    private int matters;

    private ModelTest(long seed) {
        dice = new Random(seed);
        for (Method m : SecondWell.class.getDeclaredMethods()) {
            ofWell.put(m.getName(), m);
        }
        for (Method m : ModelWell.class.getDeclaredMethods()) {
            if (java.lang.reflect.Modifier.isPublic(m.getModifiers())) {
                ofModel.put(m.getName(), m);
            }
        }
    }

    public static void main(String[] args) throws Exception {
        int runs = args.length > 0 ? Integer.parseInt(args[0]) : 400;
        for (int seed = 0; seed < runs && Check.wrongs() < 5; seed++) {
            new ModelTest(seed).runTown(seed);
        }
        for (int seed = 0; seed < 2 * runs && Check.wrongs() < 5; seed++) {
            new ModelTest(1000000 + seed).runTexts();
        }
        Check.finish("ModelTest");
    }

    private int below(int n) {
        return dice.nextInt(n);
    }

    private String townText(boolean small) {
        people = below(12) == 0 ? below(2) : 2 + below(5);
        matters = people < 2 || below(15) == 0 ? 0 : 1 + below(small ? 5 : 8);
        StringBuilder b = new StringBuilder();
        int level = below(3) == 0 ? below(3) : below(100);
        b.append("well level ").append(level).append(" spring ").append(below(10)).append(" frost ")
                .append(below(3) == 0 ? below(101) : below(20)).append(';');
        for (int p = 0; p < people; p++) {
            b.append(below(2) == 0 ? " " : "\n").append("person cups ").append(below(10));
            b.append(below(6) == 0 ? " stubborn ;" : ";");
        }
        for (int m = 0; m < matters; m++) {
            int first = below(people);
            int second = (first + 1 + below(people - 1)) % people;
            b.append("matter ").append(first).append(gain()).append(second).append(gain());
            b.append(marksText(m)).append(';');
        }
        return b.toString();
    }

    private String gain() {
        return (below(5) < 2 ? " loses " : " gains ") + (below(3) == 0 ? below(100) : below(7)) + " ";
    }

    private String marksText(int m) {
        List<String> marks = new ArrayList<>();
        if (m > 0 && below(2) == 0) {
            StringBuilder on = new StringBuilder("on");
            for (int i = below(3); i >= 0; i--) {
                on.append(' ').append(below(m));
            }
            marks.add(on.toString());
        }
        if (below(6) == 0) {
            marks.add(below(marks.size() + 1), "dry");
        }
        if (below(3) == 0) {
            marks.add(below(marks.size() + 1), "jug");
        }
        return String.join(" ", marks);
    }

    /** Tells both a text; what is fed and answered is compared. */
    private void tell(String text) {
        byte[] bytes = text.getBytes(StandardCharsets.ISO_8859_1);
        int had = well.count(5);
        for (int at = 0; at < bytes.length; at += 20) {
            int a = Check.four(bytes, at);
            int b = Check.four(bytes, at + 4);
            int c = Check.four(bytes, at + 8);
            int d = Check.four(bytes, at + 12);
            int e = Check.four(bytes, at + 16);
            due("feed", well.feed(a, b, c, d, e), model.feed(a, b, c, d, e));
        }
        due("end", well.end(had + bytes.length), model.end(had + bytes.length));
        log.append("tell '").append(text).append("'\n");
        due("town()", well.town(), model.town());
        due("fault(0)", well.fault(0), model.fault(0));
        due("fault(1)", well.fault(1), model.fault(1));
    }

    private void due(String call, long got, long want) {
        if (got != want) {
            System.out.println("behind:\n" + log);
        }
        Check.due(call, got, want);
    }

    private void runTown(long seed) throws Exception {
        if (below(4) == 0) {
            askAll();
        }
        tell(townText(seed % 16 != 0));
        int calls = 0;
        while (calls < 8 && Check.wrongs() == 0) {
            for (int i = below(4 + 2 * matters); i >= 0; i--) {
                ask(ACTS[below(ACTS.length)]);
            }
            if (below(2) == 0) {
                ask(CHANGES[below(CHANGES.length)]);
            }
            if (below(4) == 0) {
                makeMinutes(below(4));
            }
            askAll();
            if (below(20) == 0) {
                tell(townText(true));
            }
            calls++;
        }
    }

    private void askAll() throws Exception {
        int many = matters > 6 ? 12 : 25;
        for (int i = 0; i < many && Check.wrongs() == 0; i++) {
            ask(CALLS[below(CALLS.length)]);
        }
        for (int i = 0; i < 3; i++) {
            ask(CHANGES[below(CHANGES.length)]);
        }
    }

    /** Two rows of ACTS of one beginning, many of which can be. */
    private void makeMinutes(int slot) throws Exception {
        int n = below(14);
        int width = below(4);
        int other = (slot + 1 + below(3)) % 4;
        same("row", slot, width, n);
        same("row", other, width, n);
        for (int i = 0; i < n; i++) {
            same("write", slot, i, likelyAct(i));
        }
        same("paste", slot, 0, other, 0, n);
        for (int i = 1 + below(3); i > 0 && n > 0; i--) {
            int at = below(n);
            same("write", other, at, likelyAct(at));
        }
        for (int k : new int[] {slot, other}) {
            same("judge", k);
            same("held", k);
            for (int i = 0; i < 3; i++) {
                same("when", k, below(Math.max(1, matters)), below(n + 2));
            }
        }
        same("differs", slot, other);
    }

    private long likelyAct(int i) {
        if (below(200) == 0) {
            return below(40) - 3;
        }
        int kind = below(10);
        if (kind < 6 && matters > 0) {
            return below(4) == 0 ? below(matters) : i % matters;
        }
        return kind < 9 && people > 0 ? 10 + below(people) : 20;
    }

    private void ask(String call) throws Exception {
        String name = call.substring(0, call.indexOf(' '));
        String kinds = call.substring(call.indexOf(' ') + 1);
        Object[] args = new Object[kinds.length()];
        for (int i = 0; i < args.length; i++) {
            int x = argument(kinds.charAt(i));
            if (kinds.charAt(i) == 'v') {
                args[i] = below(8) == 0 ? dice.nextLong() : (long) x;
            } else {
                args[i] = x;
            }
        }
        same(name, args);
    }

    private void same(String name, Object... args) throws Exception {
        if (Check.wrongs() > 0) {
            return;
        }
        String told = name + java.util.Arrays.toString(args);
        Object got = ofWell.get(name).invoke(well, args);
        Object want = ofModel.get(name).invoke(model, args);
        due(told, (Integer) got, (Integer) want);
        log.append(told).append(" -> ").append(got).append('\n');
    }

    private int argument(char kind) {
        if (below(60) == 0) {
            int[] odd = {-1, Integer.MIN_VALUE, Integer.MAX_VALUE, 61, 256, 100, -100, 5, 8};
            return odd[below(odd.length)];
        }
        switch (kind) {
            case 'p': return below(people + (below(10) == 0 ? 1 : 0) + (people == 0 ? 1 : 0));
            case 'm':
            case 'M': return below(matters + (below(10) == 0 || matters == 0 ? 1 : 0));
            case 's': return below(4) == 0 ? Math.max(0, well.settled())
                : below((1 << matters) + (below(10) == 0 ? 1 : 0));
            case 'i': return below(11) - 1;
            case 'w': return below(11) == 0 ? -1 : below(9);
            case 't': return below(15) == 0 ? 4 : below(4);
            case 'g': return below(20) == 0 ? 5 : below(matters > 6 ? 3 : 5);
            case 'd': return below(2) == 0 ? below(2000000001) : below(1000);
            case 'y': return below(10) == 0 ? 61 - below(2) : below(61);
            case 'l': return below(4) == 0 ? below(101) : below(12);
            case 'r': return below(22);
            case 'q': return below(8) == 0 ? below(205) - 102 : below(11) - 5;
            case 'b': return below(15) == 0 ? 2 : below(2);
            case 'k': return below(15) == 0 ? 3 : below(3);
            case 'h': return below(20) == 0 ? 4 : below(4);
            case 'c': return below(10) == 0 ? 60 + below(2) : below(13) - 1;
            default: return below(3) == 0 ? 10 + below(Math.max(1, people)) : below(Math.max(1, matters));
        }
    }

    /** Texts with one or more faults, one behind the other on one object. */
    private void runTexts() throws Exception {
        for (int i = 0; i < 12 && Check.wrongs() == 0; i++) {
            String text = townText(below(2) == 0);
            if (below(8) == 0) {
                text = crowded();
            }
            for (int k = below(3); k >= 0; k--) {
                text = spoilt(text);
            }
            tell(text.length() > 900 ? text.substring(0, 900) : text);
            for (int k = 0; k < 6; k++) {
                same("count", k);
            }
        }
    }

    private String crowded() {
        StringBuilder b = new StringBuilder("well level 1 spring 1 frost 1;");
        for (int i = 5 + below(3); i > 0; i--) {
            b.append("person cups 1;");
        }
        for (int i = 7 + below(3); i > 0; i--) {
            b.append("matter 0 gains 1 1 gains 1;");
        }
        return b.toString();
    }

    private String spoilt(String text) {
        String[] words = {"well", "person", "matter", "level", "spring", "frost", "cups", "stubborn", "gains",
            "loses", "on", "dry", "jug", ";", "0", "1", "2", "7", "9", "10", "99", "100", "101", "007",
            "99999999999999999999", "!", "A", "\t", "\u00e9", "\u0000", "-", "x", " ", "\n"};
        String word = words[below(words.length)];
        String[] parts = text.split("(?<=[^a-z])(?=[a-z])|(?<=[^0-9])(?=[0-9])|(?<=[a-z0-9])(?=[^a-z0-9])|(?=;)");
        int at = below(parts.length);
        switch (below(7)) {
            case 0:
                parts[at] = word;
                break;
            case 1:
                parts[at] = parts[at] + " " + word + " ";
                break;
            case 2:
                parts[at] = "";
                break;
            case 3:
                return text.substring(0, below(text.length() + 1));
            case 4:
                int cut = below(text.length() + 1);
                return text.substring(0, cut) + word + text.substring(cut);
            case 5:
                parts[at] = parts[at] + parts[at];
                break;
            default:
                break;
        }
        return String.join("", parts);
    }
}
