import java.math.BigInteger;
import java.util.ArrayList;
import java.util.Arrays;
import java.util.Collections;
import java.util.HashSet;
import java.util.List;
import java.util.Set;
import java.util.TreeSet;
import java.util.regex.Matcher;
import java.util.regex.Pattern;

/**
 * The document once more, by brute force and with the whole Java library, so that it shares no way of
 * going about things with the class: orders are gone through one by one, texts are matched by a regular
 * expression, acts are taken back to kept states.
 */
final class ModelWell {
    static final class Matter {
        int[] party = new int[2];
        int[] gain = new int[2];
        Set<Integer> on = new TreeSet<>();
        boolean dry;
        boolean jug;
    }

    static final class Town {
        int lines;
        int level;
        int spring;
        int frost;
        List<Integer> cups = new ArrayList<>();
        List<Boolean> stubborn = new ArrayList<>();
        List<Matter> matters = new ArrayList<>();

        Town copy() {
            Town t = new Town();
            t.lines = lines;
            t.level = level;
            t.spring = spring;
            t.frost = frost;
            t.cups.addAll(cups);
            t.stubborn.addAll(stubborn);
            for (Matter m : matters) {
                Matter c = new Matter();
                c.party = m.party.clone();
                c.gain = m.gain.clone();
                c.on.addAll(m.on);
                c.dry = m.dry;
                c.jug = m.jug;
                t.matters.add(c);
            }
            return t;
        }
    }

    static final class State {
        List<Integer> settled = new ArrayList<>();
        Set<Integer> drunk = new HashSet<>();
        int level;
        List<Integer> cups = new ArrayList<>();

        State copy() {
            State s = new State();
            s.settled.addAll(settled);
            s.drunk.addAll(drunk);
            s.level = level;
            s.cups.addAll(cups);
            return s;
        }
    }

    static final class Kept {
        Town town;
        List<Integer> acts = new ArrayList<>();
        List<State> states = new ArrayList<>();
    }

    private final List<Byte> tape = new ArrayList<>();
    private Town town = null;
    private List<Integer> acts = new ArrayList<>();
    private List<State> states = new ArrayList<>(Collections.singletonList(new State()));
    private int faultKind = 0;
    private int faultPlace = -1;
    private final Kept[] images = new Kept[3];
    private final long[][] rows = new long[4][];
    private final int[] widths = new int[4];

    // ---- the text

    private static final String ON = "on (N )+";
    private static final String MARKS = marks();
    private static final Pattern TEXT = Pattern.compile("(well level N spring N frost N ; "
            + "(person cups N (stubborn )?; |matter N (gains |loses )N N (gains |loses )N (" + MARKS + "); )*)?");

    private static String marks() {
        String[] one = {ON, "dry ", "jug "};
        StringBuilder b = new StringBuilder();
        for (int i = 0; i < 3; i++) {
            b.append(one[i]).append('|');
            for (int k = 0; k < 3; k++) {
                if (k == i) {
                    continue;
                }
                b.append(one[i]).append(one[k]).append('|');
                b.append(one[i]).append(one[k]).append(one[3 - i - k]).append('|');
            }
        }
        return b.toString();
    }

    public int feed(int a, int b, int c, int d, int e) {
        if (tape.size() > 880) {
            return -1;
        }
        for (int x : new int[] {a, b, c, d, e}) {
            for (byte y : BigInteger.valueOf(x).add(BigInteger.ONE.shiftLeft(40)).toByteArray()) {
                tape.add(y);
            }
            // the two highest bytes are of the added sign bit alone
            tape.remove(tape.size() - 6);
            tape.remove(tape.size() - 5);
        }
        return tape.size();
    }

    public int end(int n) {
        if (n < 0 || n > tape.size()) {
            return -1;
        }
        tape.subList(n, tape.size()).clear();
        return n;
    }

    public int town() {
        StringBuilder b = new StringBuilder();
        for (byte x : tape) {
            b.append((char) (x & 255));
        }
        tape.clear();
        String text = b.toString();
        List<Integer> starts = new ArrayList<>();
        List<String> tokens = new ArrayList<>();
        Matcher m = Pattern.compile("[a-z]+|[0-9]+|[^ \n]", Pattern.DOTALL).matcher(text);
        while (m.find()) {
            starts.add(m.start());
            tokens.add(m.group());
        }
        List<int[]> faults = faultsOf(tokens, starts, text.length());
        if (!faults.isEmpty()) {
            int[] first = faults.get(0);
            for (int[] f : faults) {
                if (f[0] < first[0] || f[0] == first[0] && f[1] < first[1]) {
                    first = f;
                }
            }
            faultKind = first[1];
            faultPlace = first[0];
            return -4;
        }
        faultKind = 0;
        faultPlace = -1;
        town = tokens.isEmpty() ? null : build(tokens);
        acts = new ArrayList<>();
        states = new ArrayList<>(Collections.singletonList(first()));
        return town == null ? 0 : town.lines;
    }

    private State first() {
        State s = new State();
        if (town != null) {
            s.level = town.level;
            s.cups.addAll(town.cups);
        }
        return s;
    }

    private static List<int[]> faultsOf(List<String> tokens, List<Integer> starts, int length) {
        List<int[]> faults = new ArrayList<>();
        StringBuilder prefix = new StringBuilder();
        boolean broken = false;
        for (int i = 0; i < tokens.size() && !broken; i++) {
            prefix.append(Character.isDigit(tokens.get(i).charAt(0)) ? "N" : tokens.get(i)).append(' ');
            Matcher m = TEXT.matcher(prefix);
            if (!m.matches() && !m.hitEnd()) {
                faults.add(new int[] {starts.get(i), 1});
                broken = true;
            }
        }
        if (!broken && !TEXT.matcher(prefix).matches()) {
            faults.add(new int[] {length, 1});
        }
        boundFaults(tokens, starts, faults);
        return faults;
    }

    private static void boundFaults(List<String> tokens, List<Integer> starts, List<int[]> faults) {
        int people = 0;
        int matters = 0;
        int at = 0;
        while (at < tokens.size()) {
            int past = at;
            while (past < tokens.size() && !tokens.get(past).equals(";")) {
                past++;
            }
            String head = tokens.get(at);
            for (int i = at + 1; i < past; i++) {
                if (!Character.isDigit(tokens.get(i).charAt(0))) {
                    continue;
                }
                BigInteger v = new BigInteger(tokens.get(i));
                int k = i - at;
                int high = 0;
                if (head.equals("well")) {
                    high = k == 2 ? 99 : k == 4 ? 9 : 100;
                } else if (head.equals("person")) {
                    high = 9;
                } else {
                    high = k == 1 || k == 4 ? people - 1 : k == 3 || k == 6 ? 99 : matters - 1;
                    if (k == 4 && v.equals(numberAt(tokens, at + 1))) {
                        high = -1;
                    }
                }
                if (v.compareTo(BigInteger.valueOf(high)) > 0) {
                    faults.add(new int[] {starts.get(i), 2});
                }
            }
            if (head.equals("person") && ++people > 6 || head.equals("matter") && ++matters > 8) {
                faults.add(new int[] {starts.get(at), 3});
            }
            at = past + 1;
        }
    }

    private static BigInteger numberAt(List<String> tokens, int i) {
        return Character.isDigit(tokens.get(i).charAt(0)) ? new BigInteger(tokens.get(i)) : BigInteger.valueOf(-5);
    }

    private static Town build(List<String> tokens) {
        Town t = new Town();
        String all = String.join(" ", tokens);
        for (String line : all.split(" ?; ?")) {
            String[] w = line.split(" ");
            t.lines++;
            if (w[0].equals("well")) {
                t.level = Integer.parseInt(w[2]);
                t.spring = Integer.parseInt(w[4]);
                t.frost = Integer.parseInt(w[6]);
            } else if (w[0].equals("person")) {
                t.cups.add(Integer.parseInt(w[2]));
                t.stubborn.add(w.length > 3);
            } else {
                Matter m = new Matter();
                for (int side = 0; side < 2; side++) {
                    m.party[side] = Integer.parseInt(w[1 + 3 * side]);
                    int g = Integer.parseInt(w[3 + 3 * side]);
                    m.gain[side] = w[2 + 3 * side].equals("loses") ? -g : g;
                }
                for (int i = 7; i < w.length; i++) {
                    switch (w[i]) {
                        case "dry" -> m.dry = true;
                        case "jug" -> m.jug = true;
                        case "on" -> { }
                        default -> m.on.add(Integer.parseInt(w[i]));
                    }
                }
                t.matters.add(m);
            }
        }
        return t;
    }

    public int fault(int what) {
        return what == 0 ? faultKind : what == 1 ? faultPlace : -1;
    }

    // ---- what is told, what is settled

    private State now() {
        return states.get(states.size() - 1);
    }

    private int people() {
        return town == null ? 0 : town.cups.size();
    }

    private int matters() {
        return town == null ? 0 : town.matters.size();
    }

    private boolean noPerson(int p) {
        return p < 0 || p >= people();
    }

    private boolean noMatter(int m) {
        return m < 0 || m >= matters();
    }

    private boolean noSet(int set) {
        return town == null || set < 0 || set >= Math.pow(2, matters());
    }

    private static int bits(Iterable<Integer> all) {
        int b = 0;
        for (int x : all) {
            b |= 1 << x;
        }
        return b;
    }

    private List<Integer> members(int set) {
        List<Integer> all = new ArrayList<>();
        for (int m = 0; m < matters(); m++) {
            if ((set >> m & 1) == 1) {
                all.add(m);
            }
        }
        return all;
    }

    private int sideOf(int p, int m) {
        Matter x = town.matters.get(m);
        return x.party[0] == p ? 0 : x.party[1] == p ? 1 : -1;
    }

    private int sumBy(int p, Iterable<Integer> set) {
        int s = 0;
        for (int m : set) {
            int side = sideOf(p, m);
            if (side >= 0) {
                s += town.matters.get(m).gain[side];
            }
        }
        return s;
    }

    private Set<Integer> fallOf(Iterable<Integer> set, int m) {
        Set<Integer> fallen = new TreeSet<>();
        fallen.add(m);
        for (boolean more = true; more;) {
            more = false;
            for (int x : set) {
                if (!fallen.contains(x) && !Collections.disjoint(town.matters.get(x).on, fallen)) {
                    fallen.add(x);
                    more = true;
                }
            }
        }
        return fallen;
    }

    private boolean agreed(int asker, int m, Set<Integer> fallen) {
        Matter x = town.matters.get(m);
        int other = x.party[1 - sideOf(asker, m)];
        return x.jug || !town.stubborn.get(other) && -sumBy(other, fallen) >= 0;
    }

    private int lastIn(State s, int p) {
        int last = -1;
        for (int m : s.settled) {
            if (sideOf(p, m) >= 0) {
                last = m;
            }
        }
        return last;
    }

    private int whyIn(State s, int p) {
        int m = lastIn(s, p);
        if (m == -1) {
            return 1;
        } else if (town.matters.get(m).dry) {
            return 2;
        } else if (s.drunk.contains(m)) {
            return 3;
        } else if (s.cups.get(p) == 0) {
            return 4;
        } else if (s.level == 0) {
            return 5;
        }
        return agreed(p, m, fallOf(s.settled, m)) ? 0 : 6;
    }

    private boolean wishesIn(State s, int p) {
        return whyIn(s, p) == 0 && -sumBy(p, fallOf(s.settled, lastIn(s, p))) > 0;
    }

    private boolean openIn(State s, int m) {
        return !s.settled.contains(m) && s.settled.containsAll(town.matters.get(m).on);
    }

    /** The state behind an ACT, null if it can't be. */
    private State after(State s, int act) {
        State t = s.copy();
        if (act == 20) {
            t.level = Math.min(99, t.level + town.spring);
            return t;
        }
        if (act < 10) {
            if (!openIn(s, act)) {
                return null;
            }
            t.settled.add(act);
            return t;
        }
        int p = act - 10;
        if (whyIn(s, p) != 0) {
            return null;
        }
        int m = lastIn(s, p);
        t.settled.removeAll(fallOf(s.settled, m));
        t.drunk.add(m);
        t.cups.set(p, t.cups.get(p) - 1);
        t.level--;
        return t;
    }

    private List<Integer> wishersIn(State s) {
        List<Integer> all = new ArrayList<>();
        for (int p = 0; p < people(); p++) {
            if (wishesIn(s, p)) {
                all.add(p);
            }
        }
        return all;
    }

    public int person(int p, int what) {
        if (noPerson(p)) {
            return -1000;
        }
        return switch (what) {
            case 0 -> now().cups.get(p);
            case 1 -> town.stubborn.get(p) ? 1 : 0;
            case 2 -> {
                int b = 0;
                for (int m = 0; m < matters(); m++) {
                    b += sideOf(p, m) >= 0 ? 1 << m : 0;
                }
                yield b;
            }
            case 3 -> sumBy(p, now().settled);
            default -> -1000;
        };
    }

    public int matter(int m, int what) {
        if (noMatter(m)) {
            return -1000;
        }
        Matter x = town.matters.get(m);
        return switch (what) {
            case 0, 1 -> x.party[what];
            case 2, 3 -> x.gain[what - 2];
            case 4 -> bits(x.on);
            case 5 -> x.dry ? 1 : 0;
            case 6 -> x.jug ? 1 : 0;
            case 7 -> now().settled.contains(m) ? 1 : 0;
            case 8 -> now().drunk.contains(m) ? 1 : 0;
            default -> -1000;
        };
    }

    public int level() {
        return town == null ? -2 : now().level;
    }

    public int settled() {
        return town == null ? -2 : bits(now().settled);
    }

    public int order(int i) {
        return town == null ? -2 : i < 0 || i >= now().settled.size() ? -1 : now().settled.get(i);
    }

    public int open() {
        if (town == null) {
            return -2;
        }
        int b = 0;
        for (int m = 0; m < matters(); m++) {
            b += openIn(now(), m) ? 1 << m : 0;
        }
        return b;
    }

    public int last(int p) {
        return noPerson(p) ? -2 : lastIn(now(), p);
    }

    public int fall(int m) {
        return noMatter(m) ? -2 : !now().settled.contains(m) ? 0 : bits(fallOf(now().settled, m));
    }

    public int swing(int p, int m) {
        if (noPerson(p) || noMatter(m)) {
            return -1000;
        }
        return !now().settled.contains(m) ? 0 : -sumBy(p, fallOf(now().settled, m));
    }

    public int why(int p) {
        return noPerson(p) ? -2 : whyIn(now(), p);
    }

    public int wishes() {
        return town == null ? -2 : bits(wishersIn(now()));
    }

    // ---- acts

    private boolean did(int act) {
        State next = acts.size() == 60 ? null : after(now(), act);
        if (next == null) {
            return false;
        }
        acts.add(act);
        states.add(next);
        return true;
    }

    public int settle(int m) {
        return noMatter(m) ? -2 : did(m) ? now().settled.size() : -5;
    }

    public int drink(int p) {
        if (noPerson(p)) {
            return -2;
        }
        int had = now().settled.size();
        return did(10 + p) ? had - now().settled.size() : -5;
    }

    public int day() {
        return town == null ? -2 : did(20) ? now().level : -5;
    }

    public int undo() {
        if (town == null) {
            return -2;
        }
        if (acts.isEmpty()) {
            return -5;
        }
        acts.remove(acts.size() - 1);
        states.remove(states.size() - 1);
        return acts.size();
    }

    public int anew() {
        if (town == null) {
            return -2;
        }
        int were = acts.size();
        acts.clear();
        states.subList(1, states.size()).clear();
        return were;
    }

    public int act(int i) {
        return town == null ? -2 : i < 0 || i >= acts.size() ? -1 : acts.get(i);
    }

    // ---- the course

    private State courseEnd;

    private List<Integer> courseSteps() {
        List<Integer> steps = new ArrayList<>();
        State s = now();
        while (true) {
            List<Integer> w = wishersIn(s);
            int act = w.isEmpty() ? -1 : 10 + w.get(0);
            for (int m = 0; act < 0 && m < matters(); m++) {
                Matter x = town.matters.get(m);
                if (openIn(s, m) && x.gain[0] > 0 && x.gain[1] > 0) {
                    act = m;
                }
            }
            if (act < 0) {
                courseEnd = s;
                return steps;
            }
            steps.add(act);
            s = after(s, act);
        }
    }

    public int course() {
        return town == null ? -2 : courseSteps().size();
    }

    public int step(int i) {
        if (town == null) {
            return -2;
        }
        List<Integer> steps = courseSteps();
        return i < 0 || i >= steps.size() ? -1 : steps.get(i);
    }

    public int ends() {
        if (town == null) {
            return -2;
        }
        courseSteps();
        return bits(courseEnd.settled);
    }

    public int sips() {
        return town == null ? -2 : (int) courseSteps().stream().filter(x -> x >= 10).count();
    }

    public int brings(int p) {
        if (noPerson(p)) {
            return -1000;
        }
        courseSteps();
        return sumBy(p, courseEnd.settled);
    }

    // ---- sets

    private List<Integer> firstOrder;

    /** Goes through all orders one by one. */
    private int standing(int set) {
        firstOrder = null;
        State s = first();
        s.level = now().level;
        s.cups = new ArrayList<>(now().cups);
        return standing(s, members(set));
    }

    private int standing(State s, List<Integer> rest) {
        if (rest.isEmpty()) {
            if (!wishersIn(s).isEmpty()) {
                return 0;
            }
            if (firstOrder == null) {
                firstOrder = s.settled;
            }
            return 1;
        }
        int many = 0;
        for (int m : rest) {
            State t = after(s, m);
            if (t != null) {
                List<Integer> less = new ArrayList<>(rest);
                less.remove((Integer) m);
                many += standing(t, less);
            }
        }
        return many;
    }

    public int stands(int set) {
        return noSet(set) ? -2 : standing(set);
    }

    public int stood(int set, int i) {
        if (noSet(set)) {
            return -2;
        }
        standing(set);
        return firstOrder == null || i < 0 || i >= firstOrder.size() ? -1 : firstOrder.get(i);
    }

    private int sumAll(int set) {
        int s = 0;
        for (int p = 0; p < people(); p++) {
            s += sumBy(p, members(set));
        }
        return s;
    }

    public int best() {
        if (town == null) {
            return -2;
        }
        int best = -1;
        for (int set = 0; !noSet(set); set++) {
            if ((best < 0 || sumAll(set) > sumAll(best)) && standing(set) > 0) {
                best = set;
            }
        }
        return best;
    }

    private boolean isClosedSet(int set) {
        List<Integer> all = members(set);
        for (int m : all) {
            if (!all.containsAll(town.matters.get(m).on)) {
                return false;
            }
        }
        return true;
    }

    public int closed(int set) {
        return noSet(set) ? -2 : isClosedSet(set) ? 1 : 0;
    }

    public int sets() {
        if (town == null) {
            return -2;
        }
        int many = 0;
        for (int set = 0; !noSet(set); set++) {
            many += closed(set);
        }
        return many;
    }

    private boolean deep(int m, int below) {
        for (int x : town.matters.get(m).on) {
            if (x == below || deep(x, below)) {
                return true;
            }
        }
        return false;
    }

    public int rests(int m) {
        if (noMatter(m)) {
            return -2;
        }
        int b = 0;
        for (int x = 0; x < matters(); x++) {
            b += deep(m, x) ? 1 << x : 0;
        }
        return b;
    }

    public int bears(int m) {
        if (noMatter(m)) {
            return -2;
        }
        int b = 0;
        for (int x = 0; x < matters(); x++) {
            b += deep(x, m) ? 1 << x : 0;
        }
        return b;
    }

    private int height(int m) {
        int h = 0;
        for (int x : town.matters.get(m).on) {
            h = Math.max(h, height(x));
        }
        return h + 1;
    }

    public int chain() {
        if (town == null) {
            return -2;
        }
        int h = 0;
        for (int m = 0; m < matters(); m++) {
            h = Math.max(h, height(m));
        }
        return h;
    }

    public int heaviest() {
        if (town == null) {
            return -2;
        }
        int best = -1;
        for (int m = matters() - 1; m >= 0; m--) {
            if (best < 0 || Integer.bitCount(bears(m)) >= Integer.bitCount(bears(best))) {
                best = m;
            }
        }
        return best;
    }

    public int keep(int set) {
        if (noSet(set)) {
            return -2;
        }
        int b = 0;
        for (int x = 0; x < matters(); x++) {
            boolean needed = false;
            for (int m : members(set)) {
                needed |= m == x || deep(m, x);
            }
            b += needed && !town.matters.get(x).dry ? 1 << x : 0;
        }
        return b;
    }

    /** {gain, matter} of the greatest gain above 0 in a set; null: it is FIRM. */
    private int[] weakness(int set) {
        int[] worst = null;
        for (int m : members(set)) {
            Set<Integer> fallen = fallOf(members(set), m);
            for (int p : town.matters.get(m).party) {
                int gain = -sumBy(p, fallen);
                if (!town.matters.get(m).dry && gain > 0 && agreed(p, m, fallen)
                        && (worst == null || gain > worst[0])) {
                    worst = new int[] {gain, m};
                }
            }
        }
        return worst;
    }

    public int firm(int set) {
        return noSet(set) ? -2 : isClosedSet(set) && weakness(set) == null ? 1 : 0;
    }

    private List<Integer> firmSets() {
        List<Integer> all = new ArrayList<>();
        for (int set = 0; !noSet(set); set++) {
            if (firm(set) == 1) {
                all.add(set);
            }
        }
        return all;
    }

    public int firms() {
        return town == null ? -2 : firmSets().size();
    }

    public int firmest() {
        if (town == null) {
            return -2;
        }
        int best = -1;
        for (int set : firmSets()) {
            if (best < 0 || sumAll(set) > sumAll(best)) {
                best = set;
            }
        }
        return best;
    }

    public int sum(int p, int set) {
        return noPerson(p) || noSet(set) ? -1000 : sumBy(p, members(set));
    }

    public int weak(int set) {
        if (noSet(set)) {
            return -2;
        }
        int[] w = isClosedSet(set) ? weakness(set) : null;
        return w == null ? -1 : w[1];
    }

    public int votes(int set, int other) {
        if (noSet(set) || noSet(other)) {
            return -2;
        }
        int b = 0;
        for (int p = 0; p < people(); p++) {
            b += sumBy(p, members(set)) > sumBy(p, members(other)) ? 1 << p : 0;
        }
        return b;
    }

    public int elected() {
        if (town == null) {
            return -2;
        }
        for (int s : firmSets()) {
            boolean good = true;
            for (int t : firmSets()) {
                if (s != t && Integer.bitCount(votes(s, t)) < Integer.bitCount(votes(t, s))) {
                    good = false;
                    break;
                }
            }
            if (good) {
                return s;
            }
        }
        return -1;
    }

    // ---- the game

    private int bestAct;

    private int play(State s, int mover, int other, int n) {
        if (n == 0) {
            bestAct = -1;
            return sumBy(mover, s.settled) - sumBy(other, s.settled);
        }
        int best = Integer.MIN_VALUE;
        int act = -1;
        for (int a = 0; a <= 30; a++) {
            State t = null;
            if (a == 30) {
                t = s;
            } else if (a == 10 + mover || a < matters() && a < 10 && sideOf(mover, a) >= 0) {
                t = after(s, a);
            }
            if (t == null) {
                continue;
            }
            int v = -play(t, other, mover, n - 1);
            if (v > best) {
                best = v;
                act = a;
            }
        }
        bestAct = act;
        return best;
    }

    private boolean noGame(int p, int o, int n) {
        return noPerson(p) || noPerson(o) || p == o || n < 0 || n > 4;
    }

    public int game(int p, int o, int n) {
        return noGame(p, o, n) ? -1000 : play(now(), p, o, n);
    }

    public int move(int p, int o, int n) {
        if (noGame(p, o, n)) {
            return -2;
        }
        play(now(), p, o, n);
        return bestAct;
    }

    // ---- drinking alone

    public int thirst(int p) {
        if (noPerson(p)) {
            return -2;
        }
        int times = 0;
        for (State s = after(now(), 10 + p); s != null; s = after(s, 10 + p)) {
            times++;
        }
        return times;
    }

    public int dregs(int p) {
        if (noPerson(p)) {
            return -2;
        }
        State s = now();
        while (after(s, 10 + p) != null) {
            s = after(s, 10 + p);
        }
        return bits(s.settled);
    }

    public int who(int set) {
        if (noSet(set)) {
            return -2;
        }
        int b = 0;
        for (int p = 0; p < people(); p++) {
            State s = after(now(), 10 + p);
            b += s != null && bits(s.settled) == set ? 1 << p : 0;
        }
        return b;
    }

    public int sipped(int set, int n) {
        if (noSet(set) || n < 0 || n > 4) {
            return -2;
        }
        List<State> layer = new ArrayList<>();
        layer.add(now());
        for (int i = 0; i < n; i++) {
            List<State> next = new ArrayList<>();
            for (State s : layer) {
                for (int p = 0; p < people(); p++) {
                    State t = after(s, 10 + p);
                    if (t != null) {
                        next.add(t);
                    }
                }
            }
            layer = next;
        }
        return (int) layer.stream().filter(s -> bits(s.settled) == set).count();
    }

    private int[] question() {
        List<State> then = new ArrayList<>();
        for (int p = 0; p < people(); p++) {
            State s = after(now(), 10 + p);
            if (s != null) {
                then.add(s);
            }
        }
        int[] best = {-1, then.size()};
        for (int m = 0; m < matters(); m++) {
            int yes = 0;
            for (State s : then) {
                yes += s.settled.contains(m) ? 1 : 0;
            }
            int worst = Math.max(yes, then.size() - yes);
            if (worst < best[1]) {
                best = new int[] {m, worst};
            }
        }
        return best;
    }

    public int ask() {
        return town == null ? -2 : question()[0];
    }

    public int leaves() {
        return town == null ? -2 : question()[1];
    }

    // ---- minutes

    private int rowWrong(int slot) {
        if (town == null || slot < 0 || slot > 3) {
            return -2;
        }
        if (rows[slot] == null) {
            return -6;
        }
        for (long v : rows[slot]) {
            boolean isMatter = v >= 0 && v < matters();
            boolean isDrink = v >= 10 && v < 10 + people();
            if (!isMatter && !isDrink && v != 20) {
                return -2;
            }
        }
        return 0;
    }

    /** The states behind 0, 1, .. ACTS, as far as they go. */
    private List<State> behind(int slot) {
        List<State> all = new ArrayList<>();
        all.add(first());
        for (long v : rows[slot]) {
            State s = after(all.get(all.size() - 1), (int) v);
            if (s == null) {
                break;
            }
            all.add(s);
        }
        return all;
    }

    public int judge(int slot) {
        int w = rowWrong(slot);
        return w < 0 ? w : behind(slot).size() - 1;
    }

    public int held(int slot) {
        int w = rowWrong(slot);
        if (w < 0) {
            return w;
        }
        List<State> all = behind(slot);
        return bits(all.get(all.size() - 1).settled);
    }

    public int when(int slot, int m, int n) {
        int w = n < 0 || noMatter(m) ? -2 : rowWrong(slot);
        if (w < 0) {
            return w;
        }
        List<State> all = behind(slot);
        return n >= all.size() ? -1 : all.get(n).settled.contains(m) ? 1 : 0;
    }

    public int differs(int slot, int other) {
        int w = rowWrong(slot);
        int v = rowWrong(other);
        if (w < 0 || v < 0) {
            return w == -2 || v == -2 ? -2 : -6;
        }
        List<State> a = behind(slot);
        List<State> b = behind(other);
        for (int n = 1; n < a.size() && n < b.size(); n++) {
            if (bits(a.get(n).settled) != bits(b.get(n).settled)) {
                return n;
            }
        }
        return -1;
    }

    // ---- water and years

    public int lasts(int n) {
        if (town == null || n < 0 || n > 99) {
            return -2;
        }
        int l = now().level;
        for (int day = 1; day <= 1000; day++) {
            l = Math.min(99, l + town.spring);
            if (l < n) {
                return day;
            }
            l -= n;
        }
        return -1;
    }

    public int yields() {
        if (town == null) {
            return -2;
        }
        int best = 0;
        for (int n = 0; n <= 99; n++) {
            best = lasts(n) == -1 ? n : best;
        }
        return best;
    }

    public int cups() {
        return town == null ? -2 : now().cups.stream().mapToInt(x -> x).sum();
    }

    private BigInteger seed;

    private int rolled(int n) {
        seed = seed.multiply(BigInteger.valueOf(1103515245)).add(BigInteger.valueOf(12345))
                .mod(BigInteger.valueOf(2147483648L));
        return seed.shiftRight(16).mod(BigInteger.valueOf(n)).intValue();
    }

    private int[] years(long from, int n) {
        seed = BigInteger.valueOf(from);
        State s = now();
        int drank = 0;
        int frosts = 0;
        for (int i = 0; i < n; i++) {
            s = after(s, 20);
            if (rolled(100) < town.frost) {
                frosts++;
                continue;
            }
            int p = rolled(people());
            if (wishesIn(s, p)) {
                s = after(s, 10 + p);
                drank++;
                continue;
            }
            for (int m = 0; m < matters(); m++) {
                int side = sideOf(p, m);
                if (side >= 0 && openIn(s, m) && town.matters.get(m).gain[side] > 0
                        && town.matters.get(m).gain[1 - side] >= 0) {
                    s = after(s, m);
                    break;
                }
            }
        }
        return new int[] {bits(s.settled), s.level, drank, frosts};
    }

    public int drawn(int from, int n, int what) {
        if (people() == 0 || from < 0 || from > 2000000000 || n < 0 || n > 60 || what < 0 || what > 3) {
            return -2;
        }
        return years(from, n)[what];
    }

    public int luck(int from, int m, int n, int matter) {
        if (drawn(from, n, 0) == -2 || m < 1 || m > 20 || noMatter(matter)) {
            return -2;
        }
        int times = 0;
        for (int i = 0; i < m; i++) {
            times += years((long) from + i, n)[0] >> matter & 1;
        }
        return times;
    }

    // ---- changes

    public int price(int m, int party, int n) {
        if (noMatter(m) || party < 0 || party > 1 || Math.abs((long) n) > 99) {
            return -1000;
        }
        if (!acts.isEmpty()) {
            return -1005;
        }
        int was = town.matters.get(m).gain[party];
        town.matters.get(m).gain[party] = n;
        return was;
    }

    public int mark(int m, int what, int is) {
        if (noMatter(m) || what < 0 || what > 1 || is < 0 || is > 1) {
            return -2;
        }
        if (!acts.isEmpty()) {
            return -5;
        }
        Matter x = town.matters.get(m);
        boolean was = what == 0 ? x.dry : x.jug;
        if (what == 0) {
            x.dry = is == 1;
        } else {
            x.jug = is == 1;
        }
        return was ? 1 : 0;
    }

    public int count(int what) {
        return switch (what) {
            case 0 -> people();
            case 1 -> matters();
            case 2 -> town == null ? 0 : town.spring;
            case 3 -> town == null ? 0 : town.frost;
            case 4 -> town == null ? 0 : town.lines;
            case 5 -> tape.size();
            case 6 -> acts.size();
            case 7 -> (int) Arrays.stream(rows).filter(r -> r != null).count();
            default -> -1;
        };
    }

    public int image(int k) {
        if (k < 0 || k > 2) {
            return -2;
        }
        Kept kept = new Kept();
        kept.town = town == null ? null : town.copy();
        kept.acts.addAll(acts);
        kept.states.addAll(states);
        images[k] = kept;
        return 0;
    }

    public int back(int k) {
        if (k < 0 || k > 2) {
            return -2;
        }
        if (images[k] == null) {
            return -6;
        }
        town = images[k].town == null ? null : images[k].town.copy();
        acts = new ArrayList<>(images[k].acts);
        states = new ArrayList<>(images[k].states);
        return 0;
    }

    // ---- rows

    public int row(int slot, int width, int n) {
        if (slot < 0 || slot > 3 || width < 0 || width > 3 || n > 60) {
            return -2;
        }
        if (n < 0) {
            return -3;
        }
        rows[slot] = new long[n];
        widths[slot] = width;
        return 0;
    }

    public int write(int slot, int i, long v) {
        if (slot < 0 || slot > 3) {
            return -2;
        }
        if (rows[slot] == null) {
            return -6;
        }
        if (i < 0 || i >= rows[slot].length) {
            return -7;
        }
        int spare = 64 - (8 << widths[slot]);
        rows[slot][i] = v << spare >> spare;
        return 0;
    }

    public int paste(int slot, int i, int to, int k, int n) {
        if (slot < 0 || slot > 3 || to < 0 || to > 3) {
            return -2;
        }
        if (rows[slot] == null || rows[to] == null) {
            return -6;
        }
        if (widths[slot] != widths[to]) {
            return -8;
        }
        if (i < 0 || k < 0 || n < 0 || (long) i + n > rows[slot].length || (long) k + n > rows[to].length) {
            return -7;
        }
        long[] had = rows[slot].clone();
        for (int x = 0; x < n; x++) {
            rows[to][k + x] = had[i + x];
        }
        return 0;
    }
}
