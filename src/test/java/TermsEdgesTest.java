/** Terms I: each bound that a TOWN's text has, from both of its sides, and each FAULT at its place. */
public final class TermsEdgesTest {
    private static final String WELL = "well level 5 spring 1 frost 0;";
    private static final String PAIR = WELL + "person cups 1;person cups 1;";
    private static final String ONE = PAIR + "matter 0 gains 1 1 gains 1;";

    public static void main(String[] args) {
        wellIsFirst();
        wellIsNoOther();
        wellNumbers();
        cups();
        gains();
        parties();
        partiesAreUnlike();
        onToldAhead();
        onLikeOnes();
        marksInAnyOrder();
        marksOnce();
        marksOfOthers();
        sixPeople();
        eightMatters();
        bytesBetween();
        bytesBehindWords();
        bytesBehindNumbers();
        longestTokens();
        longNumbers();
        wordsInPlace();
        theEnd();
        theEndCut();
        firstByPlace();
        ofOnePlaceTheLeast();
        Check.finish("TermsEdgesTest");
    }

    private static void wellIsFirst() {
        Check.readsDue("", 0);
        Check.readsDue(WELL, 1);
        for (String word : new String[] {"person", "matter", "level", "spring", "cups", "dry", "wel", "wells", "x"}) {
            Check.faultDue(word + " level 5 spring 1 frost 0;", 1, 0);
            Check.faultDue(" \n" + word + " level 5 spring 1 frost 0;", 1, 2);
        }
        Check.faultDue("person cups 1;" + WELL, 1, 0);
        Check.faultDue(";" + WELL, 1, 0);
        Check.faultDue("5" + WELL, 1, 0);
    }

    private static void wellIsNoOther() {
        Check.faultDue(WELL + WELL, 1, WELL.length());
        Check.faultDue(WELL + "well", 1, WELL.length());
        Check.faultDue(PAIR + WELL, 1, PAIR.length());
        Check.faultDue(ONE + WELL, 1, ONE.length());
        Check.readsDue(ONE, 4);
    }

    private static void wellNumbers() {
        String[] parts = {"well level ", " spring ", " frost ", ";"};
        int[] most = {99, 9, 100};
        for (int k = 0; k < 3; k++) {
            for (int n : new int[] {0, 1, most[k] - 1, most[k]}) {
                SecondWell w = Check.readsDue(wellOf(parts, k, "" + n), 1);
                Check.due(parts[k] + n, k == 0 ? w.level() : w.count(k + 1), n);
            }
            int place = wellOf(parts, k, "!").indexOf('!');
            for (String n : new String[] {"" + (most[k] + 1), "199", "1000", "1009", "4294967296", "4294967301"}) {
                Check.faultDue(wellOf(parts, k, n), 2, place);
            }
            Check.faultDue(wellOf(parts, k, "-1"), 1, place);
        }
    }

    private static String wellOf(String[] parts, int k, String n) {
        StringBuilder b = new StringBuilder();
        for (int i = 0; i < 3; i++) {
            b.append(parts[i]).append(i == k ? n : "7");
        }
        return b.append(parts[3]).toString();
    }

    private static void cups() {
        for (int n = 0; n <= 9; n++) {
            Check.due("cups", Check.readsDue(WELL + "person cups " + n + ";", 2).person(0, 0), n);
        }
        for (String n : new String[] {"10", "11", "99", "256", "4294967296"}) {
            Check.faultDue(WELL + "person cups " + n + ";", 2, WELL.length() + 12);
        }
    }

    private static void gains() {
        for (int side = 0; side < 2; side++) {
            for (String sign : new String[] {"gains", "loses"}) {
                for (int n : new int[] {0, 1, 98, 99}) {
                    SecondWell w = Check.readsDue(PAIR + matterOf(side, sign, "" + n), 4);
                    Check.due(sign + " " + n, w.matter(0, 2 + side), sign.equals("gains") ? n : -n);
                    Check.due("the other one", w.matter(0, 3 - side), 7);
                    Check.due("SUM", w.sum(side, 1), sign.equals("gains") ? n : -n);
                }
                int place = (PAIR + matterOf(side, sign, "!")).indexOf('!');
                for (String n : new String[] {"100", "101", "1000", "256", "4294967296"}) {
                    Check.faultDue(PAIR + matterOf(side, sign, n), 2, place);
                }
            }
        }
    }

    private static String matterOf(int side, String sign, String n) {
        return side == 0 ? "matter 0 " + sign + " " + n + " 1 gains 7;" : "matter 0 gains 7 1 " + sign + " " + n + ";";
    }

    // PEOPLE that were told ahead, from the first to the last one; who is told behind it counts for nothing.
    private static void parties() {
        String six = WELL + "person cups 1;".repeat(6);
        for (int people = 2; people <= 6; people++) {
            String head = WELL + "person cups 1;".repeat(people);
            int last = people - 1;
            SecondWell w = Check.readsDue(head + "matter 0 gains 1 " + last + " gains 1;", people + 2);
            Check.due("matter(0, 1)", w.matter(0, 1), last);
            w = Check.readsDue(head + "matter " + last + " gains 1 0 gains 1;", people + 2);
            Check.due("matter(0, 0)", w.matter(0, 0), last);
            Check.faultDue(head + "matter " + people + " gains 1 0 gains 1;", 2, head.length() + 7);
            Check.faultDue(head + "matter 0 gains 1 " + people + " gains 1;", 2, head.length() + 17);
        }
        Check.faultDue(six + "matter 4294967296 gains 1 1 gains 1;", 2, six.length() + 7);
        Check.faultDue(PAIR + "matter 0 gains 1 2 gains 1;person cups 1;", 2, PAIR.length() + 17);
        Check.faultDue(WELL + "matter 0 gains 1 1 gains 1;", 2, WELL.length() + 7);
        Check.faultDue(WELL + "person cups 1;matter 0 gains 1 1 gains 1;", 2, WELL.length() + 31);
        Check.readsDue(ONE + "person cups 1;matter 2 gains 1 0 gains 1;", 6);
    }

    private static void partiesAreUnlike() {
        String six = WELL + "person cups 1;".repeat(6);
        for (int first = 0; first < 6; first++) {
            for (int second = 0; second < 6; second++) {
                String text = six + "matter " + first + " gains 1 " + second + " gains 1;";
                if (first == second) {
                    Check.faultDue(text, 2, six.length() + 17);
                } else {
                    Check.due("its bits", Check.readsDue(text, 8).person(second, 2), 1);
                }
            }
        }
        Check.faultDue(six + "matter 1 gains 1 01 gains 1;", 2, six.length() + 17);
    }

    private static void onToldAhead() {
        String matter = "matter 0 gains 1 1 gains 1";
        for (int own = 0; own < 8; own++) {
            String head = PAIR + (matter + ";").repeat(own) + matter + " on ";
            for (int m = 0; m < own; m++) {
                Check.due("on " + m, Check.readsDue(head + m + ";", own + 4).matter(own, 4), 1 << m);
            }
            Check.faultDue(head + own + ";", 2, head.length());
            Check.faultDue(head + (own + 1) + ";", 2, head.length());
            Check.faultDue(head + (own + 32) + ";", 2, head.length());
        }
        Check.faultDue(PAIR + matter + " on 1;" + matter + ";", 2, PAIR.length() + 30);
        String two = ONE + matter + ";";
        Check.faultDue(two + matter + " on 0 1 2;", 2, two.length() + 34);
        Check.faultDue(two + matter + " on 4294967296;", 2, two.length() + 30);
        Check.faultDue(two + matter + " on;", 1, two.length() + 29);
        Check.faultDue(two + matter + " on jug 0;", 1, two.length() + 30);
    }

    private static void onLikeOnes() {
        String matter = "matter 0 gains 1 1 gains 1";
        String two = ONE + matter + ";" + matter;
        Check.due("on 0 0", Check.readsDue(two + " on 0 0;", 6).matter(2, 4), 1);
        Check.due("on 1 0 1", Check.readsDue(two + " on 1 0 1;", 6).matter(2, 4), 3);
        Check.due("on, forty like ones", Check.readsDue(two + " on" + " 1".repeat(40) + ";", 6).matter(2, 4), 2);
        SecondWell w = Check.told(two + " on 0 0 0;");
        Check.take(w, 0);
        Check.due("settle(2), on 0 alone", w.settle(2), 2);
    }

    private static void marksInAnyOrder() {
        String[] marks = {"on 0", "dry", "jug"};
        for (int some = 0; some < 8; some++) {
            for (int[] order : new int[][] {{0, 1, 2}, {0, 2, 1}, {1, 0, 2}, {1, 2, 0}, {2, 0, 1}, {2, 1, 0}}) {
                StringBuilder b = new StringBuilder(ONE + "matter 0 gains 1 1 gains 1");
                for (int k : order) {
                    b.append((some >> k & 1) == 1 ? " " + marks[k] : "");
                }
                SecondWell w = Check.readsDue(b.append(';').toString(), 5);
                for (int k = 0; k < 3; k++) {
                    Check.due(b + " matter(1, " + (4 + k) + ")", w.matter(1, 4 + k), some >> k & 1);
                    Check.due(b + " matter(0, " + (4 + k) + ")", w.matter(0, 4 + k), 0);
                }
            }
        }
        for (int some = 0; some < 64; some++) {
            StringBuilder b = new StringBuilder(WELL);
            for (int p = 0; p < 6; p++) {
                b.append((some >> p & 1) == 1 ? "person cups 1 stubborn;" : "person cups 1;");
            }
            SecondWell w = Check.readsDue(b.toString(), 7);
            for (int p = 0; p < 6; p++) {
                Check.due("person(" + p + ", 1)", w.person(p, 1), some >> p & 1);
            }
        }
        Check.due("stubborn", Check.readsDue(PAIR + "person cups 1 stubborn;", 4).person(2, 1), 1);
        Check.due("not stubborn", Check.readsDue(PAIR + "person cups 1;", 4).person(2, 1), 0);
    }

    private static void marksOnce() {
        String head = ONE + "matter 0 gains 1 1 gains 1 ";
        for (String text : new String[] {"dry !dry;", "jug !jug;", "on 0 !on 0;", "dry jug !dry;", "dry jug !jug;",
            "jug dry !jug;", "jug dry !dry;", "on 0 dry !on 0;", "on 0 jug !on 0;", "dry on 0 !dry;", "jug on 0 !jug;",
            "on 0 dry jug !on 0;", "dry jug on 0 !dry;", "jug on 0 dry !jug;", "dry jug on 0 !jug;"}) {
            int place = text.indexOf('!');
            Check.faultDue(head + text.replace("!", ""), 1, head.length() + place);
            Check.readsDue(head + text.substring(0, place) + ";", 5);
        }
        Check.faultDue(WELL + "person cups 1 stubborn stubborn;", 1, WELL.length() + 23);
    }

    private static void marksOfOthers() {
        Check.faultDue(ONE + "matter 0 gains 1 1 gains 1 stubborn;", 1, ONE.length() + 27);
        for (String mark : new String[] {"dry", "jug", "on 0", "1", "cups"}) {
            Check.faultDue(WELL + "person cups 1 " + mark + ";", 1, WELL.length() + 14);
            Check.faultDue(WELL + "person cups 1 stubborn " + mark + ";", 1, WELL.length() + 23);
            Check.faultDue("well level 5 spring 1 frost 0 " + mark + ";", 1, 30);
        }
        Check.faultDue("well level 5 spring 1 frost 0 stubborn;", 1, 30);
    }

    // They are numbered as they stand, wherever the LINES of MATTERS are between them.
    private static void sixPeople() {
        StringBuilder b = new StringBuilder(WELL);
        for (int p = 0; p < 6; p++) {
            Check.due("PEOPLE", Check.readsDue(b.toString(), p + 1).count(0), p);
            b.append("person cups ").append(9 - p).append(';');
        }
        SecondWell w = Check.readsDue(b.toString(), 7);
        for (int p = 0; p < 6; p++) {
            Check.due("person(" + p + ", 0)", w.person(p, 0), 9 - p);
        }
        for (String seventh : new String[] {"person cups 1;", "person", "person cups 10;", "person;", "person well"}) {
            Check.faultDue(b + seventh, 3, b.length());
            Check.faultDue(b + "\n " + seventh, 3, b.length() + 2);
        }
        String mixed = ONE + "person cups 1;".repeat(4);
        Check.due("PEOPLE behind a MATTER", Check.readsDue(mixed, 8).count(0), 6);
        Check.faultDue(mixed + "matter 0 gains 1 5 gains 1;person cups 1;", 3, mixed.length() + 27);
    }

    private static void eightMatters() {
        StringBuilder b = new StringBuilder(PAIR);
        for (int m = 0; m < 8; m++) {
            Check.due("MATTERS", Check.readsDue(b.toString(), m + 3).count(1), m);
            b.append("matter 0 gains ").append(10 + m).append(" 1 gains 1;");
        }
        SecondWell w = Check.readsDue(b.toString(), 11);
        for (int m = 0; m < 8; m++) {
            Check.due("matter(" + m + ", 2)", w.matter(m, 2), 10 + m);
        }
        for (String ninth : new String[] {"matter 0 gains 1 1 gains 1;", "matter", "matter 9", "matter;"}) {
            Check.faultDue(b + ninth, 3, b.length());
            Check.faultDue(b + "person cups 1;" + ninth, 3, b.length() + 14);
        }
        Check.due("a person behind eight MATTERS", Check.readsDue(b + "person cups 1;", 12).count(0), 3);
        for (String other : new String[] {"zebra", "matters", "well", "dry", ";", "9", "!"}) {
            Check.faultDue(b + other, 1, b.length());
            Check.faultDue(b + "person cups 1;".repeat(4) + other, 1, b.length() + 56);
        }
    }

    // Blanks are 32 and 10 alone; all other bytes are of a TOKEN, or none.
    private static void bytesBetween() {
        for (int b = 0; b < 256; b++) {
            String text = WELL + (char) b + "person cups 1;";
            if (b == 32 || b == 10) {
                Check.readsDue(text, 2);
            } else {
                Check.faultDue(text, 1, WELL.length());
            }
        }
    }

    // Of words are a .. z alone: then the FAULT is where the word begins.
    private static void bytesBehindWords() {
        for (int b = 0; b < 256; b++) {
            String text = WELL + "person" + (char) b + "cups 1;";
            if (b == 32 || b == 10) {
                Check.readsDue(text, 2);
            } else {
                Check.faultDue(text, 1, WELL.length() + (b >= 'a' && b <= 'z' ? 0 : 6));
            }
        }
    }

    // Of numbers are digits alone: then the number is out of its bounds, where it begins.
    private static void bytesBehindNumbers() {
        int place = WELL.length() + 12;
        for (int b = 0; b < 256; b++) {
            String text = WELL + "person cups 1" + (char) b + ";";
            if (b == 32 || b == 10) {
                Check.readsDue(text, 2);
            } else if (b >= '0' && b <= '9') {
                Check.faultDue(text, 2, place);
            } else {
                Check.faultDue(text, 1, place + (b == ';' ? 2 : 1));
            }
        }
    }

    private static void longestTokens() {
        Check.readsDue("well level5spring1frost0;person cups1stubborn;person\ncups\n1;matter 0gains1 1gains1dry;", 4);
        Check.readsDue("\n\n  " + WELL + "  \n ", 1);
        Check.faultDue("welllevel 5 spring 1 frost 0;", 1, 0);
        Check.faultDue("we ll level 5 spring 1 frost 0;", 1, 0);
        Check.faultDue("well le vel 5 spring 1 frost 0;", 1, 5);
        Check.faultDue("well level 9 9 spring 1 frost 0;", 1, 13);
        Check.faultDue(ONE + "matter 0 gains 1 1 gains 1 dryjug;", 1, ONE.length() + 27);
        Check.faultDue(ONE + "matter 0 gains 11 gains 1;", 1, ONE.length() + 18);
        SecondWell w = Check.readsDue(ONE + "matter 0 gains 1 1 gains 1;matter 0 gains 1 1 gains 1 on 0 1;", 6);
        Check.due("on 0 1", w.matter(2, 4), 3);
        Check.faultDue(ONE + "matter 0 gains 1 1 gains 1;matter 0 gains 1 1 gains 1 on 01 10;", 2, ONE.length() + 60);
    }

    private static void longNumbers() {
        Check.due("level 099", Check.readsDue("well level 099 spring 09 frost 0100;", 1).level(), 99);
        Check.due("many noughts", Check.readsDue("well level " + "0".repeat(50) + "99 spring 1 frost 0;", 1).level(), 99);
        Check.due("noughts alone", Check.readsDue("well level 000 spring 1 frost 0;", 1).level(), 0);
        for (String n : new String[] {"0100", "00100", "2147483648", "4294967297", "9223372036854775808",
            "18446744073709551617", "1" + "0".repeat(60), "9".repeat(200)}) {
            Check.faultDue("well level " + n + " spring 1 frost 0;", 2, 11);
        }
    }

    // Each word of a LINE, left out, told twice, or another one: the FAULT is where it is missed.
    private static void wordsInPlace() {
        spoilDue("", "well level 5 spring 1 frost 0 ;");
        spoilDue(WELL, "person cups 1 ;");
        spoilDue(PAIR, "matter 0 gains 1 1 loses 1 ;");
    }

    private static void spoilDue(String head, String line) {
        String[] tokens = line.split(" ");
        int place = head.length();
        for (int i = 0; i < tokens.length; i++) {
            String rest = line.substring(place - head.length() + tokens[i].length());
            String upTo = line.substring(0, place - head.length());
            Check.faultDue(head + upTo + "zebra" + rest, 1, place);
            Check.faultDue(head + upTo + "!" + rest, 1, place);
            if (i > 0) {
                Check.faultDue(head + upTo, 1, place);
            }
            place += tokens[i].length() + 1;
        }
    }

    private static void theEnd() {
        Check.faultDue("well", 1, 4);
        Check.faultDue("well  \n", 1, 7);
        Check.faultDue("well level 5 spring 1 frost 0", 1, 29);
        Check.faultDue("well level 5 spring 1 frost 0   ", 1, 32);
        Check.faultDue(WELL + "person cups 1 stubborn", 1, WELL.length() + 22);
        Check.faultDue(ONE + "matter 0 gains 1 1 gains 1 dry jug on 0", 1, ONE.length() + 39);
        Check.faultDue(ONE + "matter 0 gains 1 1 gains 1 on", 1, ONE.length() + 29);
        String long900 = WELL + "person cups 1" + " ".repeat(900 - WELL.length() - 13);
        Check.faultDue(long900, 1, 900);
        Check.readsDue(long900.substring(0, 899) + ";", 2);
        Check.faultDue(long900.substring(0, 899) + "s", 1, 899);
        Check.faultDue(long900.substring(0, 899) + "7", 1, 899);
        Check.faultDue(WELL + " ".repeat(864) + "person", 1, 900);
        Check.faultDue(WELL + " ".repeat(856) + "person cups 12", 2, 898);
    }

    // What end() cut away is no part of the last TOKEN.
    private static void theEndCut() {
        cutDue("wellspring", 4, 1, 4);
        cutDue("well levels", 10, 1, 10);
        cutDue("well level 99999999", 13, 1, 13);
        cutDue("well level 999", 14, 2, 11);
        cutDue(WELL + "person cups 1 stubbornly", WELL.length() + 22, 1, WELL.length() + 22);
        cutDue(WELL + "person cups 10", WELL.length() + 13, 1, WELL.length() + 13);
        cutDue("well     ;", 7, 1, 7);
        SecondWell w = new SecondWell();
        Check.feed(w, WELL + "person cups 1");
        w.end(WELL.length());
        Check.due("town(), cut", w.town(), 1);
    }

    private static void cutDue(String text, int n, int fault, int place) {
        SecondWell w = new SecondWell();
        Check.feed(w, text);
        Check.due("end", w.end(n), n);
        Check.due("town(), cut", w.town(), -4);
        Check.due("fault(0), cut", w.fault(0), fault);
        Check.due("fault(1), cut", w.fault(1), place);
    }

    private static void firstByPlace() {
        Check.faultDue("well level 100 spring 1 frost !;", 2, 11);
        Check.faultDue("well level ! spring 10 frost 0;", 1, 11);
        Check.faultDue("well level 5 spring 10 frost 101;", 2, 20);
        String six = WELL + "person cups 1;".repeat(6);
        Check.faultDue(six + "person cups 10;", 3, six.length());
        Check.faultDue(six.replace("cups 1;", "cups 10;") + "person cups 1;", 2, WELL.length() + 12);
        Check.faultDue(six + "matter 0 gains 100 1 gains 1;person cups 1;", 2, six.length() + 15);
        Check.faultDue(six + "person cups 1;matter 0 gains 100 1 gains 1;", 3, six.length());
        Check.faultDue(six + "well;person cups 1;", 1, six.length());
        Check.faultDue(six + "person;well;", 3, six.length());
    }

    private static void ofOnePlaceTheLeast() {
        String six = WELL + "person cups 1;".repeat(6);
        // A number that can't stand there, and is out of all bounds.
        Check.faultDue("well 1000 level 5 spring 1 frost 0;", 1, 5);
        Check.faultDue("well level 5 1000 spring 1 frost 0;", 1, 13);
        Check.faultDue(WELL + "person cups 1 1000;", 1, WELL.length() + 14);
        Check.faultDue(PAIR + "matter 0 1000 gains 1 1 gains 1;", 1, PAIR.length() + 9);
        Check.faultDue(WELL + "1000;", 1, WELL.length());
        // A 7th person, a 9th matter where no LINE begins.
        Check.faultDue(WELL + "person cups 1;".repeat(5) + "person cups 1 person cups 1;", 1, six.length());
        Check.faultDue(six + "matter 0 gains 1 1 gains 1 person cups 1;", 1, six.length() + 27);
        String eight = six + "matter 0 gains 1 1 gains 1;".repeat(7) + "matter 0 gains 1 1 gains 1";
        Check.faultDue(eight + " matter 0 gains 1 1 gains 1;", 1, eight.length() + 1);
        Check.faultDue(eight + ";matter 0 gains 1 1 gains 1;", 3, eight.length() + 1);
    }
}
