import java.nio.charset.StandardCharsets;
import java.util.function.IntUnaryOperator;

/** What the tests share: telling a text, comparing answers, ending with the exit code. */
final class Check {
    static final int LEAST = Integer.MIN_VALUE;
    static final int MOST = Integer.MAX_VALUE;

    private static int wrong = 0;
    private static int asked = 0;

    private Check() {
    }

    static void due(String call, long got, long want) {
        asked++;
        if (got != want) {
            wrong++;
            System.out.println(call + " answered " + got + ", due is " + want);
        }
    }

    /** The same answer is due for each of the given numbers. */
    static void each(String call, IntUnaryOperator ask, int want, int... given) {
        for (int n : given) {
            due(call + " with " + n, ask.applyAsInt(n), want);
        }
    }

    /** Of all answers from 0 on the due ones. */
    static void row(String call, IntUnaryOperator ask, int... want) {
        for (int i = 0; i < want.length; i++) {
            due(call + " with " + i, ask.applyAsInt(i), want[i]);
        }
    }

    /** Numbers that are none of 0 .. n - 1: the nearest ones, such as a shift or a cut would take for one, the farthest. */
    static int[] beyond(int n) {
        return new int[] {-1, n, -2, n + 1, n + 32, n + 64, n + 256, -32, 1 << 16, 1 << 30, LEAST, LEAST + 1, MOST};
    }

    static void finish(String name) {
        System.out.println(name + ": " + asked + " answers, " + wrong + " not as due");
        if (wrong != 0) {
            System.exit(1);
        }
    }

    static int wrongs() {
        return wrong;
    }

    static void feed(SecondWell w, String text) {
        feedBytes(w, text.getBytes(StandardCharsets.ISO_8859_1));
    }

    /** Puts the bytes behind what the TAPE has. */
    static void feedBytes(SecondWell w, byte[] bytes) {
        int had = w.count(5);
        for (int at = 0; at < bytes.length; at += 20) {
            w.feed(four(bytes, at), four(bytes, at + 4), four(bytes, at + 8), four(bytes, at + 12),
                    four(bytes, at + 16));
        }
        w.end(had + bytes.length);
    }

    static int four(byte[] bytes, int at) {
        int number = 0;
        for (int i = at; i < at + 4; i++) {
            number = number << 8 | (i < bytes.length ? bytes[i] & 255 : 0);
        }
        return number;
    }

    static SecondWell told(String text) {
        SecondWell w = new SecondWell();
        feed(w, text);
        int lines = w.town();
        if (lines <= 0) {
            due("town() of " + text, lines, 1);
        }
        return w;
    }

    /** A text without a FAULT, of so many LINES. */
    static SecondWell readsDue(String text, int lines) {
        SecondWell w = new SecondWell();
        feed(w, text);
        due("town() of '" + text + "'", w.town(), lines);
        due("fault(0) of '" + text + "'", w.fault(0), 0);
        due("fault(1) of '" + text + "'", w.fault(1), -1);
        due("count(4) of '" + text + "'", w.count(4), lines);
        return w;
    }

    static void faultDue(String text, int fault, int place) {
        SecondWell w = new SecondWell();
        feed(w, text);
        due("town() of '" + text + "'", w.town(), -4);
        due("fault(0) of '" + text + "'", w.fault(0), fault);
        due("fault(1) of '" + text + "'", w.fault(1), place);
        due("count(4) behind a fault", w.count(4), 0);
    }

    /** A SLOT's row is just these numbers. */
    static void put(SecondWell w, int slot, int width, long... numbers) {
        due("row", w.row(slot, width, numbers.length), 0);
        for (int i = 0; i < numbers.length; i++) {
            due("write", w.write(slot, i, numbers[i]), 0);
        }
    }

    /** ACTS by their numbers, each of which can be. */
    static void take(SecondWell w, int... acts) {
        for (int act : acts) {
            int answer = act < 10 ? w.settle(act) : act < 20 ? w.drink(act - 10) : w.day();
            if (answer < 0) {
                due("ACT " + act, answer, 0);
            }
        }
    }
}
