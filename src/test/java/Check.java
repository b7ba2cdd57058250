import java.nio.charset.StandardCharsets;

/** What the tests share: telling a text, comparing answers, ending with the exit code. */
final class Check {
    private static int wrong = 0;
    private static int asked = 0;

    private Check() {
    }

    static void due(String call, long got, long want) {
        asked++;
        if (got != want) {
            wrong++;
            System.out.println(call + " answered " + got + ", due is " + want);
        }
    }

    static void finish(String name) {
        System.out.println(name + ": " + asked + " answers, " + wrong + " not as due");
        if (wrong != 0) {
            System.exit(1);
        }
    }

    static int wrongs() {
        return wrong;
    }

    static void feed(SecondWell w, String text) {
        feedBytes(w, text.getBytes(StandardCharsets.ISO_8859_1));
    }

    /** Puts the bytes behind what the TAPE has. */
    static void feedBytes(SecondWell w, byte[] bytes) {
        int had = w.count(5);
        for (int at = 0; at < bytes.length; at += 20) {
            w.feed(four(bytes, at), four(bytes, at + 4), four(bytes, at + 8), four(bytes, at + 12),
                    four(bytes, at + 16));
        }
        w.end(had + bytes.length);
    }

    static int four(byte[] bytes, int at) {
        int number = 0;
        for (int i = at; i < at + 4; i++) {
            number = number << 8 | (i < bytes.length ? bytes[i] & 255 : 0);
        }
        return number;
    }

    static SecondWell told(String text) {
        SecondWell w = new SecondWell();
        feed(w, text);
        int lines = w.town();
        if (lines <= 0) {
            due("town() of " + text, lines, 1);
        }
        return w;
    }

    static void faultDue(String text, int fault, int place) {
        SecondWell w = new SecondWell();
        feed(w, text);
        due("town() of '" + text + "'", w.town(), -4);
        due("fault(0) of '" + text + "'", w.fault(0), fault);
        due("fault(1) of '" + text + "'", w.fault(1), place);
        due("count(4) behind a fault", w.count(4), 0);
    }
}
