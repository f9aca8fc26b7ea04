import java.nio.charset.StandardCharsets;

/** What the tests share: answers that are due, and texts fed to a tape. */
final class Check {
    private static int wrong = 0;
    private static int tried = 0;

    private Check() {
    }

    static void due(String call, long got, long want) {
        tried++;
        if (got != want) {
            wrong++;
            System.out.println(call + " answered " + got + ", due is " + want);
        }
    }

    static void holds(String what, boolean so) {
        due(what, so ? 1 : 0, 1);
    }

    static void end() {
        System.out.println(wrong == 0 ? tried + " answers are as due" : wrong + " answers are not as due");
        if (wrong != 0) {
            System.exit(1);
        }
    }

    /** Feeds a text in pieces of eight bytes: what the last feed answers. */
    static int feed(CallLaws x, String text) {
        byte[] bytes = text.getBytes(StandardCharsets.ISO_8859_1);
        int answer = x.count(5);
        for (int at = 0; at < bytes.length; at += 8) {
            int n = Math.min(8, bytes.length - at);
            long w = 0;
            for (int i = 0; i < n; i++) {
                w = w << 8 | bytes[at + i] & 255;
            }
            answer = x.feed(w, n);
        }
        return answer;
    }

    static int laws(CallLaws x, String text) {
        feed(x, text);
        return x.laws();
    }

    /** A new object that has read a text without a FAULT. */
    static CallLaws told(String text) {
        CallLaws x = new CallLaws();
        int answer = laws(x, text);
        holds("no fault in '" + text + "' (" + answer + ")", answer >= 0);
        return x;
    }

    /** A FAULT of a text on a new object: its place and its number. */
    static void fault(String text, int place, int number) {
        CallLaws x = new CallLaws();
        due("laws() of '" + text + "'", laws(x, text), -1000100 - place);
        due("fault() of '" + text + "'", x.fault(), number);
        due("sayings after '" + text + "'", x.count(2), 0);
        due("editions after '" + text + "'", x.count(1), 0);
        due("within after '" + text + "'", x.count(4), 0);
        due("tape after '" + text + "'", x.count(5), 0);
    }
}
