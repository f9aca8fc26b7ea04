import java.util.ArrayList;
import java.util.List;

/** All that calls can see of one certain object, but for status(); few enough calls for one object's life. */
final class Snapshot {
    static final String LAWS = "edition 0;edition 1 when 0 3 3 give 1 0 0 6;"
        + "edition 1 when 0 7 1 refuse when 0 7 3 give 0 1 2 3;edition 2;"
        + "saying 0 0 1 0 3 3 give 0 1 1 0;saying 2 0 1 4 7 1 refuse;saying 0 0 2 1 1 0 give 3 5 5 1;"
        + "saying 3 0 1 0 0 3 give;try 0 0 1;within 0 9 1;within 1 5;";

    private Snapshot() {
    }

    /** It has some of everything: a FINDING, a FAULT, a trace, three sheets, and a text that is not ended. */
    static CallLaws made() {
        CallLaws x = new CallLaws();
        Check.laws(x, "edition 9;");
        Check.laws(x, LAWS);
        x.sheet(0, 0, 2);
        x.sheet(1, 1, 40);
        x.sheet(2, 2, 0);
        x.set(0, 0, -1);
        x.set(1, 0, 1);
        x.set(1, 39, 2401);
        x.ask(0, 0);
        Check.feed(x, "edition 3");
        x.drop(7);
        return x;
    }

    /** It is the last that is done with an object: the lanes, the sizes and the tape are seen by using them up. */
    static List<Integer> of(CallLaws x) {
        List<Integer> seen = new ArrayList<>();
        for (int i = 0; i < 4; i++) {
            seen.add(x.trace(i));
        }
        seen.add(x.fault());
        counts(x, seen);
        editions(x, seen);
        sayings(x, seen);
        houses(x, seen);
        sheets(x, seen);
        seen.add(x.feed(';', 1));
        seen.add(x.laws());
        counts(x, seen);
        seen.add(x.editions(3));
        return seen;
    }

    private static void counts(CallLaws x, List<Integer> seen) {
        for (int what = 0; what <= 5; what++) {
            seen.add(x.count(what));
        }
    }

    private static void editions(CallLaws x, List<Integer> seen) {
        for (int service = 0; service < 4; service++) {
            seen.add(x.editions(service));
            seen.add(x.quarrel(service));
            seen.add(x.hours(service));
        }
        for (int at = 0; at < 24; at++) {
            seen.add(x.answer(1, at / 12, at / 3 % 4 * 2 + 1, at % 3, 0));
            seen.add(x.answer(1, at / 12, at / 3 % 4 * 2, at % 3, 4));
        }
        seen.add(x.change(1, 0, 1));
        seen.add(x.change(1, 1, 0));
    }

    private static void sayings(CallLaws x, List<Integer> seen) {
        for (int saying = 0; saying < 5; saying++) {
            for (int what = 0; what < 8; what++) {
                seen.add(x.saying(saying, what));
            }
            for (int other = 0; other < 4; other++) {
                seen.add(x.noMore(saying, other));
            }
            seen.add(x.play(saying, 0, 1));
            seen.add(x.play(saying, 1, 1));
            seen.add(x.right(saying));
            seen.add(x.kind(saying));
        }
        for (int ask = 0; ask < 8; ask++) {
            seen.add(x.standIn(0, 0, 1, ask, 0, -1));
        }
    }

    private static void houses(CallLaws x, List<Integer> seen) {
        for (int house : new int[] {0, 1, 5, 6, 10, 11, 25, 26, 30, 31, 35, 36, 125}) {
            seen.add(x.house(house, 1));
        }
        for (int what = 0; what < 2; what++) {
            seen.add(x.letOut(0, 6, what));
            seen.add(x.letOut(6, 10, what));
        }
    }

    private static void sheets(CallLaws x, List<Integer> seen) {
        seen.add(x.allows(0, 1, 0, 1));
        seen.add(x.allows(0, 1, 1, 19));
        seen.add(x.allows(1, 1, 39, 1));
        seen.add(x.allows(3, 1, 20, 20));
        seen.add(x.allows(3, 0, 0, 1));
        seen.add(x.allows(3, 0, 1, 1));
        for (int sheet = 0; sheet < 8; sheet++) {
            seen.add(x.set(sheet, 0, 70000));
            seen.add(x.drop(sheet));
        }
    }
}
