import java.util.List;
import java.util.function.IntUnaryOperator;
import java.util.function.ToIntFunction;

/** 'Terms': refusals, findings, sheets, and the ranges of numbers. */
final class BoundariesOfTerms {
    private static final int NONE = CallLaws.NONE, BAD = CallLaws.BAD, STATE = CallLaws.STATE, FULL = CallLaws.FULL;
    private static final int NULL = -1000011, PLACE = -1000012, KIND = -1000013, SIZE = -1000014, STORE = -1000015;
    private static final int MIN = Integer.MIN_VALUE, MAX = Integer.MAX_VALUE;

    private BoundariesOfTerms() {
    }

    static void all() {
        Doc.terms();
        numbersFromZero();
        firstThatFits();
        findings();
        refusedChangesNothing();
        foundChangesNothing();
        sheets();
        services();
        editions();
        asksAndMoods();
        answers();
    }

    private static void due(long got, long want) {
        Doc.due(got, want);
    }

    private static void belowZero(int want, IntUnaryOperator call) {
        due(call.applyAsInt(-1), want);
        due(call.applyAsInt(MIN), want);
    }

    private static void numbersFromZero() {
        Doc.says("Numbers go from 0 on.");
        CallLaws x = Snapshot.made();
        belowZero(BAD, v -> x.sheet(v, 0, 1));
        belowZero(BAD, v -> x.sheet(0, v, 1));
        belowZero(BAD, v -> x.set(v, 0, 1));
        belowZero(PLACE, v -> x.set(1, v, 1));
        belowZero(BAD, v -> x.copy(v, 0, 1, 0, 1));
        belowZero(BAD, v -> x.copy(1, 0, v, 0, 1));
        belowZero(BAD, x::drop);
        belowZero(BAD, v -> x.feed(0, v));
        belowZero(BAD, x::editions);
        belowZero(BAD, v -> x.answer(v, 0, 0, 0, 0));
        belowZero(BAD, v -> x.answer(1, v, 0, 0, 0));
        belowZero(BAD, v -> x.answer(1, 0, v, 0, 0));
        belowZero(BAD, v -> x.answer(1, 0, 0, v, 0));
        belowZero(BAD, v -> x.answer(1, 0, 0, 0, v));
        belowZero(BAD, v -> x.saying(v, 0));
        belowZero(BAD, v -> x.saying(0, v));
        belowZero(BAD, v -> x.play(v, 0, 0));
        belowZero(BAD, v -> x.play(0, v, 0));
        belowZero(BAD, v -> x.play(0, 0, v));
        belowZero(BAD, v -> x.standIn(v, 0, 1, 0, 0, 0));
        belowZero(BAD, v -> x.standIn(0, v, 1, 0, 0, 0));
        belowZero(BAD, v -> x.standIn(0, 0, v, 0, 0, 0));
        belowZero(BAD, v -> x.standIn(0, 0, 1, v, 0, 0));
        belowZero(BAD, v -> x.standIn(0, 0, 1, 0, v, 0));
        belowZero(BAD, v -> x.allows(v, 1, 0, 1));
        belowZero(BAD, v -> x.allows(0, v, 0, 1));
        belowZero(BAD, v -> x.noMore(v, 0));
        belowZero(BAD, v -> x.noMore(0, v));
        belowZero(BAD, x::quarrel);
        belowZero(BAD, v -> x.change(v, 0, 0));
        belowZero(BAD, v -> x.change(1, v, 0));
        belowZero(BAD, v -> x.change(1, 0, v));
        belowZero(BAD, x::right);
        belowZero(BAD, v -> x.house(v, 0));
        belowZero(BAD, v -> x.house(0, v));
        belowZero(BAD, v -> x.letOut(v, 0, 0));
        belowZero(BAD, v -> x.letOut(0, v, 0));
        belowZero(BAD, v -> x.letOut(0, 0, v));
        belowZero(BAD, x::hours);
        belowZero(BAD, x::kind);
        belowZero(BAD, v -> x.as(v, 0));
        belowZero(BAD, v -> x.as(0, v));
        belowZero(BAD, v -> x.ask(v, 0));
        belowZero(BAD, v -> x.ask(0, v));
        belowZero(NONE, x::trace);
        belowZero(BAD, x::count);
    }

    private static void firstThatFits() {
        Doc.says("Refusals are answers, the first of these that fits: BAD (a number is not as told; there is no such thing), "
            + "STATE (as told), FULL (as told), then FINDINGS, of several the first in time:");
        CallLaws x = Snapshot.made();
        Doc.due("STATE", x.noMore(0, 2), STATE);
        Doc.due("BAD ahead of STATE", x.noMore(2, 4), BAD);
        Doc.due("BAD ahead of STATE", x.noMore(4, 2), BAD);
        Doc.due("BAD ahead of SIZE", x.sheet(8, 0, -1), BAD);
        Doc.due("BAD ahead of SIZE", x.sheet(0, 3, -1), BAD);
        Doc.due("BAD ahead of NULL", x.set(8, 0, 0), BAD);
        Doc.due("BAD ahead of NULL", x.copy(7, 0, 8, 0, 0), BAD);
        Doc.due("BAD ahead of NULL", x.copy(8, 0, 7, 0, 0), BAD);
        Doc.due("BAD ahead of NULL", x.allows(0, 7, 0, 21), BAD);
        Doc.due("BAD ahead of NULL", x.allows(4, 7, 0, 1), BAD);
        Doc.due("BAD ahead of PLACE", x.allows(0, 1, 40, 0), BAD);
        Doc.due("BAD ahead of KIND", x.as(0, 6), BAD);
        Doc.due("BAD ahead of KIND", x.as(4, 2), BAD);
        Doc.due("NULL ahead of PLACE", x.set(7, -1, 0), NULL);
        Doc.due("NULL ahead of PLACE", x.copy(7, -1, 0, 0, 0), NULL);
        Doc.due("NULL ahead of PLACE", x.copy(0, -1, 7, 0, -1), NULL);
        Doc.due("NULL ahead of PLACE", x.allows(0, 7, -1, 1), NULL);
        Doc.due("STORE ahead of PLACE", x.copy(0, -1, 1, 0, 1), STORE);
        Doc.due("STORE ahead of PLACE", x.copy(0, 0, 1, 0, MAX), STORE);
        Doc.due("PLACE ahead of an ITEM", x.allows(0, 0, 0, 3), PLACE);
        CallLaws full = new CallLaws();
        Check.feed(full, " ".repeat(500));
        Doc.due("FULL", full.feed(' ', 8), FULL);
        Doc.due("BAD ahead of FULL", full.feed(' ', 9), BAD);
        Doc.due("BAD ahead of FULL", full.feed(' ', 0), BAD);
    }

    private static void findings() {
        Doc.says("-1000010 less 1 NULL (a SHEET that is missing), 2 PLACE (no such place of a SHEET), 3 KIND (a SAYING that is "
            + "not that), 4 SIZE (fewer than none), 5 STORE (SHEETS of two LANES).");
        CallLaws x = Snapshot.made();
        due(x.set(7, 0, 0), NULL);
        due(x.status(), 1);
        due(x.set(0, 2, 0), PLACE);
        due(x.status(), 2);
        due(x.as(0, 2), KIND);
        due(x.status(), 3);
        due(x.sheet(0, 0, -1), SIZE);
        due(x.status(), 4);
        due(x.copy(0, 0, 1, 0, 1), STORE);
        due(x.status(), 5);
    }

    /** The same object twice, once with the call that is refused: all the rest must be alike. */
    private static void same(int want, int status, ToIntFunction<CallLaws> call) {
        CallLaws x = Snapshot.made();
        due(call.applyAsInt(x), want);
        due(x.status(), status);
        List<Integer> seen = Snapshot.of(x);
        List<Integer> unchanged = Snapshot.of(Snapshot.made());
        Doc.holds("nothing is changed: " + seen + " " + unchanged, seen.equals(unchanged));
    }

    private static void bad(ToIntFunction<CallLaws> call) {
        same(BAD, 1, call);
    }

    private static void refusedChangesNothing() {
        Doc.says("What is refused, or found, changes nothing but status().");
        bad(x -> x.sheet(8, 0, 3));
        bad(x -> x.sheet(1, 3, 3));
        bad(x -> x.sheet(1, 0, 41));
        bad(x -> x.set(8, 0, 3));
        bad(x -> x.copy(1, 0, 8, 1, 3));
        bad(x -> x.copy(8, 0, 1, 1, 3));
        bad(x -> x.drop(8));
        bad(x -> x.feed(-1L, 0));
        bad(x -> x.feed(-1L, 9));
        bad(x -> x.editions(4));
        bad(x -> x.answer(1, 2, 0, 0, 0));
        bad(x -> x.saying(4, 0));
        bad(x -> x.play(0, 2, 0));
        bad(x -> x.standIn(1, 0, 1, 0, 0, 0));
        bad(x -> x.allows(0, 1, 0, 21));
        bad(x -> x.allows(3, 0, 0, 1));
        bad(x -> x.noMore(0, 4));
        bad(x -> x.quarrel(4));
        bad(x -> x.change(1, 0, 2));
        bad(x -> x.right(4));
        bad(x -> x.house(625, 0));
        bad(x -> x.letOut(0, 15, 0));
        bad(x -> x.hours(4));
        bad(x -> x.kind(4));
        bad(x -> x.as(4, 0));
        bad(x -> x.as(0, 6));
        bad(x -> x.ask(4, 0));
        bad(x -> x.ask(1, 2));
        bad(x -> x.count(6));
        same(NONE, 1, x -> x.trace(16));
        same(STATE, 1, x -> x.noMore(0, 2));
        fullChangesNothing();
    }

    private static void fullChangesNothing() {
        CallLaws x = Check.told("edition 0;");
        x.drop(0);
        Check.feed(x, " ".repeat(487) + "edition 0");
        due(x.count(5), 496);
        due(x.feed(0x3b3b3b3b3bL, 5), FULL);
        due(x.count(5), 496);
        due(x.status(), 1);
        due(x.feed(';', 1), 497);
        due(x.laws(), 0);
        due(x.editions(0), 2);
    }

    private static void foundChangesNothing() {
        same(SIZE, 4, x -> x.sheet(1, 0, -1));
        same(NULL, 1, x -> x.set(7, 0, 3));
        same(PLACE, 2, x -> x.set(1, 40, 3));
        same(NULL, 1, x -> x.copy(1, 0, 7, 0, 1));
        same(NULL, 1, x -> x.copy(7, 0, 1, 0, 1));
        same(STORE, 5, x -> x.copy(0, 0, 1, 0, 1));
        same(PLACE, 2, x -> x.copy(1, 0, 1, 1, 40));
        same(PLACE, 2, x -> x.copy(1, 39, 1, 0, 2));
        same(NULL, 1, x -> x.drop(7));
        same(NULL, 1, x -> x.allows(0, 7, 0, 1));
        same(PLACE, 2, x -> x.allows(0, 1, 40, 1));
        same(KIND, 3, x -> x.as(0, 5));
    }

    private static void sheets() {
        Doc.says("SHEETS 0 .. 7 are missing (at first), or have a LANE (0 bytes, 1 shorts, 2 ints) and 0 to 40 ITEMS, 0 at first.");
        CallLaws x = Check.told("saying 0 0 1 0 0 0 give 0 0 0 0 1 0 0 0 2 0 0 0 3 0 0 0;");
        for (int sheet = 0; sheet < 8; sheet++) {
            due(x.drop(sheet), NULL);
            due(x.set(sheet, 0, 0), NULL);
            due(x.copy(sheet, 0, sheet, 0, 0), NULL);
            due(x.allows(0, sheet, 0, 1), NULL);
        }
        for (int sheet = 0; sheet < 8; sheet++) {
            due(x.sheet(sheet, sheet % 3, 40), 40);
            due(x.allows(0, sheet, 0, 20), 20);
            due(x.allows(0, sheet, 20, 20), 20);
            due(x.set(sheet, 39, 0x12345678), new int[] {0x78, 0x5678, 0x12345678}[sheet % 3]);
            due(x.set(sheet, 40, 1), PLACE);
            due(x.sheet(sheet, sheet % 3, 40), 40);
            due("ITEMS of a SHEET made anew", x.allows(0, sheet, 20, 20), 20);
            due(x.sheet(sheet, sheet % 3, 0), 0);
            due(x.set(sheet, 0, 1), PLACE);
            due(x.drop(sheet), 0);
        }
        due(x.sheet(8, 0, 0), BAD);
    }

    private static void due(String what, long got, long want) {
        Doc.due(what, got, want);
    }

    private static void services() {
        Doc.says("SERVICES 0 .. 3.");
        CallLaws x = Check.told("edition 0;edition 1;edition 2;edition 3;within 0 1;within 1 2;within 2 3;within 3 4;");
        for (int service = 0; service < 4; service++) {
            due(x.editions(service), 1);
            due(x.hours(service), service + 1);
            due(x.answer(service, 0, 0, 0, 4), 1);
            due(x.quarrel(service), 0);
            due(x.change(service, 0, 0), 0);
        }
        due(x.editions(4), BAD);
        due(x.hours(4), BAD);
        due(x.answer(4, 0, 0, 0, 4), BAD);
        due(x.quarrel(4), BAD);
        due(x.change(4, 0, 0), BAD);
        due(x.standIn(3, 0, 0, 0, 0, -1), 2402);
        due(x.standIn(0, 0, 3, 0, 0, -1), 2402);
        due(x.standIn(4, 0, 0, 0, 0, -1), BAD);
        due(x.standIn(0, 0, 4, 0, 0, -1), BAD);
    }

    private static void editions() {
        Doc.says("EDITIONS of each, 0, 1, .. (4 at most), as they are told.");
        String four = "edition 2 when 0 7 3 give 0 0 0 0;edition 2 when 0 7 3 give 1 0 0 0;"
            + "edition 2 when 0 7 3 give 2 0 0 0;edition 2 when 0 7 3 give 3 0 0 0;";
        CallLaws x = Check.told("edition 1;" + four);
        due(x.editions(2), 4);
        for (int edition = 0; edition < 4; edition++) {
            due(x.answer(2, edition, 0, 0, 0), edition);
        }
        due(x.answer(2, 4, 0, 0, 0), BAD);
        due(x.answer(1, 1, 0, 0, 4), BAD);
        due(Check.laws(x, "edition 2;"), -1000108);
        due(x.editions(2), 4);
        due("of another SERVICE there is room", Check.laws(x, "edition 1;edition 3;edition 0;"), 0);
        due(x.editions(1), 2);
    }

    private static void asksAndMoods() {
        Doc.says("An ASK is 0 to 7, in a MOOD of the giver's rows 0 to 2.");
        CallLaws x = Check.told("edition 0 when 0 0 0 give 1 1 1 1 when 7 7 2 give 2 2 2 2;");
        due(x.answer(0, 0, 0, 0, 3), 1);
        due(x.answer(0, 0, 7, 2, 3), 2);
        due(x.answer(0, 0, 7, 1, 4), 1);
        due(x.answer(0, 0, 0, 2, 4), 1);
        due(x.answer(0, 0, 8, 2, 3), BAD);
        due(x.answer(0, 0, 7, 3, 3), BAD);
        due(x.answer(0, 0, MAX, 0, 3), BAD);
        due(x.answer(0, 0, 0, MAX, 3), BAD);
        due(x.standIn(1, 0, 0, 7, 2, -1), 2402);
        due(x.standIn(1, 0, 0, 8, 2, -1), BAD);
        due(x.standIn(1, 0, 0, 7, 3, -1), BAD);
    }

    private static void answers() {
        Doc.says("An ANSWER: REFUSED, or four FIELDS, each 0 to 5, or left out (6).");
        CallLaws x = Check.told("edition 0 when 0 0 3 give 0 5 6 0 when 1 1 3 refuse;");
        int[] want = {0, 5, 6, 0, 0};
        for (int what = 0; what < 5; what++) {
            due(x.answer(0, 0, 0, 0, what), want[what]);
            due(x.answer(0, 0, 1, 0, what), what == 4 ? 1 : NONE);
        }
        due(x.answer(0, 0, 0, 0, 5), BAD);
        Check.fault("edition 0 when 0 0 3 give 7 0 0 0;", 26, 2);
        Check.fault("edition 0 when 0 0 3 give 0 0 0 7;", 32, 2);
    }
}
