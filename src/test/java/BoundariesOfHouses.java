/** 'Terms': houses, letting out, hours, kinds, and asks of sayings. */
final class BoundariesOfHouses {
    private static final int NONE = CallLaws.NONE, BAD = CallLaws.BAD, KIND = -1000013;

    private BoundariesOfHouses() {
    }

    static void all() {
        Doc.terms();
        house();
        green();
        lettingOut();
        farApart();
        hours();
        kinds();
        toldAs();
        size();
        mark();
        nearestBody();
    }

    private static void due(long got, long want) {
        Doc.due(got, want);
    }

    private static void house() {
        Doc.says("A HOUSE: of each SERVICE the EDITION that stands there, or none: the number: (EDITION and 1, or 0) of SERVICE 0, "
            + "5 times that of SERVICE 1, 25 times, 125 times.");
        CallLaws x = new CallLaws();
        due(x.house(0, 0), 1);
        for (int house : new int[] {1, 5, 25, 125, 624, 625}) {
            due(x.house(house, 0), BAD);
        }
        for (int service = 0; service < 4; service++) {
            CallLaws one = Check.told(("edition " + service + ";").repeat(service + 1));
            int weight = new int[] {1, 5, 25, 125}[service];
            for (int edition = 0; edition < 4; edition++) {
                due(one.house((edition + 1) * weight, 0), edition <= service ? 1 : BAD);
            }
        }
        for (int service = 0; service < 4; service++) {
            Check.laws(x, ("edition " + service + ";").repeat(4));
        }
        due(x.house(624, 0), 1);
        due(x.house(625, 0), BAD);
        due(x.house(Integer.MAX_VALUE, 0), BAD);
    }

    private static void green() {
        Doc.says("It is GREEN, if each SAYING whose caller stands in its EDITION, and whose giver stands, is KEPT by that.");
        CallLaws x = Check.told("edition 3;edition 3;edition 0;edition 0 when 0 7 3 give 0 0 0 0;saying 3 1 0 7 7 2 give;saying 3 3 0 0 7 3 give;");
        Doc.due("no one stands", x.house(0, 0), 1);
        Doc.due("the caller alone", x.house(250, 0), 1);
        Doc.due("the giver alone", x.house(1, 0), 1);
        Doc.due("the caller in another EDITION", x.house(125 + 1, 0), 1);
        Doc.due("not KEPT", x.house(250 + 1, 0), 0);
        Doc.due("not KEPT", x.house(250 + 1, 1), 0);
        Doc.due("KEPT by another EDITION", x.house(250 + 2, 0), 1);
        due(x.house(250 + 2, 1), NONE);
    }

    private static void lettingOut() {
        Doc.says("LETTING OUT from a HOUSE to another one: steps, each of which puts one EDITION that there is into the place of a SERVICE, "
            + "or takes it away, all HOUSES GREEN (the first and the last, too): the fewest; the FIRST one: of all ways so short the "
            + "least HOUSE behind it; NONE: there is no way.");
        CallLaws x = Check.told("edition 0;edition 0;edition 1;edition 1 when 0 7 3 give 0 0 0 0;"
            + "saying 0 0 1 0 7 3 refuse;saying 0 1 1 0 7 3 give;");
        Doc.due("none", x.letOut(6, 6, 0), 0);
        Doc.due("none", x.letOut(6, 6, 1), NONE);
        Doc.due("from red to itself", x.letOut(7, 7, 0), NONE);
        Doc.due("from red", x.letOut(7, 6, 0), NONE);
        Doc.due("to red", x.letOut(6, 7, 0), NONE);
        Doc.due("from red", x.letOut(7, 6, 1), NONE);
        Doc.due("to red", x.letOut(6, 7, 1), NONE);
        Doc.due("one EDITION in place of another", x.letOut(1, 2, 0), 1);
        Doc.due("one EDITION in place of another", x.letOut(1, 2, 1), 2);
        Doc.due("taken away", x.letOut(6, 1, 0), 1);
        Doc.due("two in two steps would be red", x.letOut(6, 12, 0), 3);
        Doc.due("the least of two ways", x.letOut(6, 12, 1), 1);
        Doc.due("back: the least of two ways", x.letOut(12, 6, 1), 2);
        Doc.due("no such EDITION", x.letOut(6, 3, 0), BAD);
        Doc.due("no such EDITION", x.letOut(3, 6, 0), BAD);
        CallLaws y = Check.told("edition 0;edition 1;edition 2;edition 3;");
        due(y.letOut(0, 156, 0), 4);
        due(y.letOut(0, 156, 1), 1);
        due(y.letOut(156, 0, 0), 4);
        due(y.letOut(156, 0, 1), 31);
    }

    /** Three services, of which each forbids the others' steps but one: a way that goes away and comes back. */
    private static void farApart() {
        CallLaws x = Check.told("edition 0;edition 0;edition 1;edition 1;edition 2 when 0 7 3 give 0 0 0 0;edition 2;");
        Check.laws(x, "saying 0 0 2 0 7 3 give;saying 0 1 2 0 7 3 refuse;saying 1 0 2 0 7 3 give;saying 1 1 2 0 7 3 refuse;");
        int from = 1 + 5 + 25;
        int to = 2 + 10 + 50;
        Doc.due("over the least between", x.letOut(from, to, 0), 4);
        Doc.due("the giver is taken away first", x.letOut(from, to, 1), 6);
        Doc.due("back", x.letOut(to, from, 1), 12);
        Check.laws(x, "edition 3;saying 2 0 3 0 7 3 give;saying 2 1 3 0 7 3 give;");
        Doc.due("it may not stand there", x.letOut(from, to + 125, 0), NONE);
        Doc.due("it may not stand there", x.letOut(from, to + 125, 1), NONE);
        Doc.due("the others go on", x.letOut(from, to, 0), 4);
    }

    private static void hours() {
        Doc.says("HOURS of a SERVICE: its own and the HOURS of each that it calls, added; NONE, if WITHIN is not told for it, or it comes "
            + "to itself by calls, or one that it calls has NONE.");
        CallLaws x = Check.told("within 0 99 1 2 3;within 1 99 2 3;within 2 99 3;within 3 99;");
        Doc.due("the most", x.hours(0), 8 * 99);
        due(x.hours(1), 4 * 99);
        due(x.hours(2), 2 * 99);
        due(x.hours(3), 99);
        CallLaws none = Check.told("within 0 0 1;within 1 0 2;within 2 0 3;within 3 0;");
        Doc.due("the least", none.hours(0), 0);
        Check.laws(none, "within 3 0 2;");
        for (int service = 0; service < 4; service++) {
            Doc.due("a round of two", none.hours(service), NONE);
        }
        Check.laws(none, "within 3 0 0;");
        for (int service = 0; service < 4; service++) {
            Doc.due("a round of four", none.hours(service), NONE);
        }
        CallLaws y = Check.told("within 0 5 1;within 2 6 0;within 3 7;");
        Doc.due("not told", y.hours(1), NONE);
        Doc.due("one that it calls has NONE", y.hours(0), NONE);
        Doc.due("by one between", y.hours(2), NONE);
        Doc.due("told", y.hours(3), 7);
        Check.laws(y, "within 1 0;");
        due(y.hours(2), 11);
    }

    private static void kinds() {
        Doc.says("KINDS of SAYINGS: 0 SAYING; 1 GIVEN, a SAYING: give; 2 REFUSES, a SAYING: refuse; 3 BEFORE, a GIVEN: it is of one MOOD; "
            + "4 LOOSE, a GIVEN: of any MOOD, and no FIELD is told; 5 QUARREL, a SAYING: it is of its giver's QUARREL.");
        CallLaws x = Check.told("saying 0 0 1 0 7 3 give 0 0 5 1;saying 0 0 1 0 7 3 give;saying 0 0 1 0 7 2 give;"
            + "saying 0 0 1 0 7 0 give 3 0 0 0;saying 0 0 2 0 7 0 refuse;saying 0 0 2 0 7 3 refuse;");
        int[] want = {1, 4, 3, 3, 2, 2};
        for (int saying = 0; saying < 6; saying++) {
            due(x.kind(saying), want[saying]);
            Doc.due("all are SAYINGS", x.as(saying, 0), saying);
            Doc.due("those that give are GIVEN", x.as(saying, 1), saying < 4 ? saying : KIND);
            Doc.due("none is a QUARREL", x.as(saying, 5), KIND);
        }
        Check.laws(x, "saying 3 0 2 0 0 0 give;");
        int[] then = {1, 4, 3, 3, 5, 2, 5};
        for (int saying = 0; saying < 7; saying++) {
            due(x.kind(saying), then[saying]);
        }
    }

    private static void toldAs() {
        Doc.says("It is told as QUARREL, if it is that, else as the last that fits: by this it is asked, and taken: as that, or one above that.");
        CallLaws x = Check.told("saying 0 0 1 0 7 2 give;saying 0 0 1 0 7 2 refuse;saying 0 0 2 0 7 2 give;saying 0 0 2 0 7 3 give;saying 0 0 3 0 7 3 refuse;");
        int[][] taken = {{1, 0, 0, 0, 0, 1}, {1, 0, 0, 0, 0, 1}, {1, 1, 0, 1, 0, 0}, {1, 1, 0, 0, 1, 0}, {1, 0, 1, 0, 0, 0}};
        for (int saying = 0; saying < 5; saying++) {
            for (int kind = 0; kind < 6; kind++) {
                due(x.as(saying, kind), taken[saying][kind] == 1 ? saying : KIND);
            }
        }
        Doc.due("a QUARREL is not asked as BEFORE", x.ask(0, 0), -8);
        Doc.due("nor as REFUSES", x.ask(1, 0), -8);
    }

    private static void traced(CallLaws x, int... want) {
        for (int i = 0; i < want.length; i++) {
            due(x.trace(i), want[i]);
        }
        for (int i = want.length; i < 17; i++) {
            due(x.trace(i), NONE);
        }
    }

    private static final String KINDS = "saying 0 0 1 0 7 3 give 0 0 5 1 3 0 0 0;saying 0 0 2 7 7 0 refuse;saying 0 0 1 7 7 0 give 0 0 5 1 1 0 5 1 2 0 5 1 3 0 0 0;"
        + "saying 0 0 1 0 7 3 give;saying 0 0 3 0 7 3 give;saying 0 0 3 0 0 0 refuse;";

    private static void size() {
        Doc.says("ASKS of SAYINGS, by BODIES that are their own, each of which leaves its number in THE TRACE as it begins (the first 16): "
            + "0 SIZE: 10 lent to all SAYINGS: how many ASKS, times MOODS, it is ABOUT. 11 of GIVEN ones: what 10 gives, and how many FIELDS are told. "
            + "12 of BEFORE ones: what 11 gives, twice. 13 of REFUSES: what 10 gives, less MARK. 14 of QUARRELS: 0 less what 10 gives.");
        CallLaws x = Check.told(KINDS);
        int[] want = {24 + 2, 1 - 1, 2 * (1 + 4), 24, -24, -1};
        int[][] bodies = {{11, 10}, {13, 10, 20}, {12, 11, 10}, {11, 10}, {14, 10}, {14, 10}};
        for (int saying = 0; saying < 6; saying++) {
            due(x.ask(saying, 0), want[saying]);
            traced(x, bodies[saying]);
        }
        CallLaws last = Check.told("saying 0 0 1 0 0 0 refuse;".repeat(19));
        Check.laws(last, "saying 0 0 1 3 3 1 refuse;");
        Doc.due("fewer than none", last.ask(19, 0), 1 - 19);
    }

    private static void mark() {
        Doc.says("1 MARK: 20 lent to all SAYINGS: its number. 21 of GIVEN ones: what 20 gives, and 100. "
            + "22 of LOOSE ones: what 21 gives, and SIZE. 23 of QUARRELS: what 20 gives, and 1000.");
        CallLaws x = Check.told(KINDS);
        int[] want = {100, 1, 102, 103 + 24, 1004, 1005};
        int[][] bodies = {{21, 20}, {20}, {21, 20}, {22, 21, 20, 11, 10}, {23, 20}, {23, 20}};
        for (int saying = 0; saying < 6; saying++) {
            due(x.ask(saying, 1), want[saying]);
            traced(x, bodies[saying]);
        }
    }

    private static void nearestBody() {
        Doc.says("(Of an ask the BODY told for the KIND begins, else that of the nearest KIND that it is, too, else the one that is lent; "
            + "SIZE, MARK within others are asked of the same SAYING anew.)");
        CallLaws x = Check.told(KINDS);
        Doc.due("LOOSE has no SIZE: that of GIVEN", x.ask(3, 0), 24);
        traced(x, 11, 10);
        Doc.due("BEFORE has no MARK: that of GIVEN", x.ask(2, 1), 102);
        traced(x, 21, 20);
        Doc.due("REFUSES has no MARK: the one that is lent", x.ask(1, 1), 1);
        traced(x, 20);
        Doc.due("SIZE of LOOSE within MARK", x.ask(3, 1), 127);
        traced(x, 22, 21, 20, 11, 10);
        Doc.due("MARK of REFUSES within SIZE", x.ask(1, 0), 0);
        traced(x, 13, 10, 20);
    }
}
