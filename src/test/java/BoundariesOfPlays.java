/** 'Terms': sayings played against editions, stand-ins, quarrels, changes, rights. */
final class BoundariesOfPlays {
    private static final int NONE = CallLaws.NONE, BAD = CallLaws.BAD, STATE = CallLaws.STATE;
    private static final int REFUSED = 2401;

    private BoundariesOfPlays() {
    }

    static void all() {
        Doc.terms();
        about();
        allows();
        keeps();
        breaks();
        standIns();
        noMore();
        quarrel();
        change();
        right();
    }

    private static void due(long got, long want) {
        Doc.due(got, want);
    }

    private static int number(int a, int b, int c, int d) {
        return a + 7 * b + 49 * c + 343 * d;
    }

    private static void about() {
        Doc.says("A SAYING is ABOUT an ASK in a MOOD, if both are of its own.");
        CallLaws x = Check.told("saying 0 0 1 2 4 1 refuse;saying 0 1 1 0 7 3 refuse;saying 0 2 1 0 0 0 refuse;saying 0 3 1 7 7 2 refuse;");
        for (int ask = 0; ask < 8; ask++) {
            for (int mood = 0; mood < 3; mood++) {
                due(x.standIn(0, 0, 1, ask, mood, -1), ask >= 2 && ask <= 4 && mood == 1 ? 1 : 2402);
                due(x.standIn(0, 1, 1, ask, mood, -1), 1);
                due(x.standIn(0, 2, 1, ask, mood, -1), ask == 0 && mood == 0 ? 1 : 2402);
                due(x.standIn(0, 3, 1, ask, mood, -1), ask == 7 && mood == 2 ? 1 : 2402);
            }
        }
    }

    private static int allowed(CallLaws x, int saying, int number) {
        x.sheet(0, 2, 1);
        x.set(0, 0, number);
        return x.allows(saying, 0, 0, 1);
    }

    private static void allows() {
        Doc.says("It ALLOWS an ANSWER: 'refuse': REFUSED alone; 'give': four FIELDS, each told one in its span, or left out, if that may be.");
        CallLaws x = Check.told("saying 0 0 1 0 0 0 refuse;saying 0 0 1 0 0 0 give;"
            + "saying 0 0 1 0 0 0 give 0 2 4 0 3 0 0 1;");
        due(allowed(x, 0, REFUSED), 1);
        due(allowed(x, 0, 0), 0);
        due(allowed(x, 0, 2400), 0);
        due(allowed(x, 1, REFUSED), 0);
        due(allowed(x, 1, 0), 1);
        due(allowed(x, 1, 2400), 1);
        due(allowed(x, 2, REFUSED), 0);
        for (int value = 0; value <= 6; value++) {
            due(allowed(x, 2, number(value, 6, 0, 0)), value >= 2 && value <= 4 ? 1 : 0);
            due(allowed(x, 2, number(2, 0, 6, value)), value == 0 || value == 6 ? 1 : 0);
            due(allowed(x, 2, number(4, value, value, 6)), 1);
        }
    }

    private static void keeps() {
        Doc.says("An EDITION KEEPS a SAYING of its SERVICE as giver, if it ANSWERS all ASKS in MOODS that it is ABOUT as it ALLOWS.");
        CallLaws x = Check.told("edition 1 when 0 6 3 give 0 0 0 0 when 7 7 0 give 0 0 0 0 when 7 7 1 give 0 0 0 0;edition 1;"
            + "saying 0 0 1 0 7 3 give;saying 0 0 1 0 6 3 give;saying 0 0 1 7 7 2 refuse;saying 0 0 1 0 7 1 give 0 0 0 0;"
            + "saying 1 0 0 0 7 3 give;");
        int[] first = {0, 1, 1, 1};
        int[] second = {0, 0, 1, 0};
        for (int saying = 0; saying < 4; saying++) {
            Doc.due("all but the last ask in the last mood", x.play(saying, 0, 0), first[saying]);
            due(x.play(saying, 1, 0), second[saying]);
        }
        Doc.due("its giver has no EDITION", x.play(4, 0, 0), BAD);
        due(x.count(3), 3);
    }

    private static void breaks() {
        Doc.says("BREAKS: the first ASK, then MOOD, for which it does not, and the first FIELD that is not allowed (4: REFUSED, or not): "
            + "64 times the ASK, 8 times the MOOD, and that.");
        CallLaws x = Check.told("edition 1 when 0 7 3 give 1 1 1 1;"
            + "edition 1 when 0 2 3 give 0 0 0 0 when 3 3 2 refuse when 0 7 1 give 0 0 0 0 when 3 3 0 give 0 0 0 0 when 4 7 3 refuse;"
            + "saying 0 0 1 0 7 3 give 0 0 0 0;saying 0 0 1 7 7 2 give 3 0 0 0;saying 0 0 1 7 7 2 refuse;"
            + "saying 0 0 1 0 0 0 give 3 0 0 0 2 2 5 1 1 0 1 0;saying 0 0 1 0 7 3 give;saying 0 0 1 0 7 3 refuse;"
            + "saying 0 0 1 0 3 2 give 0 0 1 0;");
        Doc.due("the least", x.play(0, 0, 1), 0);
        Doc.due("the last FIELD", x.play(1, 0, 1), 64 * 7 + 8 * 2 + 3);
        Doc.due("the greatest: not REFUSED", x.play(2, 0, 1), 64 * 7 + 8 * 2 + 4);
        Doc.due("the first FIELD of two", x.play(3, 0, 1), 2);
        Doc.due("it KEEPS it", x.play(4, 0, 1), NONE);
        Doc.due("not REFUSED", x.play(5, 0, 1), 4);
        Doc.due("the first ASK, not the first MOOD", x.play(4, 1, 1), 64 * 3 + 8 * 2 + 4);
        Doc.due("REFUSED", x.play(6, 1, 1), 64 * 3 + 8 * 2 + 4);
        Doc.due("it KEEPS it", x.play(6, 0, 1), NONE);
    }

    private static void standIns() {
        Doc.says("STAND-INS for a caller in an EDITION and a giver, an ASK, a MOOD: all ANSWERS that all its SAYINGS for that giver, "
            + "ABOUT these, ALLOW: as numbers: FIELD 0 and 7 times FIELD 1, 49 times, 343 times; 2401: REFUSED; by rising numbers.");
        CallLaws x = Check.told("saying 0 0 1 0 0 3 give 0 5 5 1 1 5 5 1 2 5 5 1 3 5 5 1;saying 0 0 1 0 0 1 give 3 0 5 0;"
            + "saying 0 0 1 0 0 2 refuse;saying 0 0 1 1 1 3 refuse;saying 1 0 0 0 0 3 refuse;");
        due(x.standIn(0, 0, 1, 0, 0, -1), 16);
        due(x.standIn(0, 0, 1, 0, 0, 0), number(5, 5, 5, 5));
        due(x.standIn(0, 0, 1, 0, 0, 1), number(6, 5, 5, 5));
        due(x.standIn(0, 0, 1, 0, 0, 2), number(5, 6, 5, 5));
        due(x.standIn(0, 0, 1, 0, 0, 4), number(5, 5, 6, 5));
        due(x.standIn(0, 0, 1, 0, 0, 8), number(5, 5, 5, 6));
        due(x.standIn(0, 0, 1, 0, 0, 15), 2400);
        due(x.standIn(0, 0, 1, 0, 0, 16), NONE);
        due(x.standIn(0, 0, 1, 0, 1, -1), 8);
        due(x.standIn(0, 0, 1, 0, 1, 7), number(6, 6, 6, 5));
        due(x.standIn(0, 0, 1, 0, 1, 8), NONE);
        Doc.due("none", x.standIn(0, 0, 1, 0, 2, -1), 0);
        Doc.due("none", x.standIn(0, 0, 1, 0, 2, 0), NONE);
        Doc.due("REFUSED alone", x.standIn(0, 0, 1, 1, 2, -1), 1);
        Doc.due("REFUSED alone", x.standIn(0, 0, 1, 1, 2, 0), REFUSED);
        Doc.due("REFUSED alone", x.standIn(0, 0, 1, 1, 2, 1), NONE);
        for (int i : new int[] {0, 1, 6, 7, 48, 49, 342, 343, 2400, 2401}) {
            Doc.due("all", x.standIn(0, 0, 1, 2, 0, i), i);
        }
        Doc.due("all", x.standIn(0, 0, 1, 2, 0, -1), 2402);
        Doc.due("all", x.standIn(0, 0, 1, 2, 0, 2402), NONE);
        Doc.due("of another EDITION", x.standIn(0, 1, 1, 0, 2, -1), 2402);
        Doc.due("of another giver", x.standIn(0, 0, 2, 0, 2, -1), 2402);
        Doc.due("the other way round", x.standIn(1, 0, 0, 0, 0, -1), 1);
    }

    private static void noMore() {
        Doc.says("A SAYING says NO MORE than another one (of one giver), if that is ABOUT all that it is ABOUT, and it ALLOWS each ANSWER that that ALLOWS.");
        CallLaws x = Check.told("saying 0 0 1 2 5 3 give 0 2 4 1;saying 2 1 1 2 5 3 give 0 2 4 1;saying 0 0 1 1 5 3 give 0 2 4 0;"
            + "saying 0 0 1 2 6 3 give 0 3 4 1;saying 0 0 1 2 5 1 give 0 2 4 1;saying 0 0 1 2 5 3 refuse;saying 0 0 1 0 7 3 give;"
            + "saying 0 0 1 2 5 3 give 0 0 5 1;saying 0 0 2 2 5 3 give 0 2 4 1;");
        Doc.due("than itself", x.noMore(0, 0), 1);
        Doc.due("of other callers", x.noMore(0, 1), 1);
        due(x.noMore(1, 0), 1);
        Doc.due("an ASK more", x.noMore(0, 2), 1);
        Doc.due("an ASK less", x.noMore(2, 0), 0);
        Doc.due("an ASK and a value", x.noMore(0, 3), 1);
        due(x.noMore(3, 0), 0);
        Doc.due("one MOOD, of any", x.noMore(4, 0), 1);
        Doc.due("any MOOD, of one", x.noMore(0, 4), 0);
        Doc.due("give and refuse", x.noMore(0, 5), 0);
        due(x.noMore(5, 0), 0);
        due(x.noMore(5, 5), 1);
        Doc.due("ABOUT all, but ALLOWS more", x.noMore(0, 6), 0);
        Doc.due("no FIELD told, but ABOUT more", x.noMore(6, 0), 0);
        Doc.due("a FIELD told that may be anything", x.noMore(7, 6), 1);
        Doc.due("of two givers", x.noMore(0, 8), STATE);
        Doc.due("of two givers", x.noMore(8, 0), STATE);
    }

    private static void quarrel() {
        Doc.says("QUARREL of a giver: the fewest of its SAYINGS, of several sets the least number (bits), that are all ABOUT some one "
            + "ASK in a MOOD, and ALLOW no ANSWER together; 0: there are none.");
        due(new CallLaws().quarrel(0), 0);
        Doc.due("one alone never does", Check.told("saying 0 0 1 0 7 3 give 0 0 0 0;").quarrel(1), 0);
        Doc.due("the same twice", Check.told("saying 0 0 1 0 7 3 refuse;saying 2 0 1 0 7 3 refuse;").quarrel(1), 0);
        Doc.due("spans that touch", Check.told("saying 0 0 1 0 7 3 give 0 0 3 0;saying 2 0 1 0 7 3 give 0 3 5 0;").quarrel(1), 0);
        Doc.due("spans apart", Check.told("saying 0 0 1 0 7 3 give 0 0 2 0;saying 2 0 1 0 7 3 give 0 3 5 0;").quarrel(1), 3);
        Doc.due("one may leave it out", Check.told("saying 0 0 1 0 7 3 give 0 0 2 0;saying 2 0 1 0 7 3 give 0 3 5 1;").quarrel(1), 3);
        Doc.due("both may leave it out", Check.told("saying 0 0 1 0 7 3 give 0 0 2 1;saying 2 0 1 0 7 3 give 0 3 5 1;").quarrel(1), 0);
        Doc.due("of two givers", Check.told("saying 0 0 1 0 7 3 refuse;saying 0 0 2 0 7 3 give;").quarrel(1), 0);
        Doc.due("in two MOODS", Check.told("saying 0 0 1 0 7 0 refuse;saying 0 0 1 0 7 1 give;").quarrel(1), 0);
        Doc.due("of two ASKS", Check.told("saying 0 0 1 0 3 3 refuse;saying 0 0 1 4 7 3 give;").quarrel(1), 0);
        Doc.due("of one ASK", Check.told("saying 0 0 1 0 4 3 refuse;saying 0 0 1 4 7 3 give;").quarrel(1), 3);
        Doc.due("of one MOOD", Check.told("saying 0 0 1 0 7 2 refuse;saying 0 0 1 0 7 3 give;").quarrel(1), 3);
        String three = "saying 0 0 1 0 7 3 give 0 0 2 1;saying 2 0 1 0 7 3 give 0 3 5 1;saying 3 0 1 ";
        Doc.due("three", Check.told(three + "7 7 2 give 0 0 5 0;").quarrel(1), 7);
        Doc.due("three that meet in the first case alone", Check.told("saying 0 0 1 0 0 3 give 0 0 2 1;saying 0 0 1 0 7 0 give 0 3 5 1;"
            + "saying 0 0 1 0 7 3 give 0 0 5 0;").quarrel(1), 7);
        Doc.due("three of which two do not meet", Check.told("saying 0 0 1 0 2 3 give 0 0 5 0;saying 0 0 1 0 3 3 give 0 0 2 1;"
            + "saying 0 0 1 3 7 3 give 0 3 5 1;").quarrel(1), 0);
        Doc.due("three of two givers", Check.told("saying 0 0 2 0 7 3 give 0 0 5 0;saying 0 0 1 0 7 3 give 0 0 2 1;"
            + "saying 0 0 1 0 7 3 give 0 3 5 1;").quarrel(1), 0);
        Doc.due("two, though three are less", Check.told(three + "7 7 2 give 0 0 5 0;saying 0 0 1 7 7 2 refuse;").quarrel(1), 9);
        theLeastSet();
    }

    private static void theLeastSet() {
        String apart = "saying 0 0 2 0 7 3 give;".repeat(9);
        CallLaws x = Check.told(apart);
        Check.laws(x, apart + "saying 0 0 1 0 0 0 refuse;saying 0 0 1 0 7 3 give;");
        Doc.due("the greatest number", x.quarrel(1), (1 << 18) + (1 << 19));
        CallLaws y = Check.told("saying 0 0 1 0 0 3 refuse;saying 0 0 1 1 1 3 refuse;saying 0 0 1 1 1 3 give;saying 0 0 1 0 0 3 give;");
        Doc.due("by the greatest of each set", y.quarrel(1), 6);
        CallLaws z = Check.told("saying 0 0 1 0 7 3 give 0 0 0 1;saying 0 0 1 0 7 3 give 0 1 1 1;saying 0 0 1 0 7 3 give 0 2 2 1;"
            + "saying 0 0 1 0 7 3 give 0 0 2 0;");
        Doc.due("none of two, of three the least", z.quarrel(1), 1 + 2 + 8);
    }

    private static void change() {
        Doc.says("A CHANGE of a giver from one EDITION to another one: SAYINGS that the one KEEPS and the other does not.");
        CallLaws x = Check.told("edition 1 when 0 7 3 give 0 0 0 0;edition 1;edition 1;edition 1 when 0 7 3 give 0 0 0 0;edition 2;");
        due(x.change(1, 0, 1), 0);
        Check.laws(x, "saying 0 0 1 0 7 3 give;saying 0 0 1 0 7 3 refuse;saying 0 0 2 0 7 3 refuse;" + "saying 0 0 1 0 7 3 give;".repeat(15));
        Check.laws(x, "saying 0 0 1 0 7 3 refuse;saying 0 0 1 0 7 3 give;");
        int give = 1 | ((1 << 15) - 1) << 3 | 1 << 19;
        due(x.change(1, 0, 1), give);
        due(x.change(1, 1, 3), 2 | 1 << 18);
        Doc.due("alike", x.change(1, 0, 3), 0);
        Doc.due("alike", x.change(1, 1, 2), 0);
        Doc.due("to itself", x.change(1, 3, 3), 0);
        Doc.due("SAYINGS of another giver", x.change(2, 0, 0), 0);
        due(x.change(1, 0, 4), BAD);
    }

    private static void right() {
        Doc.says("RIGHT of a SAYING: FIELDS that it tells and that TRIES of its caller's EDITION do not look at.");
        String all = " 0 7 3 give 3 0 5 1 1 0 5 1 0 0 5 1 2 0 5 1;";
        CallLaws x = Check.told("saying 0 3 1" + all + "saying 0 3 1 0 7 3 give;saying 0 3 1 0 7 3 refuse;saying 0 2 1" + all + "saying 1 3 0" + all);
        due(x.right(0), 15);
        due(x.right(1), 0);
        due(x.right(2), 0);
        Check.laws(x, "try 0 3 15;");
        due(x.right(0), 0);
        due(x.right(1), 0);
        Doc.due("of another EDITION", x.right(3), 15);
        Doc.due("of another caller", x.right(4), 15);
    }
}
