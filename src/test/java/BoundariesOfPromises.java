/** The promises, sentence by sentence: the least and the greatest that is taken, and what lies beside them. */
final class BoundariesOfPromises {
    private static final int NONE = CallLaws.NONE, BAD = CallLaws.BAD, STATE = CallLaws.STATE, FULL = CallLaws.FULL;
    private static final int NULL = -1000011, PLACE = -1000012, KIND = -1000013, SIZE = -1000014, STORE = -1000015;
    private static final int MIN = Integer.MIN_VALUE, MAX = Integer.MAX_VALUE;
    /** Sayings that each allow one value of FIELD 0, so that allows() tells what an ITEM is. */
    private static final String VALUES = "saying 0 0 1 0 0 0 give 0 0 0 0;saying 0 0 1 1 1 0 give 0 1 1 0;saying 0 0 1 2 2 0 give 0 2 2 0;";

    private BoundariesOfPromises() {
    }

    static void all() {
        newObject();
        sheets();
        copies();
        drop();
        feed();
        laws();
        faultAndEditions();
        answer();
        saying();
        play();
        standIn();
        allows();
        noMoreAndQuarrel();
        changeAndRight();
        houses();
        hoursAndKind();
        as();
        ask();
        trace();
        count();
        status();
        statusOfEachCall();
        theLastCall();
    }

    private static void due(long got, long want) {
        Doc.due(got, want);
    }

    private static void newObject() {
        Doc.promise(1);
        Doc.says("Nothing is told.");
        CallLaws x = new CallLaws();
        for (int what = 0; what < 6; what++) {
            due(x.count(what), 0);
        }
        for (int service = 0; service < 4; service++) {
            due(x.editions(service), 0);
            due(x.quarrel(service), 0);
            due(x.hours(service), NONE);
            due(x.answer(service, 0, 0, 0, 4), BAD);
            due(x.change(service, 0, 0), BAD);
            due(x.standIn(service, 0, (service + 1) % 4, 0, 0, -1), 2402);
        }
        for (int sheet = 0; sheet < 8; sheet++) {
            due(x.drop(sheet), NULL);
        }
        CallLaws y = new CallLaws();
        due(y.status(), 0);
        due(y.fault(), 0);
        due(y.trace(0), NONE);
        due(y.kind(0), BAD);
        due(y.right(0), BAD);
        due(y.house(0, 0), 1);
        due(y.house(0, 1), NONE);
        due(y.house(1, 0), BAD);
        due(y.letOut(0, 0, 0), 0);
        due(y.laws(), 0);
        Doc.due("of another object nothing is seen", new CallLaws().count(2) + Check.told(VALUES).count(2) + new CallLaws().count(2), 3);
    }

    private static void sheets() {
        Doc.promise(2);
        Doc.says("A SHEET of a LANE with n ITEMS, in place of what is there: n.");
        CallLaws x = Check.told(VALUES);
        due(x.sheet(0, 0, 0), 0);
        due(x.sheet(7, 2, 40), 40);
        due(x.set(7, 0, 1), 1);
        due(x.set(7, 39, 1), 1);
        due(x.sheet(7, 2, 40), 40);
        Doc.due("0 again", x.allows(0, 7, 0, 1), 1);
        Doc.due("0 again", x.allows(0, 7, 39, 1), 1);
        due(x.sheet(7, 0, 1), 1);
        due(x.set(7, 0, 256), 0);
        due(x.set(7, 1, 0), PLACE);
        due(x.count(0), 2);
        due(x.sheet(7, 1, 40), 40);
        Doc.due("what is greater again has no old ITEMS", x.allows(0, 7, 20, 20), 20);
        Doc.says("BAD: SHEET, LANE, n above 40; SIZE.");
        due(x.sheet(8, 0, 0), BAD);
        due(x.sheet(-1, 0, 0), BAD);
        due(x.sheet(MAX, 0, 0), BAD);
        due(x.sheet(0, 3, 0), BAD);
        due(x.sheet(0, -1, 0), BAD);
        due(x.sheet(0, 0, 41), BAD);
        due(x.sheet(0, 0, MAX), BAD);
        due(x.sheet(0, 0, -1), SIZE);
        due(x.sheet(0, 0, MIN), SIZE);
        Doc.promise(3);
        Doc.says("ITEM i becomes v, its lowest bits, as many as the LANE has: what it is then.");
        for (int lane = 0; lane < 3; lane++) {
            x.sheet(lane, lane, 2);
        }
        int[] given = {127, 128, 255, 256, -1, -128, -129, 32767, 32768, 65535, 65536, -32768, -32769, MAX, MIN};
        for (int v : given) {
            due(x.set(0, 1, v), (byte) v);
            due(x.set(1, 1, v), (short) v);
            due(x.set(2, 1, v), v);
        }
        due(x.set(0, 0, 0x101), 1);
        Doc.due("it stays so", x.allows(1, 0, 0, 1), 1);
        Doc.says("BAD: SHEET; NULL; PLACE.");
        due(x.set(8, 0, 0), BAD);
        due(x.set(3, 0, 0), NULL);
        due(x.set(0, 2, 0), PLACE);
        due(x.set(0, -1, 0), PLACE);
        due(x.set(0, MAX, 0), PLACE);
        due(x.set(0, MIN, 0), PLACE);
        Doc.due("no other ITEM is changed", x.allows(1, 0, 0, 1), 1);
    }

    /** Five ITEMS 0 1 2 1 0. */
    private static CallLaws five() {
        CallLaws x = Check.told(VALUES);
        x.sheet(0, 2, 5);
        x.set(0, 1, 1);
        x.set(0, 2, 2);
        x.set(0, 3, 1);
        return x;
    }

    private static void items(CallLaws x, int sheet, int... want) {
        for (int i = 0; i < want.length; i++) {
            Doc.due("ITEM " + i, x.allows(want[i], sheet, i, 1), 1);
        }
    }

    private static void copies() {
        Doc.promise(4);
        Doc.says("n ITEMS of a from i on come to b from j on, as they were ahead: n.");
        CallLaws x = five();
        due(x.copy(0, 0, 0, 1, 4), 4);
        items(x, 0, 0, 0, 1, 2, 1);
        x = five();
        due(x.copy(0, 1, 0, 0, 4), 4);
        items(x, 0, 1, 2, 1, 0, 0);
        x = five();
        due(x.copy(0, 0, 0, 0, 5), 5);
        items(x, 0, 0, 1, 2, 1, 0);
        x.sheet(7, 2, 3);
        due(x.copy(0, 1, 7, 0, 3), 3);
        items(x, 7, 1, 2, 1);
        items(x, 0, 0, 1, 2, 1, 0);
        Doc.due("none", x.copy(0, 5, 7, 3, 0), 0);
        Doc.due("none", x.copy(0, 0, 7, 0, 0), 0);
        items(x, 7, 1, 2, 1);
        x.sheet(6, 2, 40);
        due(x.copy(6, 0, 6, 0, 40), 40);
        x.sheet(5, 2, 0);
        Doc.due("of none none", x.copy(5, 0, 5, 0, 0), 0);
        Doc.says("BAD: SHEETS; NULL; STORE; PLACE (i, j, n below 0, or beyond an end).");
        due(x.copy(8, 0, 0, 0, 0), BAD);
        due(x.copy(0, 0, 8, 0, 0), BAD);
        due(x.copy(4, 0, 0, 0, 0), NULL);
        due(x.copy(0, 0, 4, 0, 0), NULL);
        x.sheet(1, 1, 5);
        x.sheet(2, 0, 5);
        due(x.copy(0, 0, 1, 0, 0), STORE);
        due(x.copy(2, 0, 1, 0, 1), STORE);
        int[][] beyond = {{-1, 0, 1}, {0, -1, 1}, {0, 0, -1}, {5, 0, 1}, {6, 0, 0}, {0, 3, 1}, {0, 4, 0}, {0, 0, 4}, {3, 0, 3},
            {MIN, 0, 1}, {0, MIN, 1}, {0, 0, MIN}, {MAX, 0, 1}, {0, MAX, 1}, {0, 0, MAX}, {1, 1, MAX}, {MAX, MAX, MAX}, {MAX, 0, MIN}, {-1, -1, 2}};
        for (int[] at : beyond) {
            Doc.due(at[0] + " " + at[1] + " " + at[2], x.copy(0, at[0], 7, at[1], at[2]), PLACE);
        }
        items(x, 7, 1, 2, 1);
    }

    private static void drop() {
        Doc.promise(5);
        Doc.says("A SHEET is missing from now on: how many ITEMS it had.");
        CallLaws x = Check.told(VALUES);
        x.sheet(0, 0, 0);
        x.sheet(7, 2, 40);
        due(x.drop(0), 0);
        due(x.drop(7), 40);
        due(x.count(0), 0);
        due(x.set(7, 0, 0), NULL);
        due(x.copy(7, 0, 7, 0, 0), NULL);
        due(x.allows(0, 7, 0, 1), NULL);
        due(x.sheet(7, 1, 1), 1);
        due(x.drop(7), 1);
        Doc.says("BAD; NULL.");
        due(x.drop(7), NULL);
        due(x.drop(0), NULL);
        due(x.drop(8), BAD);
        due(x.drop(-1), BAD);
        due(x.drop(MIN), BAD);
    }

    private static void feed() {
        Doc.promise(6);
        Doc.says("The lowest n bytes of w (1 to 8), the highest of them first, come behind the tape: how many it has.");
        CallLaws x = new CallLaws();
        Doc.due("one byte", x.feed(0x7a7a7a7a7a7a7a65L, 1), 1);
        Doc.due("two", x.feed(0x7a7a7a7a7a7a6469L, 2), 3);
        Doc.due("four", x.feed(0x7a7a7a7a74696f6eL, 4), 7);
        Doc.due("eight", x.feed(0x2030203b0a202020L, 8), 15);
        due(x.laws(), 0);
        due(x.editions(0), 1);
        Doc.due("the tape begins anew", x.feed(0x20, 1), 1);
        Doc.due("the highest bit", x.feed(MIN, 8), 9);
        due(x.laws(), -1000101);
        Doc.says("BAD: n; FULL: none comes.");
        due(x.feed(0, 0), BAD);
        due(x.feed(0, 9), BAD);
        due(x.feed(0, MAX), BAD);
        due(x.feed(0, MIN), BAD);
        Check.feed(x, " ".repeat(483) + "edition 2");
        due(x.count(5), 492);
        due(x.feed(0x3b, 8), 500);
        due(x.feed(0, 1), FULL);
        due(x.laws(), -1000100 - 492);
        Check.feed(x, " ".repeat(484) + "edition 2");
        due(x.count(5), 493);
        due(x.feed(0x3b3b3b3b3b3b3b3bL, 8), FULL);
        due(x.count(5), 493);
        due(x.feed(0x3b202020202020L, 7), 500);
        due(x.laws(), 0);
        due(x.editions(2), 1);
    }

    private static void laws() {
        Doc.promise(7);
        Doc.says("The tape, empty then, is read: how many SAYINGS there are.");
        CallLaws x = new CallLaws();
        Doc.due("an empty tape", x.laws(), 0);
        due(Check.laws(x, VALUES), 3);
        due(x.count(5), 0);
        Doc.due("an empty tape", x.laws(), 3);
        Doc.due("nothing but bytes between", Check.laws(x, " \n\n "), 3);
        due(Check.laws(x, "edition 1;try 0 0 0;within 0 0;"), 3);
        Doc.says("-1000100 less the place of a FAULT: nothing comes.");
        Doc.due("the first byte", Check.laws(x, "x"), -1000100);
        due(x.count(5), 0);
        Doc.due("the end of a full tape", Check.laws(x, " ".repeat(493) + "edition"), -1000600);
        due(x.count(5), 0);
        due(Check.laws(x, VALUES + "edition 1;x"), -1000100 - VALUES.length() - 10);
        due(x.count(2), 3);
        due(x.editions(1), 1);
        Doc.due("what had the FAULT is not read again", x.laws(), 3);
        leftByFaults();
    }

    /** What came after a FAULT has nothing of what stood ahead of the FAULT. */
    private static void leftByFaults() {
        CallLaws x = new CallLaws();
        Check.laws(x, "edition 1 when 0 7 3 give 5 5 5 5;edition 1 when 0 7 3 give 5 5 5 5 x");
        Check.laws(x, "saying 2 3 1 4 6 2 give 0 1 1 0 3 1 1 0;saying 0 0 1 0 0 0 refuse x");
        due(x.standIn(2, 3, 1, 5, 2, -1), 2402);
        due(x.standIn(0, 0, 1, 0, 0, -1), 2402);
        due(Check.laws(x, "edition 1;edition 1 when 7 7 2 give 0 0 0 0;saying 0 0 1 0 0 0 give;saying 0 0 1 0 0 1 give;"), 2);
        for (int ask = 0; ask < 8; ask++) {
            for (int mood = 0; mood < 3; mood++) {
                due(x.answer(1, 0, ask, mood, 4), 1);
                due(x.answer(1, 1, ask, mood, 4), ask == 7 && mood == 2 ? 0 : 1);
            }
        }
        for (int saying = 0; saying < 2; saying++) {
            int[] want = {0, 0, 1, 0, 0, saying, 0, 0};
            for (int what = 0; what < 8; what++) {
                due(x.saying(saying, what), want[what]);
            }
        }
        due(x.standIn(0, 0, 1, 0, 0, -1), 2401);
    }

    private static void faultAndEditions() {
        Doc.promise(8);
        Doc.says("The number of the latest FAULT; 0 before one.");
        CallLaws x = new CallLaws();
        due(x.fault(), 0);
        Check.laws(x, "edition 0;");
        due(x.fault(), 0);
        Check.laws(x, "edition 0;edition 0;edition 0;edition 0;");
        due(x.fault(), 3);
        Check.laws(x, "edition 4;");
        due(x.fault(), 2);
        Check.laws(x, "edition 0;");
        Doc.due("a text without one changes nothing", x.fault(), 2);
        Check.laws(x, "edition");
        due(x.fault(), 1);
        x.feed(0, 9);
        x.editions(9);
        x.laws();
        due(x.fault(), 1);
        Doc.promise(9);
        Doc.says("How many EDITIONS a SERVICE has. BAD.");
        due(x.editions(0), 2);
        Check.laws(x, "edition 0;edition 0;");
        due(x.editions(0), 4);
        due(x.editions(3), 0);
        due(x.editions(4), BAD);
        due(x.editions(-1), BAD);
        due(x.editions(MAX), BAD);
    }

    private static void answer() {
        Doc.promise(10);
        Doc.says("How an EDITION ANSWERS: a FIELD (0 to 3; NONE: REFUSED), whether it is REFUSED (4: 1, 0). BAD.");
        CallLaws x = Check.told("edition 3;edition 3;edition 3;edition 3 when 7 7 2 give 0 1 5 6;");
        int[] want = {0, 1, 5, 6, 0};
        for (int what = 0; what < 5; what++) {
            due(x.answer(3, 3, 7, 2, what), want[what]);
            due(x.answer(3, 3, 6, 2, what), what == 4 ? 1 : NONE);
            due(x.answer(3, 3, 7, 1, what), what == 4 ? 1 : NONE);
            due(x.answer(3, 0, 7, 2, what), what == 4 ? 1 : NONE);
        }
        int[][] bad = {{4, 0, 0, 0, 0}, {2, 0, 0, 0, 0}, {3, 4, 0, 0, 0}, {3, 3, 8, 0, 0}, {3, 3, 7, 3, 0}, {3, 3, 7, 2, 5},
            {MAX, 3, 7, 2, 0}, {3, MAX, 7, 2, 0}, {3, 3, MAX, 2, 0}, {3, 3, 7, MAX, 0}, {3, 3, 7, 2, MAX}};
        for (int[] a : bad) {
            due(x.answer(a[0], a[1], a[2], a[3], a[4]), BAD);
        }
    }

    private static void saying() {
        Doc.promise(11);
        Doc.says("Of a SAYING: 0 the caller, 1 its EDITION, 2 the giver, 3 ASKS from, 4 to, 5 its MOOD (3: any), 6 whether it is 'refuse' (1, 0), "
            + "7 FIELDS that are told (bits). BAD.");
        CallLaws x = Check.told("saying 0 0 3 0 0 0 refuse;saying 3 3 0 7 7 3 give 0 0 0 0 1 0 0 0 2 0 0 0 3 0 0 0;saying 1 2 3 4 5 2 give;"
            + "saying 0 0 1 0 0 0 give 3 0 0 0;");
        int[][] want = {{0, 0, 3, 0, 0, 0, 1, 0}, {3, 3, 0, 7, 7, 3, 0, 15}, {1, 2, 3, 4, 5, 2, 0, 0}, {0, 0, 1, 0, 0, 0, 0, 8}};
        for (int saying = 0; saying < 4; saying++) {
            for (int what = 0; what < 8; what++) {
                due(x.saying(saying, what), want[saying][what]);
            }
            due(x.saying(saying, 8), BAD);
            due(x.saying(saying, -1), BAD);
        }
        due(x.saying(4, 0), BAD);
        due(x.saying(-1, 0), BAD);
        due(x.saying(MAX, MAX), BAD);
    }

    private static void play() {
        Doc.promise(12);
        Doc.says("Whether an EDITION of its giver KEEPS a SAYING (what = 0: 1, 0), BREAKS (1; NONE: it KEEPS it). BAD.");
        CallLaws x = Check.told("edition 0;edition 0;edition 0;edition 1;edition 1 when 7 7 2 give 0 0 0 0;saying 0 0 1 7 7 2 give;");
        due(x.play(0, 0, 0), 0);
        due(x.play(0, 0, 1), 64 * 7 + 8 * 2 + 4);
        due(x.play(0, 1, 0), 1);
        due(x.play(0, 1, 1), NONE);
        Doc.due("the caller has it, the giver has not", x.play(0, 2, 0), BAD);
        due(x.play(0, 2, 1), BAD);
        due(x.play(0, MAX, 0), BAD);
        due(x.play(0, 0, 2), BAD);
        due(x.play(0, 0, MAX), BAD);
        due(x.play(1, 0, 0), BAD);
        due(x.play(MAX, 0, 0), BAD);
    }

    private static void standIn() {
        Doc.promise(13);
        Doc.says("STAND-INS: how many (i = -1); the i-th; NONE: not so many.");
        CallLaws x = Check.told("saying 3 3 2 7 7 2 give 0 0 1 0 1 5 5 0 2 5 5 0 3 5 5 0;");
        due(x.standIn(3, 3, 2, 7, 2, -1), 2);
        due(x.standIn(3, 3, 2, 7, 2, 0), 7 * 5 + 49 * 5 + 343 * 5);
        due(x.standIn(3, 3, 2, 7, 2, 1), 1 + 7 * 5 + 49 * 5 + 343 * 5);
        due(x.standIn(3, 3, 2, 7, 2, 2), NONE);
        due(x.standIn(3, 3, 2, 7, 2, MAX), NONE);
        due(x.standIn(3, 3, 2, 7, 1, 2401), 2401);
        due(x.standIn(3, 3, 2, 7, 1, 2402), NONE);
        Doc.says("BAD: caller, EDITION 0 to 3, giver (alike, too), ASK, MOOD, i below -1.");
        int[][] bad = {{4, 3, 2, 7, 2, 0}, {-1, 3, 2, 7, 2, 0}, {3, 4, 2, 7, 2, 0}, {3, -1, 2, 7, 2, 0}, {3, 3, 4, 7, 2, 0}, {3, 3, -1, 7, 2, 0},
            {3, 3, 3, 7, 2, 0}, {0, 0, 0, 0, 0, -1}, {3, 3, 2, 8, 2, 0}, {3, 3, 2, -1, 2, 0}, {3, 3, 2, 7, 3, 0}, {3, 3, 2, 7, -1, 0},
            {3, 3, 2, 7, 2, -2}, {3, 3, 2, 7, 2, MIN}, {MAX, 3, 2, 7, 2, 0}, {3, MAX, 2, 7, 2, 0}, {3, 3, MAX, 7, 2, 0}};
        for (int[] a : bad) {
            due(x.standIn(a[0], a[1], a[2], a[3], a[4], a[5]), BAD);
        }
    }

    private static void allows() {
        Doc.promise(14);
        Doc.says("How many of n ANSWERS, ITEMS of a SHEET from i on (0 to 2401), a SAYING ALLOWS.");
        CallLaws x = Check.told("saying 0 0 1 0 0 0 give;saying 0 0 1 1 1 0 refuse;saying 0 0 1 0 0 0 give 0 5 5 0;");
        x.sheet(0, 1, 40);
        due(x.allows(0, 0, 0, 20), 20);
        due(x.allows(0, 0, 20, 20), 20);
        due(x.allows(1, 0, 20, 20), 0);
        x.set(0, 39, 2401);
        due(x.allows(0, 0, 39, 1), 0);
        due(x.allows(1, 0, 39, 1), 1);
        due(x.allows(0, 0, 20, 20), 19);
        x.set(0, 0, 2400);
        due(x.allows(0, 0, 0, 1), 1);
        x.sheet(1, 0, 1);
        x.set(1, 0, 5);
        due(x.allows(2, 1, 0, 1), 1);
        Doc.says("BAD: SAYING, SHEET, n (1 to 20); NULL; PLACE; then BAD: an ITEM.");
        due(x.allows(3, 0, 0, 1), BAD);
        due(x.allows(0, 8, 0, 1), BAD);
        due(x.allows(0, 0, 0, 0), BAD);
        due(x.allows(0, 0, 0, 21), BAD);
        due(x.allows(0, 0, 0, MAX), BAD);
        due(x.allows(0, 0, 0, MIN), BAD);
        due(x.allows(0, 7, 0, 1), NULL);
        due(x.allows(0, 0, -1, 1), PLACE);
        due(x.allows(0, 0, 40, 1), PLACE);
        due(x.allows(0, 0, 21, 20), PLACE);
        due(x.allows(0, 0, MAX, 20), PLACE);
        due(x.allows(0, 0, MIN, 20), PLACE);
        for (int item : new int[] {2402, -1, 32767, -32768}) {
            x.set(0, 30, item);
            due(x.allows(0, 0, 30, 1), BAD);
            due(x.allows(1, 0, 20, 20), BAD);
            Doc.due("it lies beside them", x.allows(1, 0, 31, 9), 1);
            Doc.due("it lies behind them", x.allows(1, 0, 10, 20), 0);
            Doc.due("PLACE ahead of it", x.allows(1, 0, 30, 11), PLACE);
        }
        x.sheet(2, 0, 0);
        due(x.allows(0, 2, 0, 1), PLACE);
    }

    private static void noMoreAndQuarrel() {
        Doc.promise(15);
        Doc.says("Whether a SAYING says NO MORE than another one: 1, 0.");
        CallLaws x = Check.told("saying 0 0 1 0 7 3 give;saying 0 0 1 0 6 3 give;saying 0 0 2 0 7 3 give;");
        due(x.noMore(1, 0), 1);
        due(x.noMore(0, 1), 0);
        due(x.noMore(0, 0), 1);
        Doc.says("BAD; STATE: they are of two givers.");
        due(x.noMore(0, 2), STATE);
        due(x.noMore(2, 1), STATE);
        due(x.noMore(0, 3), BAD);
        due(x.noMore(3, 0), BAD);
        due(x.noMore(MAX, MAX), BAD);
        due(x.noMore(2, -1), BAD);
        Doc.promise(16);
        Doc.says("QUARREL (bits). BAD.");
        due(x.quarrel(0), 0);
        due(x.quarrel(3), 0);
        Check.laws(x, "saying 0 0 3 0 0 0 give;saying 1 0 3 0 0 3 refuse;");
        due(x.quarrel(3), 8 + 16);
        due(x.quarrel(4), BAD);
        due(x.quarrel(-1), BAD);
        due(x.quarrel(MAX), BAD);
    }

    private static void changeAndRight() {
        Doc.promise(17);
        Doc.says("A CHANGE (bits). BAD.");
        CallLaws x = Check.told("edition 3;edition 3 when 0 7 3 give 0 0 0 0;edition 0;saying 0 0 3 0 0 0 refuse;saying 0 0 3 0 7 3 give 2 0 0 0;");
        due(x.change(3, 0, 1), 1);
        due(x.change(3, 1, 0), 2);
        due(x.change(3, 1, 1), 0);
        due(x.change(3, 2, 0), BAD);
        due(x.change(3, 0, 2), BAD);
        due(x.change(4, 0, 0), BAD);
        due(x.change(1, 0, 0), BAD);
        due(x.change(MAX, 0, 0), BAD);
        due(x.change(3, MAX, 0), BAD);
        due(x.change(3, 0, MAX), BAD);
        Doc.promise(18);
        Doc.says("RIGHT (bits of FIELDS). BAD.");
        due(x.right(0), 0);
        due(x.right(1), 4);
        due(x.right(2), BAD);
        due(x.right(MAX), BAD);
        due(new CallLaws().right(0), BAD);
    }

    private static void houses() {
        Doc.promise(19);
        Doc.says("Whether a HOUSE is GREEN (what = 0: 1, 0), the least SAYING that is not KEPT there (1; NONE).");
        CallLaws x = Check.told("edition 3;edition 0;edition 1 when 0 7 3 give 0 0 0 0;saying 0 0 3 0 7 3 refuse;saying 0 0 1 0 0 0 refuse;saying 0 0 3 7 7 2 give;");
        due(x.house(0, 0), 1);
        due(x.house(0, 1), NONE);
        due(x.house(126, 0), 0);
        due(x.house(126, 1), 2);
        due(x.house(6, 1), 1);
        Doc.due("the least of two", x.house(131, 1), 1);
        due(x.house(130, 1), NONE);
        Doc.says("BAD: no such HOUSE.");
        for (int house : new int[] {-1, MIN, 2, 10, 25, 250, 127, 136, 156, 624, 625, MAX}) {
            due(x.house(house, 0), BAD);
            due(x.house(house, 1), BAD);
        }
        due(x.house(0, 2), BAD);
        due(x.house(0, MAX), BAD);
        Doc.promise(20);
        Doc.says("LETTING OUT: the fewest steps (what = 0; NONE), the FIRST (1; NONE: no step, no way). BAD.");
        due(x.letOut(130, 130, 0), 0);
        due(x.letOut(130, 130, 1), NONE);
        due(x.letOut(130, 1, 0), 3);
        due(x.letOut(130, 1, 1), 5);
        due(x.letOut(1, 130, 0), 3);
        due(x.letOut(1, 130, 1), 0);
        due(x.letOut(126, 0, 0), NONE);
        due(x.letOut(126, 0, 1), NONE);
        due(x.letOut(0, 126, 0), NONE);
        due(x.letOut(0, 126, 1), NONE);
        for (int house : new int[] {-1, MIN, 2, 10, 25, 250, 625, MAX}) {
            due(x.letOut(house, 0, 0), BAD);
            due(x.letOut(0, house, 0), BAD);
            due(x.letOut(126, house, 1), BAD);
        }
        due(x.letOut(0, 0, 2), BAD);
        due(x.letOut(0, 0, MAX), BAD);
    }

    private static void hoursAndKind() {
        Doc.promise(21);
        Doc.says("HOURS; NONE. BAD.");
        CallLaws x = Check.told("within 3 0;within 0 99 3;within 1 1 2;within 2 1 1;");
        due(x.hours(3), 0);
        due(x.hours(0), 99);
        due(x.hours(1), NONE);
        due(x.hours(2), NONE);
        due(x.hours(4), BAD);
        due(x.hours(-1), BAD);
        due(x.hours(MAX), BAD);
        Doc.promise(22);
        Doc.says("The KIND of a SAYING, as it is told. BAD.");
        due(x.kind(0), BAD);
        Check.laws(x, "saying 0 0 1 0 0 0 give;");
        due(x.kind(0), 3);
        due(x.kind(1), BAD);
        Check.laws(x, "saying 0 0 1 0 0 3 refuse;");
        due(x.kind(0), 5);
        due(x.kind(1), 5);
        due(x.kind(2), BAD);
        due(x.kind(-1), BAD);
        due(x.kind(MAX), BAD);
    }

    private static void as() {
        Doc.promise(23);
        Doc.says("A SAYING is taken as one of a KIND (0 .. 5): its number. BAD; KIND: it is not taken so.");
        CallLaws x = Check.told("saying 0 0 1 0 0 0 give;saying 0 0 1 0 0 3 give;saying 0 0 2 0 0 3 give;saying 0 0 2 0 0 3 refuse;");
        int[][] want = {{0, 0, KIND, 0, KIND, KIND}, {1, 1, KIND, KIND, 1, KIND}, {2, KIND, KIND, KIND, KIND, 2}, {3, KIND, KIND, KIND, KIND, 3}};
        for (int saying = 0; saying < 4; saying++) {
            for (int kind = 0; kind < 6; kind++) {
                due(x.as(saying, kind), want[saying][kind]);
                due(x.status(), want[saying][kind] == KIND ? 3 : 0);
            }
            due(x.as(saying, 6), BAD);
            due(x.as(saying, -1), BAD);
            due(x.as(saying, MAX), BAD);
        }
        due(x.as(4, 0), BAD);
        due(x.as(MAX, 0), BAD);
    }

    private static void ask() {
        Doc.promise(24);
        Doc.says("An ASK (0, 1) of a SAYING. BAD.");
        CallLaws x = Check.told("saying 0 0 1 0 0 0 refuse;saying 0 0 1 0 7 3 refuse;saying 0 0 2 0 7 3 give;");
        due(x.ask(0, 0), 1);
        due(x.ask(0, 1), 0);
        due(x.ask(1, 0), 23);
        due(x.ask(2, 1), 102 + 24);
        due(x.ask(2, 2), BAD);
        due(x.ask(2, -1), BAD);
        due(x.ask(2, MAX), BAD);
        due(x.ask(3, 0), BAD);
        due(x.ask(-1, 0), BAD);
        due(x.ask(MAX, 1), BAD);
        Doc.says("THE TRACE is empty ahead of it.");
        due(x.trace(4), 10);
        x.ask(0, 1);
        due(x.trace(0), 20);
        due(x.trace(1), NONE);
        due(x.trace(4), NONE);
        for (int i = 0; i < 40; i++) {
            x.ask(2, 1);
        }
        Doc.due("it does not grow from ask to ask", x.trace(5), NONE);
        due(x.trace(0), 22);
        x.ask(3, 0);
        Doc.due("but a refused ask changes nothing", x.trace(0), 22);
        due(x.trace(4), 10);
    }

    private static void trace() {
        Doc.promise(25);
        Doc.says("Number i of THE TRACE; NONE.");
        CallLaws x = Check.told("saying 0 0 2 0 7 3 give;");
        due(x.trace(0), NONE);
        x.ask(0, 1);
        int[] want = {22, 21, 20, 11, 10};
        for (int i = 0; i < 18; i++) {
            due(x.trace(i), i < 5 ? want[i] : NONE);
        }
        due(x.trace(-1), NONE);
        due(x.trace(MIN), NONE);
        due(x.trace(MAX), NONE);
        Check.laws(x, "saying 0 0 1 0 0 0 refuse;");
        Doc.due("a text does not change it", x.trace(4), 10);
    }

    private static void count() {
        Doc.promise(26);
        Doc.says("How many: 0 SHEETS, 1 EDITIONS of all SERVICES, 2 SAYINGS, 3 those that some EDITION there is KEEPS, "
            + "4 SERVICES for which WITHIN is told, 5 bytes on the tape. BAD.");
        CallLaws x = new CallLaws();
        for (int service = 0; service < 4; service++) {
            Check.laws(x, ("edition " + service + ";").repeat(4) + "within " + service + " 0;");
            due(x.count(1), 4 * service + 4);
            due(x.count(4), service + 1);
            Check.laws(x, "within " + service + " 1;");
            due(x.count(4), service + 1);
        }
        for (int sheet = 0; sheet < 8; sheet++) {
            x.sheet(sheet, 0, 0);
            x.sheet(sheet, 2, 40);
            due(x.count(0), sheet + 1);
        }
        x.drop(0);
        due(x.count(0), 7);
        Check.laws(x, "saying 0 0 1 0 7 3 give;".repeat(19));
        due(x.count(2), 19);
        due(x.count(3), 0);
        Check.laws(x, "saying 0 0 1 0 7 3 refuse;");
        due(x.count(2), 20);
        due(x.count(3), 1);
        Check.feed(x, " ".repeat(500));
        due(x.count(5), 500);
        x.laws();
        due(x.count(5), 0);
        due(x.count(6), BAD);
        due(x.count(-1), BAD);
        due(x.count(MAX), BAD);
        CallLaws y = Check.told("saying 0 0 1 0 7 3 refuse;edition 0;edition 2;");
        Doc.due("its giver has no EDITION", y.count(3), 0);
        Check.laws(y, "saying 1 0 0 0 7 3 refuse;saying 1 0 3 0 7 3 refuse;edition 3;");
        Doc.due("givers 0 and 3", y.count(3), 2);
    }

    private static void status() {
        Doc.promise(27);
        Doc.says("Of the latest call with a SHEET, or as(), that was not BAD, STATE, FULL: the number of its FINDING; 0: it had none, or there was none.");
        CallLaws x = new CallLaws();
        due(x.status(), 0);
        x.sheet(8, 0, 0);
        x.set(8, 0, 0);
        x.drop(-1);
        due(x.status(), 0);
        x.drop(0);
        due(x.status(), 1);
        due(x.status(), 1);
        Check.laws(x, "saying 0 0 1 0 0 0 give;saying 0 0 2 0 0 0 give;edition 1;within 0 0;");
        Doc.due("STATE", x.noMore(0, 1), STATE);
        Check.feed(x, " ".repeat(500));
        Doc.due("FULL", x.feed(0, 1), FULL);
        x.laws();
        Check.laws(x, "x");
        x.fault();
        x.editions(1);
        x.answer(1, 0, 0, 0, 0);
        x.saying(0, 0);
        x.play(0, 0, 0);
        x.standIn(0, 0, 1, 0, 0, -1);
        x.noMore(0, 0);
        x.quarrel(0);
        x.change(1, 0, 0);
        x.right(0);
        x.house(0, 0);
        x.letOut(0, 0, 0);
        x.hours(0);
        x.kind(0);
        x.ask(0, 0);
        x.trace(0);
        x.count(0);
        Doc.due("calls without a SHEET", x.status(), 1);
        for (int[] bad : new int[][] {{8, 0, 1}, {0, 3, 1}, {0, 0, 41}}) {
            x.sheet(bad[0], bad[1], bad[2]);
        }
        x.set(8, 0, 0);
        x.copy(8, 0, 0, 0, 0);
        x.drop(8);
        x.allows(0, 0, 0, 0);
        x.as(0, 6);
        x.as(2, 0);
        Doc.due("calls that are BAD", x.status(), 1);
    }

    private static void statusOfEachCall() {
        CallLaws x = Check.told("saying 0 0 1 0 0 0 give;");
        x.sheet(0, 0, -1);
        due(x.status(), 4);
        x.sheet(0, 0, 0);
        Doc.due("sheet", x.status(), 0);
        x.set(0, 0, 0);
        due(x.status(), 2);
        x.sheet(0, 0, 2);
        due(x.status(), 0);
        x.set(0, 2, 0);
        due(x.status(), 2);
        x.set(0, 1, -1);
        Doc.due("set", x.status(), 0);
        x.sheet(1, 1, 2);
        x.copy(0, 0, 1, 0, 1);
        due(x.status(), 5);
        x.copy(0, 0, 0, 0, 2);
        Doc.due("copy", x.status(), 0);
        x.copy(0, 0, 0, 0, 3);
        due(x.status(), 2);
        Doc.due("BAD: an ITEM", x.allows(0, 0, 1, 1), BAD);
        due(x.status(), 2);
        x.allows(0, 0, 0, 1);
        Doc.due("allows", x.status(), 0);
        Doc.due("BAD: an ITEM", x.allows(0, 0, 0, 2), BAD);
        due(x.status(), 0);
        x.allows(0, 2, 0, 1);
        due(x.status(), 1);
        x.as(0, 3);
        Doc.due("as", x.status(), 0);
        x.as(0, 4);
        due(x.status(), 3);
        x.drop(1);
        Doc.due("drop", x.status(), 0);
        x.drop(1);
        due(x.status(), 1);
    }

    /** An object serves 512 calls: the last of them is answered as the first would be. */
    private static void theLastCall() {
        CallLaws x = new CallLaws();
        for (int i = 0; i < 62; i++) {
            x.feed(0x2020202020202020L, 8);
        }
        x.laws();
        for (int i = 0; i < 148; i++) {
            x.feed(';', 1);
            x.laws();
            x.sheet(i % 9, i % 4, i % 42 - 1);
        }
        Check.due("call 508", x.feed(0x7472792030L, 5), 5);
        Check.due("call 509", x.feed(0x203020303bL, 5), 10);
        Check.due("call 510", x.laws(), 0);
        Check.due("call 511", x.fault(), 1);
        Check.due("call 512", x.count(5), 0);
    }
}
