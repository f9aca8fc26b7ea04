/** For each promise of the document: ordinary inputs, the edges that it names, and wrong inputs. */
public final class PromisesTest {
    private static final int NONE = CallLaws.NONE, BAD = CallLaws.BAD, STATE = CallLaws.STATE, FULL = CallLaws.FULL;
    private static final int NULL = -1000011, PLACE = -1000012, KIND = -1000013, SIZE = -1000014, STORE = -1000015;
    private static final int MIN = Integer.MIN_VALUE, MAX = Integer.MAX_VALUE;

    public static void main(String[] args) {
        newObject();
        sheet();
        set();
        copy();
        drop();
        feed();
        laws();
        tokens();
        faultsOfEditions();
        faultsOfSayings();
        faultsOfTriesAndWithin();
        rooms();
        allFull();
        leftovers();
        fault();
        editions();
        answer();
        saying();
        play();
        standIn();
        allows();
        noMore();
        quarrel();
        change();
        right();
        house();
        letOut();
        hours();
        kind();
        as();
        ask();
        trace();
        count();
        status();
        Check.end();
    }

    private static void due(String call, long got, long want) {
        Check.due(call, got, want);
    }

    /** 1 */
    private static void newObject() {
        CallLaws x = new CallLaws();
        for (int what = 0; what <= 5; what++) {
            due("1: count(" + what + ")", x.count(what), 0);
        }
        due("1: status", x.status(), 0);
        due("1: fault", x.fault(), 0);
        due("1: trace", x.trace(0), NONE);
        for (int service = 0; service < 4; service++) {
            due("1: editions", x.editions(service), 0);
            due("1: quarrel", x.quarrel(service), 0);
            due("1: hours", x.hours(service), NONE);
        }
        due("1: house", x.house(0, 0), 1);
        due("1: no saying", x.saying(0, 0), BAD);
        due("1: drop", x.drop(7), NULL);
    }

    /** 2 */
    private static void sheet() {
        CallLaws x = new CallLaws();
        due("2: none", x.sheet(0, 0, 0), 0);
        due("2: most", x.sheet(7, 2, 40), 40);
        due("2: count", x.count(0), 2);
        due("2: sheet -1", x.sheet(-1, 0, 1), BAD);
        due("2: sheet 8", x.sheet(8, 0, 1), BAD);
        due("2: lane -1", x.sheet(0, -1, 1), BAD);
        due("2: lane 3", x.sheet(0, 3, 1), BAD);
        due("2: above", x.sheet(0, 0, 41), BAD);
        due("2: far above", x.sheet(0, 0, MAX), BAD);
        due("2: bad lane ahead of size", x.sheet(0, 3, -1), BAD);
        due("2: fewer than none", x.sheet(7, 0, MIN), SIZE);
        due("2: found changes nothing", x.set(7, 39, 70000), 70000);
        due("2: in its place", x.sheet(7, 2, 40), 40);
        due("2: items are 0", x.copy(7, 39, 7, 0, 1), 1);
        Check.laws(x, "saying 0 0 1 0 0 3 give 0 0 0 0;");
        due("2: zeros are answers 0", x.allows(0, 7, 20, 20), 20);
        due("2: sheet of none has no place", x.set(0, 0, 1), PLACE);
    }

    /** 3 */
    private static void set() {
        CallLaws x = new CallLaws();
        x.sheet(0, 0, 2);
        x.sheet(1, 1, 2);
        x.sheet(2, 2, 2);
        due("3: byte", x.set(0, 1, 127), 127);
        due("3: byte's lowest bits", x.set(0, 0, 128), -128);
        due("3: byte's lowest bits", x.set(0, 0, 0x1ff), -1);
        due("3: byte 256", x.set(0, 0, 256), 0);
        due("3: short", x.set(1, 0, 32767), 32767);
        due("3: short's lowest bits", x.set(1, 0, 32768), -32768);
        due("3: short's lowest bits", x.set(1, 0, -65537), -1);
        due("3: int", x.set(2, 0, MIN), MIN);
        due("3: sheet -1", x.set(-1, 0, 0), BAD);
        due("3: sheet 8", x.set(8, 0, 0), BAD);
        due("3: missing", x.set(3, -1, 0), NULL);
        due("3: place -1", x.set(0, -1, 0), PLACE);
        due("3: place behind", x.set(0, 2, 0), PLACE);
        due("3: place far", x.set(0, MAX, 0), PLACE);
    }

    /** 4 */
    private static void copy() {
        CallLaws x = Check.told("saying 0 0 1 0 0 3 give 0 1 1 0;saying 0 0 1 0 0 3 give 0 2 2 0;");
        x.sheet(0, 2, 5);
        x.sheet(1, 2, 3);
        x.sheet(2, 1, 3);
        x.set(0, 0, 1);
        x.set(0, 1, 2);
        due("4: onto itself, forwards", x.copy(0, 0, 0, 1, 4), 4);
        due("4: 1 1 2 0 0", x.allows(0, 0, 0, 2), 2);
        due("4: 1 1 2 0 0", x.allows(1, 0, 2, 1), 1);
        due("4: 1 1 2 0 0", x.allows(1, 0, 3, 2), 0);
        due("4: onto itself, backwards", x.copy(0, 1, 0, 0, 4), 4);
        due("4: 1 2 0 0 0", x.allows(1, 0, 1, 1), 1);
        due("4: 1 2 0 0 0", x.allows(0, 0, 1, 4), 0);
        due("4: to another", x.copy(0, 0, 1, 1, 2), 2);
        due("4: 0 1 2", x.allows(0, 1, 1, 1) + x.allows(1, 1, 2, 1), 2);
        due("4: none", x.copy(0, 5, 1, 3, 0), 0);
        due("4: sheet a", x.copy(-1, 0, 0, 0, 0), BAD);
        due("4: sheet b", x.copy(0, 0, 8, 0, 0), BAD);
        due("4: a missing", x.copy(3, 0, 0, 0, 0), NULL);
        due("4: b missing", x.copy(0, -1, 3, 0, 0), NULL);
        due("4: two lanes", x.copy(0, -1, 2, 0, 1), STORE);
        due("4: i below 0", x.copy(0, -1, 1, 0, 1), PLACE);
        due("4: j below 0", x.copy(0, 0, 1, -1, 1), PLACE);
        due("4: n below 0", x.copy(0, 0, 1, 0, -1), PLACE);
        due("4: beyond a", x.copy(0, 4, 1, 0, 2), PLACE);
        due("4: beyond b", x.copy(0, 0, 1, 2, 2), PLACE);
        due("4: far beyond", x.copy(0, 1, 1, 1, MAX), PLACE);
        due("4: far places", x.copy(0, MAX, 1, MAX, MAX), PLACE);
        due("4: found changes nothing", x.allows(0, 1, 1, 1) + x.allows(1, 1, 2, 1), 2);
    }

    /** 5 */
    private static void drop() {
        CallLaws x = new CallLaws();
        x.sheet(4, 0, 9);
        due("5: drop", x.drop(4), 9);
        due("5: missing", x.drop(4), NULL);
        due("5: set", x.set(4, 0, 0), NULL);
        due("5: count", x.count(0), 0);
        due("5: sheet -1", x.drop(-1), BAD);
        due("5: sheet 8", x.drop(8), BAD);
    }

    /** 6 */
    private static void feed() {
        CallLaws x = new CallLaws();
        due("6: n 0", x.feed(0, 0), BAD);
        due("6: n 9", x.feed(0, 9), BAD);
        due("6: n -1", x.feed(0, -1), BAD);
        due("6: lowest bytes, highest first", x.feed(0x7777777777_747279L, 3), 3);
        due("6: behind", x.feed(' ', 1), 4);
        Check.feed(x, "0 0 5;");
        due("6: read", x.laws(), 0);
        due("6: no fault", x.fault(), 0);
        for (int i = 0; i < 62; i++) {
            x.feed(0x2020202020202020L, 8);
        }
        due("6: 496", x.count(5), 496);
        due("6: full", x.feed(0x20202020202020L, 7), FULL);
        due("6: full by one", x.feed(0x2020202020L, 5), FULL);
        due("6: none came", x.count(5), 496);
        due("6: fits", x.feed(0x20202020L, 4), 500);
        due("6: full", x.feed(' ', 1), FULL);
        due("6: bad ahead of full", x.feed(' ', 9), BAD);
        due("6: a full tape is read", x.laws(), 0);
        due("6: high bytes", x.feed(-1L, 8), 8);
        due("6: high bytes are none", x.laws(), -1000100);
    }

    /** 7 */
    private static void laws() {
        CallLaws x = new CallLaws();
        due("7: empty", x.laws(), 0);
        due("7: two", Check.laws(x, "saying 0 0 1 0 0 0 refuse;\nsaying 1 0 2 0 0 0 give;"), 2);
        due("7: empty again", x.laws(), 2);
        due("7: one more", Check.laws(x, " \n saying 2 3 0 7 7 2 give 3 5 5 1 0 0 0 0 ; "), 3);
        due("7: tape", x.count(5), 0);
        int place = "saying 0 0 1 0 0 0 refuse;edition 0;try 0 0 3;within 0 9;".length();
        due("7: fault", Check.laws(x, "saying 0 0 1 0 0 0 refuse;edition 0;try 0 0 3;within 0 9;x"), -1000100 - place);
        due("7: tape", x.count(5), 0);
        due("7: nothing came", x.count(2), 3);
        due("7: nothing came", x.count(1), 0);
        due("7: nothing came", x.count(4), 0);
        due("7: nothing came", x.right(2), 9);
        due("7: after a fault", Check.laws(x, "edition 0;edition 0 when 0 0 0 refuse;"), 3);
        due("7: came", x.editions(0), 2);
    }

    private static void tokens() {
        due("7: no space needed", Check.laws(new CallLaws(), "saying 0 0 1 0 0 0give 0 0 0 0 1 1 1 1;"), 1);
        due("7: no space needed", Check.laws(new CallLaws(), "edition0when 0 0 0give 0 0 0 0when 1 1 1refuse;"), 0);
        due("7: two figures", Check.laws(new CallLaws(), "saying 00 01 02 03 04 00 refuse;"), 1);
        Check.fault("edition 000;", 8, 1);
        Check.fault("edition 0 ; editions 0;", 12, 1);
        Check.fault("Edition 0;", 0, 1);
        Check.fault("editioN 0;", 0, 1);
        Check.fault("edition\t0;", 7, 1);
        Check.fault("edition\r\n0;", 7, 1);
        Check.fault("edition 0", 9, 1);
        Check.fault("edition 0 \n ", 12, 1);
        Check.fault("edition", 7, 1);
        Check.fault(";", 0, 1);
        Check.fault("  3", 2, 1);
        Check.fault("edition 0;;", 10, 1);
        Check.fault("edition 0,", 9, 1);
        Check.fault("edition " + (char) 233, 8, 1);
        Check.fault("edition " + (char) 0, 8, 1);
        Check.fault("when 0 0 0 refuse;", 0, 1);
        CallLaws x = new CallLaws();
        Check.laws(x, "zzzzzzzzzzzzzzzzzzzz");
        due("7: what an earlier text left is no part of a name", Check.laws(x, "edition"), -1000107);
        Check.laws(x, "00000000000000000000");
        due("7: nor of a number", Check.laws(x, "edition 0"), -1000109);
        due("7: a name that fills the tape", Check.laws(x, "z".repeat(500)), -1000100);
        due("7: a number that fills the tape", Check.laws(x, " ".repeat(499) + "7"), -1000599);
        due("7: signs that fill the tape", Check.laws(x, ";".repeat(500)), -1000100);
        due("7: a long name at the end", Check.laws(x, "try" + " ".repeat(496) + "1"), -1000600);
    }

    private static void faultsOfEditions() {
        Check.fault("edition;", 7, 1);
        Check.fault("edition when 0 0 0 refuse;", 8, 1);
        Check.fault("edition 4;", 8, 2);
        Check.fault("edition 99;", 8, 2);
        Check.fault("edition 0 0;", 10, 1);
        Check.fault("edition 0 when 8 8 0 refuse;", 15, 2);
        Check.fault("edition 0 when 3 2 0 refuse;", 17, 2);
        Check.fault("edition 0 when 3 8 0 refuse;", 17, 2);
        Check.fault("edition 0 when 3 3 4 refuse;", 19, 2);
        Check.fault("edition 0 when 3 3 refuse;", 19, 1);
        Check.fault("edition 0 when 3 3 0;", 20, 1);
        Check.fault("edition 0 when 3 3 0 give 0 0 7 0;", 30, 2);
        Check.fault("edition 0 when 3 3 0 give 0 0 0 0 0;", 34, 1);
        Check.fault("edition 0 when 3 3 0 give 0 0 0;", 31, 1);
        Check.fault("edition 0 when 3 3 0 refuse 0;", 28, 1);
        Check.fault("edition 0 refuse;", 10, 1);
        Check.fault("edition 0 edition 1;", 10, 1);
    }

    private static void faultsOfSayings() {
        Check.fault("saying;", 6, 1);
        Check.fault("saying 4 0 0 0 0 0 refuse;", 7, 2);
        Check.fault("saying 0 4 1 0 0 0 refuse;", 9, 2);
        Check.fault("saying 0 0 4 0 0 0 refuse;", 11, 2);
        Check.fault("saying 3 0 3 0 0 0 refuse;", 11, 2);
        Check.fault("saying 3 0 2 8 8 0 refuse;", 13, 2);
        Check.fault("saying 3 0 2 1 0 0 refuse;", 15, 2);
        Check.fault("saying 3 0 2 1 8 0 refuse;", 15, 2);
        Check.fault("saying 3 0 2 1 1 4 refuse;", 17, 2);
        Check.fault("saying 3 0 2 1 1 0 give 99 0 0 0;", 24, 2);
        Check.fault("saying 3 0 2 1 1 0 1 refuse;", 19, 1);
        Check.fault("saying 3 0 2 1 1 0 when;", 19, 1);
        Check.fault("saying 3 0 2 1 1 0 refuse 0 0 0 0;", 26, 1);
        Check.fault("saying 3 0 2 1 1 0 give 4 0 0 0;", 24, 2);
        Check.fault("saying 3 0 2 1 1 0 give 0 6 6 0;", 26, 2);
        Check.fault("saying 3 0 2 1 1 0 give 0 5 4 0;", 28, 2);
        Check.fault("saying 3 0 2 1 1 0 give 0 5 6 0;", 28, 2);
        Check.fault("saying 3 0 2 1 1 0 give 0 5 5 2;", 30, 2);
        Check.fault("saying 3 0 2 1 1 0 give 0 5 5 ;", 30, 1);
        Check.fault("saying 3 0 2 1 1 0 give 0 5 5 0 1;", 33, 1);
        Check.fault("saying 3 0 2 1 1 0 give 2 5 5 0 2 9 9 9;", 32, 2);
        Check.fault("saying 3 0 2 1 1 0 give 0 0 0 0 1 0 0 0 2 0 0 0 3 0 0 0 0 0 0 0;", 56, 2);
        Check.fault("saying 3 0 2 1 1 0 give", 23, 1);
    }

    private static void faultsOfTriesAndWithin() {
        Check.fault("try;", 3, 1);
        Check.fault("try 4 0 0;", 4, 2);
        Check.fault("try 3 4 0;", 6, 2);
        Check.fault("try 3 3 16;", 8, 2);
        Check.fault("try 3 3;", 7, 1);
        Check.fault("try 3 3 3 3;", 10, 1);
        Check.fault("within;", 6, 1);
        Check.fault("within 4 5;", 7, 2);
        Check.fault("within 0;", 8, 1);
        Check.fault("within 0 100;", 9, 1);
        Check.fault("within 0 99 0;", 12, 2);
        Check.fault("within 0 99 4;", 12, 2);
        Check.fault("within 0 99 99;", 12, 2);
        Check.fault("within 0 99 1 2 1;", 16, 2);
        Check.fault("within 0 99 1 2 3 3;", 18, 2);
        Check.fault("within 0 99 1 2 3 when;", 18, 1);
    }

    private static void rooms() {
        Check.fault("edition 2;edition 2;edition 2;edition 2;edition 2;", 48, 3);
        Check.fault("edition 2;edition 2;edition 2;edition 2;edition 2", 48, 3);
        CallLaws x = Check.told("edition 1;edition 1;edition 1;");
        due("7: fifth", Check.laws(x, "edition 0;edition 1;edition 1;"), -1000128);
        due("7: fifth", x.fault(), 3);
        due("7: nothing came", x.count(1), 3);
        due("7: fourth", Check.laws(x, "edition 1;"), 0);
        due("7: four", x.editions(1), 4);
        StringBuilder rules = new StringBuilder("edition 0");
        for (int i = 0; i < 6; i++) {
            rules.append(" when 0 0 0 refuse");
        }
        due("7: six rules", Check.laws(new CallLaws(), rules + ";"), 0);
        Check.fault(rules + " when;", rules.length() + 1, 3);
        String saying = "saying 0 0 1 0 0 0 give;";
        CallLaws y = Check.told(saying.repeat(20));
        due("7: 20", y.count(2), 20);
        due("7: the 21st", Check.laws(y, "try 0 0 1;saying"), -1000110);
        due("7: the 21st", y.fault(), 3);
        due("7: 20 still", y.laws(), 20);
        due("7: the last", y.saying(19, 2), 1);
        due("7: no 21st", y.saying(20, 2), BAD);
    }

    /** As much as there is room for, and every call that looks through all of it. */
    private static void allFull() {
        CallLaws x = new CallLaws();
        for (int service = 0; service < 4; service++) {
            String edition = "edition " + service + " when 0 7 3 give ";
            Check.laws(x, edition + "0 0 0 0;" + edition + "1 0 0 0;" + edition + "2 0 0 0;" + edition + "3 0 0 0;");
        }
        for (int i = 0; i < 20; i++) {
            Check.laws(x, "saying 2 " + i % 4 + " 3 0 7 3 give 0 " + i % 4 + " " + (i % 4 + i / 10) + " 1;");
        }
        due("full: editions", x.count(1), 16);
        due("full: sayings", x.count(2), 20);
        due("full: kept", x.count(3), 20);
        due("full: the last edition", x.answer(3, 3, 7, 2, 0), 3);
        due("full: stand-ins", x.standIn(2, 3, 3, 7, 2, -1), 2 * 343);
        due("full: no quarrel, as all may be left out", x.quarrel(3), 0);
        due("full: the last house", x.house(624, 0), 1);
        due("full: a red house", x.house(624 - 125, 1), 3);
        due("full: to the last house", x.letOut(0, 624, 0), 4);
        due("full: to the last house", x.letOut(0, 624, 1), 4);
        due("full: from the last house", x.letOut(624, 0, 1), 124);
        due("full: a change", x.change(3, 3, 0), 0xCCC88);
    }

    /** What a text with a FAULT has filled on its way is seen by no call. */
    private static void leftovers() {
        CallLaws x = Check.told("edition 0;edition 1 when 0 7 3 give 0 0 0 0;saying 0 0 1 0 7 3 give;");
        Check.laws(x, "saying 0 0 1 0 7 3 refuse;edition 1;edition 1;try 0 0 15;within 0 9;saying 0 0 1 0 7 3 give 1 1 1 0;;");
        due("left: fault", x.fault(), 1);
        due("left: stand-ins", x.standIn(0, 0, 1, 0, 0, -1), 2401);
        due("left: house", x.house(6, 0), 1);
        due("left: quarrel", x.quarrel(1), 0);
        due("left: kept", x.count(3), 1);
        due("left: editions", x.editions(1), 1);
        due("left: no such edition", x.play(0, 1, 0), BAD);
        due("left: no such house", x.house(10, 0), BAD);
        due("left: within", x.hours(0), NONE);
        due("left: rows are used again", Check.laws(x, "saying 0 0 1 0 7 3 give;edition 1 when 1 1 3 give 0 0 0 0;"), 2);
        due("left: rows are used again", x.saying(1, 6), 0);
        due("left: rows are used again", x.saying(1, 7), 0);
        due("left: rows are used again", x.answer(1, 1, 1, 0, 4), 0);
        due("left: rows are used again", x.answer(1, 1, 0, 0, 4), 1);
    }

    /** 8 */
    private static void fault() {
        CallLaws x = new CallLaws();
        due("8: before", x.fault(), 0);
        Check.laws(x, "edition 9;");
        due("8: 2", x.fault(), 2);
        Check.laws(x, "edition 0;");
        due("8: latest", x.fault(), 2);
        Check.laws(x, "edition");
        due("8: 1", x.fault(), 1);
    }

    /** 9 */
    private static void editions() {
        CallLaws x = Check.told("edition 0;edition 3;edition 3;");
        due("9: 0", x.editions(0), 1);
        due("9: 1", x.editions(1), 0);
        due("9: 3", x.editions(3), 2);
        due("9: -1", x.editions(-1), BAD);
        due("9: 4", x.editions(4), BAD);
    }

    /** 10 */
    private static void answer() {
        CallLaws x = Check.told("edition 2 when 1 3 1 give 5 0 6 4 when 2 2 3 refuse when 0 7 0 give 1 2 3 4;");
        due("10: first rule", x.answer(2, 0, 2, 1, 0), 5);
        due("10: left out", x.answer(2, 0, 2, 1, 2), 6);
        due("10: not refused", x.answer(2, 0, 2, 1, 4), 0);
        due("10: second rule", x.answer(2, 0, 2, 0, 0), NONE);
        due("10: refused", x.answer(2, 0, 2, 0, 4), 1);
        due("10: third rule", x.answer(2, 0, 1, 0, 3), 4);
        due("10: third rule", x.answer(2, 0, 7, 0, 1), 2);
        due("10: no rule", x.answer(2, 0, 7, 2, 4), 1);
        due("10: no rule", x.answer(2, 0, 7, 2, 3), NONE);
        due("10: service", x.answer(4, 0, 0, 0, 0), BAD);
        due("10: service", x.answer(-1, 0, 0, 0, 0), BAD);
        due("10: edition", x.answer(2, 1, 0, 0, 0), BAD);
        due("10: edition", x.answer(2, -1, 0, 0, 0), BAD);
        due("10: ask", x.answer(2, 0, 8, 0, 0), BAD);
        due("10: ask", x.answer(2, 0, -1, 0, 0), BAD);
        due("10: mood", x.answer(2, 0, 0, 3, 0), BAD);
        due("10: mood", x.answer(2, 0, 0, -1, 0), BAD);
        due("10: what", x.answer(2, 0, 0, 0, 5), BAD);
        due("10: what", x.answer(2, 0, 0, 0, -1), BAD);
    }

    /** 11 */
    private static void saying() {
        CallLaws x = Check.told("saying 3 2 1 4 6 2 give 3 0 0 0 1 0 5 1;saying 0 1 2 0 0 3 refuse;");
        int[][] want = {{3, 2, 1, 4, 6, 2, 0, 10}, {0, 1, 2, 0, 0, 3, 1, 0}};
        for (int saying = 0; saying < 2; saying++) {
            for (int what = 0; what < 8; what++) {
                due("11: saying(" + saying + ", " + what + ")", x.saying(saying, what), want[saying][what]);
            }
        }
        due("11: what 8", x.saying(0, 8), BAD);
        due("11: what -1", x.saying(0, -1), BAD);
        due("11: saying 2", x.saying(2, 0), BAD);
        due("11: saying -1", x.saying(-1, 0), BAD);
    }

    /** 12 */
    private static void play() {
        CallLaws x = Check.told("edition 1 when 0 3 3 give 0 1 2 6 when 4 4 3 give 5 5 5 5;edition 1;"
            + "saying 0 0 1 0 3 3 give 0 0 0 0 1 0 1 0 2 2 5 0;"
            + "saying 0 0 1 0 4 3 give 2 0 2 0;"
            + "saying 0 0 1 1 7 1 give 3 0 5 0;"
            + "saying 0 0 1 1 7 1 give 3 0 5 1;"
            + "saying 0 0 1 4 7 2 refuse;"
            + "saying 0 0 1 5 7 2 refuse;");
        int[] want = {NONE, 64 * 4 + 2, 64 + 8 + 3, 64 * 5 + 8 + 4, 64 * 4 + 16 + 4, NONE};
        int[] second = {4, 4, 64 + 8 + 4, 64 + 8 + 4, NONE, NONE};
        for (int i = 0; i < 6; i++) {
            due("12: breaks " + i, x.play(i, 0, 1), want[i]);
            due("12: keeps " + i, x.play(i, 0, 0), want[i] == NONE ? 1 : 0);
            due("12: breaks " + i, x.play(i, 1, 1), second[i]);
            due("12: keeps " + i, x.play(i, 1, 0), second[i] == NONE ? 1 : 0);
        }
        due("12: saying", x.play(6, 0, 0), BAD);
        due("12: saying", x.play(-1, 0, 0), BAD);
        due("12: edition", x.play(0, 2, 0), BAD);
        due("12: edition", x.play(0, -1, 0), BAD);
        due("12: what", x.play(0, 0, 2), BAD);
        due("12: what", x.play(0, 0, -1), BAD);
    }

    /** 13 */
    private static void standIn() {
        CallLaws x = Check.told("saying 0 1 2 0 3 3 give 0 1 3 0 3 5 5 1;saying 0 1 2 3 3 1 give 0 3 4 1 1 0 0 0 2 2 2 0;"
            + "saying 0 1 2 5 5 0 refuse;saying 0 1 2 5 5 3 give;saying 0 0 2 0 7 3 refuse;saying 3 1 2 0 7 3 refuse;"
            + "saying 0 1 3 0 7 3 refuse;");
        due("13: one", x.standIn(0, 1, 2, 3, 0, -1), 3 * 7 * 7 * 2);
        due("13: two", x.standIn(0, 1, 2, 3, 1, -1), 2);
        due("13: two", x.standIn(0, 1, 2, 3, 1, 0), 3 + 49 * 2 + 343 * 5);
        due("13: two", x.standIn(0, 1, 2, 3, 1, 1), 3 + 49 * 2 + 343 * 6);
        due("13: two", x.standIn(0, 1, 2, 3, 1, 2), NONE);
        due("13: none", x.standIn(0, 1, 2, 5, 0, -1), 0);
        due("13: none", x.standIn(0, 1, 2, 5, 0, 0), NONE);
        due("13: given", x.standIn(0, 1, 2, 5, 1, -1), 2401);
        due("13: given", x.standIn(0, 1, 2, 5, 1, 2400), 2400);
        due("13: given", x.standIn(0, 1, 2, 5, 1, 2401), NONE);
        due("13: refused", x.standIn(0, 0, 2, 5, 1, -1), 1);
        due("13: refused", x.standIn(0, 0, 2, 5, 1, 0), 2401);
        due("13: all", x.standIn(0, 1, 2, 7, 0, -1), 2402);
        due("13: all", x.standIn(0, 1, 2, 7, 0, 2401), 2401);
        due("13: all", x.standIn(0, 1, 2, 7, 0, MAX), NONE);
        due("13: caller", x.standIn(4, 1, 2, 7, 0, 0), BAD);
        due("13: caller", x.standIn(-1, 1, 2, 7, 0, 0), BAD);
        due("13: edition", x.standIn(0, 4, 2, 7, 0, 0), BAD);
        due("13: edition", x.standIn(0, -1, 2, 7, 0, 0), BAD);
        due("13: giver", x.standIn(0, 1, 4, 7, 0, 0), BAD);
        due("13: giver", x.standIn(0, 1, -1, 7, 0, 0), BAD);
        due("13: alike", x.standIn(2, 1, 2, 7, 0, 0), BAD);
        due("13: ask", x.standIn(0, 1, 2, 8, 0, 0), BAD);
        due("13: mood", x.standIn(0, 1, 2, 0, 3, 0), BAD);
        due("13: i", x.standIn(0, 1, 2, 0, 0, -2), BAD);
    }

    /** 14 */
    private static void allows() {
        CallLaws x = Check.told("saying 0 1 2 0 3 3 give 0 1 3 0 1 0 5 1;saying 0 1 2 0 3 3 refuse;");
        x.sheet(0, 1, 40);
        int[] items = {1, 4, 3 + 7 * 6, 2 + 343 * 6, 6, 2401};
        for (int i = 0; i < items.length; i++) {
            x.set(0, i, items[i]);
        }
        due("14: three", x.allows(0, 0, 0, 6), 3);
        due("14: one", x.allows(1, 0, 0, 6), 1);
        due("14: twenty", x.allows(0, 0, 20, 20), 0);
        due("14: saying", x.allows(2, 0, 0, 1), BAD);
        due("14: sheet", x.allows(0, 8, 0, 1), BAD);
        due("14: n 0", x.allows(0, 0, 0, 0), BAD);
        due("14: n 21", x.allows(0, 0, 0, 21), BAD);
        due("14: bad n ahead of missing", x.allows(0, 1, 0, 21), BAD);
        due("14: missing", x.allows(0, 1, -1, 1), NULL);
        due("14: place", x.allows(0, 0, -1, 1), PLACE);
        due("14: place", x.allows(0, 0, 21, 20), PLACE);
        due("14: place", x.allows(0, 0, MAX, 20), PLACE);
        x.set(0, 39, 2402);
        due("14: place ahead of item", x.allows(0, 0, 39, 2), PLACE);
        due("14: status", x.status(), 2);
        due("14: item", x.allows(0, 0, 39, 1), BAD);
        due("14: status stays", x.status(), 2);
        x.set(0, 39, -1);
        due("14: item", x.allows(0, 0, 38, 2), BAD);
    }

    /** 15 */
    private static void noMore() {
        CallLaws x = Check.told("saying 0 0 1 2 4 1 give 0 1 3 1;saying 2 0 1 2 4 1 give 0 1 3 0;saying 3 0 1 1 5 3 give 0 2 2 0;"
            + "saying 0 0 1 2 4 1 give 0 1 2 1 1 0 5 1;saying 0 0 1 3 3 3 refuse;saying 0 0 2 3 3 3 refuse;"
            + "saying 0 0 1 2 4 1 give 0 1 2 1;saying 0 0 1 4 5 1 refuse;");
        int[][] yes = {{0, 1}, {0, 2}, {0, 3}, {0, 6}, {1, 2}, {3, 2}, {3, 6}, {6, 2}, {6, 3}};
        for (int a = 0; a < 8; a++) {
            for (int b = 0; b < 8; b++) {
                boolean so = a == b;
                for (int[] pair : yes) {
                    so |= pair[0] == a && pair[1] == b;
                }
                int want = (a == 5) != (b == 5) ? STATE : so ? 1 : 0;
                due("15: noMore(" + a + ", " + b + ")", x.noMore(a, b), want);
            }
        }
        due("15: bad ahead of state", x.noMore(5, 8), BAD);
        due("15: bad", x.noMore(-1, 0), BAD);
    }

    /** 16 */
    private static void quarrel() {
        CallLaws x = Check.told("saying 0 0 1 0 3 3 give 0 0 1 1;saying 2 0 1 2 5 3 give 0 2 3 1;saying 3 0 1 3 3 3 give 0 0 5 0;");
        due("16: three", x.quarrel(1), 7);
        due("16: of another", x.quarrel(2), 0);
        Check.laws(x, "saying 2 1 1 7 7 0 refuse;saying 2 1 1 7 7 1 give;");
        due("16: refuse and give in two moods", x.quarrel(1), 7);
        Check.laws(x, "saying 2 1 1 6 7 0 give;");
        due("16: fewer", x.quarrel(1), 8 + 32);
        Check.laws(x, "saying 2 1 1 0 0 0 refuse;saying 2 0 3 0 0 0 refuse;saying 2 0 3 0 0 3 give;");
        due("16: less", x.quarrel(1), 8 + 32);
        due("16: of another", x.quarrel(3), 128 + 256);
        CallLaws y = Check.told("saying 0 0 1 0 0 0 give 2 0 0 0;saying 0 0 1 1 1 0 give 2 1 1 0;saying 0 0 1 0 7 3 give 2 2 2 0;");
        due("16: the least of several", y.quarrel(1), 1 + 4);
        CallLaws z = Check.told("saying 0 0 1 0 0 3 give 0 0 1 1;saying 0 0 1 0 7 3 give 0 2 3 1;saying 0 0 1 1 7 3 give 0 0 5 0;");
        due("16: three that are never together", z.quarrel(1), 0);
        due("16: giver", y.quarrel(4), BAD);
        due("16: giver", y.quarrel(-1), BAD);
    }

    /** 17 */
    private static void change() {
        CallLaws x = Check.told("edition 1 when 0 7 3 give 0 0 0 0;edition 1 when 0 7 3 give 1 0 0 0;edition 2;"
            + "saying 0 0 1 0 0 0 give 0 0 0 0;saying 3 0 1 0 0 0 give 0 1 1 0;saying 3 0 1 0 0 0 give;"
            + "saying 0 0 2 0 0 0 refuse;saying 0 0 1 0 0 0 refuse;saying 2 0 1 0 0 0 give 0 0 0 1;");
        due("17: forth", x.change(1, 0, 1), 1 + 32);
        due("17: back", x.change(1, 1, 0), 2);
        due("17: none", x.change(1, 1, 1), 0);
        due("17: giver", x.change(4, 0, 0), BAD);
        due("17: giver", x.change(-1, 0, 0), BAD);
        due("17: from", x.change(1, 2, 0), BAD);
        due("17: to", x.change(1, 0, 2), BAD);
        due("17: to", x.change(1, 0, -1), BAD);
        Check.laws(x, "edition 1;");
        due("17: to a later one", x.change(1, 0, 2), 1 + 4 + 32);
        Check.laws(x, "saying 2 3 1 7 7 2 refuse;");
        due("17: a later saying", x.change(1, 2, 0), 16 + 64);
    }

    /** 18 */
    private static void right() {
        CallLaws x = Check.told("saying 0 1 2 0 0 0 give 0 0 0 0 2 0 0 0 3 0 0 0;saying 1 1 2 0 0 0 give 0 0 0 0;"
            + "saying 0 1 2 0 0 0 refuse;saying 0 0 2 0 0 0 give 0 0 0 0;");
        due("18: no tries", x.right(0), 13);
        Check.laws(x, "try 0 1 1;try 0 1 6;");
        due("18: together", x.right(0), 8);
        due("18: of another caller", x.right(1), 1);
        due("18: refuse", x.right(2), 0);
        due("18: of another edition", x.right(3), 1);
        Check.laws(x, "try 0 1 0;try 0 1 10;");
        due("18: and later ones", x.right(0), 0);
        Check.laws(x, "saying 3 3 2 0 0 0 give 1 0 0 0 2 0 0 0;try 3 3 4;try 2 3 2;try 3 2 2;");
        due("18: the last edition of the last", x.right(4), 2);
        due("18: saying", x.right(5), BAD);
        due("18: saying", x.right(-1), BAD);
    }

    private static final String TOWN = "edition 0;edition 0;edition 1 when 0 7 3 give 0 0 0 0;"
        + "edition 1 when 0 7 3 give 1 0 0 0;edition 1 when 0 7 3 give 2 0 0 0;edition 2;"
        + "saying 0 0 1 0 7 3 give 0 0 1 0;saying 0 1 1 0 7 3 give 0 1 2 0;saying 2 0 1 3 3 0 give 0 1 1 0;"
        + "saying 3 0 1 0 0 0 refuse;";

    /** 19 */
    private static void house() {
        CallLaws x = Check.told(TOWN);
        due("19: empty", x.house(0, 0), 1);
        due("19: a caller alone", x.house(1 + 25, 0), 1);
        due("19: kept", x.house(1 + 10, 0), 1);
        due("19: kept", x.house(1 + 10, 1), NONE);
        due("19: broken", x.house(1 + 15, 0), 0);
        due("19: broken", x.house(1 + 15, 1), 0);
        due("19: another edition", x.house(2 + 15, 0), 1);
        due("19: another edition", x.house(2 + 5, 1), 1);
        due("19: the least of two", x.house(1 + 15 + 25, 1), 0);
        due("19: the other", x.house(2 + 15 + 25, 1), 2);
        due("19: -1", x.house(-1, 0), BAD);
        due("19: 625", x.house(625, 0), BAD);
        due("19: no such edition", x.house(3, 0), BAD);
        due("19: no such edition", x.house(20, 0), BAD);
        due("19: no such edition", x.house(50, 0), BAD);
        due("19: no such edition", x.house(125, 0), BAD);
        due("19: what", x.house(0, 2), BAD);
        due("19: what", x.house(0, -1), BAD);
    }

    /** 20 */
    private static void letOut() {
        CallLaws x = Check.told(TOWN);
        due("20: none", x.letOut(11, 11, 0), 0);
        due("20: none", x.letOut(11, 11, 1), NONE);
        due("20: one", x.letOut(11, 12, 0), 1);
        due("20: one", x.letOut(11, 12, 1), 12);
        due("20: over the middle", x.letOut(6, 17, 0), 3);
        due("20: over the middle", x.letOut(6, 17, 1), 1);
        due("20: back", x.letOut(17, 6, 0), 3);
        due("20: back", x.letOut(17, 6, 1), 2);
        due("20: from red", x.letOut(16, 0, 0), NONE);
        due("20: from red", x.letOut(16, 16, 0), NONE);
        due("20: from red", x.letOut(16, 0, 1), NONE);
        due("20: to red", x.letOut(0, 16, 0), NONE);
        due("20: to red", x.letOut(0, 16, 1), NONE);
        due("20: least first", x.letOut(0, 11, 1), 1);
        due("20: no such house", x.letOut(3, 0, 0), BAD);
        due("20: no such house", x.letOut(0, 3, 0), BAD);
        due("20: no such house", x.letOut(0, 625, 0), BAD);
        due("20: no such house", x.letOut(-1, 0, 0), BAD);
        due("20: what", x.letOut(0, 0, 2), BAD);
        due("20: what", x.letOut(0, 0, -1), BAD);
    }

    /** 21 */
    private static void hours() {
        CallLaws x = Check.told("within 0 10 1 2;within 1 20 3;within 2 7 3;within 3 99;");
        due("21: 3", x.hours(3), 99);
        due("21: 1", x.hours(1), 119);
        due("21: 2", x.hours(2), 106);
        due("21: shared ones twice", x.hours(0), 10 + 119 + 106);
        Check.laws(x, "within 3 0;");
        due("21: told last", x.hours(0), 37);
        Check.laws(x, "within 3 1 2;");
        due("21: comes to itself", x.hours(3), NONE);
        due("21: comes to itself", x.hours(2), NONE);
        due("21: calls one that does", x.hours(0), NONE);
        Check.laws(x, "within 2 1;");
        due("21: no more", x.hours(0), 10 + (20 + 1 + 1) + 1);
        due("21: service", x.hours(4), BAD);
        due("21: service", x.hours(-1), BAD);
        CallLaws y = Check.told("within 0 1 1;within 2 1 0;within 3 4;");
        due("21: calls one not told", y.hours(0), NONE);
        due("21: one of NONE", y.hours(2), NONE);
        due("21: not told", y.hours(1), NONE);
        due("21: alone", y.hours(3), 4);
        CallLaws z = Check.told("within 0 1 1;within 1 1 2;within 2 1 3;within 3 1;");
        due("21: a long way", z.hours(0), 4);
        Check.laws(z, "within 3 1 0;");
        due("21: a round", z.hours(0), NONE);
    }

    /** All KINDS: 0 GIVEN, 1 REFUSES, 2 BEFORE, 3 LOOSE, 4 and 5 a QUARREL, 6 BEFORE with no FIELD. */
    private static final String ALL_KINDS = "saying 0 0 1 0 3 3 give 0 0 1 0 2 0 5 0;saying 0 0 2 4 7 0 refuse;"
        + "saying 0 0 1 0 3 2 give 1 0 0 0;saying 0 0 1 0 1 3 give;saying 0 0 3 1 2 1 refuse;saying 0 0 3 2 3 3 give;"
        + "saying 0 0 1 0 3 0 give;saying 0 0 2 0 3 3 refuse;";

    /** 22 */
    private static void kind() {
        CallLaws x = Check.told(ALL_KINDS);
        int[] want = {1, 2, 3, 4, 5, 5, 3, 2};
        for (int i = 0; i < want.length; i++) {
            due("22: kind(" + i + ")", x.kind(i), want[i]);
        }
        due("22: saying", x.kind(8), BAD);
        due("22: saying", x.kind(-1), BAD);
        Check.laws(x, "saying 0 0 1 0 0 1 refuse;");
        due("22: a later quarrel", x.kind(0), 5);
        due("22: not of it", x.kind(2), 3);
        due("22: not of it", x.kind(3), 4);
        due("22: a later quarrel", x.kind(8), 5);
    }

    /** 23 */
    private static void as() {
        CallLaws x = Check.told(ALL_KINDS);
        int[][] taken = {{0, 1}, {0, 2}, {0, 1, 3}, {0, 1, 4}, {0, 5}, {0, 5}, {0, 1, 3}, {0, 2}};
        for (int i = 0; i < taken.length; i++) {
            for (int kind = 0; kind < 6; kind++) {
                boolean so = false;
                for (int one : taken[i]) {
                    so |= one == kind;
                }
                due("23: as(" + i + ", " + kind + ")", x.as(i, kind), so ? i : KIND);
                due("23: status", x.status(), so ? 0 : 3);
            }
        }
        due("23: kind", x.as(0, 6), BAD);
        due("23: kind", x.as(0, -1), BAD);
        due("23: saying", x.as(8, 0), BAD);
    }

    /** 24 */
    private static void ask() {
        CallLaws x = Check.told(ALL_KINDS);
        int[] sizes = {14, 4 - 1, 10, 6, -2, -6, 8, 12 - 7};
        int[] marks = {100, 1, 102, 103 + 6, 1004, 1005, 106, 7};
        int[][] sizeTraces = {{11, 10}, {13, 10, 20}, {12, 11, 10}, {11, 10}, {14, 10}, {14, 10}, {12, 11, 10}, {13, 10, 20}};
        int[][] markTraces = {{21, 20}, {20}, {21, 20}, {22, 21, 20, 11, 10}, {23, 20}, {23, 20}, {21, 20}, {20}};
        for (int i = 0; i < sizes.length; i++) {
            due("24: size of " + i, x.ask(i, 0), sizes[i]);
            traced("24: size of " + i, x, sizeTraces[i]);
            due("24: mark of " + i, x.ask(i, 1), marks[i]);
            traced("24: mark of " + i, x, markTraces[i]);
        }
        due("24: what", x.ask(0, 2), BAD);
        due("24: what", x.ask(0, -1), BAD);
        due("24: saying", x.ask(8, 0), BAD);
    }

    private static void traced(String what, CallLaws x, int[] want) {
        for (int i = 0; i < want.length; i++) {
            due(what + ", trace(" + i + ")", x.trace(i), want[i]);
        }
        due(what + ", end of trace", x.trace(want.length), NONE);
    }

    /** 25 */
    private static void trace() {
        CallLaws x = Check.told(ALL_KINDS);
        due("25: before", x.trace(0), NONE);
        x.ask(2, 0);
        x.ask(1, 1);
        due("25: of the latest alone", x.trace(0), 20);
        due("25: of the latest alone", x.trace(1), NONE);
        due("25: -1", x.trace(-1), NONE);
        due("25: 16", x.trace(16), NONE);
        due("25: most", x.trace(MAX), NONE);
        x.ask(99, 0);
        x.ask(0, 9);
        due("25: refused asks change nothing", x.trace(0), 20);
        x.kind(0);
        x.as(0, 1);
        due("25: others change nothing", x.trace(0), 20);
    }

    /** 26 */
    private static void count() {
        CallLaws x = Check.told("edition 1 when 0 7 3 give 0 0 0 0;edition 1;edition 0;saying 0 0 1 0 0 0 give;"
            + "saying 0 0 1 0 0 0 refuse;saying 0 0 1 0 0 0 give 0 1 1 0;saying 0 0 2 0 0 0 refuse;within 0 1;within 3 1;within 0 2;");
        x.sheet(0, 0, 0);
        x.sheet(5, 1, 1);
        x.sheet(5, 2, 3);
        x.sheet(6, 0, 3);
        x.drop(6);
        x.feed(0, 5);
        int[] want = {2, 3, 4, 2, 2, 5};
        for (int what = 0; what < 6; what++) {
            due("26: count(" + what + ")", x.count(what), want[what]);
        }
        due("26: -1", x.count(-1), BAD);
        due("26: 6", x.count(6), BAD);
        x.laws();
        due("26: after a fault", x.count(5), 0);
        Check.laws(x, "edition 2;");
        due("26: kept by a later edition", x.count(3), 3);
    }

    /** 27 */
    private static void status() {
        CallLaws x = Check.told("saying 0 0 1 0 0 3 give;");
        due("27: none", x.status(), 0);
        x.sheet(0, 0, -1);
        due("27: SIZE", x.status(), 4);
        x.drop(0);
        due("27: NULL", x.status(), 1);
        x.sheet(8, 0, 0);
        x.feed(0, 9);
        x.laws();
        x.kind(0);
        x.ask(0, 0);
        due("27: others change nothing", x.status(), 1);
        x.sheet(0, 0, 4);
        due("27: none", x.status(), 0);
        x.set(0, 4, 0);
        due("27: PLACE", x.status(), 2);
        x.allows(0, 0, 0, 4);
        due("27: none", x.status(), 0);
        x.as(0, 2);
        due("27: KIND", x.status(), 3);
        x.as(0, 6);
        x.allows(0, 0, 0, 0);
        due("27: bad changes nothing", x.status(), 3);
        x.as(0, 0);
        due("27: none", x.status(), 0);
        x.sheet(1, 1, 1);
        x.copy(0, 0, 1, 0, 1);
        due("27: STORE", x.status(), 5);
        x.copy(0, 0, 0, 1, 3);
        due("27: none", x.status(), 0);
        x.allows(0, 3, 0, 1);
        due("27: NULL", x.status(), 1);
        x.set(0, 0, 1);
        due("27: none", x.status(), 0);
        x.drop(2);
        x.drop(0);
        due("27: none", x.status(), 0);
    }
}
