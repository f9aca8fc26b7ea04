import java.util.ArrayList;
import java.util.List;

/** 'Terms': the tape, tokens, the grammar, how much there is room for, and faults. */
final class BoundariesOfTexts {
    private static final int NONE = CallLaws.NONE, BAD = CallLaws.BAD, FULL = CallLaws.FULL;
    private static final String GIVE = "saying 0 0 1 0 0 0 give;";
    private static final String RULE = " when 0 0 0 refuse";

    /** Texts in which every NUMBER is the greatest, or the least, that may stand there. */
    private static final String[] MOST = {
        "edition 3 when 7 7 3 give 6 6 6 6 when 7 7 3 refuse ;",
        "saying 3 3 2 7 7 3 give 3 5 5 1 2 5 5 1 1 5 5 1 0 5 5 1 ;",
        "saying 2 3 3 7 7 3 refuse ;",
        "try 3 3 15 ;",
        "within 3 99 2 1 0 ;"};
    private static final String[] LEAST = {
        "edition 0 when 0 0 0 give 0 0 0 0 when 0 0 0 refuse ;",
        "saying 0 0 1 0 0 0 give 0 0 0 0 1 0 0 0 2 0 0 0 3 0 0 0 ;",
        "saying 1 0 0 0 0 0 refuse ;",
        "try 0 0 0 ;",
        "within 0 0 1 2 3 ;"};

    private BoundariesOfTexts() {
    }

    static void all() {
        Doc.terms();
        tape();
        tokens();
        text();
        edition();
        saying();
        span();
        mood();
        answer();
        then();
        rules();
        sayings();
        tries();
        within();
        whenAllIsRead();
        firstToken();
        cannotStand();
        notAsTold();
        noRoom();
    }

    private static void due(long got, long want) {
        Doc.due(got, want);
    }

    private static void fits(String text) {
        Doc.holds("no fault in '" + text + "'", Check.laws(new CallLaws(), text) >= 0);
    }

    private static void fault(String text, int place, int number) {
        Check.fault(text, place, number);
    }

    private static void fault(CallLaws x, String text, int place, int number) {
        Doc.due(text, Check.laws(x, text), -1000100 - place);
        Doc.due(text, x.fault(), number);
    }

    private static void tape() {
        Doc.says("TEXTS: THE TAPE has at most 500 bytes;");
        CallLaws x = new CallLaws();
        due(Check.feed(x, " ".repeat(489) + "edition 3;"), 499);
        due(x.feed(0x2020, 2), FULL);
        due(x.count(5), 499);
        due(x.feed(' ', 1), 500);
        due(x.feed(' ', 1), FULL);
        due(x.laws(), 0);
        due(x.editions(3), 1);
        due(x.count(5), 0);
        due(Check.feed(x, "edition 2;".repeat(4) + " ".repeat(450) + "edition 1;"), 500);
        due(x.laws(), 0);
        due(x.editions(1), 1);
    }

    private static void tokens() {
        Doc.says("TOKENS: NAMES (letters a to z), NUMBERS (figures, 2 at most), SIGNS ; bytes 32 and 10 between.");
        for (int sign = 0; sign < 256; sign++) {
            String text = "edition" + (char) sign + "0;";
            boolean isLetter = sign >= 'a' && sign <= 'z';
            boolean isFigure = sign >= '0' && sign <= '9';
            if (sign == 32 || sign == 10 || sign == '0') {
                fits(text);
            } else if (isFigure) {
                fault(text, 7, 2);
            } else {
                fault(text, isLetter ? 0 : 7, 1);
            }
        }
        fits(" \n edition \n\n  0\n;\n ");
        fits("");
        fits(" ");
        fits("\n");
        fault("zedition 0;", 0, 1);
        fault("editionz 0;", 0, 1);
        fault("editio 0;", 0, 1);
        fault("edition edition 0;", 8, 1);
        fits("within 00 09 01;");
        fits("within 0 99;");
        fault("within 0 100;", 9, 1);
        fault("within 0 099;", 9, 1);
        fault("within 000 9;", 7, 1);
        fault("within 0 9 1234567890123456789012345678901234567890;", 11, 1);
        due(Check.told("within 1 07;").hours(1), 7);
        due(Check.told("within 1 70;").hours(1), 70);
    }

    /** The places at which the TOKENS of a text begin that has a byte between any two of them. */
    private static List<Integer> places(String text) {
        List<Integer> all = new ArrayList<>();
        for (int i = 0; i < text.length(); i++) {
            if (text.charAt(i) != ' ' && (i == 0 || text.charAt(i - 1) == ' ')) {
                all.add(i);
            }
        }
        return all;
    }

    private static String without(String text, int place, String instead) {
        return text.substring(0, place) + instead + text.substring(Math.max(place, text.indexOf(' ', place)));
    }

    /** At each TOKEN of a text the end, a byte that is none, and a NAME that is no word. */
    private static void odd(String text) {
        fits(text);
        for (int place : places(text)) {
            if (place > 0) {
                fault(text.substring(0, place), place, 1);
                fault(text.substring(0, place - 1), place - 1, 1);
            }
            fault(text.substring(0, place) + "?" + text.substring(place), place, 1);
            fault(text.substring(0, place) + "x " + text.substring(place), place, 1);
            fault(text.substring(0, place) + "000 " + text.substring(place), place, 1);
        }
    }

    private static void text() {
        Doc.says("text: { edition | saying | 'try' NUMBER NUMBER NUMBER ';' | 'within' NUMBER NUMBER { NUMBER } ';' };");
        due(new CallLaws().laws(), 0);
        odd("try 3 3 15 ;");
        odd("try 0 0 0 ;");
        odd("within 0 0 ;");
        odd("within 3 99 2 1 0 ;");
        fits("within 0 0;");
        fits("within 0 0 3 1 2;");
        fault("try 0 0;", 7, 1);
        fault("try 0 0 0 0;", 10, 1);
        fault("within 0;", 8, 1);
        fault(";", 0, 1);
        fault("try 0 0 0;;", 10, 1);
        fault("0", 0, 1);
        fault("when 0 0 0 refuse;", 0, 1);
        fault("refuse;", 0, 1);
        fault("give;", 0, 1);
        for (String one : MOST) {
            for (String other : LEAST) {
                fits(one + other);
                fits(other + "\n" + one);
            }
        }
    }

    private static void edition() {
        Doc.says("edition: 'edition' NUMBER { 'when' span mood answer } ';';");
        odd("edition 3 when 7 7 3 give 6 6 6 6 when 7 7 3 refuse ;");
        odd("edition 0 ;");
        fault("edition ;", 8, 1);
        fault("edition 0 0;", 10, 1);
        fault("edition 0 refuse;", 10, 1);
        fault("edition 0 give 0 0 0 0;", 10, 1);
        fault("edition 4;", 8, 2);
        fault("edition 0 when 0 0 0 refuse 0;", 28, 1);
    }

    private static void saying() {
        Doc.says("saying: 'saying' NUMBER NUMBER NUMBER span mood then ';' (the caller, its EDITION 0 to 3, the giver);");
        odd("saying 3 3 2 7 7 3 give 3 5 5 1 2 0 5 0 ;");
        odd("saying 0 0 1 0 0 0 refuse ;");
        fault("saying 4 0 1 0 0 0 give;", 7, 2);
        fault("saying 0 4 1 0 0 0 give;", 9, 2);
        fault("saying 0 0 4 0 0 0 give;", 11, 2);
        CallLaws x = Check.told("saying 0 3 3 0 0 0 give;saying 3 0 0 0 0 0 give;");
        Doc.due("an EDITION that there is not", x.saying(0, 1), 3);
        due(x.saying(0, 2), 3);
        due(x.saying(1, 0), 3);
    }

    private static void span() {
        Doc.says("span: NUMBER NUMBER (ASKS from, to);");
        CallLaws x = Check.told("saying 0 0 1 0 7 0 give;saying 0 0 1 7 7 0 give;saying 0 0 1 0 0 0 give;");
        int[][] want = {{0, 7}, {7, 7}, {0, 0}};
        for (int i = 0; i < 3; i++) {
            due(x.saying(i, 3), want[i][0]);
            due(x.saying(i, 4), want[i][1]);
        }
        fault("saying 0 0 1 8 8 0 give;", 13, 2);
        fault("saying 0 0 1 7 8 0 give;", 15, 2);
        fault("saying 0 0 1 7 6 0 give;", 15, 2);
        fault("edition 0 when 8 8 0 refuse;", 15, 2);
        fault("edition 0 when 0 8 0 refuse;", 17, 2);
        fault("edition 0 when 1 0 0 refuse;", 17, 2);
        fits("edition 0 when 0 7 0 refuse when 7 7 0 refuse when 0 0 0 refuse;");
    }

    private static void mood() {
        Doc.says("mood: NUMBER (0 to 2; 3: any);");
        CallLaws x = Check.told("saying 0 0 1 0 0 0 give;saying 0 0 1 0 0 2 give;saying 0 0 1 0 0 3 give;"
            + "edition 1 when 0 0 2 give 0 0 0 0 when 1 1 3 give 0 0 0 0;");
        due(x.saying(0, 5), 0);
        due(x.saying(1, 5), 2);
        due(x.saying(2, 5), 3);
        for (int mood = 0; mood < 3; mood++) {
            due(x.answer(1, 0, 0, mood, 4), mood == 2 ? 0 : 1);
            due(x.answer(1, 0, 1, mood, 4), 0);
        }
        fault("saying 0 0 1 0 0 4 give;", 17, 2);
        fault("edition 0 when 0 0 4 refuse;", 19, 2);
    }

    private static void answer() {
        Doc.says("answer: 'refuse' | 'give' NUMBER NUMBER NUMBER NUMBER;");
        fits("edition 0 when 0 0 0 give 6 6 6 6;");
        fault("edition 0 when 0 0 0 give;", 25, 1);
        fault("edition 0 when 0 0 0 give 0 0 0;", 31, 1);
        fault("edition 0 when 0 0 0 give 0 0 0 0 0;", 34, 1);
        for (int field = 0; field < 4; field++) {
            String[] given = {"6", "6", "6", "6"};
            given[field] = "7";
            fault("edition 0 when 0 0 0 give " + String.join(" ", given) + ";", 26 + 2 * field, 2);
        }
        fault("edition 0 when 0 0 0 refuse give 0 0 0 0;", 28, 1);
    }

    private static void then() {
        Doc.says("then: 'refuse' | 'give' { NUMBER NUMBER NUMBER NUMBER } (a FIELD, each once, a span of what it may be, 0 to 5, "
            + "and whether it may be left out, 0 or 1; FIELDS that are not told may be anything).");
        String head = "saying 0 0 1 0 0 0 give";
        CallLaws x = Check.told(head + ";" + head + " 3 5 5 1 2 0 0 0 1 0 5 0 0 2 3 1;");
        due(x.saying(0, 7), 0);
        due(x.saying(1, 7), 15);
        x.sheet(0, 2, 4);
        x.set(0, 0, 0);
        x.set(0, 1, 2400);
        x.set(0, 2, 2401);
        x.set(0, 3, 2 + 7 * 5 + 343 * 6);
        Doc.due("anything", x.allows(0, 0, 0, 2), 2);
        Doc.due("but REFUSED", x.allows(0, 0, 2, 1), 0);
        due(x.allows(1, 0, 0, 3), 0);
        due(x.allows(1, 0, 3, 1), 1);
        fault(head + " 4 0 0 0;", 24, 2);
        fault(head + " 3 6 6 0;", 26, 2);
        fault(head + " 3 5 6 0;", 28, 2);
        fault(head + " 3 5 4 0;", 28, 2);
        fault(head + " 3 5 5 2;", 30, 2);
        fault(head + " 3 5 5 1 3 5 5 1;", 32, 2);
        fault(head + " 3 5 5 1 2 5 5 1 1 5 5 1 0 5 5 1 0 5 5 1;", 56, 2);
        fault(head + " 3;", 25, 1);
        fault(head + " 3 5;", 27, 1);
        fault(head + " 3 5 5;", 29, 1);
        fault(head + " 3 5 5 1 2;", 33, 1);
        fault("saying 0 0 1 0 0 0 refuse 3 5 5 1;", 26, 1);
    }

    private static void rules() {
        Doc.says("An EDITION (of a SERVICE) has up to 6 rules 'when'; it ANSWERS an ASK in a MOOD by the first rule that has both, "
            + "REFUSED by none.");
        StringBuilder six = new StringBuilder("edition 0");
        for (int i = 0; i < 6; i++) {
            six.append(" when 0 ").append(i).append(" 1 give ").append(i).append(" 0 0 0");
        }
        CallLaws x = Check.told(six + ";edition 0;edition 0 when 0 7 3 refuse when 0 7 3 give 0 0 0 0;");
        for (int ask = 0; ask < 6; ask++) {
            due(x.answer(0, 0, ask, 1, 0), ask);
            Doc.due("the ASK alone", x.answer(0, 0, ask, 0, 4), 1);
        }
        Doc.due("the MOOD alone", x.answer(0, 0, 6, 1, 4), 1);
        Doc.due("no rules", x.answer(0, 1, 0, 0, 4), 1);
        Doc.due("the first, though it refuses", x.answer(0, 2, 7, 2, 4), 1);
        fault(six + " when 0 0 0 refuse;", six.length() + 1, 3);
        Doc.due("each EDITION has six", Check.laws(new CallLaws(), six + ";" + six + ";"), 0);
    }

    private static void sayings() {
        Doc.says("SAYINGS 0 .. 19 (20 at most).");
        CallLaws x = new CallLaws();
        due(x.saying(0, 0), BAD);
        due(Check.laws(x, GIVE.repeat(19)), 19);
        due(x.saying(18, 2), 1);
        due(x.saying(19, 2), BAD);
        due(Check.laws(x, "saying 3 3 2 7 7 3 refuse;"), 20);
        due(x.saying(19, 2), 2);
        due(x.kind(19), 2);
        Doc.due("of the last", x.standIn(3, 3, 2, 7, 2, -1), 1);
        due(x.saying(20, 2), BAD);
        due(Check.laws(x, GIVE), -1000100);
        due(x.count(2), 20);
        due(Check.laws(x, "edition 3;try 0 0 0;within 0 0;"), 20);
    }

    private static void tries() {
        Doc.says("TRIES: of a caller, its EDITION, the FIELDS that it looks at (a set, 0 to 15): of all TRIES of one EDITION together.");
        String all = " 2 0 0 0 give 0 0 0 0 1 0 0 0 2 0 0 0 3 0 0 0;";
        CallLaws x = Check.told("saying 0 0" + all + "saying 0 3" + all + "saying 3 0" + all + "saying 3 3" + all);
        Check.laws(x, "try 0 0 0;try 3 3 15;try 0 3 1;try 0 3 8;");
        int[] want = {15, 6, 15, 0};
        for (int i = 0; i < 4; i++) {
            due(x.right(i), want[i]);
        }
        Check.laws(x, "try 0 3 2;try 3 3 0;");
        due(x.right(1), 4);
        Doc.due("a later one takes nothing away", x.right(3), 0);
        fault("try 0 0 16;", 8, 2);
        fault("try 4 0 15;", 4, 2);
        fault("try 0 4 15;", 6, 2);
    }

    private static void within() {
        Doc.says("WITHIN: a SERVICE needs so many hours (0 to 99) of its own, and it calls up to 3 SERVICES (not itself, none twice); "
            + "what is told last holds.");
        CallLaws x = Check.told("within 0 99 1 2 3;within 1 0;within 2 99;within 3 1;");
        due(x.hours(0), 199);
        due(x.hours(1), 0);
        due(x.count(4), 4);
        Check.laws(x, "within 0 1 1;within 0 0 2;");
        Doc.due("the last of one text", x.hours(0), 99);
        Check.laws(x, "within 0 7;");
        Doc.due("it calls none any more", x.hours(0), 7);
        due(x.count(4), 4);
        fault("within 0 1 0;", 11, 2);
        fault("within 0 1 3 3;", 13, 2);
        fault("within 0 1 1 2 3 1;", 17, 2);
        fault("within 0 1 1 2 3 0;", 17, 2);
        fault("within 0 1 4;", 11, 2);
        fault("within 4 1;", 7, 2);
    }

    private static void whenAllIsRead() {
        Doc.says("They come, or hold, when all is read.");
        CallLaws x = Check.told("edition 1;saying 0 0 1 0 0 0 give 0 0 0 0;within 0 3;");
        String much = "edition 1;" + GIVE.repeat(9) + "try 0 0 15;within 0 9 1;within 1 1;";
        fault(x, much + "edition 0", much.length() + 9, 1);
        due(x.count(1), 1);
        due(x.count(2), 1);
        due(x.count(4), 1);
        due(x.right(0), 1);
        due(x.hours(0), 3);
        due(x.hours(1), NONE);
        due(x.saying(1, 0), BAD);
        due(x.answer(1, 1, 0, 0, 4), BAD);
        due(Check.laws(x, much), 10);
        due(x.editions(1), 2);
        due(x.right(0), 0);
        due(x.hours(0), 10);
        Doc.due("what did not come takes no room", roomAfterFaults(), 20);
    }

    private static int roomAfterFaults() {
        CallLaws x = new CallLaws();
        Check.laws(x, GIVE.repeat(20) + "x");
        Check.laws(x, "edition 0;".repeat(4) + "x");
        Check.laws(x, "edition 0;".repeat(4));
        return x.editions(0) == 4 ? Check.laws(x, GIVE.repeat(20)) : 0;
    }

    private static void firstToken() {
        Doc.says("FAULTS, the first TOKEN that has one (its first byte), of one TOKEN the least:");
        fault("edition 4 when 9 9 9 x", 8, 2);
        fault("edition 0 x edition 4;", 10, 1);
        fault("  \n edition 0;  editionx 4;", 16, 1);
        fault("try 0 0 16 x", 8, 2);
        fault("saying 0 0 0 9 9 9 give 9", 11, 2);
        fault("edition 0;".repeat(4) + "edition 0 x", 48, 3);
        CallLaws x = Check.told(GIVE.repeat(20));
        Doc.due("20", x.count(2), 20);
        fault(x, "saying x", 0, 3);
        fault(x, "edition 9;saying", 8, 2);
        fault(x, "edition 0 saying 0 0 1 0 0 0 give;", 10, 1);
        fault(x, "try saying", 4, 1);
        fault(x, "x saying", 0, 1);
        fault("edition 1;".repeat(4) + "edition 4;", 48, 2);
        fault("edition 1;".repeat(4) + "edition ;", 48, 1);
        fault("edition 1;".repeat(4) + "edition 001;", 48, 1);
    }

    private static void cannotStand() {
        Doc.says("1 it cannot stand there, or is none (the end: how many bytes there are);");
        fault("edition", 7, 1);
        fault("edition ", 8, 1);
        fault("edition 0", 9, 1);
        fault("edition 0\n\n\n", 12, 1);
        fault("edition 0" + " ".repeat(491), 500, 1);
        fault(" ".repeat(493) + "edition", 500, 1);
        fault(" ".repeat(499) + ";", 499, 1);
        fault("z".repeat(500), 0, 1);
        fault("0".repeat(500), 0, 1);
        fault(";".repeat(500), 0, 1);
        fault("edition 0;" + (char) 255, 10, 1);
        fault("edition 0" + (char) 0, 9, 1);
        for (String text : LEAST) {
            odd(text);
        }
        for (String text : MOST) {
            odd(text);
        }
    }

    /** Each NUMBER of a text that has the greatest ones, one greater, and as great as a NUMBER can be. */
    private static void tooGreat(String text) {
        for (int place : places(text)) {
            char first = text.charAt(place);
            if (first < '0' || first > '9' || text.startsWith("99", place)) {
                continue;
            }
            int most = text.startsWith("15", place) ? 15 : first - '0';
            fault(without(text, place, "99"), place, 2);
            if (!text.startsWith("within") || place == 7) {
                fault(without(text, place, String.valueOf(most + 1)), place, 2);
            }
        }
    }

    private static void notAsTold() {
        Doc.says("2 a NUMBER that is not as told (a span that ends ahead of its beginning: its end; a giver that is the caller; "
            + "a FIELD told twice, or a SERVICE);");
        tooGreat("edition 3 when 7 7 3 give 6 6 6 6 when 7 7 3 refuse ;");
        tooGreat("saying 3 3 2 7 7 3 give 3 5 5 1 ;");
        tooGreat("try 3 3 15 ;");
        tooGreat("within 3 99 2 1 0 ;");
        for (int to = 0; to < 7; to++) {
            fault("edition 0 when 7 " + to + " 0 refuse;", 17, 2);
            fault("saying 0 0 1 7 " + to + " 0 refuse;", 15, 2);
        }
        for (int to = 0; to < 5; to++) {
            fault("saying 0 0 1 0 0 0 give 0 5 " + to + " 0;", 28, 2);
        }
        for (int service = 0; service < 4; service++) {
            fault("saying " + service + " 0 " + service + " 0 0 0 refuse;", 11, 2);
            fault("within " + service + " 0 " + service + ";", 11, 2);
            fault("within " + (service + 1) % 4 + " 0 " + service + " " + service + ";", 13, 2);
            fault("saying 0 0 1 0 0 0 give " + service + " 0 5 1 " + service + " 0 5 1;", 32, 2);
        }
        fits("within 0 1 1 2;within 1 1 0 2;within 0 1 1 2;");
        fits("saying 0 0 1 0 0 0 give 1 0 5 1;saying 0 0 1 0 0 0 give 1 0 5 1;");
    }

    private static void noRoom() {
        Doc.says("3 an EDITION more than there is room for (the NUMBER of its SERVICE), a SAYING (its word), the 7th rule (its word).");
        for (int service = 0; service < 4; service++) {
            String one = "edition " + service + " ;";
            fault(one.repeat(5), 44 + 8, 3);
            fits(one.repeat(4));
        }
        CallLaws x = Check.told("edition 2;".repeat(3));
        fault(x, "edition 2;edition 2 when 0", 18, 3);
        due(x.editions(2), 3);
        CallLaws y = Check.told(GIVE.repeat(19));
        fault(y, GIVE + "\nsaying 9", 25, 3);
        due(y.count(2), 19);
        due(Check.laws(y, GIVE), 20);
        fault(y, " saying", 1, 3);
        fault("edition 3" + RULE.repeat(7) + ";", 9 + 6 * RULE.length() + 1, 3);
        fault("edition 3" + RULE.repeat(6) + " when", 9 + 6 * RULE.length() + 1, 3);
        fits("edition 3" + RULE.repeat(6) + ";");
    }
}
