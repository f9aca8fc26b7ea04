import java.util.Random;

/** Runs of drawn calls on the class and on the model, always the same ones; each answer must be alike. */
public final class ModelTest {
    private static final int RUNS = 400, CALLS = 400, WAYS_RUNS = 100, WAYS = 10;

    private final Random random;
    private final int run;
    /** How seldom a text is drawn wrong in one place, and how seldom a saying is 'refuse'. */
    private final int odds, refuseOdds;
    private final CallLaws x = new CallLaws();
    private final Model m = new Model();

    private ModelTest(int run) {
        this.run = run;
        this.random = new Random(run);
        this.odds = run % 4 == 0 ? 30 : 2000;
        this.refuseOdds = run % 3 == 0 ? 5 : 1000;
    }

    public static void main(String[] args) {
        for (int run = 0; run < RUNS; run++) {
            ModelTest test = new ModelTest(run);
            for (int i = 0; i < CALLS; i++) {
                test.call();
            }
        }
        int detours = 0;
        for (int run = 0; run < WAYS_RUNS; run++) {
            detours += new ModelTest(RUNS + run).ways();
        }
        Check.holds("some ways are longer than straight ones: " + detours, detours > 40);
        Check.end();
    }

    /** Mostly 0 to most, now and then beside it, seldom far off. */
    private int draw(int most) {
        int dice = random.nextInt(60);
        if (dice == 0) {
            return -1;
        }
        if (dice == 1) {
            return most + 1;
        }
        return dice == 2 && random.nextInt(4) == 0 ? random.nextInt() : random.nextInt(most + 1);
    }

    private void due(String call, int got, int want) {
        Check.due("run " + run + ": " + call, got, want);
    }

    private void call() {
        switch (random.nextInt(5)) {
            case 0: sheets(); break;
            case 1: laws(); break;
            case 2: plays(); break;
            case 3: houses(); break;
            default: asked();
        }
        due("status", x.status(), m.status());
    }

    private void sheets() {
        int a = draw(7) & (random.nextInt(3) > 0 ? 3 : -1);
        int b = draw(7) & (random.nextInt(3) > 0 ? 3 : -1);
        int i = draw(12);
        int n = draw(12);
        int lane = draw(2);
        int v = random.nextInt(3) == 0 ? random.nextInt() : draw(2401);
        switch (random.nextInt(5)) {
            case 0:
                n = draw(40);
                due("sheet(" + a + ", " + lane + ", " + n + ")", x.sheet(a, lane, n), m.sheet(a, lane, n));
                break;
            case 1:
            case 2: due("set(" + a + ", " + i + ", " + v + ")", x.set(a, i, v), m.set(a, i, v)); break;
            case 3:
                int j = draw(12);
                due("copy", x.copy(a, i, b, j, n), m.copy(a, i, b, j, n));
                break;
            default:
                if (random.nextInt(5) == 0) {
                    due("drop(" + a + ")", x.drop(a), m.drop(a));
                }
        }
    }

    // ---- texts

    private String number(int most) {
        if (random.nextInt(odds) == 0) {
            return " " + random.nextInt(random.nextInt(4) == 0 ? 120 : most + 3);
        }
        return " " + random.nextInt(most + 1);
    }

    private String span(int most) {
        int from = random.nextInt(most + 1);
        int to = from + random.nextInt(most + 1 - from);
        return random.nextInt(odds) == 0 ? number(most) + number(most) : " " + from + " " + to;
    }

    private String wideSpan() {
        return random.nextInt(2) == 0 ? " 0 7" : span(7);
    }

    private String mood() {
        return random.nextInt(2) == 0 ? " 3" : number(3);
    }

    private String item() {
        StringBuilder s = new StringBuilder();
        switch (random.nextInt(8)) {
            case 0:
            case 1:
                s.append("edition").append(number(3));
                for (int k = random.nextInt(random.nextInt(20) == 0 ? 8 : 4); k > 0; k--) {
                    s.append(" when").append(wideSpan()).append(mood()).append(random.nextInt(6) == 0 ? " refuse"
                        : " give" + value() + value() + value() + value());
                }
                break;
            case 2:
                s.append("try").append(number(3)).append(number(3)).append(number(15));
                break;
            case 3:
                int calling = random.nextInt(4);
                s.append("within ").append(calling).append(number(99));
                for (int other = 0; other < 4; other++) {
                    if (other != calling && random.nextInt(4) == 0 || random.nextInt(odds) == 0) {
                        s.append(" ").append(other);
                    }
                }
                break;
            default:
                int giver = random.nextInt(3) > 0 ? 1 : random.nextInt(4);
                int caller = random.nextInt(odds) == 0 ? giver : (giver + 1 + random.nextInt(3)) % 4;
                s.append("saying ").append(caller).append(number(random.nextInt(2) * 3)).append(" ").append(giver);
                s.append(wideSpan()).append(mood());
                s.append(random.nextInt(refuseOdds) == 0 ? " refuse" : " give" + fields());
        }
        return s.append(";").toString();
    }

    private String value() {
        return number(random.nextInt(3) == 0 ? 6 : 2);
    }

    private String fields() {
        StringBuilder s = new StringBuilder();
        for (int f = 3; f >= 0; f--) {
            if (random.nextInt(3) == 0 || random.nextInt(odds) == 0) {
                s.append(" ").append(f).append(span(5)).append(" ").append(random.nextInt(4) == 0 ? 0 : 1);
            }
        }
        return random.nextInt(odds) == 0 ? s + number(3) + span(5) + number(1) : s.toString();
    }

    private void laws() {
        if (random.nextInt(12) != 0 && m.count(2) > 3 && m.count(1) > 4) {
            return;
        }
        StringBuilder text = new StringBuilder();
        for (int k = random.nextInt(10); k >= 0; k--) {
            text.append(item());
        }
        if (random.nextInt(odds) < 3) {
            int at = random.nextInt(text.length());
            String odd = "; \n0az9Z" + (char) 200 + (char) 0;
            text.setCharAt(at, odd.charAt(random.nextInt(odd.length())));
        }
        if (random.nextInt(odds) == 0) {
            text.setLength(random.nextInt(text.length()));
        }
        feedBoth(text.toString());
        due("count(5)", x.count(5), m.count(5));
        due("laws() of '" + text + "'", x.laws(), m.laws());
        due("fault()", x.fault(), m.fault());
    }

    private void feedBoth(String text) {
        int at = 0;
        while (at < text.length()) {
            int n = Math.min(1 + random.nextInt(8), text.length() - at);
            long w = random.nextLong();
            for (int i = 0; i < n; i++) {
                w = w << 8 | text.charAt(at + i);
            }
            due("feed", x.feed(w, n), m.feed(w, n));
            at += n;
        }
        if (random.nextInt(20) == 0) {
            int n = random.nextInt(11) - 1;
            due("feed(32, " + n + ")", x.feed(0x2020202020202020L, n), m.feed(0x2020202020202020L, n));
        }
    }

    private int drawSaying() {
        return draw(Math.max(0, m.count(2) - 1));
    }

    private void plays() {
        int s = drawSaying();
        int t = drawSaying();
        int c = draw(3);
        int g = draw(3);
        int e = draw(3);
        int ask = draw(7);
        int mood = draw(2);
        int what = draw(1);
        int i = random.nextInt(3) == 0 ? -1 : draw(random.nextInt(2) == 0 ? 60 : 2401);
        int n = draw(4);
        switch (random.nextInt(9)) {
            case 0: due("editions(" + g + ")", x.editions(g), m.editions(g)); break;
            case 1:
                int field = draw(4);
                due("answer", x.answer(g, e, ask, mood, field), m.answer(g, e, ask, mood, field));
                break;
            case 2:
                int which = draw(7);
                due("saying(" + s + ", " + which + ")", x.saying(s, which), m.saying(s, which));
                break;
            case 3: due("play(" + s + ", " + e + ", " + what + ")", x.play(s, e, what), m.play(s, e, what)); break;
            case 4:
                if (s >= 0 && s < m.count(2) && random.nextInt(4) != 0) {
                    c = m.saying(s, 0);
                    e = m.saying(s, 1);
                    g = m.saying(s, 2);
                }
                due("standIn", x.standIn(c, e, g, ask, mood, i), m.standIn(c, e, g, ask, mood, i));
                break;
            case 5:
                int sheet = draw(3);
                due("allows", x.allows(s, sheet, i, n), m.allows(s, sheet, i, n));
                due("allows", x.allows(s, sheet, 0, n), m.allows(s, sheet, 0, n));
                break;
            case 6: due("noMore(" + s + ", " + t + ")", x.noMore(s, t), m.noMore(s, t)); break;
            case 7:
                int to = draw(3);
                due("change(" + g + ", " + e + ", " + to + ")", x.change(g, e, to), m.change(g, e, to));
                break;
            default: due("right(" + s + ")", x.right(s), m.right(s));
        }
    }

    private int drawHouse() {
        int house = 0;
        int[] weights = {1, 5, 25, 125};
        for (int service = 0; service < 4; service++) {
            house += weights[service] * random.nextInt(m.editions(service) + 1);
        }
        return random.nextInt(30) == 0 ? draw(624) : house;
    }

    private void houses() {
        int from = drawHouse();
        int to = drawHouse();
        int what = draw(1);
        int g = draw(3);
        switch (random.nextInt(5)) {
            case 0:
                if (random.nextInt(12) == 0) {
                    due("letOut(" + from + ", " + to + ", " + what + ")", x.letOut(from, to, what), m.letOut(from, to, what));
                }
                break;
            case 1: due("hours(" + g + ")", x.hours(g), m.hours(g)); break;
            case 2:
                due("quarrel(" + g + ")", x.quarrel(g), m.quarrel(g));
                break;
            default: due("house(" + from + ", " + what + ")", x.house(from, what), m.house(from, what));
        }
    }

    /** Many EDITIONS that SAYINGS tie to one another, so that few HOUSES are GREEN: how many ways make a detour. */
    private int ways() {
        int most = 2 + random.nextInt(3);
        for (int service = 0; service < 4; service++) {
            for (int edition = 0; edition < most; edition++) {
                tell("edition " + service + " when 0 7 3 give" + number(2) + number(2) + number(2) + " 0;");
            }
        }
        for (int k = 4 + random.nextInt(17); k > 0 && m.count(2) < 20; k--) {
            int caller = random.nextInt(4);
            int from = random.nextInt(2);
            tell("saying " + caller + " " + random.nextInt(most) + " " + (caller + 1 + random.nextInt(3)) % 4 + " 0 7 3 give "
                + random.nextInt(3) + " " + from + " " + (from + random.nextInt(2)) + " 0;");
        }
        int detours = 0;
        for (int k = 0; k < WAYS; k++) {
            int from = drawGreen();
            int to = drawGreen();
            int fewest = m.letOut(from, to, 0);
            due("letOut(" + from + ", " + to + ", 0)", x.letOut(from, to, 0), fewest);
            due("letOut(" + from + ", " + to + ", 1)", x.letOut(from, to, 1), m.letOut(from, to, 1));
            detours += fewest > apart(from, to) ? 1 : 0;
        }
        return detours;
    }

    private void tell(String text) {
        Check.feed(x, text);
        for (int i = 0; i < text.length(); i++) {
            m.feed(text.charAt(i), 1);
        }
        due("laws() of '" + text + "'", x.laws(), m.laws());
    }

    /** Full ones first: an empty place is never in the way. */
    private int drawGreen() {
        int house = 0;
        for (int tries = 0; tries < 60; tries++) {
            house = 0;
            for (int service = 0; service < 4; service++) {
                house = 5 * house + (tries < 50 ? 1 : 0) + random.nextInt(m.editions(3 - service) + (tries < 50 ? 0 : 1));
            }
            if (m.house(house, 0) == 1) {
                return house;
            }
        }
        return house;
    }

    private static int apart(int a, int b) {
        int many = 0;
        for (int weight = 1; weight <= 125; weight *= 5) {
            many += a / weight % 5 != b / weight % 5 ? 1 : 0;
        }
        return many;
    }

    private void asked() {
        int s = drawSaying();
        int what = draw(1);
        int kind = draw(5);
        int i = draw(5);
        int which = draw(5);
        switch (random.nextInt(5)) {
            case 0: due("kind(" + s + ")", x.kind(s), m.kind(s)); break;
            case 1: due("as(" + s + ", " + kind + ")", x.as(s, kind), m.as(s, kind)); break;
            case 2: due("ask(" + s + ", " + what + ")", x.ask(s, what), m.ask(s, what)); break;
            case 3: due("trace(" + i + ")", x.trace(i), m.trace(i)); break;
            default: due("count(" + which + ")", x.count(which), m.count(which));
        }
    }
}
