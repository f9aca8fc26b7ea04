import java.util.ArrayDeque;
import java.util.ArrayList;
import java.util.Arrays;
import java.util.Deque;
import java.util.HashMap;
import java.util.List;
import java.util.Map;

/**
 * The document's terms written down a second time, by other means: rules are kept and looked through,
 * ANSWERS are tried one by one, quarrels are looked for among all sets, ways are walked forwards.
 */
final class Model {
    static final int NONE = -1000000, BAD = -1000001, STATE = -1000002, FULL = -1000003;
    private static final int REFUSED = 2401;

    private record Rule(int from, int to, int mood, int answer) {
    }

    private static final class Saying {
        int caller, edition, giver, from, to, mood;
        boolean refuse;
        final Map<Integer, int[]> fields = new HashMap<>();

        boolean about(int ask, int m) {
            return ask >= from && ask <= to && (mood == 3 || mood == m);
        }

        /** -1: allowed; else the first field that is not. */
        int wrong(int answer) {
            if (refuse != (answer == REFUSED)) {
                return 4;
            }
            for (int f = 0; f < 4 && !refuse; f++) {
                int v = Model.field(answer, f);
                int[] told = fields.get(f);
                boolean fine = told == null || (v == 6 ? told[2] == 1 : v >= told[0] && v <= told[1]);
                if (!fine) {
                    return f;
                }
            }
            return -1;
        }

        boolean allows(int answer) {
            return wrong(answer) < 0;
        }
    }

    private static final class Fault extends Exception {
        private static final long serialVersionUID = 1L;
        final int place, number;

        Fault(int place, int number) {
            this.place = place;
            this.number = number;
        }
    }

    /** What texts tell. */
    private static final class Book {
        final List<List<List<Rule>>> editions = new ArrayList<>();
        final List<Saying> sayings = new ArrayList<>();
        final int[][] looks = new int[4][4];
        final int[] hours = {-1, -1, -1, -1};
        final List<List<Integer>> calls = new ArrayList<>();
        /** Looked for once; -1: not yet. */
        final int[] quarrels = {-1, -1, -1, -1};

        Book() {
            for (int i = 0; i < 4; i++) {
                editions.add(new ArrayList<>());
                calls.add(List.of());
            }
        }

        Book twin() {
            Book b = new Book();
            for (int i = 0; i < 4; i++) {
                b.editions.get(i).addAll(editions.get(i));
                b.looks[i] = looks[i].clone();
                b.hours[i] = hours[i];
                b.calls.set(i, calls.get(i));
            }
            b.sayings.addAll(sayings);
            return b;
        }
    }

    private Book book = new Book();
    private final StringBuilder tape = new StringBuilder();
    private final int[][] sheets = new int[8][];
    private final int[] lanes = new int[8];
    private final List<Integer> traced = new ArrayList<>();
    private int status, fault;

    static int field(int answer, int f) {
        return answer / (int) Math.pow(7, f) % 7;
    }

    // ---- sheets

    private int found(int n) {
        status = n;
        return -1000010 - n;
    }

    private int well(int v) {
        status = 0;
        return v;
    }

    int sheet(int s, int lane, int n) {
        if (s < 0 || s > 7 || lane < 0 || lane > 2 || n > 40) {
            return BAD;
        }
        if (n < 0) {
            return found(4);
        }
        sheets[s] = new int[n];
        lanes[s] = lane;
        return well(n);
    }

    int set(int s, int i, int v) {
        if (s < 0 || s > 7) {
            return BAD;
        }
        if (sheets[s] == null) {
            return found(1);
        }
        if (i < 0 || i >= sheets[s].length) {
            return found(2);
        }
        int shift = lanes[s] == 0 ? 24 : lanes[s] == 1 ? 16 : 0;
        sheets[s][i] = v << shift >> shift;
        return well(sheets[s][i]);
    }

    int copy(int a, int i, int b, int j, int n) {
        if (a < 0 || a > 7 || b < 0 || b > 7) {
            return BAD;
        }
        if (sheets[a] == null || sheets[b] == null) {
            return found(1);
        }
        if (lanes[a] != lanes[b]) {
            return found(5);
        }
        if (i < 0 || j < 0 || n < 0 || (long) i + n > sheets[a].length || (long) j + n > sheets[b].length) {
            return found(2);
        }
        int[] ahead = Arrays.copyOfRange(sheets[a], i, i + n);
        for (int k = 0; k < n; k++) {
            sheets[b][j + k] = ahead[k];
        }
        return well(n);
    }

    int drop(int s) {
        if (s < 0 || s > 7) {
            return BAD;
        }
        if (sheets[s] == null) {
            return found(1);
        }
        int n = sheets[s].length;
        sheets[s] = null;
        return well(n);
    }

    // ---- laws

    int feed(long w, int n) {
        if (n < 1 || n > 8) {
            return BAD;
        }
        if (tape.length() + n > 500) {
            return FULL;
        }
        for (int i = n - 1; i >= 0; i--) {
            tape.append((char) (w >>> 8 * i & 255));
        }
        return tape.length();
    }

    int laws() {
        String text = tape.toString();
        tape.setLength(0);
        Book next = book.twin();
        try {
            new Parse(text, next).text();
        } catch (Fault f) {
            fault = f.number;
            return -1000100 - f.place;
        }
        book = next;
        return book.sayings.size();
    }

    private static final class Parse {
        final String text;
        final Book book;
        int start, end;
        String token;

        Parse(String text, Book book) {
            this.text = text;
            this.book = book;
            next();
        }

        /** "": the end; "?": none. */
        void next() {
            start = end;
            while (start < text.length() && " \n".indexOf(text.charAt(start)) >= 0) {
                start++;
            }
            end = start;
            while (end < text.length() && text.charAt(end) >= 'a' && text.charAt(end) <= 'z') {
                end++;
            }
            if (end == start) {
                while (end < text.length() && text.charAt(end) >= '0' && text.charAt(end) <= '9') {
                    end++;
                }
                token = end - start > 2 ? "?" : text.substring(start, end);
            } else {
                token = text.substring(start, end);
            }
            if (end == start && start < text.length()) {
                token = text.charAt(start) == ';' ? ";" : "?";
                end++;
            }
        }

        Fault fault(int number) {
            return new Fault(start, number);
        }

        boolean isNumber() {
            return token.matches("[0-9]+");
        }

        int peek(int... allowed) throws Fault {
            if (!isNumber()) {
                throw fault(1);
            }
            int v = Integer.parseInt(token);
            for (int a : allowed) {
                if (a == v) {
                    return v;
                }
            }
            throw fault(2);
        }

        int number(int... allowed) throws Fault {
            int v = peek(allowed);
            next();
            return v;
        }

        static int[] span(int from, int to) {
            int[] all = new int[to - from + 1];
            for (int i = 0; i < all.length; i++) {
                all[i] = from + i;
            }
            return all;
        }

        static int[] without(List<Integer> gone) {
            return Arrays.stream(span(0, 3)).filter(v -> !gone.contains(v)).toArray();
        }

        boolean takes(String word) {
            if (token.equals(word)) {
                next();
                return true;
            }
            return false;
        }

        void must(String word) throws Fault {
            if (!takes(word)) {
                throw fault(1);
            }
        }

        void text() throws Fault {
            while (!token.isEmpty()) {
                if (takes("edition")) {
                    edition();
                } else if (token.equals("saying")) {
                    if (book.sayings.size() == 20) {
                        throw fault(3);
                    }
                    next();
                    saying();
                } else if (takes("try")) {
                    int c = number(span(0, 3));
                    int e = number(span(0, 3));
                    book.looks[c][e] |= number(span(0, 15));
                } else if (takes("within")) {
                    within();
                } else {
                    throw fault(1);
                }
                must(";");
            }
        }

        void edition() throws Fault {
            int s = peek(span(0, 3));
            if (book.editions.get(s).size() == 4) {
                throw fault(3);
            }
            next();
            List<Rule> rules = new ArrayList<>();
            while (token.equals("when")) {
                if (rules.size() == 6) {
                    throw fault(3);
                }
                next();
                int from = number(span(0, 7));
                int to = number(span(from, 7));
                int mood = number(span(0, 3));
                int answer = REFUSED;
                if (!takes("refuse")) {
                    must("give");
                    answer = 0;
                    for (int weight : new int[] {1, 7, 49, 343}) {
                        answer += weight * number(span(0, 6));
                    }
                }
                rules.add(new Rule(from, to, mood, answer));
            }
            book.editions.get(s).add(rules);
        }

        void saying() throws Fault {
            Saying s = new Saying();
            s.caller = number(span(0, 3));
            s.edition = number(span(0, 3));
            s.giver = number(without(List.of(s.caller)));
            s.from = number(span(0, 7));
            s.to = number(span(s.from, 7));
            s.mood = number(span(0, 3));
            s.refuse = takes("refuse");
            if (!s.refuse) {
                must("give");
                while (isNumber()) {
                    int f = number(without(new ArrayList<>(s.fields.keySet())));
                    int from = number(span(0, 5));
                    int to = number(span(from, 5));
                    s.fields.put(f, new int[] {from, to, number(0, 1)});
                }
            }
            book.sayings.add(s);
        }

        void within() throws Fault {
            int s = number(span(0, 3));
            book.hours[s] = number(span(0, 99));
            List<Integer> seen = new ArrayList<>(List.of(s));
            while (isNumber()) {
                seen.add(number(without(seen)));
            }
            book.calls.set(s, seen.subList(1, seen.size()));
        }
    }

    int fault() {
        return fault;
    }

    int editions(int s) {
        return s < 0 || s > 3 ? BAD : book.editions.get(s).size();
    }

    private boolean noEdition(int s, int e) {
        return s < 0 || s > 3 || e < 0 || e >= book.editions.get(s).size();
    }

    private int answers(int s, int e, int ask, int mood) {
        for (Rule r : book.editions.get(s).get(e)) {
            if (ask >= r.from && ask <= r.to && (r.mood == 3 || r.mood == mood)) {
                return r.answer;
            }
        }
        return REFUSED;
    }

    int answer(int s, int e, int ask, int mood, int what) {
        if (noEdition(s, e) || ask < 0 || ask > 7 || mood < 0 || mood > 2 || what < 0 || what > 4) {
            return BAD;
        }
        int a = answers(s, e, ask, mood);
        return what == 4 ? (a == REFUSED ? 1 : 0) : a == REFUSED ? NONE : field(a, what);
    }

    private boolean noSaying(int n) {
        return n < 0 || n >= book.sayings.size();
    }

    int saying(int n, int what) {
        if (noSaying(n) || what < 0 || what > 7) {
            return BAD;
        }
        Saying s = book.sayings.get(n);
        int bits = 0;
        for (int f : s.fields.keySet()) {
            bits += 1 << f;
        }
        return new int[] {s.caller, s.edition, s.giver, s.from, s.to, s.mood, s.refuse ? 1 : 0, bits}[what];
    }

    // ---- plays

    private int breaks(int n, int e) {
        Saying s = book.sayings.get(n);
        for (int ask = 0; ask < 8; ask++) {
            for (int mood = 0; mood < 3; mood++) {
                if (s.about(ask, mood)) {
                    int wrong = s.wrong(answers(s.giver, e, ask, mood));
                    if (wrong >= 0) {
                        return 64 * ask + 8 * mood + wrong;
                    }
                }
            }
        }
        return NONE;
    }

    int play(int n, int e, int what) {
        if (noSaying(n) || noEdition(book.sayings.get(n).giver, e) || what < 0 || what > 1) {
            return BAD;
        }
        int b = breaks(n, e);
        return what == 1 ? b : b == NONE ? 1 : 0;
    }

    int standIn(int c, int e, int g, int ask, int mood, int i) {
        if (c < 0 || c > 3 || e < 0 || e > 3 || g < 0 || g > 3 || c == g || ask < 0 || ask > 7 || mood < 0 || mood > 2 || i < -1) {
            return BAD;
        }
        List<Integer> all = new ArrayList<>();
        for (int a = 0; a <= REFUSED; a++) {
            boolean fine = true;
            for (Saying s : book.sayings) {
                fine &= s.caller != c || s.edition != e || s.giver != g || !s.about(ask, mood) || s.allows(a);
            }
            if (fine) {
                all.add(a);
            }
        }
        return i == -1 ? all.size() : i < all.size() ? all.get(i) : NONE;
    }

    int allows(int n, int sheet, int i, int many) {
        if (noSaying(n) || sheet < 0 || sheet > 7 || many < 1 || many > 20) {
            return BAD;
        }
        if (sheets[sheet] == null) {
            return found(1);
        }
        if (i < 0 || (long) i + many > sheets[sheet].length) {
            return found(2);
        }
        int sum = 0;
        for (int k = i; k < i + many; k++) {
            int a = sheets[sheet][k];
            if (a < 0 || a > REFUSED) {
                return BAD;
            }
            sum += book.sayings.get(n).allows(a) ? 1 : 0;
        }
        return well(sum);
    }

    int noMore(int n, int other) {
        if (noSaying(n) || noSaying(other)) {
            return BAD;
        }
        Saying s = book.sayings.get(n);
        Saying t = book.sayings.get(other);
        if (s.giver != t.giver) {
            return STATE;
        }
        boolean so = true;
        for (int c = 0; c < 24; c++) {
            so &= !s.about(c / 3, c % 3) || t.about(c / 3, c % 3);
        }
        for (int a = 0; a <= REFUSED; a++) {
            so &= !t.allows(a) || s.allows(a);
        }
        return so ? 1 : 0;
    }

    int quarrel(int g) {
        if (g < 0 || g > 3) {
            return BAD;
        }
        if (book.quarrels[g] < 0) {
            book.quarrels[g] = findQuarrel(g);
        }
        return book.quarrels[g];
    }

    /** Sets of one size by rising numbers, sizes from one on: the first that quarrels is the one. */
    private int findQuarrel(int g) {
        List<Integer> mine = new ArrayList<>();
        for (int i = 0; i < book.sayings.size(); i++) {
            if (book.sayings.get(i).giver == g) {
                mine.add(i);
            }
        }
        if (!canQuarrel(mine)) {
            return 0;
        }
        for (int size = 1; size <= mine.size(); size++) {
            for (int set = 1; set < 1 << mine.size(); set++) {
                if (Integer.bitCount(set) == size && quarrels(some(mine, set))) {
                    return bits(mine, set);
                }
            }
        }
        return 0;
    }

    /** If some set quarrels about a case, then all that are about it do. */
    private boolean canQuarrel(List<Integer> mine) {
        for (int c = 0; c < 24; c++) {
            List<Saying> all = new ArrayList<>();
            for (int i : mine) {
                if (book.sayings.get(i).about(c / 3, c % 3)) {
                    all.add(book.sayings.get(i));
                }
            }
            if (!all.isEmpty() && quarrels(all)) {
                return true;
            }
        }
        return false;
    }

    private List<Saying> some(List<Integer> mine, int set) {
        List<Saying> some = new ArrayList<>();
        for (int k = 0; k < mine.size(); k++) {
            if ((set >> k & 1) != 0) {
                some.add(book.sayings.get(mine.get(k)));
            }
        }
        return some;
    }

    private static int bits(List<Integer> mine, int set) {
        int bits = 0;
        for (int k = 0; k < mine.size(); k++) {
            bits |= (set >> k & 1) << mine.get(k);
        }
        return bits;
    }

    private static boolean quarrels(List<Saying> some) {
        boolean together = false;
        for (int c = 0; c < 24; c++) {
            boolean all = true;
            for (Saying s : some) {
                all &= s.about(c / 3, c % 3);
            }
            together |= all;
        }
        for (int a = 0; a <= REFUSED && together; a++) {
            boolean all = true;
            for (Saying s : some) {
                all = all && s.allows(a);
            }
            if (all) {
                return false;
            }
        }
        return together;
    }

    int change(int g, int from, int to) {
        if (noEdition(g, from) || noEdition(g, to)) {
            return BAD;
        }
        int bits = 0;
        for (int i = 0; i < book.sayings.size(); i++) {
            if (book.sayings.get(i).giver == g && breaks(i, from) == NONE && breaks(i, to) != NONE) {
                bits |= 1 << i;
            }
        }
        return bits;
    }

    int right(int n) {
        if (noSaying(n)) {
            return BAD;
        }
        int bits = 0;
        Saying s = book.sayings.get(n);
        for (int f : s.fields.keySet()) {
            if ((book.looks[s.caller][s.edition] >> f & 1) == 0) {
                bits |= 1 << f;
            }
        }
        return bits;
    }

    // ---- houses, hours

    private static int[] digits(int house) {
        return new int[] {house % 5, house / 5 % 5, house / 25 % 5, house / 125};
    }

    private boolean noHouse(int house) {
        if (house < 0 || house > 624) {
            return true;
        }
        for (int s = 0; s < 4; s++) {
            if (digits(house)[s] > book.editions.get(s).size()) {
                return true;
            }
        }
        return false;
    }

    private int brokenIn(int house) {
        int[] d = digits(house);
        for (int i = 0; i < book.sayings.size(); i++) {
            Saying s = book.sayings.get(i);
            if (d[s.caller] == s.edition + 1 && d[s.giver] > 0 && breaks(i, d[s.giver] - 1) != NONE) {
                return i;
            }
        }
        return NONE;
    }

    int house(int house, int what) {
        if (noHouse(house) || what < 0 || what > 1) {
            return BAD;
        }
        int b = brokenIn(house);
        return what == 1 ? b : b == NONE ? 1 : 0;
    }

    private static boolean oneStep(int a, int b) {
        int differ = (a % 5 != b % 5 ? 1 : 0) + (a / 5 % 5 != b / 5 % 5 ? 1 : 0) + (a / 25 % 5 != b / 25 % 5 ? 1 : 0)
            + (a / 125 != b / 125 ? 1 : 0);
        return differ == 1;
    }

    private int fewest(int from, int to, boolean[] green) {
        if (!green[from] || !green[to]) {
            return NONE;
        }
        int[] far = new int[625];
        Arrays.fill(far, NONE);
        far[from] = 0;
        Deque<Integer> queue = new ArrayDeque<>(List.of(from));
        while (!queue.isEmpty()) {
            int at = queue.poll();
            for (int next = 0; next < 625; next++) {
                if (green[next] && far[next] == NONE && oneStep(at, next)) {
                    far[next] = far[at] + 1;
                    queue.add(next);
                }
            }
        }
        return far[to];
    }

    int letOut(int from, int to, int what) {
        if (noHouse(from) || noHouse(to) || what < 0 || what > 1) {
            return BAD;
        }
        boolean[] green = new boolean[625];
        for (int h = 0; h < 625; h++) {
            green[h] = !noHouse(h) && brokenIn(h) == NONE;
        }
        int all = fewest(from, to, green);
        if (what == 0 || all == NONE) {
            return all;
        }
        for (int next = 0; next < 625; next++) {
            if (oneStep(from, next) && fewest(next, to, green) == all - 1) {
                return next;
            }
        }
        return NONE;
    }

    private boolean comesTo(int s, int goal, List<Integer> seen) {
        for (int c : book.calls.get(s)) {
            if (c == goal) {
                return true;
            }
            if (!seen.contains(c)) {
                seen.add(c);
                if (comesTo(c, goal, seen)) {
                    return true;
                }
            }
        }
        return false;
    }

    int hours(int s) {
        if (s < 0 || s > 3) {
            return BAD;
        }
        if (book.hours[s] < 0 || comesTo(s, s, new ArrayList<>())) {
            return NONE;
        }
        int sum = book.hours[s];
        for (int c : book.calls.get(s)) {
            int h = hours(c);
            if (h == NONE) {
                return NONE;
            }
            sum += h;
        }
        return sum;
    }

    // ---- asked

    /** The KINDS as classes, so that the language itself finds the BODIES. */
    private static class Asked {
        final Saying s;
        final int n;
        final List<Integer> traced;

        Asked(Saying s, int n, List<Integer> traced) {
            this.s = s;
            this.n = n;
            this.traced = traced;
        }

        int size() {
            traced.add(10);
            return (s.to - s.from + 1) * (s.mood == 3 ? 3 : 1);
        }

        int mark() {
            traced.add(20);
            return n;
        }
    }

    private static class Given extends Asked {
        Given(Saying s, int n, List<Integer> traced) {
            super(s, n, traced);
        }

        @Override
        int size() {
            traced.add(11);
            return super.size() + s.fields.size();
        }

        @Override
        int mark() {
            traced.add(21);
            return super.mark() + 100;
        }
    }

    private static final class Before extends Given {
        Before(Saying s, int n, List<Integer> traced) {
            super(s, n, traced);
        }

        @Override
        int size() {
            traced.add(12);
            return super.size() * 2;
        }
    }

    private static final class Loose extends Given {
        Loose(Saying s, int n, List<Integer> traced) {
            super(s, n, traced);
        }

        @Override
        int mark() {
            traced.add(22);
            return super.mark() + size();
        }
    }

    private static final class Refuses extends Asked {
        Refuses(Saying s, int n, List<Integer> traced) {
            super(s, n, traced);
        }

        @Override
        int size() {
            traced.add(13);
            return super.size() - mark();
        }
    }

    private static final class Quarrel extends Asked {
        Quarrel(Saying s, int n, List<Integer> traced) {
            super(s, n, traced);
        }

        @Override
        int size() {
            traced.add(14);
            return -super.size();
        }

        @Override
        int mark() {
            traced.add(23);
            return super.mark() + 1000;
        }
    }

    private static final List<Class<? extends Asked>> KINDS = List.of(Asked.class, Given.class, Refuses.class,
        Before.class, Loose.class, Quarrel.class);

    private Asked asked(int n) {
        Saying s = book.sayings.get(n);
        if ((quarrel(s.giver) >> n & 1) != 0) {
            return new Quarrel(s, n, traced);
        }
        if (s.refuse) {
            return new Refuses(s, n, traced);
        }
        if (s.mood == 3 && s.fields.isEmpty()) {
            return new Loose(s, n, traced);
        }
        return s.mood == 3 ? new Given(s, n, traced) : new Before(s, n, traced);
    }

    int kind(int n) {
        return noSaying(n) ? BAD : KINDS.indexOf(asked(n).getClass());
    }

    int as(int n, int kind) {
        if (noSaying(n) || kind < 0 || kind > 5) {
            return BAD;
        }
        return KINDS.get(kind).isInstance(asked(n)) ? well(n) : found(3);
    }

    int ask(int n, int what) {
        if (noSaying(n) || what < 0 || what > 1) {
            return BAD;
        }
        traced.clear();
        Asked a = asked(n);
        return what == 0 ? a.size() : a.mark();
    }

    int trace(int i) {
        return i < 0 || i >= Math.min(16, traced.size()) ? NONE : traced.get(i);
    }

    int count(int what) {
        int many = 0;
        for (int i = 0; what == 0 && i < 8; i++) {
            many += sheets[i] != null ? 1 : 0;
        }
        for (int s = 0; what == 1 && s < 4; s++) {
            many += editions(s);
        }
        for (int i = 0; what == 3 && i < book.sayings.size(); i++) {
            boolean kept = false;
            for (int e = 0; e < editions(book.sayings.get(i).giver); e++) {
                kept |= breaks(i, e) == NONE;
            }
            many += kept ? 1 : 0;
        }
        for (int s = 0; what == 4 && s < 4; s++) {
            many += book.hours[s] >= 0 ? 1 : 0;
        }
        return what < 0 || what > 5 ? BAD : what == 2 ? book.sayings.size() : what == 5 ? tape.length() : many;
    }

    int status() {
        return status;
    }
}
