import java.util.ArrayList;
import java.util.Arrays;
import java.util.Comparator;
import java.util.List;

/**
 * The document once more, in the plainest way and with all of Java's library: every NIGHT is made and looked at, a law is
 * a tree of functions, what is BROKEN or a FAULT is thrown. It shares nothing with the class, so that a slip in one of
 * the two is seen where they differ. It is slow: keep casts small.
 */
final class Model {
    static final int NONE = -1;

    static final class Broken extends RuntimeException {
    }

    static final class Fault extends RuntimeException {
        final int place;

        Fault(int place) {
            this.place = place;
        }
    }

    record Actor(int height, int coat, int voice, int frail) {
        Actor with(int what, int value) {
            return new Actor(what == 0 ? value : height, what == 1 ? value : coat, what == 2 ? value : voice,
                what == 3 ? value : frail);
        }

        int get(int what) {
            return what == 0 ? height : what == 1 ? coat : what == 2 ? voice : frail;
        }
    }

    record Part(int coat, int song, int scenes) {
        Part with(int what, int value) {
            return new Part(what == 0 ? value : coat, what == 1 ? value : song, what == 2 ? value : scenes);
        }

        int get(int what) {
            return what == 0 ? coat : what == 1 ? song : scenes;
        }
    }

    record Lesson(int actor, int part, int how, int hours) {
    }

    interface Sum {
        long of(Asked asked);
    }

    interface Test {
        boolean of(Asked asked);
    }

    record Clause(String head, Sum sum, Test test) {
    }

    record Asked(int actor, int part, int known, int usual, int week, Actor player, Part role) {
    }

    static final class Kept {
        List<Actor> actors = new ArrayList<>();
        List<Part> parts = new ArrayList<>();
        List<Integer> usually = new ArrayList<>();
        int[][] known = new int[8][8];
        int ill;
        int[] terms = {1, 0, 0};
        List<List<Clause>> laws = new ArrayList<>();
        int force = NONE;
        List<Lesson> lessons = new ArrayList<>();
        List<Integer> told = new ArrayList<>();

        Kept copy() {
            Kept k = new Kept();
            k.actors.addAll(actors);
            k.parts.addAll(parts);
            k.usually.addAll(usually);
            k.known = copyOf(known);
            k.ill = ill;
            k.terms = terms.clone();
            k.laws.addAll(laws);
            k.force = force;
            k.lessons.addAll(lessons);
            k.told.addAll(told);
            return k;
        }
    }

    static int[][] copyOf(int[][] cells) {
        int[][] copy = new int[cells.length][];
        for (int i = 0; i < cells.length; i++) {
            copy[i] = cells[i].clone();
        }
        return copy;
    }

    Kept now = new Kept();
    final Kept[] images = new Kept[2];
    String tape = "";
    int fault = NONE;
    int forgot = 0;
    int[] refused = new int[7];
    int status = 0;
    List<int[]> seasonRows = new ArrayList<>();
    int[][] seasonKnown = null;
    int seasonActors;
    int seasonParts;

    private int refuse(int by) {
        status = by;
        refused[-by]++;
        return by;
    }

    private int good(int answer) {
        status = 0;
        return answer;
    }

    private boolean hasActor(int a) {
        return 0 <= a && a < now.actors.size();
    }

    private boolean hasPart(int p) {
        return 0 <= p && p < now.parts.size();
    }

    private static boolean in(int x, int low, int high) {
        return low <= x && x <= high;
    }

    private static boolean actorFact(int what, int value) {
        return what == 0 ? in(value, 100, 220) : what == 1 || what == 2 ? in(value, 0, 9) : what == 3 && in(value, 0, 100);
    }

    private static boolean partFact(int what, int value) {
        return what == 0 || what == 1 ? in(value, 0, 9) : what == 2 && in(value, 0, 255);
    }

    private static boolean bitsOf(int bits, int size) {
        return bits >= 0 && bits < 1 << size;
    }

    int actor(int height, int coat, int voice, int frail) {
        int[] all = {height, coat, voice, frail};
        for (int i = 0; i < 4; i++) {
            if (!actorFact(i, all[i])) {
                return refuse(-1);
            }
        }
        if (now.actors.size() == 8) {
            return refuse(-5);
        }
        now.actors.add(new Actor(height, coat, voice, frail));
        return good(now.actors.size() - 1);
    }

    int part(int coat, int song, int scenes) {
        int[] all = {coat, song, scenes};
        for (int i = 0; i < 3; i++) {
            if (!partFact(i, all[i])) {
                return refuse(-1);
            }
        }
        if (now.parts.size() == 8) {
            return refuse(-5);
        }
        now.parts.add(new Part(coat, song, scenes));
        now.usually.add(NONE);
        return good(now.parts.size() - 1);
    }

    int turn(int actor, int what, int value) {
        if (!actorFact(what, value)) {
            return refuse(-1);
        }
        if (!hasActor(actor)) {
            return refuse(-2);
        }
        Actor was = now.actors.get(actor);
        now.actors.set(actor, was.with(what, value));
        return good(was.get(what));
    }

    int alter(int part, int what, int value) {
        if (!partFact(what, value)) {
            return refuse(-1);
        }
        if (!hasPart(part)) {
            return refuse(-2);
        }
        Part was = now.parts.get(part);
        now.parts.set(part, was.with(what, value));
        return good(was.get(what));
    }

    int usual(int part, int actor) {
        if (!hasPart(part) || !(actor == NONE || hasActor(actor))) {
            return refuse(-2);
        }
        return good(now.usually.set(part, actor));
    }

    int knows(int actor, int part, int how) {
        if (!in(how, 0, 9)) {
            return refuse(-1);
        }
        if (!hasActor(actor) || !hasPart(part)) {
            return refuse(-2);
        }
        int was = now.known[actor][part];
        now.known[actor][part] = how;
        return good(was);
    }

    int of(int actor, int part, int what) {
        if (!hasActor(actor) || !hasPart(part)) {
            return NONE;
        }
        if (what == 0) {
            return now.known[actor][part];
        }
        if (what == 1) {
            return can(now.known, actor, part, now.terms[2]) ? 1 : 0;
        }
        if (what == 2) {
            return cost(now.known, actor, part, now.terms[2]);
        }
        return what == 3 ? fades(now.known, actor, part, now.terms[2]) : NONE;
    }

    int ill(int actors) {
        if (!bitsOf(actors, now.actors.size())) {
            return refuse(-1);
        }
        int was = now.ill;
        now.ill = actors;
        return good(was);
    }

    int terms(int what, int value) {
        int[] high = {9, 1, 99};
        if (!in(what, 0, 2) || !in(value, 0, high[what])) {
            return refuse(-1);
        }
        int was = now.terms[what];
        now.terms[what] = value;
        return good(was);
    }

    int feed(int a, int b, int c, int d, int e) {
        if (tape.length() + 20 > 400) {
            return NONE;
        }
        for (int number : new int[] {a, b, c, d, e}) {
            for (int i = 3; i >= 0; i--) {
                tape += (char) (number >>> 8 * i & 0xff);
            }
        }
        return tape.length();
    }

    int end(int n) {
        if (n < 0 || n > tape.length()) {
            return NONE;
        }
        tape = tape.substring(0, n);
        return n;
    }

    int row() {
        if (tape.isEmpty()) {
            return refuse(-6);
        }
        int came = 0;
        forgot = 0;
        while (!tape.isEmpty()) {
            String three = tape.substring(0, Math.min(3, tape.length()));
            tape = tape.substring(three.length());
            if (three.length() == 3 && hasActor(three.charAt(0)) && hasPart(three.charAt(1)) && three.charAt(2) < 10) {
                now.known[three.charAt(0)][three.charAt(1)] = three.charAt(2);
                came++;
            } else {
                forgot++;
            }
        }
        return good(came);
    }

    int forgot() {
        return forgot;
    }

    int law() {
        String text = tape;
        tape = "";
        if (now.laws.size() == 6) {
            return refuse(-5);
        }
        try {
            now.laws.add(new Text(text).clauses());
            fault = NONE;
        } catch (Fault f) {
            fault = f.place;
            return refuse(-6);
        }
        return good(now.laws.size() - 1);
    }

    int fault() {
        return fault;
    }

    int force(int law) {
        if (!in(law, -1, now.laws.size() - 1)) {
            return refuse(-2);
        }
        int was = now.force;
        now.force = law;
        return good(was);
    }

    // The language.

    static final class Text {
        final List<String> tokens = new ArrayList<>();
        final List<Integer> places = new ArrayList<>();
        int at = 0;
        int pieces = 0;
        int open = 0;

        Text(String text) {
            int i = 0;
            while (i < text.length()) {
                int j = i + 1;
                char c = text.charAt(i);
                if (c != ' ') {
                    String rows = letter(c) ? "abcdefghijklmnopqrstuvwxyz" : digit(c) ? "0123456789" : "";
                    while (j < text.length() && rows.indexOf(text.charAt(j)) >= 0) {
                        j++;
                    }
                    tokens.add(text.substring(i, j));
                    places.add(i);
                }
                i = j;
            }
            tokens.add("");
            places.add(text.length());
        }

        static boolean letter(char c) {
            return c >= 'a' && c <= 'z';
        }

        static boolean digit(char c) {
            return c >= '0' && c <= '9';
        }

        String token() {
            return tokens.get(at);
        }

        boolean takes(String wanted) {
            if (token().equals(wanted)) {
                at++;
                return true;
            }
            return false;
        }

        Fault fault() {
            return new Fault(places.get(at));
        }

        void must(String wanted) {
            if (!takes(wanted)) {
                throw fault();
            }
        }

        List<Clause> clauses() {
            List<Clause> all = new ArrayList<>();
            do {
                if (all.size() == 12) {
                    throw fault();
                }
                String head = token();
                if (!List.of("cost", "fades", "bars", "lets").contains(head)) {
                    throw fault();
                }
                at++;
                Sum sum = head.equals("cost") || head.equals("fades") ? sum() : x -> 1;
                all.add(new Clause(head, sum, takes("if") ? test() : x -> true));
            } while (takes(";"));
            if (!token().isEmpty()) {
                throw fault();
            }
            return all;
        }

        Test test() {
            Test left = both();
            if (takes("or")) {
                Test right = test();
                return x -> left.of(x) || right.of(x);
            }
            return left;
        }

        Test both() {
            Test left = plain();
            if (takes("and")) {
                Test right = both();
                return x -> left.of(x) && right.of(x);
            }
            return left;
        }

        void opens(String bracket) {
            if (open == 8) {
                throw fault();
            }
            open++;
            must(bracket);
        }

        Test plain() {
            if (takes("not")) {
                Test inner = plain();
                return x -> !inner.of(x);
            }
            if (token().equals("(")) {
                opens("(");
                Test inner = test();
                must(")");
                open--;
                return inner;
            }
            Sum left = sum();
            String sign = token();
            if (!List.of("<", ">", "=").contains(sign)) {
                throw fault();
            }
            at++;
            Sum right = sum();
            return x -> {
                int order = Long.compare(left.of(x), right.of(x));
                return sign.equals("<") ? order < 0 : sign.equals(">") ? order > 0 : order == 0;
            };
        }

        static long whole(long value) {
            if (Math.abs(value) > 1_000_000_000L) {
                throw new Broken();
            }
            return value;
        }

        Sum sum() {
            Sum all = term();
            while (token().equals("+") || token().equals("-")) {
                Sum left = all;
                boolean plus = token().equals("+");
                at++;
                Sum right = term();
                all = x -> whole(plus ? left.of(x) + right.of(x) : left.of(x) - right.of(x));
            }
            return all;
        }

        Sum term() {
            Sum all = piece();
            while (token().equals("*") || token().equals("/")) {
                Sum left = all;
                boolean times = token().equals("*");
                at++;
                Sum right = piece();
                all = x -> times ? whole(left.of(x) * right.of(x)) : over(left.of(x), right.of(x));
            }
            return all;
        }

        static long over(long one, long other) {
            if (other == 0) {
                throw new Broken();
            }
            return one / other;
        }

        Sum piece() {
            if (token().equals("[")) {
                opens("[");
                Sum inner = sum();
                must("]");
                open--;
                return inner;
            }
            String word = token();
            Sum piece = number(word);
            if (piece == null) {
                piece = fact(word);
            }
            if (piece == null || pieces == 50) {
                throw fault();
            }
            pieces++;
            at++;
            return piece;
        }

        static Sum number(String word) {
            if (word.isEmpty() || !digit(word.charAt(0)) || new java.math.BigInteger(word).bitLength() > 20) {
                return null;
            }
            int value = Integer.parseInt(word);
            return value > 1000 ? null : x -> value;
        }

        static Sum fact(String word) {
            switch (word) {
                case "actor": return x -> x.actor;
                case "part": return x -> x.part;
                case "height": return x -> x.player.height;
                case "coat": return x -> x.player.coat;
                case "wears": return x -> x.role.coat;
                case "voice": return x -> x.player.voice;
                case "song": return x -> x.role.song;
                case "knows": return x -> x.known;
                case "usual": return x -> x.usual;
                case "week": return x -> x.week;
                default: return null;
            }
        }
    }

    /** What a head tells; null without. */
    private Long told(String head, int[][] known, int actor, int part, int week) {
        Long told = null;
        if (now.force != NONE) {
            Asked asked = new Asked(actor, part, known[actor][part], now.usually.get(part) == actor ? 1 : 0, week,
                now.actors.get(actor), now.parts.get(part));
            for (Clause clause : now.laws.get(now.force)) {
                try {
                    if (clause.head.equals(head) && clause.test.of(asked)) {
                        told = clause.sum.of(asked);
                    }
                } catch (Broken broken) {
                    continue;
                }
            }
        }
        return told;
    }

    private boolean can(int[][] known, int actor, int part, int week) {
        boolean lets = known[actor][part] >= now.terms[0] || told("lets", known, actor, part, week) != null;
        return lets && told("bars", known, actor, part, week) == null;
    }

    private int cost(int[][] known, int actor, int part, int week) {
        Long told = told("cost", known, actor, part, week);
        return told == null ? (now.usually.get(part) == actor ? 0 : 1) : (int) Math.max(0, Math.min(99, told));
    }

    private int fades(int[][] known, int actor, int part, int week) {
        Long told = told("fades", known, actor, part, week);
        return told == null ? 0 : (int) Math.max(0, Math.min(9, told));
    }

    // The nights.

    private static final class Table {
        boolean[][] can;
        int[][] cost;
    }

    private Table table(int[][] known, int week) {
        Table t = new Table();
        t.can = new boolean[now.actors.size()][now.parts.size()];
        t.cost = new int[now.actors.size()][now.parts.size()];
        for (int a = 0; a < now.actors.size(); a++) {
            for (int p = 0; p < now.parts.size(); p++) {
                t.can[a][p] = can(known, a, p, week);
                t.cost[a][p] = cost(known, a, p, week);
            }
        }
        return t;
    }

    private Table table() {
        return table(now.known, now.terms[2]);
    }

    private boolean fits(int[] row, int part, int actor) {
        int has = 0;
        for (int p = 0; p < part; p++) {
            if (row[p] == actor) {
                has++;
                if ((now.parts.get(p).scenes & now.parts.get(part).scenes) != 0) {
                    return false;
                }
            }
        }
        return has < 1 + now.terms[1];
    }

    /** All nights, as rows of actors by parts in their order. */
    private void nights(Table t, int ill, int[] row, int part, List<int[]> all, int most) {
        if (all.size() >= most) {
            return;
        }
        if (part == row.length) {
            all.add(row.clone());
            return;
        }
        for (int a = 0; a < now.actors.size(); a++) {
            if ((ill >> a & 1) == 0 && t.can[a][part] && fits(row, part, a)) {
                row[part] = a;
                nights(t, ill, row, part + 1, all, most);
            }
        }
    }

    private List<int[]> nights(Table t, int ill) {
        List<int[]> all = new ArrayList<>();
        nights(t, ill, new int[now.parts.size()], 0, all, Integer.MAX_VALUE);
        return all;
    }

    private boolean isShut(Table t, int ill) {
        List<int[]> one = new ArrayList<>();
        nights(t, ill, new int[now.parts.size()], 0, one, 1);
        return one.isEmpty();
    }

    private static int costOf(Table t, int[] row) {
        int sum = 0;
        for (int p = 0; p < row.length; p++) {
            sum += t.cost[row[p]][p];
        }
        return sum;
    }

    private List<int[]> least(Table t, int ill) {
        List<int[]> all = nights(t, ill);
        int low = all.stream().mapToInt(r -> costOf(t, r)).min().orElse(NONE);
        return all.stream().filter(r -> costOf(t, r) == low).toList();
    }

    int night(int what) {
        Table t = table();
        List<int[]> least = least(t, now.ill);
        switch (what) {
            case 0: return least.isEmpty() ? NONE : costOf(t, least.get(0));
            case 1: return least.size();
            case 2: return nights(t, now.ill).size();
            default: return NONE;
        }
    }

    private int[] first() {
        List<int[]> least = least(table(), now.ill);
        return least.isEmpty() ? null : least.get(0);
    }

    int who(int part) {
        int[] first = first();
        return first == null || !hasPart(part) ? NONE : first[part];
    }

    int changed() {
        int[] first = first();
        int bits = 0;
        for (int p = 0; first != null && p < first.length; p++) {
            bits |= first[p] != now.usually.get(p) ? 1 << p : 0;
        }
        return first == null ? NONE : bits;
    }

    int chain(int part, int i) {
        int[] first = first();
        if (first == null || !hasPart(part)) {
            return NONE;
        }
        List<Integer> chain = new ArrayList<>();
        int next = first[part] != now.usually.get(part) ? part : NONE;
        while (next != NONE) {
            int player = first[next];
            chain.add(player);
            next = NONE;
            for (int p = first.length - 1; p >= 0; p--) {
                if (now.usually.get(p) == player && first[p] != player && !chain.contains(first[p])) {
                    next = p;
                }
            }
        }
        return i == NONE ? chain.size() : i >= 0 && i < chain.size() ? chain.get(i) : NONE;
    }

    int nth(int i, int part) {
        List<int[]> least = least(table(), now.ill);
        return hasPart(part) && i >= 0 && i < least.size() ? least.get(i)[part] : NONE;
    }

    int gives(int actor) {
        if (!hasActor(actor)) {
            return refuse(-2);
        }
        if (now.told.size() == now.parts.size()) {
            return refuse(-3);
        }
        now.told.add(actor);
        return good(now.told.size());
    }

    int clear() {
        int was = now.told.size();
        now.told.clear();
        return was;
    }

    int judge(int what) {
        Table t = table();
        int[] row = now.told.stream().mapToInt(x -> x).toArray();
        if (what == 1) {
            return costOf(t, row);
        }
        for (int p = 0; what == 0 && p < row.length; p++) {
            if (!t.can[row[p]][p] || (now.ill >> row[p] & 1) == 1 || !fits(row, p, row[p])) {
                return p;
            }
        }
        return NONE;
    }

    int shut(int actors) {
        return bitsOf(actors, now.actors.size()) ? (isShut(table(), actors) ? 1 : 0) : NONE;
    }

    private List<Integer> setsByFewer() {
        List<Integer> sets = new ArrayList<>();
        for (int s = 0; s < 1 << now.actors.size(); s++) {
            sets.add(s);
        }
        sets.sort(Comparator.comparing((Integer s) -> Integer.bitCount(s)).thenComparing(s -> s));
        return sets;
    }

    int closing(int i) {
        Table t = table();
        List<Integer> closing = new ArrayList<>();
        for (int s : setsByFewer()) {
            boolean is = isShut(t, s);
            for (int a = 0; a < 8 && is; a++) {
                is = (s >> a & 1) == 0 || !isShut(t, s & ~(1 << a));
            }
            if (is) {
                closing.add(s);
            }
        }
        return i == NONE ? closing.size() : i >= 0 && i < closing.size() ? closing.get(i) : NONE;
    }

    private int unsafeSet(Table t, int k) {
        for (int s : setsByFewer()) {
            if (Integer.bitCount(s) <= k && isShut(t, s)) {
                return s;
            }
        }
        return NONE;
    }

    int safe(int k) {
        return !in(k, 0, 8) ? NONE : unsafeSet(table(), k) == NONE ? 1 : 0;
    }

    int unsafe(int k) {
        return !in(k, 0, 8) ? NONE : unsafeSet(table(), k);
    }

    int most() {
        int k = NONE;
        while (k < 8 && unsafeSet(table(), k + 1) == NONE) {
            k++;
        }
        return k;
    }

    int missed(int actor) {
        Table t = table();
        List<int[]> least = least(t, now.ill);
        if (!hasActor(actor) || least.isEmpty()) {
            return NONE;
        }
        List<int[]> then = least(t, now.ill | 1 << actor);
        return then.isEmpty() ? 1000 : costOf(t, then.get(0)) - costOf(t, least.get(0));
    }

    int key(int actor) {
        if (!hasActor(actor)) {
            return NONE;
        }
        Table t = table();
        int keys = 0;
        for (int s : setsByFewer()) {
            keys += (s >> actor & 1) == 0 && !isShut(t, s) && isShut(t, s | 1 << actor) ? 1 : 0;
        }
        return keys;
    }

    long odds(int what) {
        if (what != 0 && what != 1) {
            return NONE;
        }
        Table t = table();
        long sum = 0;
        for (int s : setsByFewer()) {
            long likely = 1;
            for (int a = 0; a < now.actors.size(); a++) {
                likely *= (s >> a & 1) == 1 ? now.actors.get(a).frail : 100 - now.actors.get(a).frail;
            }
            if (likely != 0) {
                List<int[]> least = least(t, s);
                sum += what == 0 ? (least.isEmpty() ? likely : 0) : least.isEmpty() ? 0 : likely * costOf(t, least.get(0));
            }
        }
        return sum;
    }

    // The lessons.

    int lesson(int actor, int part, int how, int hours) {
        if (!in(how, 1, 9) || !in(hours, 1, 99)) {
            return refuse(-1);
        }
        if (!hasActor(actor) || !hasPart(part)) {
            return refuse(-2);
        }
        if (now.lessons.size() == 7) {
            return refuse(-5);
        }
        now.lessons.add(new Lesson(actor, part, how, hours));
        return good(now.lessons.size() - 1);
    }

    int drop(int lesson) {
        if (!in(lesson, 0, now.lessons.size() - 1)) {
            return refuse(-2);
        }
        now.lessons.remove(lesson);
        return good(now.lessons.size());
    }

    private int hours(int set) {
        int sum = 0;
        for (int i = 0; i < now.lessons.size(); i++) {
            sum += (set >> i & 1) == 1 ? now.lessons.get(i).hours : 0;
        }
        return sum;
    }

    private List<Integer> enough(int k) {
        List<Integer> sets = new ArrayList<>();
        for (int set = 0; set < 1 << now.lessons.size(); set++) {
            int[][] known = copyOf(now.known);
            for (int i = 0; i < now.lessons.size(); i++) {
                Lesson l = now.lessons.get(i);
                if ((set >> i & 1) == 1) {
                    known[l.actor][l.part] = Math.max(known[l.actor][l.part], l.how);
                }
            }
            if (unsafeSet(table(known, now.terms[2]), k) == NONE) {
                sets.add(set);
            }
        }
        sets.sort(Comparator.comparing(this::hours).thenComparing(s -> s));
        return sets;
    }

    int learn(int k, int what) {
        if (!in(k, 0, 3) || !in(what, 0, 2)) {
            return NONE;
        }
        List<Integer> enough = enough(k);
        if (what == 2) {
            return enough.size();
        }
        return enough.isEmpty() ? NONE : what == 0 ? hours(enough.get(0)) : enough.get(0);
    }

    int worth(int k, int lesson) {
        if (!in(k, 0, 3) || !in(lesson, 0, now.lessons.size() - 1)) {
            return NONE;
        }
        List<Integer> enough = enough(k);
        if (enough.isEmpty()) {
            return NONE;
        }
        return enough.stream().filter(s -> (s >> lesson & 1) == 0).findFirst()
            .map(s -> hours(s) - hours(enough.get(0))).orElse(1000);
    }

    int teach(int lessons) {
        if (!bitsOf(lessons, now.lessons.size())) {
            return refuse(-1);
        }
        List<Lesson> left = new ArrayList<>();
        int better = 0;
        for (int i = 0; i < now.lessons.size(); i++) {
            Lesson l = now.lessons.get(i);
            if ((lessons >> i & 1) == 0) {
                left.add(l);
            } else if (now.known[l.actor][l.part] < l.how) {
                now.known[l.actor][l.part] = l.how;
                better++;
            }
        }
        now.lessons = left;
        return good(better);
    }

    // The season.

    int season(int seed, int n) {
        if (!in(seed, 0, 1_000_000) || !in(n, 1, 40)) {
            return refuse(-1);
        }
        seasonRows = new ArrayList<>();
        seasonActors = now.actors.size();
        seasonParts = now.parts.size();
        int[][] known = copyOf(now.known);
        long s = seed;
        int shut = 0;
        for (int i = 0; i < n; i++) {
            int week = now.terms[2] + i;
            int ill = 0;
            for (int a = 0; a < seasonActors; a++) {
                s = (s * 1103 + 12345) % 1_000_003;
                ill |= s % 100 < now.actors.get(a).frail ? 1 << a : 0;
            }
            Table t = table(known, week);
            List<int[]> least = least(t, ill);
            int[] row = new int[10];
            Arrays.fill(row, NONE);
            row[0] = ill;
            int[][] next = copyOf(known);
            for (int a = 0; a < seasonActors; a++) {
                for (int p = 0; p < seasonParts; p++) {
                    next[a][p] = Math.max(0, known[a][p] - fades(known, a, p, week));
                }
            }
            if (least.isEmpty()) {
                shut++;
            } else {
                row[1] = costOf(t, least.get(0));
                for (int p = 0; p < seasonParts; p++) {
                    int player = least.get(0)[p];
                    row[2 + p] = player;
                    next[player][p] = Math.min(9, known[player][p] + 1);
                }
            }
            known = next;
            seasonRows.add(row);
        }
        seasonKnown = known;
        return good(shut);
    }

    int week(int i, int what) {
        return i >= 0 && i < seasonRows.size() && in(what, 0, 9) ? seasonRows.get(i)[what] : NONE;
    }

    int learnt(int actor, int part) {
        boolean there = seasonKnown != null && in(actor, 0, seasonActors - 1) && in(part, 0, seasonParts - 1);
        return there ? seasonKnown[actor][part] : NONE;
    }

    int image(int k) {
        if (!in(k, 0, 1)) {
            return refuse(-1);
        }
        images[k] = now.copy();
        return good(0);
    }

    int back(int k) {
        if (!in(k, 0, 1)) {
            return refuse(-1);
        }
        if (images[k] == null) {
            return refuse(-2);
        }
        now = images[k].copy();
        return good(0);
    }

    int count(int what) {
        int[] all = {now.actors.size(), now.parts.size(), now.laws.size(), now.lessons.size(), now.told.size(), now.ill,
            tape.length(), refused[1], refused[2], refused[3], refused[5], refused[6], now.force, now.terms[0],
            now.terms[1], now.terms[2]};
        return in(what, 0, all.length - 1) ? all[what] : NONE;
    }

    int status() {
        return status;
    }
}
