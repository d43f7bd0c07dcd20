import java.util.ArrayList;
import java.util.List;
import java.util.Random;

/** Long runs of drawn calls, each answer held against the Model's. */
public final class ModelTest {
    private static final String[] WORDS = {"actor", "part", "height", "coat", "wears", "voice", "song", "knows", "usual",
        "week"};

    private final Random random;
    private final IllTonight x = new IllTonight();
    private final Model m = new Model();
    private final List<String> calls = new ArrayList<>();
    private final int actors;
    private final int parts;
    /** Most who may be asked know most parts, and few are barred: then houses are open, and what they cost matters. */
    private final boolean rich;
    private boolean wrong;

    private ModelTest(long seed) {
        random = new Random(seed);
        int size = random.nextInt(14);
        rich = random.nextInt(3) > 0;
        actors = size == 0 ? 8 : size == 1 ? 6 : size == 3 ? 4 : 1 + random.nextInt(5);
        parts = size == 0 ? 3 : size == 1 ? 5 : size == 2 ? 7 : size == 3 ? 6 + random.nextInt(3) : 1 + random.nextInt(4);
    }

    public static void main(String[] args) {
        int runs = args.length > 0 ? Integer.parseInt(args[0]) : 400;
        int from = args.length > 1 ? Integer.parseInt(args[1]) : 0;
        int bad = 0;
        for (int seed = from; seed < from + runs && bad < 5; seed++) {
            if (!new ModelTest(seed).run(seed)) {
                bad++;
            }
        }
        System.out.println(bad == 0 ? runs + " runs are as the model's" : bad + " runs are not as the model's");
        if (bad != 0) {
            System.exit(1);
        }
    }

    private boolean run(long seed) {
        setUp();
        while (calls.size() < 480 && !wrong) {
            step();
        }
        if (wrong) {
            System.out.println("seed " + seed + ":");
            calls.subList(Math.max(0, calls.size() - 40), calls.size()).forEach(System.out::println);
        }
        return !wrong;
    }

    private void due(String call, long got, long want) {
        calls.add(call + " answered " + got + (got == want ? "" : ", the model's is " + want));
        wrong |= got != want;
    }

    private int n(int bound) {
        return random.nextInt(bound);
    }

    /** A number within, now and then one beside. */
    private int near(int low, int high) {
        int odd = n(40);
        return odd == 0 ? low - 1 : odd == 1 ? high + 1 : odd == 2 ? random.nextInt() : low + n(high - low + 1);
    }

    private int anActor() {
        return near(0, Math.max(0, m.now.actors.size() - 1));
    }

    private int aPart() {
        return near(0, Math.max(0, m.now.parts.size() - 1));
    }

    private void setUp() {
        for (int i = 0; i < actors; i++) {
            addActor();
        }
        for (int i = 0; i < parts; i++) {
            addPart();
        }
        for (int i = 0; i < actors * parts * (rich ? 3 : 1) / 2 + 2; i++) {
            know();
        }
        if (rich && n(2) == 0) {
            due("terms(1, 1)", x.terms(1, 1), m.terms(1, 1));
        }
        for (int i = 0; i < parts; i++) {
            usual();
        }
    }

    private void step() {
        int kind = n(100);
        if (kind < 6) {
            know();
        } else if (kind < 10) {
            usual();
        } else if (kind < 22) {
            change();
        } else if (kind < 30) {
            law();
        } else if (kind < 33) {
            rowOfBytes();
        } else if (kind < 40) {
            lessons();
        } else if (kind < 44) {
            season();
        } else if (kind < 48) {
            images();
        } else if (kind < 56) {
            byHand();
        } else {
            ask();
        }
        if (n(4) == 0) {
            due("status()", x.status(), m.status());
            int what = n(18) - 1;
            due("count(" + what + ")", x.count(what), m.count(what));
        }
    }

    private void addActor() {
        int a = near(100, 220);
        int b = near(0, 9);
        int c = near(0, 9);
        int d = n(3) == 0 ? 0 : near(0, 100);
        due("actor(" + a + ", " + b + ", " + c + ", " + d + ")", x.actor(a, b, c, d), m.actor(a, b, c, d));
    }

    private void addPart() {
        int a = near(0, 9);
        int b = near(0, 9);
        int c = n(2) == 0 ? 1 << n(8) : near(0, 255);
        due("part(" + a + ", " + b + ", " + c + ")", x.part(a, b, c), m.part(a, b, c));
    }

    private void know() {
        int a = anActor();
        int p = aPart();
        int how = near(0, 9);
        due("knows(" + a + ", " + p + ", " + how + ")", x.knows(a, p, how), m.knows(a, p, how));
    }

    private void usual() {
        int a = n(6) == 0 ? -1 : anActor();
        int p = aPart();
        due("usual(" + p + ", " + a + ")", x.usual(p, a), m.usual(p, a));
    }

    private void change() {
        switch (n(6)) {
            case 0 -> {
                int a = anActor();
                int what = near(0, 3);
                int value = what == 0 ? near(100, 220) : what == 3 ? near(0, 100) : near(0, 9);
                due("turn(" + a + ", " + what + ", " + value + ")", x.turn(a, what, value), m.turn(a, what, value));
            }
            case 1 -> {
                int p = aPart();
                int what = near(0, 2);
                int value = what == 2 ? (n(2) == 0 ? 1 << n(8) : near(0, 255)) : near(0, 9);
                due("alter(" + p + ", " + what + ", " + value + ")", x.alter(p, what, value), m.alter(p, what, value));
            }
            case 2 -> {
                int bits = n(3) == 0 ? 0 : near(0, (1 << m.now.actors.size()) - 1) & (n(9) == 0 ? -1 : random.nextInt());
                due("ill(" + bits + ")", x.ill(bits), m.ill(bits));
            }
            case 3 -> {
                int what = near(0, 2);
                int value = what == 0 ? (n(2) == 0 ? 1 : near(0, rich ? 3 : 9)) : what == 1 ? near(0, 1) : near(0, 99);
                due("terms(" + what + ", " + value + ")", x.terms(what, value), m.terms(what, value));
            }
            case 4 -> {
                if (m.now.actors.size() < actors + 1 && n(3) == 0 || n(50) == 0 && actors == 8) {
                    addActor();
                }
            }
            default -> {
                if (m.now.parts.size() < parts + 1 && n(3) == 0) {
                    addPart();
                }
            }
        }
    }

    private void feed(String text) {
        for (int i = 0; i < text.length(); i += 20) {
            int[] five = new int[5];
            for (int j = 0; j < 20; j++) {
                int c = i + j < text.length() ? text.charAt(i + j) : 32;
                five[j / 4] = five[j / 4] << 8 | c;
            }
            due("feed(" + five[0] + ", " + five[1] + ", " + five[2] + ", " + five[3] + ", " + five[4] + ")",
                x.feed(five[0], five[1], five[2], five[3], five[4]), m.feed(five[0], five[1], five[2], five[3], five[4]));
        }
        int end = n(50) == 0 ? near(0, 400) : text.length();
        due("end(" + end + ")", x.end(end), m.end(end));
    }

    private void law() {
        StringBuilder text = new StringBuilder();
        int clauses = n(12) == 0 ? 10 + n(5) : 1 + n(4);
        for (int i = 0; i < clauses; i++) {
            text.append(i == 0 ? "" : ";").append(clause());
        }
        if (n(4) == 0 && text.length() > 0) {
            spoil(text);
        }
        String whole = text.length() > 400 ? text.substring(0, 400) : text.toString();
        calls.add("# " + whole);
        feed(whole);
        due("law()", x.law(), m.law());
        due("fault()", x.fault(), m.fault());
        int which = n(4) == 0 ? near(-1, 6) : m.now.laws.size() - 1;
        due("force(" + which + ")", x.force(which), m.force(which));
        if (m.now.laws.size() == 6 && n(2) == 0) {
            due("back(0)", x.back(0), m.back(0));
        }
    }

    private void spoil(StringBuilder text) {
        int at = n(text.length());
        String[] bits = {";", "(", "[", ")", "]", " ", "if", "not", "x", "1001", "0001000", "+", "-", "<", "A", "\u00e9"};
        if (n(2) == 0) {
            text.deleteCharAt(at);
        } else {
            text.insert(at, bits[n(bits.length)]);
        }
    }

    private String clause() {
        String head = switch (n(4)) {
            case 0 -> "cost " + sum(3);
            case 1 -> "fades " + sum(2);
            case 2 -> rich && n(5) > 0 ? "cost " + WORDS[n(WORDS.length)] + "/" + (1 + n(20)) : "bars";
            default -> "lets";
        };
        if (rich && head.equals("bars") && n(2) == 0) {
            return "bars if knows=" + n(10);
        }
        boolean test = head.equals("bars") || n(3) > 0;
        return head + (test ? " if " + test(3) : "");
    }

    private String blank() {
        return n(3) == 0 ? " " : "";
    }

    private String test(int depth) {
        int kind = depth == 0 ? 9 : n(10);
        if (kind == 0) {
            return test(depth - 1) + " or " + test(depth - 1);
        }
        if (kind == 1) {
            return test(depth - 1) + " and " + test(depth - 1);
        }
        if (kind == 2) {
            return "not " + test(depth - 1);
        }
        if (kind == 3) {
            return "(" + blank() + test(depth - 1) + ")";
        }
        return sum(2) + blank() + "<>=".charAt(n(3)) + blank() + sum(2);
    }

    private String sum(int depth) {
        int kind = depth == 0 ? 9 : n(10);
        if (kind < 3) {
            return sum(depth - 1) + blank() + "+-*/".charAt(n(4)) + blank() + sum(depth - 1);
        }
        if (kind == 3) {
            return "[" + sum(depth - 1) + "]";
        }
        if (kind < 6) {
            return String.valueOf(n(30) == 0 ? near(990, 1000) : n(3) == 0 ? n(1001) : n(12));
        }
        return WORDS[n(WORDS.length)];
    }

    private void rowOfBytes() {
        StringBuilder text = new StringBuilder();
        for (int i = n(5); i >= 0; i--) {
            text.append((char) (anActor() & 255)).append((char) (aPart() & 255)).append((char) (near(0, 9) & 255));
        }
        text.setLength(Math.max(0, text.length() - n(3)));
        if (n(10) > 0) {
            feed(text.toString());
        }
        due("row()", x.row(), m.row());
        due("forgot()", x.forgot(), m.forgot());
    }

    private void lessons() {
        int kind = n(10);
        if (kind < 6) {
            int a = anActor();
            int p = aPart();
            int how = near(1, 9);
            int hours = n(2) == 0 ? 1 + n(4) : near(1, 99);
            if (rich && m.of(a, p, 1) == 1) {
                due("knows(" + a + ", " + p + ", 0)", x.knows(a, p, 0), m.knows(a, p, 0));
            }
            due("lesson(" + a + ", " + p + ", " + how + ", " + hours + ")", x.lesson(a, p, how, hours),
                m.lesson(a, p, how, hours));
        } else if (kind < 7) {
            int l = near(0, 6);
            due("drop(" + l + ")", x.drop(l), m.drop(l));
        } else if (kind < 8) {
            int l = near(0, (1 << m.now.lessons.size()) - 1);
            due("teach(" + l + ")", x.teach(l), m.teach(l));
        }
        int k = near(0, 3);
        if (m.now.lessons.size() < 6 || n(5) == 0) {
            for (int what = -1; what < 4; what++) {
                due("learn(" + k + ", " + what + ")", x.learn(k, what), m.learn(k, what));
            }
            int l = near(0, Math.max(0, m.now.lessons.size() - 1));
            due("worth(" + k + ", " + l + ")", x.worth(k, l), m.worth(k, l));
        }
    }

    private void season() {
        int seed = near(0, 1_000_000);
        int weeks = n(6) == 0 ? near(1, 40) : 1 + n(4);
        due("season(" + seed + ", " + weeks + ")", x.season(seed, weeks), m.season(seed, weeks));
        for (int i = 0; i < 6; i++) {
            int w = near(0, Math.max(0, m.seasonRows.size() - 1));
            int what = near(0, 9);
            due("week(" + w + ", " + what + ")", x.week(w, what), m.week(w, what));
            int a = anActor();
            int p = aPart();
            due("learnt(" + a + ", " + p + ")", x.learnt(a, p), m.learnt(a, p));
        }
    }

    private void images() {
        int k = near(0, 1);
        if (n(2) == 0) {
            due("image(" + k + ")", x.image(k), m.image(k));
        } else {
            due("back(" + k + ")", x.back(k), m.back(k));
        }
        due("forgot()", x.forgot(), m.forgot());
        due("fault()", x.fault(), m.fault());
        due("week(0, 0)", x.week(0, 0), m.week(0, 0));
    }

    private void byHand() {
        int kind = n(5);
        if (kind == 0) {
            due("clear()", x.clear(), m.clear());
        } else {
            int a = anActor();
            due("gives(" + a + ")", x.gives(a), m.gives(a));
        }
        for (int what = -1; what < 3; what++) {
            due("judge(" + what + ")", x.judge(what), m.judge(what));
        }
    }

    private void ask() {
        int a = anActor();
        int p = aPart();
        int what = near(-1, 4);
        int bits = near(0, (1 << m.now.actors.size()) - 1);
        int k = near(-1, 9);
        switch (n(15)) {
            case 0 -> due("of(" + a + ", " + p + ", " + what + ")", x.of(a, p, what), m.of(a, p, what));
            case 1 -> due("night(" + what + ")", x.night(what), m.night(what));
            case 2 -> due("who(" + p + ")", x.who(p), m.who(p));
            case 3 -> due("changed()", x.changed(), m.changed());
            case 4 -> due("chain(" + p + ", " + what + ")", x.chain(p, what), m.chain(p, what));
            case 5 -> {
                int i = n(3) == 0 ? n(4) : near(0, Math.max(0, m.night(1) - 1));
                due("nth(" + i + ", " + p + ")", x.nth(i, p), m.nth(i, p));
                int q = aPart();
                due("nth(" + i + ", " + q + ")", x.nth(i, q), m.nth(i, q));
            }
            case 6 -> due("shut(" + bits + ")", x.shut(bits), m.shut(bits));
            case 7 -> due("closing(" + k + ")", x.closing(k), m.closing(k));
            case 8 -> due("safe(" + k + ")", x.safe(k), m.safe(k));
            case 9 -> due("unsafe(" + k + ")", x.unsafe(k), m.unsafe(k));
            case 10 -> due("most()", x.most(), m.most());
            case 11 -> due("missed(" + a + ")", x.missed(a), m.missed(a));
            case 12 -> due("key(" + a + ")", x.key(a), m.key(a));
            case 13 -> due("odds(" + what + ")", x.odds(what), m.odds(what));
            default -> due("closing(-1)", x.closing(-1), m.closing(-1));
        }
    }
}
