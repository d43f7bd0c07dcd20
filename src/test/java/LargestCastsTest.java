import java.util.Random;

/**
 * Six to eight ACTORS and five to eight PARTS against the Model. Each ACTOR knows a few PARTS alone: more NIGHTS than some
 * thousands would be too many for the Model, which makes them all.
 */
public final class LargestCastsTest {
    private static final String[] LAWS = {"cost knows", "cost 5 - usual*4; fades 1 if knows > 3",
        "cost [height - 100]/10 if voice < song; cost 3 if usual = 0 and not coat = wears",
        "fades 2; bars if knows = 9 and week > 3", "lets if actor = part; cost actor*part", "cost 99; fades knows/3"};

    private final int seed;
    private final Random random;
    private final IllTonight x = new IllTonight();
    private final Model m = new Model();
    private final int actors;
    private final int parts;
    private int wrong = 0;

    private LargestCastsTest(int seed) {
        this.seed = seed;
        random = new Random(seed);
        actors = 6 + random.nextInt(3);
        parts = 5 + random.nextInt(4);
    }

    public static void main(String[] args) {
        int runs = args.length > 0 ? Integer.parseInt(args[0]) : 60;
        int bad = 0;
        for (int seed = 0; seed < runs && bad < 5; seed++) {
            LargestCastsTest test = new LargestCastsTest(seed);
            test.setUp();
            test.nights();
            test.illnesses();
            test.lessons();
            test.season();
            bad += test.wrong > 0 ? 1 : 0;
        }
        System.out.println(bad == 0 ? runs + " largest casts are as the model's" : bad + " casts are not as the model's");
        if (bad != 0) {
            System.exit(1);
        }
    }

    private void due(String call, long got, long want) {
        if (got != want) {
            wrong++;
            System.out.println("seed " + seed + ": " + call + " answered " + got + ", the model's is " + want);
        }
    }

    private int n(int bound) {
        return random.nextInt(bound);
    }

    private void setUp() {
        for (int i = 0; i < actors; i++) {
            int height = 100 + n(121);
            int coat = n(10);
            int voice = n(10);
            int frail = n(3) == 0 ? n(101) : n(30);
            due("actor", x.actor(height, coat, voice, frail), m.actor(height, coat, voice, frail));
        }
        for (int i = 0; i < parts; i++) {
            int coat = n(10);
            int song = n(10);
            int scenes = n(2) == 0 ? 1 << n(8) : n(256) & n(256);
            due("part", x.part(coat, song, scenes), m.part(coat, song, scenes));
        }
        for (int a = 0; a < actors; a++) {
            for (int p = 0; p < parts; p++) {
                int how = a == p || n(4) == 0 ? 1 + n(9) : 0;
                due("knows", x.knows(a, p, how), m.knows(a, p, how));
            }
        }
        for (int p = 0; p < parts; p++) {
            int actor = n(4) == 0 ? -1 : n(3) == 0 ? n(actors) : p % actors;
            due("usual", x.usual(p, actor), m.usual(p, actor));
        }
        int doubles = n(2);
        due("terms", x.terms(1, doubles), m.terms(1, doubles));
        int ill = n(3) == 0 ? 1 << n(actors) : 0;
        due("ill", x.ill(ill), m.ill(ill));
        if (n(4) > 0) {
            rule(LAWS[n(LAWS.length)]);
        }
    }

    private void rule(String text) {
        for (int i = 0; i < text.length(); i += 20) {
            int[] five = new int[5];
            for (int j = i; j < i + 20; j++) {
                five[(j - i) / 4] = five[(j - i) / 4] << 8 | (j < text.length() ? text.charAt(j) : ' ');
            }
            due("feed", x.feed(five[0], five[1], five[2], five[3], five[4]),
                m.feed(five[0], five[1], five[2], five[3], five[4]));
        }
        due("law", x.law(), m.law());
        due("force", x.force(0), m.force(0));
    }

    private void nights() {
        for (int what = 0; what < 3; what++) {
            due("night(" + what + ")", x.night(what), m.night(what));
        }
        due("changed()", x.changed(), m.changed());
        int least = Math.max(1, m.night(1));
        for (int p = 0; p < parts; p++) {
            due("who(" + p + ")", x.who(p), m.who(p));
            for (int i = -1; i <= m.chain(p, -1); i++) {
                due("chain(" + p + ", " + i + ")", x.chain(p, i), m.chain(p, i));
            }
            int i = n(least);
            due("nth(" + i + ", " + p + ")", x.nth(i, p), m.nth(i, p));
            due("nth(" + (least - 1) + ", " + p + ")", x.nth(least - 1, p), m.nth(least - 1, p));
        }
    }

    private void illnesses() {
        for (int set = 0; set < 1 << actors; set += 8 + n(9)) {
            due("shut(" + set + ")", x.shut(set), m.shut(set));
        }
        int sets = m.closing(-1);
        for (int i : new int[] {-1, 0, sets / 2, sets - 1, sets}) {
            due("closing(" + i + ")", x.closing(i), m.closing(i));
        }
        for (int k = 0; k <= 8; k++) {
            due("safe(" + k + ")", x.safe(k), m.safe(k));
            due("unsafe(" + k + ")", x.unsafe(k), m.unsafe(k));
        }
        due("most()", x.most(), m.most());
        for (int a = 0; a < actors; a++) {
            due("missed(" + a + ")", x.missed(a), m.missed(a));
            due("key(" + a + ")", x.key(a), m.key(a));
        }
        due("odds(0)", x.odds(0), m.odds(0));
        due("odds(1)", x.odds(1), m.odds(1));
    }

    private void lessons() {
        for (int i = n(6); i > 0; i--) {
            int actor = n(actors);
            int part = n(parts);
            int how = 1 + n(9);
            int hours = 1 + n(6);
            due("lesson", x.lesson(actor, part, how, hours), m.lesson(actor, part, how, hours));
        }
        for (int k = 0; k < 4; k++) {
            for (int what = 0; what < 3; what++) {
                due("learn(" + k + ", " + what + ")", x.learn(k, what), m.learn(k, what));
            }
            int lesson = n(7);
            due("worth(" + k + ", " + lesson + ")", x.worth(k, lesson), m.worth(k, lesson));
        }
        int learnt = n(1 << m.count(3));
        due("teach(" + learnt + ")", x.teach(learnt), m.teach(learnt));
    }

    private void season() {
        int from = n(1_000_001);
        int weeks = 1 + n(40);
        due("season(" + from + ", " + weeks + ")", x.season(from, weeks), m.season(from, weeks));
        for (int i = 0; i < weeks; i += 4 + n(8)) {
            for (int what = 0; what < 10; what++) {
                due("week(" + i + ", " + what + ")", x.week(i, what), m.week(i, what));
            }
        }
        for (int a = 0; a < actors; a++) {
            int p = n(parts);
            due("learnt(" + a + ", " + p + ")", x.learnt(a, p), m.learnt(a, p));
        }
    }
}
