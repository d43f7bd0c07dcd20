/** The dearest calls, on the largest casts, as often as an object is used: they must end soon and answer alike. */
public final class LoadTest {
    private static int wrong = 0;

    private static void due(String what, long got, long want) {
        if (got != want) {
            wrong++;
            System.out.println(what + " answered " + got + ", due is " + want);
        }
    }

    private static IllTonight largest(boolean scenesApart) {
        IllTonight x = new IllTonight();
        x.terms(1, 1);
        for (int i = 0; i < 8; i++) {
            x.actor(150, i, i, 50);
            x.part(i, i, scenesApart ? 1 << i : 255);
        }
        for (int a = 0; a < 8; a++) {
            for (int p = 0; p < 8; p++) {
                x.knows(a, p, 1 + (a + p) % 9);
            }
        }
        return x;
    }

    /** Twelve clauses of many pieces, all of which are asked since the last ones do not hold. */
    private static void longLaw(IllTonight x) {
        StringBuilder text = new StringBuilder("cost knows;fades 1");
        for (int i = 0; i < 10; i++) {
            text.append(";").append(i % 3 == 0 ? "bars" : i % 3 == 1 ? "lets" : "cost 1").append(" if 1*2*3>9");
        }
        for (int i = 0; i < text.length(); i += 20) {
            int[] five = new int[5];
            for (int j = 0; j < 20; j++) {
                five[j / 4] = five[j / 4] << 8 | (i + j < text.length() ? text.charAt(i + j) : ' ');
            }
            x.feed(five[0], five[1], five[2], five[3], five[4]);
        }
        x.force(x.law());
        due("the long law is in force", x.count(12), 0);
    }

    public static void main(String[] args) {
        nights();
        lessons();
        seasons();
        wild();
        System.out.println(wrong == 0 ? "the load is borne" : wrong + " answers are not as due");
        if (wrong != 0) {
            System.exit(1);
        }
    }

    private static void nights() {
        IllTonight x = largest(true);
        longLaw(x);
        int least = x.night(0);
        for (int i = 0; i < 60; i++) {
            x.knows(i % 8, i / 8, 1);
            x.nth(i * 1000, 7);
            x.odds(1);
            due("half of the sets are too few", x.safe(4), 1);
            x.knows(i % 8, i / 8, 1 + (i % 8 + i / 8) % 9);
            due("least is as it was", x.night(0), least);
        }
        due("any four of eight play all eight doubled", x.most(), 4);
        due("any five that are ill", x.closing(-1), 56);
    }

    private static void lessons() {
        IllTonight x = largest(false);
        longLaw(x);
        due("eight for eight", x.most(), 0);
        for (int p = 0; p < 8; p++) {
            x.alter(p, 2, 1 << p);
        }
        for (int i = 0; i < 7; i++) {
            x.knows(i, i, 0);
            x.lesson(i, i, 1, 1 + i);
        }
        for (int i = 0; i < 100; i++) {
            x.terms(2, i % 50);
            due("enough without any", x.learn(3, 0), 0);
            due("all sets are", x.learn(3, 2), 128);
        }
    }

    private static void seasons() {
        IllTonight x = largest(true);
        longLaw(x);
        int first = x.season(17, 40);
        for (int i = 0; i < 300; i++) {
            due("the same season", x.season(17, 40), first);
        }
    }

    /** Numbers of all sizes in every place, in every state that they lead to: nothing may be thrown. */
    private static void wild() {
        int[] odd = {Integer.MIN_VALUE, -257, -9, -8, -2, -1, 0, 1, 2, 3, 7, 8, 9, 40, 41, 100, 150, 255, 256, 400, 1000000,
            Integer.MAX_VALUE};
        java.util.Random random = new java.util.Random(5);
        for (int run = 0; run < 300; run++) {
            IllTonight x = new IllTonight();
            for (int i = 0; i < 500; i++) {
                int a = odd[random.nextInt(odd.length)];
                int b = odd[random.nextInt(odd.length)];
                int c = odd[random.nextInt(odd.length)];
                int d = odd[random.nextInt(odd.length)];
                call(x, random.nextInt(45), a, b, c, d);
            }
        }
    }

    private static void call(IllTonight x, int which, int a, int b, int c, int d) {
        switch (which) {
            case 0 -> x.actor(150, b & 7, c & 7, d & 63);
            case 1 -> x.part(a & 7, b & 7, c & 255);
            case 2 -> x.turn(a, b, c);
            case 3 -> x.alter(a, b, c);
            case 4 -> x.usual(a, b);
            case 5, 44 -> x.knows(a, b, c);
            case 6 -> x.of(a, b, c);
            case 7 -> x.ill(a);
            case 8 -> x.terms(a, b);
            case 9 -> x.feed(a, b, c, d, a);
            case 10 -> x.end(a);
            case 11 -> x.row();
            case 12 -> x.forgot();
            case 13 -> x.law();
            case 14 -> x.fault();
            case 15 -> x.force(a);
            case 16 -> x.night(a);
            case 17 -> x.who(a);
            case 18 -> x.changed();
            case 19 -> x.chain(a, b);
            case 20 -> x.nth(a, b);
            case 21 -> x.gives(a);
            case 22 -> x.clear();
            case 23 -> x.judge(a);
            case 24 -> x.shut(a);
            case 25 -> x.closing(a);
            case 26 -> x.safe(a);
            case 27 -> x.unsafe(a);
            case 28 -> x.most();
            case 29 -> x.missed(a);
            case 30 -> x.key(a);
            case 31 -> x.odds(a);
            case 32 -> x.lesson(a, b, c, d);
            case 33 -> x.drop(a);
            case 34 -> x.learn(a, b);
            case 35 -> x.worth(a, b);
            case 36 -> x.teach(a);
            case 37 -> x.season(a, b);
            case 38 -> x.week(a, b);
            case 39 -> x.learnt(a, b);
            case 40 -> x.image(a);
            case 41 -> x.back(a);
            case 42 -> x.count(a);
            default -> x.status();
        }
    }
}
