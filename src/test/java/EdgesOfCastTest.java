/** Promises 1 to 10: a test of its own for each sentence that names an edge. */
public final class EdgesOfCastTest extends Edges {
    private static final int LEAST = Integer.MIN_VALUE;
    private static final int MOST = Integer.MAX_VALUE;

    public static void main(String[] args) throws Exception {
        runAll(EdgesOfCastTest.class);
    }

    // Promise 1: a new object.

    static void p01_noActorsNoParts() {
        IllTonight x = new IllTonight();
        asks(x, 0, "actors", () -> x.count(0));
        asks(x, 0, "parts", () -> x.count(1));
    }

    static void p01_noneIsMinusOne() {
        due("NONE", IllTonight.NONE, -1);
    }

    static void p01_nobodyIsIll() {
        due("ill", new IllTonight().count(5), 0);
    }

    static void p01_termsAtFirst() {
        IllTonight x = new IllTonight();
        due("need", x.count(13), 1);
        due("doubles", x.count(14), 0);
        due("week", x.count(15), 0);
    }

    static void p01_noLawsNoneInForce() {
        IllTonight x = new IllTonight();
        due("laws", x.count(2), 0);
        due("in force", x.count(12), -1);
        asks(x, -1, "fault", x::fault);
    }

    static void p01_emptyTape() {
        IllTonight x = new IllTonight();
        due("bytes", x.count(6), 0);
        asks(x, 0, "forgot", x::forgot);
        asks(x, 0, "end(0)", () -> x.end(0));
        asks(x, -1, "end(1)", () -> x.end(1));
    }

    static void p01_noLessons() {
        due("lessons", new IllTonight().count(3), 0);
    }

    static void p01_nothingToldByHand() {
        IllTonight x = new IllTonight();
        due("told", x.count(4), 0);
        asks(x, 0, "clear", x::clear);
        asks(x, -1, "judge(0)", () -> x.judge(0));
        asks(x, 0, "judge(1)", () -> x.judge(1));
    }

    static void p01_noSeason() {
        IllTonight x = new IllTonight();
        asks(x, -1, "week", () -> x.week(0, 0));
        asks(x, -1, "learnt", () -> x.learnt(0, 0));
    }

    static void p01_noImages() {
        IllTonight x = new IllTonight();
        refused(x, -2, "back(0)", () -> x.back(0));
        refused(x, -2, "back(1)", () -> x.back(1));
    }

    static void p01_nothingRefused() {
        IllTonight x = new IllTonight();
        due("status", x.status(), 0);
        for (int what = 7; what <= 11; what++) {
            due("count(" + what + ")", x.count(what), 0);
        }
    }

    static void p01_withoutPartsItIsOpen() {
        IllTonight x = new IllTonight();
        asks(x, 0, "night(0)", () -> x.night(0));
        asks(x, 1, "night(1)", () -> x.night(1));
        asks(x, 1, "night(2)", () -> x.night(2));
        asks(x, 0, "changed", x::changed);
        asks(x, 0, "shut(0)", () -> x.shut(0));
        asks(x, 0, "closing sets", () -> x.closing(-1));
        asks(x, 8, "most", x::most);
        asks(x, 0, "odds(0)", () -> x.odds(0));
        asks(x, 0, "odds(1)", () -> x.odds(1));
        asks(x, 0, "hours", () -> x.learn(3, 0));
        asks(x, 1, "sets of lessons", () -> x.learn(3, 2));
    }

    static void p01_twoObjectsShareNothing() {
        IllTonight x = knowing(2, 2, 5);
        rule(x, "cost 9");
        x.season(1, 3);
        x.image(0);
        IllTonight y = new IllTonight();
        due("actors of the other", y.count(0), 0);
        due("laws of the other", y.count(2), 0);
        due("season of the other", y.week(0, 0), -1);
        due("image of the other", y.back(0), -2);
        y.actor(100, 0, 0, 0);
        y.part(0, 0, 0);
        due("known of the other", y.of(0, 0, 0), 0);
        due("known here", x.of(0, 0, 0), 5);
    }

    // Promise 2: actor.

    static void p02_height() {
        IllTonight x = new IllTonight();
        range(x, "height", 100, 220, v -> x.actor(v, 0, 0, 0));
    }

    static void p02_coat() {
        IllTonight x = new IllTonight();
        range(x, "coat", 0, 9, v -> x.actor(100, v, 0, 0));
    }

    static void p02_voice() {
        IllTonight x = new IllTonight();
        range(x, "voice", 0, 9, v -> x.actor(100, 0, v, 0));
    }

    static void p02_frail() {
        IllTonight x = new IllTonight();
        range(x, "frail", 0, 100, v -> x.actor(100, 0, 0, v));
    }

    static void p02_eachIsKept() {
        IllTonight x = new IllTonight();
        taken(x, 0, "the least", () -> x.actor(100, 0, 0, 0));
        taken(x, 1, "the greatest", () -> x.actor(220, 9, 9, 100));
        due("least height", x.turn(0, 0, 101), 100);
        due("least coat", x.turn(0, 1, 1), 0);
        due("least voice", x.turn(0, 2, 1), 0);
        due("least frail", x.turn(0, 3, 1), 0);
        due("greatest height", x.turn(1, 0, 101), 220);
        due("greatest coat", x.turn(1, 1, 1), 9);
        due("greatest voice", x.turn(1, 2, 1), 9);
        due("greatest frail", x.turn(1, 3, 1), 100);
    }

    static void p02_eightAtMost() {
        IllTonight x = new IllTonight();
        for (int i = 0; i < 8; i++) {
            int number = i;
            taken(x, number, "actor " + number, () -> x.actor(150, 0, 0, 0));
        }
        refused(x, -5, "the ninth", () -> x.actor(150, 0, 0, 0));
        refused(x, -5, "the ninth again", () -> x.actor(150, 0, 0, 0));
        due("actors", x.count(0), 8);
    }

    static void p02_wrongNumberAheadOfNoRoom() {
        IllTonight x = cast(8, 0);
        refused(x, -1, "the ninth, too small", () -> x.actor(99, 0, 0, 0));
        refused(x, -1, "the ninth, too frail", () -> x.actor(150, 0, 0, 101));
    }

    static void p02_severalWrongAreOneRefusal() {
        IllTonight x = new IllTonight();
        refused(x, -1, "all wrong", () -> x.actor(0, -1, 10, -1));
    }

    static void p02_aNewOneKnowsNothing() {
        IllTonight x = knowing(1, 3, 9);
        x.ill(1);
        taken(x, 1, "actor", () -> x.actor(150, 0, 0, 0));
        for (int p = 0; p < 3; p++) {
            due("knows " + p, x.of(1, p, 0), 0);
        }
        due("is not ill", x.count(5), 1);
    }

    static void p02_roomAgainBehindBack() {
        IllTonight x = cast(7, 1);
        x.image(0);
        x.actor(150, 0, 0, 0);
        x.knows(7, 0, 6);
        x.back(0);
        taken(x, 7, "the eighth anew", () -> x.actor(160, 1, 1, 1));
        due("it knows nothing", x.of(7, 0, 0), 0);
        due("its height", x.turn(7, 0, 150), 160);
        refused(x, -5, "the ninth", () -> x.actor(150, 0, 0, 0));
    }

    // Promise 3: part.

    static void p03_coat() {
        IllTonight x = new IllTonight();
        range(x, "coat", 0, 9, v -> x.part(v, 0, 0));
    }

    static void p03_song() {
        IllTonight x = new IllTonight();
        range(x, "song", 0, 9, v -> x.part(0, v, 0));
    }

    static void p03_scenes() {
        IllTonight x = new IllTonight();
        range(x, "scenes", 0, 255, v -> x.part(0, 0, v));
    }

    static void p03_eachIsKept() {
        IllTonight x = new IllTonight();
        taken(x, 0, "the least", () -> x.part(0, 0, 0));
        taken(x, 1, "the greatest", () -> x.part(9, 9, 255));
        due("least coat", x.alter(0, 0, 1), 0);
        due("least song", x.alter(0, 1, 1), 0);
        due("least scenes", x.alter(0, 2, 1), 0);
        due("greatest coat", x.alter(1, 0, 1), 9);
        due("greatest song", x.alter(1, 1, 1), 9);
        due("greatest scenes", x.alter(1, 2, 1), 255);
    }

    static void p03_eightAtMost() {
        IllTonight x = new IllTonight();
        for (int i = 0; i < 8; i++) {
            int number = i;
            taken(x, number, "part " + number, () -> x.part(0, 0, 0));
        }
        refused(x, -5, "the ninth", () -> x.part(0, 0, 0));
        refused(x, -5, "the ninth again", () -> x.part(0, 0, 0));
        due("parts", x.count(1), 8);
    }

    static void p03_wrongNumberAheadOfNoRoom() {
        IllTonight x = cast(0, 8);
        refused(x, -1, "the ninth, coat", () -> x.part(10, 0, 0));
        refused(x, -1, "the ninth, scenes", () -> x.part(0, 0, 256));
    }

    static void p03_severalWrongAreOneRefusal() {
        IllTonight x = new IllTonight();
        refused(x, -1, "all wrong", () -> x.part(-1, 10, -1));
    }

    static void p03_aNewOneIsNobodys() {
        IllTonight x = knowing(2, 1, 9);
        taken(x, 1, "part", () -> x.part(0, 0, 0));
        due("nobody plays it usually", x.usual(1, -1), -1);
        due("nobody knows it", x.of(0, 1, 0) + x.of(1, 1, 0), 0);
        due("it shuts the house", x.night(0), -1);
    }

    static void p03_roomAgainBehindBack() {
        IllTonight x = cast(1, 7);
        x.image(1);
        x.part(0, 0, 0);
        x.usual(7, 0);
        x.knows(0, 7, 3);
        x.back(1);
        taken(x, 7, "the eighth anew", () -> x.part(2, 3, 4));
        due("nobody plays it usually", x.usual(7, -1), -1);
        due("nobody knows it", x.of(0, 7, 0), 0);
        refused(x, -5, "the ninth", () -> x.part(0, 0, 0));
    }

    // Promise 4: turn.

    static void p04_height() {
        IllTonight x = cast(2, 1);
        range(x, "height", 100, 220, v -> x.turn(1, 0, v));
        taken(x, 220, "the greatest was taken", () -> x.turn(1, 0, 100));
        taken(x, 100, "the least was taken", () -> x.turn(1, 0, 150));
        due("the other's stays", x.turn(0, 0, 150), 150);
    }

    static void p04_coat() {
        IllTonight x = cast(2, 1);
        range(x, "coat", 0, 9, v -> x.turn(1, 1, v));
        taken(x, 9, "the greatest was taken", () -> x.turn(1, 1, 0));
        taken(x, 0, "the least was taken", () -> x.turn(1, 1, 5));
        due("the other's stays", x.turn(0, 1, 0), 0);
    }

    static void p04_voice() {
        IllTonight x = cast(2, 1);
        range(x, "voice", 0, 9, v -> x.turn(1, 2, v));
        taken(x, 9, "the greatest was taken", () -> x.turn(1, 2, 0));
        taken(x, 0, "the least was taken", () -> x.turn(1, 2, 5));
        due("the other's stays", x.turn(0, 2, 0), 0);
    }

    static void p04_frail() {
        IllTonight x = cast(2, 1);
        range(x, "frail", 0, 100, v -> x.turn(1, 3, v));
        taken(x, 100, "the greatest was taken", () -> x.turn(1, 3, 0));
        taken(x, 0, "the least was taken", () -> x.turn(1, 3, 50));
        due("the other's stays", x.turn(0, 3, 0), 0);
    }

    static void p04_whatBeyondIsAWrongNumber() {
        for (int what : new int[] {-1, 4, LEAST, MOST}) {
            IllTonight x = cast(2, 1);
            refused(x, -1, "turn what " + what, () -> x.turn(0, what, 100));
            refused(x, -1, "turn what " + what, () -> x.turn(0, what, 0));
        }
    }

    static void p04_whatMayBeForOneMayNotForAnother() {
        IllTonight x = cast(1, 1);
        refused(x, -1, "a height that is a frail", () -> x.turn(0, 0, 50));
        refused(x, -1, "a coat that is a height", () -> x.turn(0, 1, 150));
        refused(x, -1, "a voice that is a frail", () -> x.turn(0, 2, 50));
        refused(x, -1, "a frail that is a height", () -> x.turn(0, 3, 150));
    }

    static void p04_noSuchActor() {
        IllTonight x = cast(3, 1);
        noSuch(x, "turn", 0, 3, a -> x.turn(a, 0, 150));
    }

    static void p04_noActorAtAll() {
        IllTonight x = new IllTonight();
        refused(x, -2, "turn with nobody there", () -> x.turn(0, 0, 150));
    }

    static void p04_theEighthButNotTheNinth() {
        IllTonight x = cast(8, 0);
        taken(x, 157, "turn the eighth", () -> x.turn(7, 0, 200));
        refused(x, -2, "turn the ninth", () -> x.turn(8, 0, 200));
    }

    static void p04_wrongNumberAheadOfNoSuchActor() {
        IllTonight x = cast(1, 1);
        refused(x, -1, "wrong value of none", () -> x.turn(1, 0, 99));
        refused(x, -1, "wrong what of none", () -> x.turn(-1, 4, 100));
    }

    // Promise 5: alter.

    static void p05_coat() {
        IllTonight x = cast(1, 2);
        range(x, "coat", 0, 9, v -> x.alter(1, 0, v));
        taken(x, 9, "the greatest was taken", () -> x.alter(1, 0, 0));
        taken(x, 0, "the least was taken", () -> x.alter(1, 0, 5));
        due("the other's stays", x.alter(0, 0, 0), 0);
    }

    static void p05_song() {
        IllTonight x = cast(1, 2);
        range(x, "song", 0, 9, v -> x.alter(1, 1, v));
        taken(x, 9, "the greatest was taken", () -> x.alter(1, 1, 0));
        taken(x, 0, "the least was taken", () -> x.alter(1, 1, 5));
        due("the other's stays", x.alter(0, 1, 0), 0);
    }

    static void p05_scenes() {
        IllTonight x = cast(1, 2);
        range(x, "scenes", 0, 255, v -> x.alter(1, 2, v));
        taken(x, 255, "the greatest was taken", () -> x.alter(1, 2, 0));
        taken(x, 0, "the least was taken", () -> x.alter(1, 2, 2));
        due("the other's stays", x.alter(0, 2, 1), 1);
    }

    static void p05_whatBeyondIsAWrongNumber() {
        IllTonight x = cast(1, 2);
        for (int what : new int[] {-1, 3, LEAST, MOST}) {
            refused(x, -1, "alter what " + what, () -> x.alter(0, what, 0));
        }
    }

    static void p05_whatMayBeForOneMayNotForAnother() {
        IllTonight x = cast(1, 1);
        refused(x, -1, "a coat that is scenes", () -> x.alter(0, 0, 255));
        refused(x, -1, "a song that is scenes", () -> x.alter(0, 1, 10));
        taken(x, 1, "scenes beyond a coat", () -> x.alter(0, 2, 10));
    }

    static void p05_noSuchPart() {
        IllTonight x = cast(1, 3);
        noSuch(x, "alter", 0, 3, p -> x.alter(p, 0, 0));
    }

    static void p05_noPartAtAll() {
        IllTonight x = cast(3, 0);
        refused(x, -2, "alter with no part there", () -> x.alter(0, 0, 0));
    }

    static void p05_theEighthButNotTheNinth() {
        IllTonight x = cast(0, 8);
        taken(x, 128, "alter the eighth", () -> x.alter(7, 2, 1));
        refused(x, -2, "alter the ninth", () -> x.alter(8, 2, 1));
    }

    static void p05_wrongNumberAheadOfNoSuchPart() {
        IllTonight x = cast(1, 1);
        refused(x, -1, "wrong value of none", () -> x.alter(1, 2, 256));
        refused(x, -1, "wrong what of none", () -> x.alter(-1, 3, 0));
    }

    // Promise 6: usual.

    static void p06_nobodyAtFirst() {
        IllTonight x = cast(1, 8);
        for (int i = 0; i < 8; i++) {
            int part = i;
            taken(x, -1, "usual of part " + part, () -> x.usual(part, 0));
        }
    }

    static void p06_nobodyIsNone() {
        IllTonight x = cast(2, 1);
        taken(x, -1, "from nobody to nobody", () -> x.usual(0, -1));
        taken(x, -1, "from nobody", () -> x.usual(0, 1));
        taken(x, 1, "to nobody", () -> x.usual(0, -1));
        taken(x, -1, "from nobody again", () -> x.usual(0, 0));
        taken(x, 0, "to the same", () -> x.usual(0, 0));
    }

    static void p06_anActorMayHaveSeveral() {
        IllTonight x = cast(2, 8);
        for (int i = 0; i < 8; i++) {
            int part = i;
            taken(x, -1, "usual of part " + part, () -> x.usual(part, 1));
        }
        due("the first still is his", x.usual(0, 0), 1);
        due("the last, too", x.usual(7, 0), 1);
    }

    static void p06_noSuchPart() {
        IllTonight x = cast(2, 3);
        noSuch(x, "usual of part", 0, 3, p -> x.usual(p, 0));
        IllTonight y = cast(2, 3);
        noSuch(y, "usual, nobody, of part", 0, 3, p -> y.usual(p, -1));
    }

    static void p06_noSuchActor() {
        IllTonight x = cast(3, 2);
        noSuch(x, "usual by actor", -1, 3, a -> x.usual(0, a));
    }

    static void p06_neitherIsOneRefusal() {
        IllTonight x = cast(1, 1);
        refused(x, -2, "neither is there", () -> x.usual(1, 1));
    }

    static void p06_nothingThere() {
        IllTonight x = new IllTonight();
        refused(x, -2, "no part, nobody", () -> x.usual(0, -1));
        refused(x, -2, "no part", () -> x.usual(0, 0));
    }

    static void p06_staysBehindARefusal() {
        IllTonight x = cast(2, 1);
        x.usual(0, 1);
        x.usual(0, 2);
        due("still the one", x.usual(0, 0), 1);
    }

    // Promise 7: knows.

    static void p07_how() {
        IllTonight x = cast(2, 2);
        range(x, "knows", 0, 9, how -> x.knows(1, 0, how));
        taken(x, 9, "the greatest was taken", () -> x.knows(1, 0, 0));
        taken(x, 0, "the least was taken", () -> x.knows(1, 0, 1));
    }

    static void p07_noneAtFirst() {
        IllTonight x = cast(8, 8);
        for (int i = 0; i < 64; i++) {
            due("knows " + i, x.of(i / 8, i % 8, 0), 0);
        }
        taken(x, 0, "the first", () -> x.knows(0, 0, 9));
        taken(x, 0, "the last", () -> x.knows(7, 7, 9));
    }

    static void p07_onlyThisActorThisPart() {
        IllTonight x = cast(3, 3);
        x.knows(1, 1, 9);
        for (int i = 0; i < 9; i++) {
            due("knows " + i, x.of(i / 3, i % 3, 0), i == 4 ? 9 : 0);
        }
    }

    static void p07_noSuchActor() {
        IllTonight x = cast(3, 2);
        noSuch(x, "knows, actor", 0, 3, a -> x.knows(a, 0, 1));
    }

    static void p07_noSuchPart() {
        IllTonight x = cast(2, 3);
        noSuch(x, "knows, part", 0, 3, p -> x.knows(0, p, 1));
    }

    static void p07_neitherIsOneRefusal() {
        IllTonight x = cast(1, 1);
        refused(x, -2, "neither is there", () -> x.knows(1, 1, 1));
    }

    static void p07_wrongNumberAheadOfNoSuch() {
        IllTonight x = cast(1, 1);
        refused(x, -1, "too well, nobody", () -> x.knows(1, 0, 10));
        refused(x, -1, "too little, no part", () -> x.knows(0, -1, -1));
    }

    static void p07_nothingThere() {
        IllTonight x = new IllTonight();
        refused(x, -2, "nothing there", () -> x.knows(0, 0, 0));
    }

    // Promise 8: of.

    static void p08_whatBeyond() {
        IllTonight x = knowing(1, 1, 3);
        none(x, "of what", 0, 3, what -> x.of(0, 0, what));
    }

    static void p08_noSuchActor() {
        IllTonight x = knowing(3, 2, 3);
        none(x, "of actor", 0, 2, a -> x.of(a, 0, 0));
        none(x, "can of actor", 0, 2, a -> x.of(a, 0, 1));
    }

    static void p08_noSuchPart() {
        IllTonight x = knowing(2, 3, 3);
        none(x, "of part", 0, 2, p -> x.of(0, p, 0));
        none(x, "cost of part", 0, 2, p -> x.of(0, p, 2));
    }

    static void p08_nothingThere() {
        IllTonight x = new IllTonight();
        for (int what = 0; what < 4; what++) {
            int which = what;
            asks(x, -1, "of nothing " + which, () -> x.of(0, 0, which));
        }
    }

    static void p08_knowsLeastAndGreatest() {
        IllTonight x = cast(1, 1);
        asks(x, 0, "knows nothing", () -> x.of(0, 0, 0));
        x.knows(0, 0, 9);
        asks(x, 9, "knows all", () -> x.of(0, 0, 0));
    }

    static void p08_canAsWellAsNeedAtLeast() {
        IllTonight x = cast(1, 1);
        for (int need = 0; need <= 9; need++) {
            x.terms(0, need);
            for (int how = 0; how <= 9; how++) {
                x.knows(0, 0, how);
                due("can with " + how + " of " + need, x.of(0, 0, 1), how >= need ? 1 : 0);
            }
        }
    }

    static void p08_canThoughIll() {
        IllTonight x = knowing(1, 1, 1);
        x.ill(1);
        asks(x, 1, "can", () -> x.of(0, 0, 1));
    }

    static void p08_letsWithoutKnowing() {
        IllTonight x = cast(1, 1);
        x.terms(0, 9);
        asks(x, 0, "can't", () -> x.of(0, 0, 1));
        rule(x, "lets");
        asks(x, 1, "is let", () -> x.of(0, 0, 1));
    }

    static void p08_barsWhoKnowsAndWhoIsLet() {
        IllTonight x = knowing(1, 1, 9);
        rule(x, "bars");
        asks(x, 0, "knows, is barred", () -> x.of(0, 0, 1));
        rule(x, "bars;lets");
        asks(x, 0, "is let, is barred", () -> x.of(0, 0, 1));
        rule(x, "bars;lets;bars if 1=2");
        asks(x, 0, "the last that holds is another", () -> x.of(0, 0, 1));
    }

    static void p08_costWithoutAClause() {
        IllTonight x = cast(2, 1);
        x.usual(0, 1);
        asks(x, 1, "not usual", () -> x.of(0, 0, 2));
        asks(x, 0, "usual", () -> x.of(1, 0, 2));
        rule(x, "bars;lets;fades 5");
        asks(x, 1, "not usual, other clauses", () -> x.of(0, 0, 2));
        asks(x, 0, "usual, other clauses", () -> x.of(1, 0, 2));
        rule(x, "cost 7 if 1=2");
        asks(x, 1, "not usual, none that holds", () -> x.of(0, 0, 2));
        asks(x, 0, "usual, none that holds", () -> x.of(1, 0, 2));
        rule(x, "cost 7/0");
        asks(x, 1, "not usual, broken", () -> x.of(0, 0, 2));
        asks(x, 0, "usual, broken", () -> x.of(1, 0, 2));
    }

    private static void costs(String sum, int want) {
        IllTonight x = cast(1, 1);
        rule(x, "cost " + sum);
        asks(x, want, "cost " + sum, () -> x.of(0, 0, 2));
    }

    static void p08_costNearestOf0To99() {
        costs("0", 0);
        costs("0-1", 0);
        costs("0-1000*1000*1000", 0);
        costs("1", 1);
        costs("98", 98);
        costs("99", 99);
        costs("100", 99);
        costs("1000*1000*1000", 99);
    }

    private static void fades(String sum, int want) {
        IllTonight x = cast(1, 1);
        rule(x, "fades " + sum);
        asks(x, want, "fades " + sum, () -> x.of(0, 0, 3));
    }

    static void p08_fadesNearestOf0To9() {
        fades("0", 0);
        fades("0-1", 0);
        fades("0-1000*1000*1000", 0);
        fades("1", 1);
        fades("8", 8);
        fades("9", 9);
        fades("10", 9);
        fades("1000*1000*1000", 9);
    }

    static void p08_fades0Without() {
        IllTonight x = knowing(1, 1, 5);
        asks(x, 0, "no law", () -> x.of(0, 0, 3));
        rule(x, "cost 7;bars;lets");
        asks(x, 0, "no clause", () -> x.of(0, 0, 3));
        rule(x, "fades 7 if 1=2");
        asks(x, 0, "none that holds", () -> x.of(0, 0, 3));
        rule(x, "fades 7/0");
        asks(x, 0, "broken", () -> x.of(0, 0, 3));
    }

    // Promise 9: ill.

    static void p09_noneAtFirst() {
        IllTonight x = cast(8, 1);
        taken(x, 0, "which were ill", () -> x.ill(0));
    }

    static void p09_allThatAreThere() {
        for (int actors = 1; actors <= 8; actors++) {
            IllTonight x = cast(actors, 0);
            int all = (1 << actors) - 1;
            taken(x, 0, "all " + actors, () -> x.ill(all));
            taken(x, all, "none", () -> x.ill(0));
        }
    }

    static void p09_oneMoreThanAreThere() {
        for (int actors = 0; actors <= 8; actors++) {
            IllTonight x = cast(actors, 0);
            int one = 1 << actors;
            refused(x, -1, "one beyond " + actors, () -> x.ill(one));
            refused(x, -1, "all and one beyond " + actors, () -> x.ill(2 * one - 1));
        }
    }

    static void p09_below0() {
        IllTonight x = cast(8, 1);
        x.ill(5);
        refused(x, -1, "-1", () -> x.ill(-1));
        refused(x, -1, "the highest bit", () -> x.ill(LEAST));
        refused(x, -1, "the highest bit and one there", () -> x.ill(LEAST + 1));
        refused(x, -1, "all other bits", () -> x.ill(MOST));
        taken(x, 5, "which were ill", () -> x.ill(0));
    }

    static void p09_nobodyThere() {
        IllTonight x = cast(0, 3);
        taken(x, 0, "none of none", () -> x.ill(0));
        refused(x, -1, "one of none", () -> x.ill(1));
    }

    static void p09_aNewOneMayBeIll() {
        IllTonight x = cast(1, 1);
        refused(x, -1, "not there yet", () -> x.ill(2));
        x.actor(150, 0, 0, 0);
        taken(x, 0, "there now", () -> x.ill(2));
        due("ill", x.count(5), 2);
    }

    static void p09_whoWasIllIsNoMore() {
        IllTonight x = cast(3, 1);
        x.ill(3);
        taken(x, 3, "others", () -> x.ill(4));
        taken(x, 4, "not the first ones besides", () -> x.ill(0));
    }

    // Promise 10: terms.

    static void p10_need() {
        IllTonight x = cast(1, 1);
        taken(x, 1, "need at first", () -> x.terms(0, 5));
        range(x, "need", 0, 9, v -> x.terms(0, v));
        taken(x, 9, "the greatest was taken", () -> x.terms(0, 0));
        taken(x, 0, "the least was taken", () -> x.terms(0, 1));
    }

    static void p10_doubles() {
        IllTonight x = cast(1, 1);
        taken(x, 0, "doubles at first", () -> x.terms(1, 0));
        range(x, "doubles", 0, 1, v -> x.terms(1, v));
        taken(x, 1, "the greatest was taken", () -> x.terms(1, 0));
        taken(x, 0, "the least was taken", () -> x.terms(1, 1));
    }

    static void p10_week() {
        IllTonight x = cast(1, 1);
        taken(x, 0, "week at first", () -> x.terms(2, 5));
        range(x, "week", 0, 99, v -> x.terms(2, v));
        taken(x, 99, "the greatest was taken", () -> x.terms(2, 0));
        taken(x, 0, "the least was taken", () -> x.terms(2, 1));
    }

    static void p10_whatBeyond() {
        for (int what : new int[] {-1, 3, LEAST, MOST}) {
            IllTonight x = cast(1, 1);
            refused(x, -1, "term " + what, () -> x.terms(what, 0));
            refused(x, -1, "term " + what, () -> x.terms(what, 1));
        }
    }

    static void p10_whatMayBeForOneMayNotForAnother() {
        IllTonight x = cast(1, 1);
        refused(x, -1, "need that is a week", () -> x.terms(0, 99));
        refused(x, -1, "doubles that is a need", () -> x.terms(1, 9));
        taken(x, 0, "a week beyond a need", () -> x.terms(2, 10));
    }

    static void p10_oneTermLeavesTheOthers() {
        IllTonight x = new IllTonight();
        x.terms(0, 7);
        x.terms(1, 1);
        x.terms(2, 55);
        due("need", x.count(13), 7);
        due("doubles", x.count(14), 1);
        due("week", x.count(15), 55);
    }
}
