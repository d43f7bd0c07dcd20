/** Promises 18 to 33: a test of its own for each sentence that names an edge. */
public final class EdgesOfNightsTest extends Edges {
    private static final int LEAST = Integer.MIN_VALUE;
    private static final int MOST = Integer.MAX_VALUE;

    public static void main(String[] args) throws Exception {
        runAll(EdgesOfNightsTest.class);
    }

    /** Each PART is known by the ACTORS of its row alone, just well enough. */
    private static IllTonight known(int actors, int[]... byPart) {
        IllTonight x = cast(actors, byPart.length);
        for (int p = 0; p < byPart.length; p++) {
            for (int a : byPart[p]) {
                x.knows(a, p, 1);
            }
        }
        return x;
    }

    private static int[] by(int... actors) {
        return actors;
    }

    private static void plays(IllTonight x, int... actors) {
        for (int p = 0; p < actors.length; p++) {
            int part = p;
            asks(x, actors[part], "who plays part " + part, () -> x.who(part));
        }
    }

    private static void night(IllTonight x, int cost, int least, int all) {
        asks(x, cost, "what it costs", () -> x.night(0));
        asks(x, least, "how many cost so little", () -> x.night(1));
        asks(x, all, "how many there are", () -> x.night(2));
    }

    // Promise 18: night.

    static void p18_whatBeyond() {
        IllTonight x = knowing(2, 1, 1);
        none(x, "night", 0, 2, x::night);
        IllTonight y = cast(1, 1);
        none(y, "night that is shut", 0, 2, y::night);
    }

    static void p18_noPart() {
        night(cast(3, 0), 0, 1, 1);
    }

    static void p18_noPartAllIll() {
        IllTonight x = cast(3, 0);
        x.ill(7);
        night(x, 0, 1, 1);
    }

    static void p18_noActor() {
        night(cast(0, 1), -1, 0, 0);
        night(cast(0, 8), -1, 0, 0);
    }

    static void p18_oneForOne() {
        night(knowing(1, 1, 1), 1, 1, 1);
    }

    static void p18_nobodyCan() {
        night(known(3, by(0, 1, 2), by()), -1, 0, 0);
    }

    static void p18_whoCanIsIll() {
        IllTonight x = knowing(2, 1, 1);
        x.ill(1);
        night(x, 1, 1, 1);
        x.ill(3);
        night(x, -1, 0, 0);
    }

    static void p18_asManyPartsAsActors() {
        night(knowing(3, 3, 1), 3, 6, 6);
    }

    static void p18_onePartMoreThanActors() {
        night(knowing(3, 4, 1), -1, 0, 0);
    }

    static void p18_twoWhoCanForThree() {
        night(known(3, by(0, 1), by(0, 1), by(0, 1)), -1, 0, 0);
    }

    static void p18_needJustMet() {
        IllTonight x = knowing(1, 1, 4);
        x.terms(0, 4);
        night(x, 1, 1, 1);
        x.terms(0, 5);
        night(x, -1, 0, 0);
    }

    static void p18_onlyTheLeastAreCounted() {
        IllTonight x = knowing(3, 1, 1);
        x.usual(0, 1);
        night(x, 0, 1, 3);
        x.usual(0, -1);
        night(x, 1, 3, 3);
    }

    static void p18_theGreatestCost() {
        IllTonight x = knowing(8, 8, 1);
        rule(x, "cost 99");
        night(x, 792, 40320, 40320);
        rule(x, "cost 1000");
        night(x, 792, 40320, 40320);
    }

    static void p18_theLeastCost() {
        IllTonight x = knowing(8, 8, 1);
        rule(x, "cost 0-5");
        night(x, 0, 40320, 40320);
    }

    static void p18_theMostNights() {
        IllTonight x = knowing(8, 8, 1);
        x.terms(1, 1);
        night(x, 8, 8401680, 8401680);
    }

    static void p18_withoutDoublesOneAtMost() {
        night(knowing(1, 2, 1), -1, 0, 0);
    }

    static void p18_withDoublesTwoAtMost() {
        IllTonight x = knowing(1, 2, 1);
        x.terms(1, 1);
        night(x, 2, 1, 1);
        IllTonight y = knowing(1, 3, 1);
        y.terms(1, 1);
        night(y, -1, 0, 0);
        IllTonight z = knowing(4, 8, 1);
        z.terms(1, 1);
        night(z, 8, 2520, 2520);
        IllTonight v = knowing(3, 7, 1);
        v.terms(1, 1);
        night(v, -1, 0, 0);
    }

    static void p18_oneSceneInCommonIsTooMany() {
        for (int scene = 0; scene < 8; scene++) {
            IllTonight x = knowing(1, 2, 1);
            x.terms(1, 1);
            x.alter(0, 2, 255);
            x.alter(1, 2, 1 << scene);
            night(x, -1, 0, 0);
            x.alter(0, 2, 255 ^ 1 << scene);
            night(x, 2, 1, 1);
        }
    }

    static void p18_noScenesAreNotInCommon() {
        IllTonight x = knowing(1, 2, 1);
        x.terms(1, 1);
        x.alter(0, 2, 0);
        x.alter(1, 2, 255);
        night(x, 2, 1, 1);
        x.alter(1, 2, 0);
        night(x, 2, 1, 1);
    }

    static void p18_scenesDoNotMatterBetweenTwoActors() {
        IllTonight x = knowing(2, 2, 1);
        x.alter(0, 2, 255);
        x.alter(1, 2, 255);
        night(x, 2, 2, 2);
        x.terms(1, 1);
        night(x, 2, 2, 2);
    }

    static void p18_noRefusal() {
        IllTonight x = cast(0, 1);
        x.actor(0, 0, 0, 0);
        asks(x, -1, "shut", () -> x.night(0));
        asks(x, -1, "what beyond", () -> x.night(3));
        due("status stays", x.status(), -1);
    }

    // Promise 19: who.

    static void p19_noSuchPart() {
        IllTonight x = knowing(3, 2, 1);
        none(x, "who", 0, 1, x::who);
    }

    static void p19_shut() {
        IllTonight x = known(3, by(0, 1, 2), by());
        plays(x, -1, -1);
    }

    static void p19_noPart() {
        IllTonight x = cast(2, 0);
        asks(x, -1, "who", () -> x.who(0));
    }

    static void p19_theLastPart() {
        IllTonight x = knowing(8, 8, 1);
        plays(x, 0, 1, 2, 3, 4, 5, 6, 7);
        asks(x, -1, "the ninth part", () -> x.who(8));
    }

    static void p19_ofAlikeTheLowerAhead() {
        plays(knowing(3, 2, 1), 0, 1);
        plays(known(3, by(2, 1), by(0)), 1, 0);
        plays(known(3, by(0, 1), by(0, 1)), 0, 1);
    }

    static void p19_part0GoesAheadOfPart1() {
        // 0 1 and 1 0 both cost 2: the row that has the lower ACTOR for PART 0 is ahead.
        plays(known(2, by(1, 0), by(1, 0)), 0, 1);
        // 0 2 and 1 0: ahead is 0 2, although PART 1 has a higher ACTOR in it.
        plays(known(3, by(0, 1), by(0, 2)), 0, 2);
    }

    static void p19_lessCostGoesAheadOfLowerActors() {
        IllTonight x = knowing(3, 2, 1);
        x.usual(0, 2);
        x.usual(1, 1);
        plays(x, 2, 1);
    }

    static void p19_doublesWhereTheyAreLower() {
        IllTonight x = knowing(2, 2, 1);
        x.terms(1, 1);
        plays(x, 0, 0);
        x.alter(1, 2, 1);
        plays(x, 0, 1);
    }

    // Promise 20: changed.

    static void p20_shut() {
        IllTonight x = cast(1, 1);
        asks(x, -1, "changed", x::changed);
    }

    static void p20_noPart() {
        IllTonight x = cast(1, 0);
        asks(x, 0, "changed", x::changed);
    }

    static void p20_noneIsChanged() {
        IllTonight x = knowing(2, 2, 1);
        x.usual(0, 1);
        x.usual(1, 0);
        asks(x, 0, "changed", x::changed);
    }

    static void p20_nobodyUsuallyIsChanged() {
        IllTonight x = knowing(2, 2, 1);
        x.usual(1, 1);
        asks(x, 1, "changed", x::changed);
    }

    static void p20_allEightAreChanged() {
        IllTonight x = knowing(8, 8, 1);
        asks(x, 255, "changed", x::changed);
    }

    static void p20_theLastAloneIsChanged() {
        IllTonight x = knowing(8, 8, 1);
        for (int p = 0; p < 7; p++) {
            x.usual(p, p);
        }
        asks(x, 128, "changed", x::changed);
    }

    // Promise 21: chain.

    private static void chainIs(IllTonight x, int part, int... actors) {
        asks(x, actors.length, "length of the chain from " + part, () -> x.chain(part, -1));
        for (int i = 0; i < actors.length; i++) {
            int at = i;
            asks(x, actors[at], at + " of the chain from " + part, () -> x.chain(part, at));
        }
        asks(x, -1, "behind the chain from " + part, () -> x.chain(part, actors.length));
    }

    static void p21_notChanged() {
        IllTonight x = knowing(1, 1, 1);
        x.usual(0, 0);
        chainIs(x, 0);
    }

    static void p21_nobodyUsually() {
        chainIs(knowing(1, 1, 1), 0, 0);
    }

    static void p21_whoPlaysItPlaysNothingUsually() {
        IllTonight x = known(2, by(1));
        x.usual(0, 0);
        chainIs(x, 0, 1);
    }

    static void p21_whoPlaysItKeepsHisOwn() {
        IllTonight x = known(2, by(1), by(1));
        x.terms(1, 1);
        x.usual(0, 0);
        x.usual(1, 1);
        chainIs(x, 0, 1);
        chainIs(x, 1);
    }

    static void p21_shut() {
        IllTonight x = known(2, by(1), by());
        asks(x, -1, "length of a chain that is shut", () -> x.chain(0, -1));
        asks(x, -1, "first of a chain that is shut", () -> x.chain(0, 0));
    }

    static void p21_noSuchPart() {
        IllTonight x = knowing(2, 2, 1);
        none(x, "length of the chain from", 0, 1, p -> x.chain(p, -1));
        none(x, "first of the chain from", 0, 1, p -> x.chain(p, 0));
    }

    static void p21_noPart() {
        IllTonight x = cast(2, 0);
        asks(x, -1, "chain from none", () -> x.chain(0, -1));
    }

    static void p21_beyondTheChain() {
        IllTonight x = knowing(2, 1, 1);
        for (int i : new int[] {-2, 1, 8, LEAST, MOST}) {
            asks(x, -1, i + " of a chain of one", () -> x.chain(0, i));
        }
    }

    static void p21_ringOfTwo() {
        IllTonight x = known(2, by(1), by(0));
        x.usual(0, 0);
        x.usual(1, 1);
        chainIs(x, 0, 1, 0);
        chainIs(x, 1, 0, 1);
    }

    static void p21_ringOfEight() {
        IllTonight x = known(8, by(1), by(2), by(3), by(4), by(5), by(6), by(7), by(0));
        for (int p = 0; p < 8; p++) {
            x.usual(p, p);
        }
        chainIs(x, 0, 1, 2, 3, 4, 5, 6, 7, 0);
        chainIs(x, 7, 0, 1, 2, 3, 4, 5, 6, 7);
    }

    static void p21_theLowestOfHisParts() {
        IllTonight x = known(4, by(1), by(2), by(3));
        x.usual(0, 0);
        x.usual(1, 1);
        x.usual(2, 1);
        chainIs(x, 0, 1, 2);
    }

    static void p21_onlyOfThoseThatAreChanged() {
        IllTonight x = known(4, by(1), by(1), by(3));
        x.terms(1, 1);
        x.usual(0, 0);
        x.usual(1, 1);
        x.usual(2, 1);
        chainIs(x, 0, 1, 3);
    }

    static void p21_onlyOfThoseWhosePlayerIsNotInTheChain() {
        // 2 usually plays PARTS 2 and 3; PART 2 is played by 1, who is in the CHAIN: so it goes on by PART 3.
        IllTonight x = known(4, by(1), by(2), by(1), by(3));
        x.terms(1, 1);
        x.usual(0, 0);
        x.usual(1, 1);
        x.usual(2, 2);
        x.usual(3, 2);
        chainIs(x, 0, 1, 2, 3);
    }

    // Promise 22: nth.

    private static void nthIs(IllTonight x, int i, int... actors) {
        for (int p = 0; p < actors.length; p++) {
            int part = p;
            asks(x, actors[part], "part " + part + " of night " + i, () -> x.nth(i, part));
        }
    }

    static void p22_firstAndLast() {
        IllTonight x = knowing(3, 3, 1);
        nthIs(x, 0, 0, 1, 2);
        nthIs(x, 1, 0, 2, 1);
        nthIs(x, 4, 2, 0, 1);
        nthIs(x, 5, 2, 1, 0);
        nthIs(x, 6, -1, -1, -1);
    }

    static void p22_beyond() {
        IllTonight x = knowing(3, 1, 1);
        none(x, "night", 0, 2, i -> x.nth(i, 0));
    }

    static void p22_noSuchPart() {
        IllTonight x = knowing(3, 2, 1);
        none(x, "part", 0, 1, p -> x.nth(0, p));
        none(x, "part of the last", 0, 1, p -> x.nth(5, p));
    }

    static void p22_noPart() {
        IllTonight x = cast(2, 0);
        asks(x, -1, "the one night of no parts", () -> x.nth(0, 0));
    }

    static void p22_shut() {
        IllTonight x = cast(2, 1);
        asks(x, -1, "the first night that is shut", () -> x.nth(0, 0));
    }

    static void p22_onlyTheLeast() {
        IllTonight x = knowing(3, 1, 1);
        x.usual(0, 1);
        nthIs(x, 0, 1);
        nthIs(x, 1, -1);
    }

    static void p22_oneNightAlone() {
        IllTonight x = known(2, by(1), by(0));
        nthIs(x, 0, 1, 0);
        nthIs(x, 1, -1, -1);
    }

    static void p22_doubles() {
        IllTonight x = knowing(2, 2, 1);
        x.terms(1, 1);
        nthIs(x, 0, 0, 0);
        nthIs(x, 1, 0, 1);
        nthIs(x, 2, 1, 0);
        nthIs(x, 3, 1, 1);
        nthIs(x, 4, -1, -1);
    }

    static void p22_threeForTwoWithDoubles() {
        IllTonight x = knowing(2, 3, 1);
        x.terms(1, 1);
        nthIs(x, 0, 0, 0, 1);
        nthIs(x, 1, 0, 1, 0);
        nthIs(x, 2, 0, 1, 1);
        nthIs(x, 3, 1, 0, 0);
        nthIs(x, 4, 1, 0, 1);
        nthIs(x, 5, 1, 1, 0);
        nthIs(x, 6, -1, -1, -1);
    }

    static void p22_whatCostsNothing() {
        IllTonight x = knowing(2, 2, 1);
        rule(x, "cost 0");
        nthIs(x, 0, 0, 1);
        nthIs(x, 1, 1, 0);
        nthIs(x, 2, -1, -1);
        nthIs(x, 3, -1, -1);
        x.terms(1, 1);
        nthIs(x, 1, 0, 1);
        nthIs(x, 2, 1, 0);
        nthIs(x, 4, -1, -1);
    }

    static void p22_notWhoIsIll() {
        IllTonight x = knowing(3, 2, 1);
        x.ill(2);
        nthIs(x, 0, 0, 2);
        nthIs(x, 1, 2, 0);
        nthIs(x, 2, -1, -1);
        x.ill(7);
        nthIs(x, 0, -1, -1);
    }

    static void p22_theLastOfTheMost() {
        IllTonight x = knowing(8, 8, 1);
        x.terms(1, 1);
        nthIs(x, 0, 0, 0, 1, 1, 2, 2, 3, 3);
        nthIs(x, 8401679, 7, 7, 6, 6, 5, 5, 4, 4);
        nthIs(x, 8401680, -1, -1, -1, -1, -1, -1, -1, -1);
    }

    static void p22_theFirstIsWho() {
        IllTonight x = knowing(3, 2, 1);
        x.usual(1, 0);
        nthIs(x, 0, 1, 0);
        plays(x, 1, 0);
    }

    // Promise 23: gives.

    static void p23_theNextPart() {
        IllTonight x = cast(2, 8);
        for (int i = 1; i <= 8; i++) {
            int told = i;
            taken(x, told, "part " + told, () -> x.gives(told & 1));
        }
        refused(x, -3, "the ninth", () -> x.gives(0));
    }

    static void p23_allAreTold() {
        IllTonight x = cast(2, 1);
        taken(x, 1, "the only part", () -> x.gives(1));
        refused(x, -3, "one more", () -> x.gives(1));
        due("told", x.count(4), 1);
    }

    static void p23_noPart() {
        IllTonight x = cast(2, 0);
        refused(x, -3, "all of none are told", () -> x.gives(0));
    }

    static void p23_noSuchActor() {
        IllTonight x = cast(2, 2);
        noSuch(x, "gives", 0, 2, x::gives);
    }

    static void p23_nobodyThere() {
        IllTonight x = cast(0, 2);
        refused(x, -2, "gives", () -> x.gives(0));
    }

    static void p23_noSuchActorAheadOfAllTold() {
        IllTonight x = cast(1, 1);
        x.gives(0);
        refused(x, -2, "nobody, all told", () -> x.gives(1));
        refused(x, -2, "NONE, all told", () -> x.gives(-1));
        IllTonight y = new IllTonight();
        refused(y, -2, "nobody, no part", () -> y.gives(0));
    }

    static void p23_oneMorePartLeavesRoom() {
        IllTonight x = cast(1, 1);
        x.gives(0);
        x.part(0, 0, 0);
        taken(x, 2, "the new part", () -> x.gives(0));
        refused(x, -3, "one more", () -> x.gives(0));
    }

    static void p23_whoCanNotAndWhoIsIllMayBeTold() {
        IllTonight x = cast(2, 2);
        x.ill(1);
        taken(x, 1, "who is ill", () -> x.gives(0));
        taken(x, 2, "who can't", () -> x.gives(1));
    }

    // Promise 24: clear.

    static void p24_nothingTold() {
        IllTonight x = cast(1, 1);
        asks(x, 0, "clear", x::clear);
        asks(x, 0, "clear again", x::clear);
    }

    static void p24_allTold() {
        IllTonight x = cast(1, 8);
        for (int i = 0; i < 8; i++) {
            x.gives(0);
        }
        asks(x, 8, "clear", x::clear);
        due("told then", x.count(4), 0);
        asks(x, 0, "clear again", x::clear);
        taken(x, 1, "from the first part again", () -> x.gives(0));
    }

    static void p24_leavesAStatus() {
        IllTonight x = cast(1, 1);
        x.gives(0);
        x.gives(0);
        asks(x, 1, "clear", x::clear);
        due("status", x.status(), -3);
    }

    // Promise 25: judge.

    private static void judged(IllTonight x, int wrong, int cost) {
        asks(x, wrong, "the first wrong one", () -> x.judge(0));
        asks(x, cost, "what they cost", () -> x.judge(1));
    }

    private static void give(IllTonight x, int... actors) {
        for (int a : actors) {
            x.gives(a);
        }
    }

    static void p25_whatBeyond() {
        IllTonight x = cast(1, 1);
        none(x, "judge of none", 0, 1, x::judge);
        x.gives(0);
        none(x, "judge of a wrong one", 0, 1, x::judge);
    }

    static void p25_nothingTold() {
        judged(new IllTonight(), -1, 0);
        judged(cast(2, 2), -1, 0);
        IllTonight x = cast(1, 1);
        x.gives(0);
        x.clear();
        judged(x, -1, 0);
    }

    static void p25_allMayBe() {
        IllTonight x = knowing(8, 8, 1);
        rule(x, "cost 99");
        give(x, 7, 6, 5, 4, 3, 2, 1, 0);
        judged(x, -1, 792);
    }

    static void p25_notAllToldYet() {
        IllTonight x = known(2, by(1), by());
        give(x, 1);
        judged(x, -1, 1);
    }

    static void p25_heCannot() {
        IllTonight x = known(2, by(0), by(0));
        give(x, 0, 1);
        judged(x, 1, 2);
    }

    static void p25_heIsBarred() {
        IllTonight x = knowing(2, 2, 9);
        rule(x, "bars if actor=1");
        give(x, 0, 1);
        judged(x, 1, 2);
    }

    static void p25_heIsIll() {
        IllTonight x = knowing(2, 2, 1);
        give(x, 0, 1);
        judged(x, -1, 2);
        x.ill(2);
        judged(x, 1, 2);
        x.ill(1);
        judged(x, 0, 2);
    }

    static void p25_hasTwoWithoutDoubles() {
        IllTonight x = knowing(2, 3, 1);
        give(x, 0, 1, 0);
        judged(x, 2, 3);
    }

    static void p25_hasTwoWithDoubles() {
        IllTonight x = knowing(2, 3, 1);
        x.terms(1, 1);
        give(x, 0, 1, 0);
        judged(x, -1, 3);
    }

    static void p25_hasThreeWithDoubles() {
        IllTonight x = knowing(2, 4, 1);
        x.terms(1, 1);
        give(x, 0, 0, 1, 0);
        judged(x, 3, 4);
    }

    static void p25_aSceneInCommonWithOneAhead() {
        IllTonight x = knowing(2, 3, 1);
        x.terms(1, 1);
        x.alter(0, 2, 130);
        x.alter(2, 2, 129);
        give(x, 0, 1, 0);
        judged(x, 2, 3);
        x.alter(2, 2, 125);
        judged(x, -1, 3);
    }

    static void p25_aSceneInCommonWithAnotherOnesPart() {
        IllTonight x = knowing(2, 3, 1);
        x.terms(1, 1);
        x.alter(1, 2, 255);
        give(x, 0, 1, 0);
        judged(x, -1, 3);
    }

    static void p25_theFirstOfSeveralWrong() {
        IllTonight x = known(2, by(0), by(), by());
        give(x, 0, 1, 1);
        judged(x, 1, 3);
        x.ill(1);
        judged(x, 0, 3);
    }

    static void p25_usualCostsNothing() {
        IllTonight x = knowing(2, 2, 1);
        x.usual(0, 1);
        give(x, 1, 0);
        judged(x, -1, 1);
    }

    // Promise 26: shut.

    static void p26_nobodyIll() {
        IllTonight x = knowing(1, 1, 1);
        asks(x, 0, "open", () -> x.shut(0));
        IllTonight y = cast(1, 1);
        asks(y, 1, "shut", () -> y.shut(0));
    }

    static void p26_allIll() {
        IllTonight x = knowing(8, 1, 1);
        asks(x, 1, "all", () -> x.shut(255));
        asks(x, 0, "all but the last", () -> x.shut(127));
        asks(x, 0, "all but the first", () -> x.shut(254));
        IllTonight y = cast(8, 0);
        asks(y, 0, "all, no part", () -> y.shut(255));
    }

    static void p26_whoIsNotThere() {
        for (int actors = 0; actors <= 8; actors++) {
            IllTonight x = cast(actors, 1);
            int one = 1 << actors;
            asks(x, -1, "one beyond " + actors, () -> x.shut(one));
            asks(x, -1, "one beyond " + actors + " and others", () -> x.shut(2 * one - 1));
        }
    }

    static void p26_below0() {
        IllTonight x = cast(8, 1);
        asks(x, -1, "-1", () -> x.shut(-1));
        asks(x, -1, "the highest bit", () -> x.shut(LEAST));
        asks(x, -1, "all other bits", () -> x.shut(MOST));
    }

    static void p26_nobodyThere() {
        IllTonight x = cast(0, 1);
        asks(x, 1, "a part and nobody", () -> x.shut(0));
        IllTonight y = new IllTonight();
        asks(y, 0, "no part and nobody", () -> y.shut(0));
    }

    static void p26_justThese() {
        IllTonight x = knowing(2, 1, 1);
        x.ill(1);
        asks(x, 0, "not those told ill besides", () -> x.shut(2));
        x.ill(3);
        asks(x, 0, "nobody, though all are told ill", () -> x.shut(0));
    }

    static void p26_doublesTwoAtMost() {
        IllTonight x = knowing(4, 4, 1);
        x.terms(1, 1);
        for (int set = 0; set < 16; set++) {
            int ill = set;
            asks(x, Integer.bitCount(ill) > 2 ? 1 : 0, "shut by " + ill, () -> x.shut(ill));
        }
        x.terms(1, 0);
        asks(x, 0, "nobody ill, no doubles", () -> x.shut(0));
        asks(x, 1, "one ill, no doubles", () -> x.shut(8));
    }

    static void p26_doublesWithASceneInCommon() {
        IllTonight x = knowing(2, 2, 1);
        x.terms(1, 1);
        asks(x, 0, "no scene in common", () -> x.shut(1));
        x.alter(1, 2, 129);
        asks(x, 1, "a scene in common", () -> x.shut(1));
        x.alter(0, 2, 0);
        asks(x, 0, "no scene at all", () -> x.shut(1));
    }

    static void p26_eachOfEightParts() {
        for (int p = 0; p < 8; p++) {
            IllTonight x = knowing(8, 8, 1);
            x.terms(1, 1);
            for (int a = 0; a < 8; a++) {
                x.knows(a, p, 0);
            }
            asks(x, 1, "nobody knows part " + p, () -> x.shut(0));
            int one = p;
            x.knows(one, p, 1);
            asks(x, 0, "one knows part " + p, () -> x.shut(0));
            asks(x, 1, "one knows part " + p + ", and is ill", () -> x.shut(1 << one));
            asks(x, 0, "three others and he are left", () -> x.shut(255 ^ (1 << one | 1 << (one + 1) % 8 | 1 << (one + 2) % 8
                | 1 << (one + 3) % 8)));
        }
    }

    /** ACTOR 0 alone knows these two PARTS: he must have both, which he may if they have no SCENE in common. */
    static void p26_pairsOfEachTwoParts() {
        for (int a = 0; a < 8; a++) {
            for (int b = 0; b < 8; b++) {
                if (a != b) {
                    IllTonight x = knowing(8, 8, 1);
                    x.terms(1, 1);
                    for (int i = 1; i < 8; i++) {
                        x.knows(i, a, 0);
                        x.knows(i, b, 0);
                    }
                    due(a + " and " + b + " by one", x.shut(0), 0);
                    x.alter(a, 2, 255);
                    due(a + " and " + b + " in common", x.shut(0), 1);
                }
            }
        }
    }

    // Promise 27: closing.

    private static void closingsAre(IllTonight x, int... sets) {
        asks(x, sets.length, "closing sets", () -> x.closing(-1));
        for (int i = 0; i < sets.length; i++) {
            int at = i;
            asks(x, sets[at], "closing set " + at, () -> x.closing(at));
        }
        for (int beyond : new int[] {sets.length, -2, LEAST, MOST}) {
            asks(x, -1, "closing set " + beyond, () -> x.closing(beyond));
        }
    }

    static void p27_neverShut() {
        closingsAre(cast(8, 0));
        closingsAre(new IllTonight());
    }

    static void p27_shutWithNobodyIll() {
        closingsAre(cast(0, 1), 0);
        closingsAre(known(3, by(0, 1, 2), by()), 0);
    }

    static void p27_oneAlone() {
        closingsAre(known(3, by(2)), 4);
    }

    static void p27_allOfThem() {
        closingsAre(knowing(8, 1, 1), 255);
    }

    static void p27_fewerGoAheadOfLower() {
        closingsAre(known(4, by(3), by(0, 1)), 8, 3);
    }

    static void p27_lowerOfAsMany() {
        closingsAre(known(4, by(2, 3), by(0, 1)), 3, 12);
    }

    static void p27_notWithOneWhoDoesNotMatter() {
        closingsAre(known(4, by(0), by(3)), 1, 8);
    }

    static void p27_theMost() {
        IllTonight x = knowing(8, 5, 1);
        asks(x, 70, "any four of eight", () -> x.closing(-1));
        asks(x, 15, "the first", () -> x.closing(0));
        asks(x, 23, "the second", () -> x.closing(1));
        asks(x, 240, "the last", () -> x.closing(69));
        asks(x, -1, "behind the last", () -> x.closing(70));
    }

    static void p27_doubles() {
        IllTonight x = known(3, by(0, 1), by(0, 2));
        closingsAre(x, 3, 5, 6);
        x.terms(1, 1);
        closingsAre(x, 3, 5);
        x.alter(0, 2, 3);
        closingsAre(x, 3, 5, 6);
    }

    static void p27_toldIllDoNotMatter() {
        IllTonight x = known(4, by(3), by(0, 1));
        x.ill(15);
        closingsAre(x, 8, 3);
    }

    // Promises 28 and 29: safe, unsafe.

    private static void safeFor(IllTonight x, int k, int unsafe) {
        asks(x, unsafe == -1 ? 1 : 0, "safe for " + k, () -> x.safe(k));
        asks(x, unsafe, "unsafe for " + k, () -> x.unsafe(k));
    }

    static void p28_kBeyond() {
        IllTonight x = knowing(3, 1, 1);
        none(x, "safe", 0, 8, x::safe);
        IllTonight y = cast(0, 1);
        none(y, "safe though shut", 0, 8, y::safe);
        IllTonight z = cast(1, 0);
        none(z, "safe though never shut", 0, 8, z::safe);
    }

    static void p28_neverShut() {
        for (int k = 0; k <= 8; k++) {
            safeFor(cast(8, 0), k, -1);
        }
    }

    static void p28_shutWithNobodyIll() {
        for (int k = 0; k <= 8; k++) {
            safeFor(cast(8, 1), k, 0);
        }
    }

    static void p28_forNobody() {
        safeFor(known(1, by(0)), 0, -1);
        safeFor(known(1, by()), 0, 0);
    }

    static void p28_justSoMany() {
        IllTonight x = knowing(8, 4, 1);
        safeFor(x, 4, -1);
        safeFor(x, 5, 31);
        safeFor(x, 8, 31);
    }

    static void p28_allEight() {
        IllTonight x = knowing(8, 1, 1);
        safeFor(x, 7, -1);
        safeFor(x, 8, 255);
    }

    static void p28_moreThanThereAre() {
        IllTonight x = knowing(2, 1, 1);
        safeFor(x, 1, -1);
        safeFor(x, 2, 3);
        safeFor(x, 3, 3);
        safeFor(x, 8, 3);
        IllTonight y = cast(2, 0);
        safeFor(y, 3, -1);
    }

    static void p28_toldIllDoNotMatter() {
        IllTonight x = knowing(2, 1, 1);
        x.ill(3);
        safeFor(x, 1, -1);
    }

    static void p29_kBeyond() {
        IllTonight x = knowing(3, 1, 1);
        none(x, "unsafe", 0, 8, x::unsafe);
        IllTonight y = cast(0, 1);
        none(y, "unsafe though shut", 0, 8, y::unsafe);
    }

    static void p29_theFewestAheadOfTheLowest() {
        IllTonight x = known(4, by(3), by(0, 1));
        safeFor(x, 0, -1);
        safeFor(x, 1, 8);
        safeFor(x, 2, 8);
        safeFor(x, 8, 8);
    }

    static void p29_theLowestOfAsFew() {
        IllTonight x = known(4, by(3), by(1), by(2));
        safeFor(x, 1, 2);
        safeFor(x, 3, 2);
    }

    // Promise 30: most.

    static void p30_never() {
        for (int actors = 0; actors <= 8; actors++) {
            IllTonight x = cast(actors, 0);
            asks(x, 8, "never shut", x::most);
        }
    }

    static void p30_withNobodyIll() {
        IllTonight x = cast(8, 1);
        asks(x, -1, "shut with nobody", x::most);
        IllTonight y = cast(0, 8);
        asks(y, -1, "nobody there", y::most);
    }

    static void p30_forNobody() {
        IllTonight x = known(8, by(7));
        asks(x, 0, "one alone can", x::most);
    }

    static void p30_forEachNumber() {
        for (int actors = 1; actors <= 8; actors++) {
            IllTonight x = knowing(actors, 1, 1);
            asks(x, actors - 1, "all of " + actors + " can", x::most);
        }
        for (int parts = 1; parts <= 8; parts++) {
            IllTonight x = knowing(8, parts, 1);
            asks(x, 8 - parts, "all can, parts " + parts, x::most);
        }
    }

    static void p30_toldIllDoNotMatter() {
        IllTonight x = knowing(3, 1, 1);
        x.ill(7);
        asks(x, 2, "most", x::most);
    }

    // Promise 31: missed.

    static void p31_noSuchActor() {
        IllTonight x = knowing(3, 1, 1);
        none(x, "missed", 0, 2, x::missed);
        IllTonight y = cast(1, 1);
        none(y, "missed though shut", 0, -1, y::missed);
        IllTonight z = new IllTonight();
        asks(z, -1, "missed with nobody there", () -> z.missed(0));
    }

    static void p31_shutAsItIs() {
        IllTonight x = known(2, by(0), by());
        asks(x, -1, "missed", () -> x.missed(0));
        asks(x, -1, "missed, who can nothing", () -> x.missed(1));
    }

    static void p31_shutThen() {
        IllTonight x = known(2, by(1));
        asks(x, 1000, "the only one who can", () -> x.missed(1));
        asks(x, 0, "who can nothing", () -> x.missed(0));
    }

    static void p31_illAlready() {
        IllTonight x = knowing(2, 1, 1);
        x.ill(1);
        asks(x, 0, "ill already", () -> x.missed(0));
        asks(x, 1000, "the other besides", () -> x.missed(1));
    }

    static void p31_illAlreadyAndShut() {
        IllTonight x = knowing(2, 1, 1);
        x.ill(3);
        asks(x, -1, "ill already, shut", () -> x.missed(0));
    }

    static void p31_anotherCostsAsMuch() {
        IllTonight x = knowing(2, 1, 1);
        asks(x, 0, "who plays it", () -> x.missed(0));
        asks(x, 0, "who does not", () -> x.missed(1));
    }

    static void p31_oneMore() {
        IllTonight x = knowing(2, 1, 1);
        x.usual(0, 1);
        asks(x, 1, "who plays it usually", () -> x.missed(1));
        asks(x, 0, "the other", () -> x.missed(0));
    }

    static void p31_theMost() {
        // 0 plays PART 0 at no cost; without him each steps up at the greatest.
        IllTonight x = known(8, by(0, 1), by(1, 2), by(2, 3), by(3, 4), by(4, 5), by(5, 6), by(6, 7));
        rule(x, "cost 0 if actor=part;cost 99 if actor>part");
        asks(x, 693, "a chain of seven", () -> x.missed(0));
        asks(x, 99, "a chain of one", () -> x.missed(6));
        asks(x, 0, "who steps up last", () -> x.missed(7));
    }

    static void p31_noPart() {
        IllTonight x = cast(1, 0);
        asks(x, 0, "missed for nothing", () -> x.missed(0));
    }

    // Promise 32: key.

    static void p32_noSuchActor() {
        IllTonight x = knowing(3, 1, 1);
        none(x, "key", 0, 2, x::key);
        IllTonight y = new IllTonight();
        asks(y, -1, "key with nobody there", () -> y.key(0));
    }

    static void p32_theMost() {
        IllTonight x = known(8, by(7));
        asks(x, 128, "who alone can", () -> x.key(7));
        asks(x, 0, "who can nothing", () -> x.key(0));
    }

    static void p32_theEmptySetCounts() {
        IllTonight x = known(1, by(0));
        asks(x, 1, "key for nobody else", () -> x.key(0));
    }

    static void p32_neverShut() {
        IllTonight x = cast(2, 0);
        asks(x, 0, "key of no part", () -> x.key(0));
    }

    static void p32_shutAnyway() {
        IllTonight x = known(2, by(0), by());
        asks(x, 0, "key of a house that is shut", () -> x.key(0));
    }

    static void p32_onlyWhereTheOtherIsIll() {
        IllTonight x = knowing(8, 1, 1);
        for (int i = 0; i < 8; i++) {
            int actor = i;
            asks(x, 1, "key, when all the others are ill", () -> x.key(actor));
        }
    }

    static void p32_toldIllDoNotMatter() {
        IllTonight x = known(8, by(7));
        x.ill(255);
        asks(x, 128, "who alone can", () -> x.key(7));
    }

    // Promise 33: odds.

    private static void oddsAre(IllTonight x, long shut, long costs) {
        asks(x, shut, "how likely it is shut", () -> x.odds(0));
        asks(x, costs, "what it costs in the mean", () -> x.odds(1));
    }

    static void p33_whatBeyond() {
        IllTonight x = knowing(1, 1, 1);
        none(x, "odds", 0, 1, x::odds);
        asks(x, -1, "odds(2)", () -> x.odds(2));
    }

    static void p33_nobodyThere() {
        oddsAre(new IllTonight(), 0, 0);
        oddsAre(cast(0, 1), 1, 0);
    }

    static void p33_oneActor() {
        for (int frail : new int[] {0, 1, 50, 99, 100}) {
            IllTonight x = knowing(1, 1, 1);
            x.turn(0, 3, frail);
            oddsAre(x, frail, 100 - frail);
        }
    }

    static void p33_noPart() {
        IllTonight x = cast(3, 0);
        x.turn(0, 3, 50);
        oddsAre(x, 0, 0);
    }

    static void p33_shutAnyway() {
        IllTonight x = cast(3, 1);
        x.turn(0, 3, 50);
        oddsAre(x, 1000000, 0);
    }

    static void p33_surelyOpen() {
        IllTonight x = knowing(2, 1, 1);
        oddsAre(x, 0, 10000);
    }

    static void p33_surelyIll() {
        IllTonight x = knowing(2, 1, 1);
        x.turn(0, 3, 100);
        x.turn(1, 3, 100);
        oddsAre(x, 10000, 0);
    }

    static void p33_eachByHimself() {
        IllTonight x = knowing(2, 1, 1);
        rule(x, "cost 10+actor");
        x.turn(0, 3, 30);
        x.turn(1, 3, 20);
        // 0 is well: 70 * 100 times 10; 0 is ill, 1 is not: 30 * 80 times 11; both are: 30 * 20.
        oddsAre(x, 600, 70000 + 26400);
    }

    static void p33_leastAndMostFrailOfTwo() {
        IllTonight x = knowing(2, 1, 1);
        x.usual(0, 0);
        x.turn(0, 3, 1);
        oddsAre(x, 0, 100);
        x.turn(0, 3, 99);
        oddsAre(x, 0, 9900);
        x.turn(0, 3, 100);
        oddsAre(x, 0, 10000);
        x.turn(1, 3, 1);
        oddsAre(x, 100, 9900);
        x.turn(1, 3, 99);
        oddsAre(x, 9900, 100);
    }

    static void p33_doubles() {
        IllTonight x = knowing(2, 2, 1);
        x.turn(0, 3, 10);
        x.turn(1, 3, 20);
        oddsAre(x, 10000 - 7200, 2 * 7200);
        x.terms(1, 1);
        oddsAre(x, 200, 2 * 9800);
    }

    static void p33_theMost() {
        IllTonight x = knowing(8, 8, 1);
        rule(x, "cost 99");
        oddsAre(x, 0, 7920000000000000000L);
        x.ill(255);
        oddsAre(x, 0, 7920000000000000000L);
        x.turn(3, 3, 100);
        oddsAre(x, 10000000000000000L, 0);
    }

    static void p33_hardlyEver() {
        IllTonight x = knowing(8, 8, 1);
        for (int i = 0; i < 8; i++) {
            x.turn(i, 3, 99);
        }
        oddsAre(x, 10000000000000000L - 1, 8);
    }
}
