import java.util.function.LongSupplier;
import java.util.function.ToLongFunction;

/** Promises 34 to 45: a test of its own for each sentence that names an edge. */
public final class EdgesOfSeasonsTest extends Edges {
    private static final int LEAST = Integer.MIN_VALUE;
    private static final int MOST = Integer.MAX_VALUE;

    public static void main(String[] args) throws Exception {
        runAll(EdgesOfSeasonsTest.class);
    }

    // Promise 34: lesson.

    static void p34_how() {
        IllTonight x = cast(2, 2);
        range(x, "so well", 1, 9, how -> x.lesson(0, 0, how, 1));
        due("lessons", x.count(3), 2);
    }

    static void p34_hours() {
        IllTonight x = cast(2, 2);
        range(x, "hours", 1, 99, hours -> x.lesson(0, 0, 1, hours));
        due("lessons", x.count(3), 2);
        refused(x, -1, "so well as not at all", () -> x.lesson(0, 0, 0, 1));
        refused(x, -1, "no hours", () -> x.lesson(0, 0, 1, 0));
    }

    static void p34_noSuchActor() {
        IllTonight x = cast(3, 2);
        noSuch(x, "lesson of actor", 0, 3, a -> x.lesson(a, 0, 1, 1));
    }

    static void p34_noSuchPart() {
        IllTonight x = cast(2, 3);
        noSuch(x, "lesson of part", 0, 3, p -> x.lesson(0, p, 1, 1));
    }

    static void p34_nothingThere() {
        IllTonight x = new IllTonight();
        refused(x, -2, "lesson of nobody", () -> x.lesson(0, 0, 1, 1));
    }

    static void p34_sevenAtMost() {
        IllTonight x = cast(8, 8);
        for (int i = 0; i < 7; i++) {
            int number = i;
            taken(x, number, "lesson " + number, () -> x.lesson(7, 7, 9, 99));
        }
        refused(x, -5, "the eighth", () -> x.lesson(7, 7, 9, 99));
        due("lessons", x.count(3), 7);
    }

    private static IllTonight withSevenLessons() {
        IllTonight x = cast(2, 2);
        for (int i = 0; i < 7; i++) {
            x.lesson(0, 0, 1 + i, 10 + i);
        }
        return x;
    }

    static void p34_wrongNumberAheadOfNoSuch() {
        IllTonight x = cast(1, 1);
        refused(x, -1, "no hours, nobody", () -> x.lesson(1, 0, 1, 0));
        refused(x, -1, "too well, no part", () -> x.lesson(0, -1, 10, 1));
    }

    static void p34_wrongNumberAheadOfNoRoom() {
        IllTonight x = withSevenLessons();
        refused(x, -1, "the eighth, no hours", () -> x.lesson(0, 0, 1, 0));
        refused(x, -1, "the eighth, too well", () -> x.lesson(0, 0, 10, 1));
    }

    static void p34_noSuchAheadOfNoRoom() {
        IllTonight x = withSevenLessons();
        refused(x, -2, "the eighth, nobody", () -> x.lesson(2, 0, 1, 1));
        refused(x, -2, "the eighth, no part", () -> x.lesson(0, 2, 1, 1));
    }

    static void p34_allThreeAreAWrongNumber() {
        IllTonight x = withSevenLessons();
        refused(x, -1, "all wrong", () -> x.lesson(9, 9, 0, 0));
    }

    static void p34_lessThanHeKnowsMayBe() {
        IllTonight x = knowing(1, 1, 9);
        taken(x, 0, "lesson", () -> x.lesson(0, 0, 1, 1));
        taken(x, 1, "the same once more", () -> x.lesson(0, 0, 1, 1));
    }

    static void p34_roomAgainBehindDrop() {
        IllTonight x = withSevenLessons();
        x.drop(0);
        taken(x, 6, "lesson", () -> x.lesson(0, 0, 1, 1));
        refused(x, -5, "one more", () -> x.lesson(0, 0, 1, 1));
    }

    // Promise 35: drop.

    static void p35_noneThere() {
        IllTonight x = cast(1, 1);
        noSuch(x, "drop", 0, 0, x::drop);
    }

    static void p35_noSuchLesson() {
        IllTonight x = withSevenLessons();
        noSuch(x, "drop", 0, 7, x::drop);
    }

    static void p35_theOnlyOne() {
        IllTonight x = cast(1, 1);
        x.lesson(0, 0, 1, 1);
        taken(x, 0, "drop", () -> x.drop(0));
        refused(x, -2, "drop again", () -> x.drop(0));
    }

    /** The HOURS of each LESSON, by teaching none but asking what a set of one costs, are seen where only one is enough. */
    private static void hoursAre(IllTonight x, int... hours) {
        due("lessons", x.count(3), hours.length);
        int sum = 0;
        for (int one : hours) {
            sum += one;
        }
        x.image(1);
        for (int i = hours.length - 1; i >= 0; i--) {
            int last = x.learn(0, 0);
            due("hours of all up to lesson " + i, last, sum);
            sum -= hours[i];
            x.teach(1 << i);
        }
        due("hours of none", x.learn(0, 0), 0);
        x.back(1);
    }

    /** As many LESSONS as PARTS, each of an ACTOR and a PART of its own, which nobody knows. */
    private static IllTonight allNeeded(int lessons) {
        IllTonight x = cast(lessons, lessons);
        for (int i = 0; i < lessons; i++) {
            x.lesson(i, i, 1, 10 + i);
        }
        return x;
    }

    static void p35_thoseBehindMoveUp() {
        IllTonight x = allNeeded(4);
        hoursAre(x, 10, 11, 12, 13);
        x.knows(1, 1, 1);
        taken(x, 3, "drop one between", () -> x.drop(1));
        hoursAre(x, 10, 12, 13);
    }

    static void p35_theFirst() {
        IllTonight x = allNeeded(4);
        x.knows(0, 0, 1);
        taken(x, 3, "drop the first", () -> x.drop(0));
        hoursAre(x, 11, 12, 13);
    }

    static void p35_theLast() {
        IllTonight x = allNeeded(4);
        x.knows(3, 3, 1);
        taken(x, 3, "drop the last", () -> x.drop(3));
        hoursAre(x, 10, 11, 12);
        refused(x, -2, "the last is no more", () -> x.drop(3));
    }

    static void p35_ofSeven() {
        IllTonight x = withSevenLessons();
        for (int left = 6; left >= 0; left--) {
            int due = left;
            taken(x, due, "drop, left " + due, () -> x.drop(due / 2));
        }
        refused(x, -2, "drop of none", () -> x.drop(0));
    }

    // Promise 36: learn.

    private static void learns(IllTonight x, int k, int hours, int bits, int sets) {
        asks(x, hours, "hours for " + k, () -> x.learn(k, 0));
        asks(x, bits, "lessons for " + k, () -> x.learn(k, 1));
        asks(x, sets, "sets for " + k, () -> x.learn(k, 2));
    }

    static void p36_kBeyond() {
        IllTonight x = knowing(8, 1, 1);
        for (int what = 0; what < 3; what++) {
            int which = what;
            none(x, "k", 0, 3, k -> x.learn(k, which));
            asks(x, which == 2 ? 1 : 0, "for 3", () -> x.learn(3, which));
            asks(x, which == 2 ? 1 : 0, "for 0", () -> x.learn(0, which));
        }
    }

    static void p36_whatBeyond() {
        IllTonight x = knowing(8, 1, 1);
        none(x, "what", 0, 2, what -> x.learn(0, what));
        none(x, "what for 3", 0, 2, what -> x.learn(3, what));
    }

    static void p36_noLessonNoneNeeded() {
        learns(knowing(2, 1, 1), 1, 0, 0, 1);
    }

    static void p36_noLessonButOneNeeded() {
        learns(knowing(1, 1, 1), 1, -1, -1, 0);
        learns(cast(1, 1), 0, -1, -1, 0);
        learns(cast(0, 1), 0, -1, -1, 0);
    }

    static void p36_nothingThere() {
        learns(new IllTonight(), 0, 0, 0, 1);
        learns(new IllTonight(), 3, 0, 0, 1);
    }

    static void p36_notEnoughWithAll() {
        IllTonight x = cast(2, 2);
        x.lesson(0, 0, 9, 1);
        x.lesson(1, 0, 9, 1);
        learns(x, 0, -1, -1, 0);
    }

    static void p36_noneNeededSoAllSetsAre() {
        IllTonight x = knowing(4, 1, 1);
        for (int i = 0; i < 7; i++) {
            x.lesson(0, 0, 9, 1);
        }
        learns(x, 3, 0, 0, 128);
    }

    static void p36_allSevenNeeded() {
        IllTonight x = cast(7, 7);
        for (int i = 0; i < 7; i++) {
            x.lesson(i, i, 1, 99);
        }
        learns(x, 0, 693, 127, 1);
        learns(x, 1, -1, -1, 0);
    }

    static void p36_justWellEnough() {
        IllTonight x = cast(1, 1);
        x.terms(0, 5);
        x.lesson(0, 0, 4, 1);
        learns(x, 0, -1, -1, 0);
        x.lesson(0, 0, 5, 9);
        learns(x, 0, 9, 2, 2);
    }

    static void p36_barredByALesson() {
        for (int p = 0; p < 3; p++) {
            IllTonight x = knowing(3, 3, 1);
            for (int a = 0; a < 3; a++) {
                x.knows(a, p, a == p ? 1 : 0);
            }
            rule(x, "bars if knows>5");
            x.lesson(p, p, 6, 1);
            learns(x, 0, 0, 0, 1);
            x.lesson(p, p, 5, 1);
            learns(x, 0, 0, 0, 2);
            worths(x, 0, 0, 0);
            x.knows(p, p, 0);
            learns(x, 0, 1, 2, 1);
            worths(x, 0, 0, 1000);
        }
    }

    static void p36_nobodyKnowsLessByALesson() {
        IllTonight x = knowing(1, 1, 9);
        x.terms(0, 9);
        x.lesson(0, 0, 1, 1);
        learns(x, 0, 0, 0, 2);
    }

    static void p36_ofAlikeOnesTheLowest() {
        IllTonight x = cast(2, 1);
        x.lesson(1, 0, 1, 5);
        x.lesson(0, 0, 1, 5);
        learns(x, 0, 5, 1, 3);
    }

    /** LESSONS 0 and 1 together, or 2 alone, of as many HOURS. */
    private static IllTonight twoOrOne(int hoursOfTheOne) {
        IllTonight x = cast(2, 2);
        x.knows(0, 1, 1);
        x.lesson(0, 0, 1, 2);
        x.lesson(1, 1, 1, 3);
        x.lesson(1, 0, 1, hoursOfTheOne);
        return x;
    }

    static void p36_theLowestAsBitsNotTheFewestLessons() {
        learns(twoOrOne(5), 0, 5, 3, 5);
        learns(twoOrOne(4), 0, 4, 4, 5);
        learns(twoOrOne(6), 0, 5, 3, 5);
    }

    static void p36_forEachK() {
        IllTonight x = cast(4, 1);
        for (int i = 0; i < 4; i++) {
            x.lesson(i, 0, 1, 1 << i);
        }
        learns(x, 0, 1, 1, 15);
        learns(x, 1, 3, 3, 11);
        learns(x, 2, 7, 7, 5);
        learns(x, 3, 15, 15, 1);
    }

    static void p36_moreThanThereAre() {
        learns(knowing(2, 1, 1), 2, -1, -1, 0);
        learns(knowing(2, 1, 1), 3, -1, -1, 0);
        learns(cast(2, 0), 3, 0, 0, 1);
    }

    static void p36_toldIllDoNotMatter() {
        IllTonight x = knowing(2, 1, 1);
        x.ill(3);
        learns(x, 1, 0, 0, 1);
    }

    // Promise 37: worth.

    private static void worths(IllTonight x, int k, int... hours) {
        for (int i = 0; i < hours.length; i++) {
            int lesson = i;
            asks(x, hours[lesson], "lesson " + lesson + " for " + k, () -> x.worth(k, lesson));
        }
    }

    static void p37_kBeyond() {
        IllTonight x = knowing(8, 1, 1);
        x.lesson(0, 0, 1, 1);
        none(x, "k", 0, 3, k -> x.worth(k, 0));
        worths(x, 0, 0);
        worths(x, 3, 0);
    }

    static void p37_noSuchLesson() {
        IllTonight x = knowing(8, 1, 1);
        none(x, "lesson of none", 0, -1, lesson -> x.worth(0, lesson));
        x.lesson(0, 0, 1, 1);
        x.lesson(0, 0, 1, 1);
        none(x, "lesson", 0, 1, lesson -> x.worth(0, lesson));
    }

    static void p37_notEnoughWithAll() {
        IllTonight x = cast(2, 2);
        x.lesson(0, 0, 9, 1);
        worths(x, 0, -1);
    }

    static void p37_notEnoughWithoutIt() {
        IllTonight x = allNeeded(7);
        worths(x, 0, 1000, 1000, 1000, 1000, 1000, 1000, 1000);
    }

    static void p37_notNeeded() {
        IllTonight x = knowing(2, 1, 1);
        x.lesson(0, 0, 9, 99);
        worths(x, 1, 0);
    }

    static void p37_anotherAsGood() {
        IllTonight x = cast(2, 1);
        x.lesson(1, 0, 1, 5);
        x.lesson(0, 0, 1, 5);
        worths(x, 0, 0, 0);
    }

    static void p37_oneHourMore() {
        worths(twoOrOne(6), 0, 1, 1, 0);
        worths(twoOrOne(5), 0, 0, 0, 0);
        worths(twoOrOne(4), 0, 0, 0, 1);
    }

    static void p37_theMost() {
        // With the first, 6 plays PART 5; without it 6 plays PART 0 and each of 0 .. 4 the next one: six LESSONS.
        IllTonight x = cast(7, 6);
        x.lesson(6, 5, 1, 1);
        x.lesson(6, 0, 1, 99);
        for (int i = 0; i < 5; i++) {
            x.knows(i, i, 1);
            x.lesson(i, i + 1, 1, 99);
        }
        learns(x, 0, 1, 1, 65);
        worths(x, 0, 593, 0, 0, 0, 0, 0, 0);
    }

    // Promise 38: teach.

    static void p38_noneOfNone() {
        IllTonight x = cast(1, 1);
        taken(x, 0, "none", () -> x.teach(0));
        refused(x, -1, "one of none", () -> x.teach(1));
    }

    static void p38_whoIsNotThere() {
        for (int lessons = 0; lessons <= 7; lessons++) {
            IllTonight x = cast(1, 1);
            for (int i = 0; i < lessons; i++) {
                x.lesson(0, 0, 1, 1);
            }
            int one = 1 << lessons;
            refused(x, -1, "one beyond " + lessons, () -> x.teach(one));
            refused(x, -1, "one beyond " + lessons + " and others", () -> x.teach(2 * one - 1));
        }
    }

    static void p38_below0() {
        IllTonight x = withSevenLessons();
        refused(x, -1, "-1", () -> x.teach(-1));
        refused(x, -1, "the highest bit", () -> x.teach(LEAST));
        refused(x, -1, "the highest bit and a lesson", () -> x.teach(LEAST + 1));
        refused(x, -1, "all other bits", () -> x.teach(MOST));
        due("lessons", x.count(3), 7);
    }

    static void p38_none() {
        IllTonight x = withSevenLessons();
        taken(x, 0, "none of seven", () -> x.teach(0));
        due("lessons", x.count(3), 7);
        due("knows", x.of(0, 0, 0), 0);
    }

    static void p38_allSeven() {
        IllTonight x = withSevenLessons();
        taken(x, 7, "all, each better than the one ahead", () -> x.teach(127));
        due("lessons", x.count(3), 0);
        due("knows", x.of(0, 0, 0), 7);
    }

    static void p38_asWellIsNotBetter() {
        IllTonight x = knowing(1, 1, 5);
        x.lesson(0, 0, 4, 1);
        x.lesson(0, 0, 5, 1);
        x.lesson(0, 0, 6, 1);
        taken(x, 0, "less well", () -> x.teach(1));
        due("knows", x.of(0, 0, 0), 5);
        taken(x, 0, "as well", () -> x.teach(1));
        due("knows still", x.of(0, 0, 0), 5);
        taken(x, 1, "better", () -> x.teach(1));
        due("knows then", x.of(0, 0, 0), 6);
        due("lessons", x.count(3), 0);
    }

    static void p38_theBetterAhead() {
        IllTonight x = cast(1, 1);
        x.lesson(0, 0, 9, 1);
        x.lesson(0, 0, 1, 1);
        taken(x, 1, "the better one is ahead", () -> x.teach(3));
        due("knows", x.of(0, 0, 0), 9);
    }

    static void p38_thoseLeftMoveUp() {
        IllTonight x = allNeeded(4);
        taken(x, 2, "first and third", () -> x.teach(5));
        hoursAre(x, 11, 13);
        due("knows by the first", x.of(0, 0, 0), 1);
        due("knows by the third", x.of(2, 2, 0), 1);
        due("not by the second", x.of(1, 1, 0), 0);
    }

    static void p38_aRefusedOneTeachesNothing() {
        IllTonight x = allNeeded(2);
        refused(x, -1, "one there, one not", () -> x.teach(5));
        due("knows", x.of(0, 0, 0), 0);
    }

    // Promise 39: season.

    static void p39_seed() {
        IllTonight x = knowing(2, 2, 5);
        range(x, "seed", 0, 1000000, seed -> x.season(seed, 1));
    }

    static void p39_weeks() {
        IllTonight x = knowing(2, 2, 5);
        range(x, "weeks", 1, 40, n -> x.season(1, n));
        due("the fortieth week", x.week(39, 1), 2);
        due("one behind", x.week(40, 1), -1);
    }

    static void p39_bothWrongAreOneRefusal() {
        IllTonight x = cast(1, 1);
        refused(x, -1, "both", () -> x.season(-1, 0));
        refused(x, -1, "both beyond", () -> x.season(1000001, 41));
    }

    static void p39_aRefusedOneLeavesTheLatest() {
        IllTonight x = knowing(1, 1, 1);
        x.season(0, 2);
        refused(x, -1, "too long", () -> x.season(0, 41));
        due("the second week of the latest", x.week(1, 2), 0);
        due("learnt in it", x.learnt(0, 0), 3);
    }

    static void p39_noWeekShut() {
        IllTonight x = knowing(1, 1, 1);
        taken(x, 0, "one week", () -> x.season(0, 1));
        taken(x, 0, "forty weeks", () -> x.season(0, 40));
    }

    static void p39_allWeeksShut() {
        IllTonight x = cast(1, 1);
        taken(x, 1, "one week", () -> x.season(0, 1));
        taken(x, 40, "forty weeks", () -> x.season(0, 40));
    }

    static void p39_nobodyThere() {
        IllTonight x = cast(0, 1);
        taken(x, 3, "a part and nobody", () -> x.season(0, 3));
        due("ill", x.week(2, 0), 0);
        IllTonight y = new IllTonight();
        taken(y, 0, "nothing", () -> y.season(0, 3));
        due("cost", y.week(2, 1), 0);
    }

    static void p39_noPart() {
        IllTonight x = cast(1, 0);
        x.turn(0, 3, 100);
        taken(x, 0, "no part, all ill", () -> x.season(0, 2));
        due("ill", x.week(1, 0), 1);
        due("cost", x.week(1, 1), 0);
    }

    private static void drawn(int seed, int draw) {
        IllTonight x = cast(1, 1);
        x.turn(0, 3, draw);
        x.season(seed, 1);
        due("a draw of " + draw + " is not below it", x.week(0, 0), 0);
        x.turn(0, 3, draw + 1);
        x.season(seed, 1);
        due("a draw of " + draw + " is below one more", x.week(0, 0), 1);
    }

    static void p39_aDrawJustBelowFrail() {
        drawn(0, 45);
        drawn(1, 48);
        drawn(1000000, 36);
        drawn(999999, 33);
    }

    static void p39_theLeastDraw() {
        drawn(85, 0);
        drawn(870345, 0);
    }

    static void p39_theGreatestDraw() {
        drawn(18, 99);
    }

    static void p39_neverAndAlwaysIll() {
        IllTonight x = cast(2, 0);
        x.turn(1, 3, 100);
        x.season(0, 40);
        for (int i = 0; i < 40; i++) {
            due("ill in week " + i, x.week(i, 0), 2);
        }
    }

    static void p39_drawsGoOnActorByActor() {
        // From 0: 45 41 89 57 60 50.
        IllTonight x = cast(3, 0);
        x.turn(0, 3, 46);
        x.turn(1, 3, 41);
        x.turn(2, 3, 90);
        x.season(0, 2);
        due("ill first", x.week(0, 0), 1 + 4);
        due("ill then", x.week(1, 0), 4);
        x.turn(0, 3, 58);
        x.turn(1, 3, 60);
        x.turn(2, 3, 51);
        x.season(0, 2);
        due("ill first, others", x.week(0, 0), 1 + 2);
        due("ill then, others", x.week(1, 0), 1 + 4);
    }

    static void p39_drawsBehindTheGreatestState() {
        // From 327279 s becomes 1000002, then 11242 and 412235: 2, 42, 35.
        IllTonight x = cast(1, 0);
        x.turn(0, 3, 36);
        x.season(327279, 3);
        due("2", x.week(0, 0), 1);
        due("42", x.week(1, 0), 0);
        due("35", x.week(2, 0), 1);
    }

    static void p39_eachSeasonDrawsFromItsSeed() {
        IllTonight x = cast(1, 0);
        x.turn(0, 3, 46);
        x.season(0, 3);
        x.season(0, 3);
        due("45", x.week(0, 0), 1);
        due("41", x.week(1, 0), 1);
        due("89", x.week(2, 0), 0);
    }

    static void p39_toldIllDoNotMatter() {
        IllTonight x = knowing(2, 1, 1);
        x.ill(3);
        taken(x, 0, "season", () -> x.season(0, 2));
        due("ill", x.week(0, 0), 0);
        due("who played", x.week(0, 2), 0);
        due("told ill stay so", x.count(5), 3);
    }

    static void p39_onPaper() {
        IllTonight x = knowing(2, 2, 4);
        rule(x, "fades 3");
        x.lesson(0, 0, 9, 9);
        x.gives(1);
        x.terms(2, 50);
        x.turn(0, 3, 30);
        String facts = "";
        for (int what = 0; what <= 15; what++) {
            facts += x.count(what) + " ";
        }
        x.season(3, 40);
        String then = "";
        for (int what = 0; what <= 15; what++) {
            then += x.count(what) + " ";
        }
        due("counts are as they were", then.equals(facts) ? 1 : 0, 1);
        for (int i = 0; i < 4; i++) {
            due("knows " + i, x.of(i / 2, i % 2, 0), 4);
        }
    }

    static void p39_playedFrom0And8And9() {
        IllTonight x = cast(3, 3);
        rule(x, "lets if actor=part;bars if not actor=part");
        x.knows(1, 1, 8);
        x.knows(2, 2, 9);
        x.season(0, 1);
        due("from 0", x.learnt(0, 0), 1);
        due("from 8", x.learnt(1, 1), 9);
        due("from 9", x.learnt(2, 2), 9);
        x.season(0, 40);
        due("forty weeks from 0", x.learnt(0, 0), 9);
        due("forty weeks from 9", x.learnt(2, 2), 9);
    }

    private static void faded(String law, int known, int want) {
        IllTonight x = cast(2, 1);
        x.knows(0, 0, 9);
        x.knows(1, 0, known);
        rule(x, law);
        x.season(0, 1);
        due(known + " by " + law, x.learnt(1, 0), want);
        due("who played by " + law, x.learnt(0, 0), 9);
    }

    static void p39_fades0At0AtLeast() {
        faded("fades 1", 1, 0);
        faded("fades 2", 1, 0);
        faded("fades 9", 8, 0);
        faded("fades 9", 9, 0);
        faded("fades 1", 0, 0);
        faded("fades 9", 0, 0);
    }

    static void p39_fades0To9() {
        faded("fades 0", 5, 5);
        faded("fades 0-1", 5, 5);
        faded("fades 8", 9, 1);
        faded("fades 100", 9, 0);
        faded("fades 1000*1000*1000", 9, 0);
    }

    static void p39_fades0Without() {
        faded("cost 7", 5, 5);
        faded("fades 3 if 1=2", 5, 5);
        faded("fades 3/0", 5, 5);
        IllTonight x = knowing(2, 1, 5);
        x.season(0, 40);
        due("no law", x.learnt(1, 0), 5);
    }

    static void p39_whoKnowsNothingDoesNotFade() {
        IllTonight x = cast(2, 1);
        x.knows(0, 0, 1);
        rule(x, "fades 0-9");
        x.season(0, 3);
        due("still nothing", x.learnt(1, 0), 0);
    }

    static void p39_fadesAlsoIfShut() {
        IllTonight x = knowing(1, 1, 5);
        x.turn(0, 3, 100);
        rule(x, "fades 2");
        taken(x, 2, "shut twice", () -> x.season(0, 2));
        due("learnt", x.learnt(0, 0), 1);
        x.season(0, 3);
        due("learnt in three", x.learnt(0, 0), 0);
    }

    static void p39_fadesByWhatTheyKnewAhead() {
        IllTonight x = knowing(2, 1, 8);
        rule(x, "fades knows/2;cost actor");
        x.season(0, 1);
        due("8 - 8 / 2", x.learnt(1, 0), 4);
        x.season(0, 2);
        due("4 - 4 / 2", x.learnt(1, 0), 2);
        x.season(0, 4);
        due("1 - 1 / 2", x.learnt(1, 0), 1);
    }

    static void p39_nextWeekByWhatTheyLearnt() {
        // The other costs less as long as he knows more; he who plays gets better by it.
        IllTonight x = cast(2, 1);
        x.knows(0, 0, 4);
        x.knows(1, 0, 3);
        rule(x, "cost 9-knows;fades 4");
        x.season(0, 2);
        due("cost first", x.week(0, 1), 5);
        due("cost then", x.week(1, 1), 4);
        due("the other", x.learnt(1, 0), 0);
        x.terms(0, 5);
        taken(x, 2, "nobody knows enough, and fewer and fewer do", () -> x.season(0, 2));
        due("faded", x.learnt(0, 0), 0);
    }

    static void p39_shutForEverOnceItFadedBelowNeed() {
        // 45 and 41 are below 46, 89 is not; but then he does not know it any more.
        IllTonight x = knowing(1, 1, 2);
        x.turn(0, 3, 46);
        rule(x, "fades 1");
        taken(x, 3, "season", () -> x.season(0, 3));
        due("not ill in the third", x.week(2, 0), 0);
        due("shut all the same", x.week(2, 1), -1);
    }

    static void p39_weeksFromWeekOn() {
        IllTonight x = knowing(1, 1, 1);
        rule(x, "cost week-7");
        x.terms(2, 7);
        x.season(0, 3);
        due("the first", x.week(0, 1), 0);
        due("the second", x.week(1, 1), 1);
        due("the third", x.week(2, 1), 2);
        x.terms(2, 0);
        x.season(0, 10);
        due("week 7", x.week(7, 1), 0);
        due("week 9", x.week(9, 1), 2);
    }

    static void p39_weeksBeyond99() {
        IllTonight x = knowing(1, 1, 1);
        rule(x, "bars if week>137;cost week-90");
        x.terms(2, 99);
        taken(x, 1, "week 138 alone is shut", () -> x.season(0, 40));
        due("week 99", x.week(0, 1), 9);
        due("week 100", x.week(1, 1), 10);
        due("week 137", x.week(38, 1), 47);
        due("week 138", x.week(39, 1), -1);
        due("the term stays", x.count(15), 99);
    }

    static void p39_whoPlaysTwoKnowsBothBetter() {
        IllTonight x = knowing(1, 2, 1);
        x.terms(1, 1);
        taken(x, 0, "season", () -> x.season(0, 2));
        due("the one", x.learnt(0, 0), 3);
        due("the other", x.learnt(0, 1), 3);
    }

    // Promise 40: week.

    private static IllTonight afterThreeWeeks() {
        // 0 is ill in the first and in the second week, and the house is shut then.
        IllTonight x = knowing(1, 2, 1);
        x.terms(1, 1);
        x.turn(0, 3, 46);
        due("shut", x.season(0, 3), 2);
        return x;
    }

    static void p40_noneYet() {
        IllTonight x = knowing(1, 1, 1);
        for (int what = -1; what <= 10; what++) {
            int which = what;
            asks(x, -1, "week of none " + which, () -> x.week(0, which));
        }
        x.season(0, 0);
        asks(x, -1, "week of one refused", () -> x.week(0, 0));
    }

    static void p40_weekBeyond() {
        IllTonight x = afterThreeWeeks();
        none(x, "week", 0, 2, i -> x.week(i, 0));
        none(x, "cost of week", 0, 2, i -> x.week(i, 1));
        asks(x, 1, "the first", () -> x.week(0, 0));
        asks(x, 0, "the last", () -> x.week(2, 0));
    }

    static void p40_whatBeyond() {
        IllTonight x = knowing(8, 8, 1);
        x.season(0, 1);
        none(x, "what", 0, 9, what -> x.week(0, what));
        for (int p = 0; p < 8; p++) {
            int part = p;
            asks(x, part, "who played part " + part, () -> x.week(0, 2 + part));
        }
    }

    static void p40_noSuchPart() {
        IllTonight x = afterThreeWeeks();
        asks(x, 0, "the last part", () -> x.week(2, 3));
        for (int part = 2; part <= 8; part++) {
            int what = 2 + part;
            asks(x, -1, "who played part " + part, () -> x.week(2, what));
        }
    }

    static void p40_shut() {
        IllTonight x = afterThreeWeeks();
        asks(x, 1, "who was ill", () -> x.week(0, 0));
        asks(x, -1, "cost", () -> x.week(0, 1));
        asks(x, -1, "who played", () -> x.week(0, 2));
        asks(x, 2, "cost of the one that was not", () -> x.week(2, 1));
        asks(x, 0, "who played in it", () -> x.week(2, 2));
    }

    static void p40_allAreIll() {
        IllTonight x = cast(8, 1);
        for (int a = 0; a < 8; a++) {
            x.turn(a, 3, 100);
        }
        x.season(5, 1);
        asks(x, 255, "all eight", () -> x.week(0, 0));
    }

    static void p40_theLatestAlone() {
        IllTonight x = knowing(1, 1, 1);
        x.season(0, 40);
        x.season(0, 1);
        asks(x, 1, "the week it has", () -> x.week(0, 1));
        asks(x, -1, "a week of the one ahead", () -> x.week(1, 1));
    }

    static void p40_theGreatestCost() {
        IllTonight x = knowing(8, 8, 1);
        rule(x, "cost 99");
        x.season(0, 1);
        asks(x, 792, "cost", () -> x.week(0, 1));
    }

    static void p40_staysWhateverChanges() {
        IllTonight x = afterThreeWeeks();
        x.turn(0, 3, 0);
        x.knows(0, 0, 0);
        x.usual(0, 0);
        x.ill(1);
        asks(x, 1, "who was ill", () -> x.week(1, 0));
        asks(x, 2, "cost", () -> x.week(2, 1));
        asks(x, 0, "who played", () -> x.week(2, 2));
    }

    // Promise 41: learnt.

    static void p41_noneYet() {
        IllTonight x = knowing(1, 1, 1);
        asks(x, -1, "learnt", () -> x.learnt(0, 0));
        x.season(-1, 1);
        asks(x, -1, "learnt in one refused", () -> x.learnt(0, 0));
    }

    static void p41_noSuchActor() {
        IllTonight x = knowing(3, 2, 1);
        x.season(0, 1);
        none(x, "learnt by actor", 0, 2, a -> x.learnt(a, 0));
        asks(x, 1, "the last", () -> x.learnt(2, 0));
    }

    static void p41_noSuchPart() {
        IllTonight x = knowing(2, 3, 1);
        x.season(0, 1);
        none(x, "learnt of part", 0, 2, p -> x.learnt(0, p));
        asks(x, 1, "the last", () -> x.learnt(0, 2));
    }

    static void p41_nobodyThere() {
        IllTonight x = new IllTonight();
        x.season(0, 1);
        asks(x, -1, "learnt", () -> x.learnt(0, 0));
    }

    static void p41_0And9() {
        IllTonight x = cast(2, 1);
        x.knows(0, 0, 1);
        x.season(0, 40);
        asks(x, 9, "who always played", () -> x.learnt(0, 0));
        asks(x, 0, "who never knew it", () -> x.learnt(1, 0));
    }

    static void p41_staysWhateverChanges() {
        IllTonight x = knowing(1, 1, 3);
        x.season(0, 1);
        x.knows(0, 0, 7);
        asks(x, 4, "learnt", () -> x.learnt(0, 0));
    }

    // Promises 42 and 43: image, back.

    static void p42_k() {
        IllTonight x = cast(1, 1);
        range(x, "image", 0, 1, x::image);
        taken(x, 0, "image 0", () -> x.image(0));
        taken(x, 0, "image 1", () -> x.image(1));
    }

    static void p43_k() {
        IllTonight x = cast(1, 1);
        x.image(0);
        x.image(1);
        range(x, "back", 0, 1, x::back);
        taken(x, 0, "back to 0", () -> x.back(0));
        taken(x, 0, "back to 1", () -> x.back(1));
    }

    static void p43_notKept() {
        IllTonight x = cast(1, 1);
        refused(x, -2, "back to 0", () -> x.back(0));
        refused(x, -2, "back to 1", () -> x.back(1));
        x.image(1);
        refused(x, -2, "back to 0, where 1 is kept", () -> x.back(0));
        IllTonight y = cast(1, 1);
        y.image(0);
        refused(y, -2, "back to 1, where 0 is kept", () -> y.back(1));
    }

    static void p43_wrongNumberAheadOfNotKept() {
        IllTonight x = cast(1, 1);
        refused(x, -1, "back to 2", () -> x.back(2));
        refused(x, -1, "back to -1", () -> x.back(-1));
        refused(x, -1, "image 2", () -> x.image(2));
        refused(x, -1, "back to 2 again", () -> x.back(2));
    }

    static void p43_anImageOfNothing() {
        IllTonight x = new IllTonight();
        x.image(0);
        x.actor(150, 1, 2, 3);
        x.part(1, 2, 3);
        taken(x, 0, "back", () -> x.back(0));
        due("actors", x.count(0), 0);
        due("parts", x.count(1), 0);
        due("it is open", x.night(2), 1);
        refused(x, -2, "who went is not there", () -> x.knows(0, 0, 1));
    }

    static void p43_anImageOfAllThatIsFull() {
        IllTonight x = knowing(8, 8, 9);
        for (int i = 0; i < 7; i++) {
            x.lesson(i, i, 9, 99);
        }
        for (int i = 0; i < 8; i++) {
            x.gives(i);
            x.usual(i, 7 - i);
        }
        for (int i = 0; i < 6; i++) {
            law(x, "cost " + i);
        }
        x.force(5);
        x.ill(255);
        x.terms(0, 9);
        x.terms(1, 1);
        x.terms(2, 99);
        x.image(1);
        x.clear();
        x.teach(127);
        x.ill(0);
        x.force(-1);
        x.terms(0, 0);
        x.terms(1, 0);
        x.terms(2, 0);
        x.knows(7, 7, 0);
        x.usual(7, -1);
        taken(x, 0, "back", () -> x.back(1));
        int[] counts = {8, 8, 6, 7, 8, 255, 0};
        for (int i = 0; i < counts.length; i++) {
            due("count(" + i + ")", x.count(i), counts[i]);
        }
        due("in force", x.count(12), 5);
        due("need", x.count(13), 9);
        due("doubles", x.count(14), 1);
        due("week", x.count(15), 99);
        due("knows", x.of(7, 7, 0), 9);
        due("usual", x.usual(7, 0), 0);
        due("cost", x.judge(1), 40);
    }

    private static IllTonight kept() {
        IllTonight x = knowing(2, 2, 3);
        rule(x, "cost 4");
        x.image(0);
        return x;
    }

    static void p43_actorsAndParts() {
        IllTonight x = kept();
        x.actor(150, 0, 0, 0);
        x.part(0, 0, 0);
        x.back(0);
        due("actors", x.count(0), 2);
        due("parts", x.count(1), 2);
    }

    static void p43_whatActorsAre() {
        IllTonight x = kept();
        x.turn(1, 0, 200);
        x.turn(1, 1, 9);
        x.turn(1, 2, 8);
        x.turn(1, 3, 77);
        x.back(0);
        due("height", x.turn(1, 0, 100), 151);
        due("coat", x.turn(1, 1, 0), 1);
        due("voice", x.turn(1, 2, 0), 1);
        due("frail", x.turn(1, 3, 1), 0);
    }

    static void p43_whatPartsAre() {
        IllTonight x = kept();
        x.alter(1, 0, 9);
        x.alter(1, 1, 8);
        x.alter(1, 2, 255);
        x.usual(1, 1);
        x.back(0);
        due("coat", x.alter(1, 0, 0), 1);
        due("song", x.alter(1, 1, 0), 1);
        due("scenes", x.alter(1, 2, 0), 2);
        due("usual", x.usual(1, 0), -1);
    }

    static void p43_knowsAndIllAndTerms() {
        IllTonight x = kept();
        x.knows(1, 1, 9);
        x.ill(2);
        x.terms(0, 9);
        x.terms(1, 1);
        x.terms(2, 9);
        x.back(0);
        due("knows", x.of(1, 1, 0), 3);
        due("ill", x.count(5), 0);
        due("need", x.count(13), 1);
        due("doubles", x.count(14), 0);
        due("week", x.count(15), 0);
    }

    static void p43_lawsAndForce() {
        IllTonight x = kept();
        rule(x, "cost 9");
        due("cost ahead", x.of(0, 0, 2), 9);
        x.back(0);
        due("laws", x.count(2), 1);
        due("in force", x.count(12), 0);
        due("cost", x.of(0, 0, 2), 4);
    }

    static void p43_lessonsAndWhatIsTold() {
        IllTonight x = cast(2, 2);
        x.lesson(1, 1, 5, 6);
        x.gives(1);
        x.image(0);
        x.drop(0);
        x.lesson(0, 0, 9, 9);
        x.lesson(0, 0, 8, 8);
        x.clear();
        x.gives(0);
        x.gives(0);
        x.back(0);
        due("lessons", x.count(3), 1);
        due("told", x.count(4), 1);
        due("taught", x.teach(1), 1);
        due("knows by it", x.of(1, 1, 0), 5);
        due("the one told knows nothing", x.judge(0), 0);
        x.knows(1, 0, 1);
        due("it is the one told then", x.judge(0), -1);
    }

    static void p43_notTheTape() {
        IllTonight x = kept();
        type(x, "cost 8");
        x.back(0);
        due("bytes", x.count(6), 6);
        due("the law on it", x.law(), 1);
        type(x, "abc");
        x.image(0);
        x.end(1);
        x.back(0);
        due("one byte", x.count(6), 1);
    }

    static void p43_notFault() {
        IllTonight x = kept();
        law(x, "bars x");
        x.back(0);
        due("fault", x.fault(), 5);
        x.image(0);
        law(x, "bars");
        x.back(0);
        due("none", x.fault(), -1);
    }

    static void p43_notForgot() {
        IllTonight x = kept();
        type(x, "abcd");
        x.row();
        x.back(0);
        due("forgot", x.forgot(), 2);
    }

    static void p43_notTheLatestSeason() {
        IllTonight x = kept();
        x.season(0, 2);
        x.back(0);
        due("week", x.week(1, 1), 8);
        due("learnt", x.learnt(0, 0), 5);
        x.image(0);
        x.season(0, 1);
        x.back(0);
        due("the second week of the one ahead", x.week(1, 1), -1);
        due("learnt in the latest", x.learnt(0, 0), 4);
    }

    static void p43_notWhatIsRefused() {
        IllTonight x = kept();
        x.actor(0, 0, 0, 0);
        x.turn(9, 0, 150);
        x.row();
        x.back(0);
        due("by -1", x.count(7), 1);
        due("by -2", x.count(8), 1);
        due("by -6", x.count(11), 1);
        due("status is of back", x.status(), 0);
    }

    static void p43_imagesStay() {
        IllTonight x = kept();
        x.knows(0, 0, 7);
        x.image(1);
        x.knows(0, 0, 8);
        x.back(0);
        due("image 0", x.of(0, 0, 0), 3);
        x.knows(0, 0, 5);
        x.back(1);
        due("image 1", x.of(0, 0, 0), 7);
        x.back(0);
        due("image 0 again", x.of(0, 0, 0), 3);
    }

    static void p43_anImageIsKeptOver() {
        IllTonight x = kept();
        x.knows(0, 0, 7);
        taken(x, 0, "image 0 over", () -> x.image(0));
        x.knows(0, 0, 8);
        x.back(0);
        due("the later one", x.of(0, 0, 0), 7);
    }

    static void p43_aRefusedImageKeepsNothing() {
        IllTonight x = cast(1, 1);
        x.image(2);
        x.image(-1);
        refused(x, -2, "back to 0", () -> x.back(0));
        refused(x, -2, "back to 1", () -> x.back(1));
    }

    // Promise 44: count.

    static void p44_whatBeyond() {
        IllTonight x = cast(1, 1);
        none(x, "count", 0, 15, x::count);
    }

    static void p44_eachByItself() {
        IllTonight x = cast(8, 7);
        for (int i = 0; i < 5; i++) {
            law(x, "bars");
        }
        for (int i = 0; i < 4; i++) {
            x.lesson(0, 0, 1, 1);
        }
        for (int i = 0; i < 3; i++) {
            x.gives(0);
        }
        x.ill(129);
        type(x, "a".repeat(77));
        x.force(2);
        x.terms(0, 6);
        x.terms(1, 1);
        x.terms(2, 88);
        int[] counts = {8, 7, 5, 4, 3, 129, 77, 0, 0, 0, 0, 0, 2, 6, 1, 88};
        for (int i = 0; i < counts.length; i++) {
            int what = i;
            asks(x, counts[what], "count " + what, () -> x.count(what));
        }
    }

    static void p44_eachRefusal() {
        IllTonight x = cast(8, 1);
        x.gives(0);
        for (int i = 0; i < 5; i++) {
            x.actor(0, 0, 0, 0);
        }
        for (int i = 0; i < 4; i++) {
            x.drop(0);
        }
        for (int i = 0; i < 3; i++) {
            x.gives(0);
        }
        for (int i = 0; i < 2; i++) {
            x.actor(150, 0, 0, 0);
        }
        x.row();
        int[] counts = {5, 4, 3, 2, 1};
        for (int i = 0; i < counts.length; i++) {
            int what = 7 + i;
            asks(x, counts[i], "count " + what, () -> x.count(what));
        }
    }

    static void p44_answersOfNoneAreNoRefusals() {
        IllTonight x = cast(2, 2);
        asks(x, -1, "end", () -> x.end(-1));
        asks(x, -1, "of", () -> x.of(2, 0, 0));
        asks(x, -1, "night", () -> x.night(3));
        asks(x, -1, "who", () -> x.who(2));
        asks(x, -1, "chain", () -> x.chain(2, 0));
        asks(x, -1, "nth", () -> x.nth(0, 2));
        asks(x, -1, "judge", () -> x.judge(2));
        asks(x, -1, "shut", () -> x.shut(4));
        asks(x, -1, "closing", () -> x.closing(-2));
        asks(x, -1, "safe", () -> x.safe(9));
        asks(x, -1, "unsafe", () -> x.unsafe(9));
        asks(x, -1, "missed", () -> x.missed(2));
        asks(x, -1, "key", () -> x.key(2));
        asks(x, -1, "odds", () -> x.odds(2));
        asks(x, -1, "learn", () -> x.learn(4, 0));
        asks(x, -1, "worth", () -> x.worth(4, 0));
        asks(x, -1, "week", () -> x.week(0, 0));
        asks(x, -1, "learnt", () -> x.learnt(0, 0));
        asks(x, -1, "count", () -> x.count(16));
    }

    // Promise 45: status.

    /** Each call that status() tells of, in a case that is taken, and in one that is REFUSED. */
    private static void status(IllTonight x, String what, int by, LongSupplier bad, LongSupplier good) {
        bad.getAsLong();
        due("status of " + what + " refused", x.status(), by);
        due("status told twice", x.status(), by);
        good.getAsLong();
        due("status of " + what, x.status(), 0);
        due("status told twice", x.status(), 0);
        bad.getAsLong();
        due("status of " + what + " refused again", x.status(), by);
    }

    static void p45_ofEachCall() {
        IllTonight x = cast(1, 1);
        due("ahead of all that is refused", x.status(), 0);
        status(x, "actor", -1, () -> x.actor(0, 0, 0, 0), () -> x.actor(150, 0, 0, 0));
        status(x, "part", -1, () -> x.part(0, 0, 256), () -> x.part(0, 0, 255));
        status(x, "turn", -2, () -> x.turn(8, 0, 150), () -> x.turn(0, 0, 150));
        status(x, "alter", -1, () -> x.alter(0, 3, 0), () -> x.alter(0, 2, 0));
        status(x, "usual", -2, () -> x.usual(0, 8), () -> x.usual(0, -1));
        status(x, "knows", -2, () -> x.knows(0, 8, 0), () -> x.knows(0, 0, 0));
        status(x, "ill", -1, () -> x.ill(-1), () -> x.ill(0));
        status(x, "terms", -1, () -> x.terms(3, 0), () -> x.terms(2, 0));
        status(x, "row", -6, x::row, () -> {
            type(x, "a");
            return x.row();
        });
        status(x, "law", -6, x::law, () -> law(x, "bars"));
        status(x, "force", -2, () -> x.force(6), () -> x.force(-1));
        status(x, "gives", -2, () -> x.gives(-1), () -> x.gives(0));
        status(x, "lesson", -1, () -> x.lesson(0, 0, 0, 0), () -> x.lesson(0, 0, 1, 1));
        status(x, "drop", -2, () -> x.drop(7), () -> x.drop(0));
        status(x, "teach", -1, () -> x.teach(-1), () -> x.teach(0));
        status(x, "season", -1, () -> x.season(0, 0), () -> x.season(0, 1));
        status(x, "image", -1, () -> x.image(2), () -> x.image(0));
        status(x, "back", -2, () -> x.back(1), () -> x.back(0));
    }

    static void p45_theOtherReasons() {
        IllTonight x = cast(8, 8);
        for (int i = 0; i < 8; i++) {
            x.gives(0);
        }
        for (int i = 0; i < 7; i++) {
            x.lesson(0, 0, 1, 1);
        }
        for (int i = 0; i < 6; i++) {
            law(x, "bars");
        }
        status(x, "actor", -5, () -> x.actor(150, 0, 0, 0), () -> x.turn(0, 0, 150));
        status(x, "part", -5, () -> x.part(0, 0, 0), () -> x.alter(0, 0, 0));
        status(x, "law", -5, x::law, () -> x.force(-1));
        status(x, "gives", -3, () -> x.gives(7), () -> x.usual(0, 0));
        status(x, "lesson", -5, () -> x.lesson(0, 0, 1, 1), () -> x.image(1));
    }

    private static void ask(Asked asked, IllTonight x) {
        asked.of(x, 20, "feed", y -> y.feed(1, 2, 3, 4, 5));
        asked.of(x, 0, "end", y -> y.end(0));
        asked.of(x, 1, "clear", IllTonight::clear);
        questions(asked, x);
    }

    private static void questions(Asked asked, IllTonight x) {
        asked.of(x, 0, "forgot", IllTonight::forgot);
        asked.of(x, -1, "fault", IllTonight::fault);
        asked.of(x, 1, "can", y -> y.of(0, 0, 1));
        asked.of(x, 2, "night", y -> y.night(0));
        asked.of(x, 2, "nights", y -> y.night(1));
        asked.of(x, 0, "who", y -> y.who(0));
        asked.of(x, 3, "changed", IllTonight::changed);
        asked.of(x, 1, "chain", y -> y.chain(0, -1));
        asked.of(x, 1, "nth", y -> y.nth(1, 0));
        asked.of(x, -1, "judge", y -> y.judge(0));
        asked.of(x, 1, "shut", y -> y.shut(1));
        asked.of(x, 2, "closing", y -> y.closing(1));
        asked.of(x, 1, "safe", y -> y.safe(0));
        asked.of(x, 1, "unsafe", y -> y.unsafe(1));
        asked.of(x, 0, "most", IllTonight::most);
        asked.of(x, 1000, "missed", y -> y.missed(0));
        asked.of(x, 1, "key", y -> y.key(0));
        asked.of(x, 0, "odds", y -> y.odds(0));
        asked.of(x, 20000, "mean", y -> y.odds(1));
        asked.of(x, 0, "learn", y -> y.learn(0, 0));
        asked.of(x, 0, "worth", y -> y.worth(0, 0));
        asked.of(x, 2, "week", y -> y.week(0, 1));
        asked.of(x, 2, "learnt", y -> y.learnt(0, 0));
        asked.of(x, 2, "count", y -> y.count(0));
    }

    /** How a question is asked: of this object, with what is due. */
    private interface Asked {
        void of(IllTonight x, long want, String what, ToLongFunction<IllTonight> question);
    }

    private static IllTonight toBeAsked() {
        IllTonight x = knowing(2, 2, 1);
        x.season(0, 1);
        x.lesson(0, 0, 1, 1);
        x.gives(0);
        return x;
    }

    static void p45_theOthersLeaveIt() {
        for (int status : new int[] {-1, -2, -6, 0}) {
            IllTonight x = toBeAsked();
            if (status == -1) {
                x.actor(0, 0, 0, 0);
            } else if (status == -2) {
                x.drop(1);
            } else if (status == -6) {
                x.row();
            }
            due("status", x.status(), status);
            ask((y, want, what, question) -> asks(y, want, what, () -> question.applyAsLong(y)), x);
            due("status behind all of them", x.status(), status);
        }
    }

    static void p45_questionsChangeNothing() {
        questions((x, want, what, question) -> {
            IllTonight y = toBeAsked();
            leaves(y, want, what, () -> question.applyAsLong(y));
        }, new IllTonight());
    }

    /** Each question is the first behind a change: what was worked out ahead of it does not stand any more. */
    static void p45_eachQuestionSeesTheChange() {
        questions((x, want, what, question) -> {
            IllTonight y = knowing(2, 2, 1);
            y.season(0, 1);
            questions((z, other, name, first) -> first.applyAsLong(z), y);
            y.terms(0, 2);
            questions((z, other, name, first) -> first.applyAsLong(z), y);
            y.lesson(0, 0, 1, 1);
            y.gives(0);
            y.terms(0, 1);
            due(what + ", first behind a change", question.applyAsLong(y), want);
        }, new IllTonight());
    }

    static void p45_eachQuestionIsTheFirst() {
        questions((x, want, what, question) -> due(what + ", first of all", question.applyAsLong(toBeAsked()), want),
            new IllTonight());
    }
}
