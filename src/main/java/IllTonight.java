import java.util.Arrays;

/** A theatre in which, when one is ill, another steps up. See ../shared/DOC.md for the words used here. */
public final class IllTonight {
    public static final int NONE = -1;

    private static final int SIDE = 8;
    private static final int CELLS = 64;
    private static final int SETS = 256;
    private static final int ACTOR_FACTS = 4;
    private static final int PART_FACTS = 3;
    private static final int LESSON_FACTS = 4;
    private static final int LAWS = 6;
    private static final int LESSONS = 7;
    private static final int LESSON_SETS = 128;
    private static final int SAFETIES = 4;
    private static final int IMAGES = 2;
    private static final int TAPE = 400;
    private static final int CLAUSES = 12;
    private static final int PIECES = 50;
    private static final int BRACKETS = 8;
    private static final int WEEKS = 40;
    private static final int BEST = 9;
    private static final int CLOSED_THEN = 1000;

    private static final int[] ACTOR_LOW = {100, 0, 0, 0};
    private static final int[] ACTOR_HIGH = {220, 9, 9, 100};
    private static final int[] PART_HIGH = {9, 9, 255};
    private static final int[] TERM_HIGH = {9, 1, 99};
    private static final int NEED = 0;
    private static final int DOUBLES = 1;
    private static final int WEEK = 2;
    private static final int FRAIL = 3;
    private static final int SCENES = 2;

    private static final int BAD_NUMBER = -1;
    private static final int NO_SUCH = -2;
    private static final int NOT_NOW = -3;
    private static final int NO_ROOM = -5;
    private static final int BAD_TEXT = -6;

    // What is still true of the latest state, as bits of "fresh"; the lessons' tables take four bits from PLANS on.
    private static final int CAST = 1;
    private static final int FIRST = 2;
    private static final int TALLY = 4;
    private static final int CLOSED = 8;
    private static final int PICKED = 16;
    private static final int PLANS = 32;

    private final State now = new State();
    private final State[] images = {new State(), new State()};
    private final boolean[] kept = new boolean[IMAGES];
    private final int[] bytes = new int[TAPE];
    private int length;
    private final Reader reader = new Reader();
    private int lastFault = NONE;
    private int lastForgot;
    private final int[] refusals = new int[5];
    private int lastRefusal;
    private int fresh;
    private final Casting casting = new Casting();
    private final Casting trial = new Casting();
    private final Nights nights = new Nights(casting);
    private final House house = new House(casting);
    private final Plans plans = new Plans();
    private final Season latest = new Season();
    private final int[] links = new int[SIDE];
    private long firstNight;

    public IllTonight() {
    }

    public int actor(int height, int coat, int voice, int frail) {
        if (!actorFits(0, height) || !actorFits(1, coat) || !actorFits(2, voice) || !actorFits(3, frail)) {
            return refuse(BAD_NUMBER);
        }
        if (now.actors >= SIDE) {
            return refuse(NO_ROOM);
        }
        int at = now.actors * ACTOR_FACTS;
        now.actorFacts[at] = height;
        now.actorFacts[at + 1] = coat;
        now.actorFacts[at + 2] = voice;
        now.actorFacts[at + 3] = frail;
        now.actors++;
        return accept(now.actors - 1);
    }

    public int part(int coat, int song, int scenes) {
        if (!partFits(0, coat) || !partFits(1, song) || !partFits(2, scenes)) {
            return refuse(BAD_NUMBER);
        }
        if (now.parts >= SIDE) {
            return refuse(NO_ROOM);
        }
        int at = now.parts * PART_FACTS;
        now.partFacts[at] = coat;
        now.partFacts[at + 1] = song;
        now.partFacts[at + 2] = scenes;
        now.parts++;
        return accept(now.parts - 1);
    }

    public int turn(int actor, int what, int value) {
        if (!actorFits(what, value)) {
            return refuse(BAD_NUMBER);
        }
        if (!now.hasActor(actor)) {
            return refuse(NO_SUCH);
        }
        int at = actor * ACTOR_FACTS + what;
        int was = now.actorFacts[at];
        now.actorFacts[at] = value;
        return accept(was);
    }

    public int alter(int part, int what, int value) {
        if (!partFits(what, value)) {
            return refuse(BAD_NUMBER);
        }
        if (!now.hasPart(part)) {
            return refuse(NO_SUCH);
        }
        int at = part * PART_FACTS + what;
        int was = now.partFacts[at];
        now.partFacts[at] = value;
        return accept(was);
    }

    public int usual(int part, int actor) {
        if (!now.hasPart(part) || actor != NONE && !now.hasActor(actor)) {
            return refuse(NO_SUCH);
        }
        int was = now.usually[part];
        now.usually[part] = actor;
        return accept(was);
    }

    public int knows(int actor, int part, int how) {
        if (how < 0 || how > BEST) {
            return refuse(BAD_NUMBER);
        }
        if (!now.hasBoth(actor, part)) {
            return refuse(NO_SUCH);
        }
        int at = actor * SIDE + part;
        int was = now.known[at];
        now.known[at] = how;
        return accept(was);
    }

    public int of(int actor, int part, int what) {
        if (!now.hasBoth(actor, part)) {
            return NONE;
        }
        int how = now.known[actor * SIDE + part];
        casting.ask(now, actor, part, how, now.terms[WEEK]);
        switch (what) {
            case 0:
                return how;
            case 1:
                return casting.canPlay(now) ? 1 : 0;
            case 2:
                return casting.price(now);
            case 3:
                return casting.fading(now);
            default:
                return NONE;
        }
    }

    public int ill(int actors) {
        if (!within(actors, now.actors)) {
            return refuse(BAD_NUMBER);
        }
        int was = now.illBits;
        now.illBits = actors;
        return accept(was);
    }

    public int terms(int what, int value) {
        if (what < 0 || what >= TERM_HIGH.length || value < 0 || value > TERM_HIGH[what]) {
            return refuse(BAD_NUMBER);
        }
        int was = now.terms[what];
        now.terms[what] = value;
        return accept(was);
    }

    public int feed(int a, int b, int c, int d, int e) {
        if (length > TAPE - 20) {
            return NONE;
        }
        putFour(a);
        putFour(b);
        putFour(c);
        putFour(d);
        putFour(e);
        return length;
    }

    public int end(int n) {
        if (n < 0 || n > length) {
            return NONE;
        }
        length = n;
        return n;
    }

    public int row() {
        if (length == 0) {
            return refuse(BAD_TEXT);
        }
        int came = 0;
        int lost = 0;
        for (int at = 0; at < length; at += 3) {
            if (at + 2 < length && now.hasBoth(bytes[at], bytes[at + 1]) && bytes[at + 2] <= BEST) {
                now.known[bytes[at] * SIDE + bytes[at + 1]] = bytes[at + 2];
                came++;
            } else {
                lost++;
            }
        }
        length = 0;
        lastForgot = lost;
        return accept(came);
    }

    public int forgot() {
        return lastForgot;
    }

    public int law() {
        int size = length;
        length = 0;
        if (now.lawCount >= LAWS) {
            return refuse(NO_ROOM);
        }
        Law read = reader.read(bytes, size);
        lastFault = reader.fault;
        if (read == null) {
            return refuse(BAD_TEXT);
        }
        now.laws[now.lawCount] = read;
        now.lawCount++;
        return accept(now.lawCount - 1);
    }

    public int fault() {
        return lastFault;
    }

    public int force(int law) {
        if (law < NONE || law >= now.lawCount) {
            return refuse(NO_SUCH);
        }
        int was = now.inForce;
        now.inForce = law;
        return accept(was);
    }

    public int night(int what) {
        switch (what) {
            case 0:
                renew(FIRST);
                return Nights.costIn(firstNight);
            case 1:
                renew(TALLY);
                return nights.leastNights;
            case 2:
                renew(TALLY);
                return nights.allNights;
            default:
                return NONE;
        }
    }

    public int who(int part) {
        renew(FIRST);
        return now.hasPart(part) ? Nights.playerIn(firstNight, part) : NONE;
    }

    public int changed() {
        renew(FIRST);
        if (Nights.isNone(firstNight)) {
            return NONE;
        }
        int bits = 0;
        for (int part = 0; part < now.parts; part++) {
            if (isChanged(part)) {
                bits |= 1 << part;
            }
        }
        return bits;
    }

    public int chain(int part, int i) {
        renew(FIRST);
        if (!now.hasPart(part) || Nights.isNone(firstNight)) {
            return NONE;
        }
        int size = linkFrom(part);
        if (i == NONE) {
            return size;
        }
        return i >= 0 && i < size ? links[i] : NONE;
    }

    public int nth(int i, int part) {
        if (i < 0 || !now.hasPart(part)) {
            return NONE;
        }
        if ((fresh & PICKED) == 0 || nights.pickedIndex != i) {
            renew(CAST);
            nights.pick(casting, now.illBits, i);
            fresh |= PICKED;
        }
        return nights.picked[part];
    }

    public int gives(int actor) {
        if (!now.hasActor(actor)) {
            return refuse(NO_SUCH);
        }
        if (now.toldCount >= now.parts) {
            return refuse(NOT_NOW);
        }
        now.told[now.toldCount] = actor;
        now.toldCount++;
        return accept(now.toldCount);
    }

    public int clear() {
        int was = now.toldCount;
        now.toldCount = 0;
        return was;
    }

    public int judge(int what) {
        renew(CAST);
        switch (what) {
            case 0:
                return firstWrong();
            case 1:
                return toldCost();
            default:
                return NONE;
        }
    }

    public int shut(int actors) {
        if (!within(actors, now.actors)) {
            return NONE;
        }
        renew(CLOSED);
        return house.closed[actors] ? 1 : 0;
    }

    public int closing(int i) {
        renew(CLOSED);
        return house.closingSet(i);
    }

    public int safe(int k) {
        if (k < 0 || k > SIDE) {
            return NONE;
        }
        renew(CLOSED);
        return house.leastClosed(k) == NONE ? 1 : 0;
    }

    public int unsafe(int k) {
        if (k < 0 || k > SIDE) {
            return NONE;
        }
        renew(CLOSED);
        return house.leastClosed(k);
    }

    public int most() {
        renew(CLOSED);
        int set = house.leastClosed(SIDE);
        return set == NONE ? SIDE : Integer.bitCount(set) - 1;
    }

    public int missed(int actor) {
        renew(FIRST);
        if (!now.hasActor(actor) || Nights.isNone(firstNight)) {
            return NONE;
        }
        if ((now.illBits >> actor & 1) == 1) {
            return 0;
        }
        long then = nights.firstOf(casting, now.illBits | 1 << actor);
        return Nights.isNone(then) ? CLOSED_THEN : Nights.costIn(then) - Nights.costIn(firstNight);
    }

    public int key(int actor) {
        renew(CLOSED);
        return now.hasActor(actor) ? house.keySets(actor) : NONE;
    }

    public long odds(int what) {
        switch (what) {
            case 0:
                renew(CLOSED);
                return house.closedOdds(now);
            case 1:
                renew(CAST);
                return nights.meanCost(casting, now);
            default:
                return NONE;
        }
    }

    public int lesson(int actor, int part, int how, int hours) {
        if (how < 1 || how > BEST || hours < 1 || hours > 99) {
            return refuse(BAD_NUMBER);
        }
        if (!now.hasBoth(actor, part)) {
            return refuse(NO_SUCH);
        }
        if (now.lessonCount >= LESSONS) {
            return refuse(NO_ROOM);
        }
        int at = now.lessonCount * LESSON_FACTS;
        now.lessons[at] = actor;
        now.lessons[at + 1] = part;
        now.lessons[at + 2] = how;
        now.lessons[at + 3] = hours;
        now.lessonCount++;
        return accept(now.lessonCount - 1);
    }

    public int drop(int lesson) {
        if (lesson < 0 || lesson >= now.lessonCount) {
            return refuse(NO_SUCH);
        }
        now.removeLessons(1 << lesson);
        return accept(now.lessonCount);
    }

    public int learn(int k, int what) {
        if (k < 0 || k >= SAFETIES) {
            return NONE;
        }
        makePlans(k);
        switch (what) {
            case 0:
                return plans.hoursOf(plans.cheapest(k, 0));
            case 1:
                return plans.cheapest(k, 0);
            case 2:
                return plans.enoughSets(k);
            default:
                return NONE;
        }
    }

    public int worth(int k, int lesson) {
        if (k < 0 || k >= SAFETIES || lesson < 0 || lesson >= now.lessonCount) {
            return NONE;
        }
        makePlans(k);
        int best = plans.cheapest(k, 0);
        if (best == NONE) {
            return NONE;
        }
        int without = plans.cheapest(k, 1 << lesson);
        return without == NONE ? CLOSED_THEN : plans.hoursOf(without) - plans.hoursOf(best);
    }

    public int teach(int lessons) {
        if (!within(lessons, now.lessonCount)) {
            return refuse(BAD_NUMBER);
        }
        int better = now.raise(now.known, lessons);
        now.removeLessons(lessons);
        return accept(better);
    }

    public int season(int seed, int n) {
        if (seed < 0 || seed > 1000000 || n < 1 || n > WEEKS) {
            return refuse(BAD_NUMBER);
        }
        return accept(latest.play(now, seed, n, trial, nights));
    }

    public int week(int i, int what) {
        if (i < 0 || i >= latest.weeks) {
            return NONE;
        }
        if (what == 0) {
            return latest.illOf[i];
        }
        long night = latest.nightOf[i];
        if (what == 1) {
            return Nights.costIn(night);
        }
        int part = what - 2;
        return part >= 0 && part < latest.parts ? Nights.playerIn(night, part) : NONE;
    }

    public int learnt(int actor, int part) {
        boolean there = actor >= 0 && actor < latest.actors && part >= 0 && part < latest.parts;
        return there ? latest.known[actor * SIDE + part] : NONE;
    }

    public int image(int k) {
        if (k < 0 || k >= IMAGES) {
            return refuse(BAD_NUMBER);
        }
        images[k].become(now);
        kept[k] = true;
        return accept(0);
    }

    public int back(int k) {
        if (k < 0 || k >= IMAGES) {
            return refuse(BAD_NUMBER);
        }
        if (!kept[k]) {
            return refuse(NO_SUCH);
        }
        now.become(images[k]);
        return accept(0);
    }

    public int count(int what) {
        if (what >= 7 && what <= 11) {
            return refusals[what - 7];
        }
        if (what >= 13 && what <= 15) {
            return now.terms[what - 13];
        }
        switch (what) {
            case 0:
                return now.actors;
            case 1:
                return now.parts;
            case 2:
                return now.lawCount;
            case 3:
                return now.lessonCount;
            case 4:
                return now.toldCount;
            case 5:
                return now.illBits;
            case 6:
                return length;
            case 12:
                return now.inForce;
            default:
                return NONE;
        }
    }

    public int status() {
        return lastRefusal;
    }

    private int refuse(int by) {
        lastRefusal = by;
        // -4 is no refusal of the document's, so -5 and -6 stand one place nearer.
        int slot = by > NO_ROOM ? -by - 1 : -by - 2;
        refusals[slot]++;
        return by;
    }

    private int accept(int answer) {
        lastRefusal = 0;
        fresh = 0;
        return answer;
    }

    private static boolean actorFits(int what, int value) {
        return what >= 0 && what < ACTOR_FACTS && value >= ACTOR_LOW[what] && value <= ACTOR_HIGH[what];
    }

    private static boolean partFits(int what, int value) {
        return what >= 0 && what < PART_FACTS && value >= 0 && value <= PART_HIGH[what];
    }

    private static boolean within(int bits, int size) {
        return (bits & -1 << size) == 0;
    }

    private void putFour(int number) {
        for (int shift = 24; shift >= 0 && length < TAPE; shift -= 8) {
            bytes[length] = number >> shift & 255;
            length++;
        }
    }

    /** Makes anew what is asked for and no longer stands; all of it rests on the casting. */
    private void renew(int what) {
        int stale = (what | CAST) & ~fresh;
        if ((stale & CAST) != 0) {
            casting.fillAble(now, now.known, now.terms[WEEK]);
            casting.fillCosts(now, now.known, now.terms[WEEK]);
        }
        if ((stale & FIRST) != 0) {
            firstNight = nights.firstOf(casting, now.illBits);
        }
        if ((stale & TALLY) != 0) {
            nights.tallyAll(casting, now.illBits);
        }
        if ((stale & CLOSED) != 0) {
            house.closeAll(casting);
        }
        fresh |= stale;
    }

    private void makePlans(int k) {
        if ((fresh & PLANS << k) != 0) {
            return;
        }
        trial.fillAble(now, now.known, now.terms[WEEK]);
        plans.begin(now, trial);
        for (int set = 0; set < plans.sets; set++) {
            plans.tryOut(now, set, trial);
            plans.enough[k * LESSON_SETS + set] = house.opens(trial, k);
        }
        fresh |= PLANS << k;
    }

    private boolean isChanged(int part) {
        return Nights.playerIn(firstNight, part) != now.usually[part];
    }

    private int linkFrom(int part) {
        int size = 0;
        int inChain = 0;
        int next = isChanged(part) ? part : NONE;
        for (int turn = 0; turn < SIDE && next != NONE; turn++) {
            int player = Nights.playerIn(firstNight, next);
            links[size] = player;
            size++;
            inChain |= 1 << player;
            next = nextLink(player, inChain);
        }
        return size;
    }

    private int nextLink(int actor, int inChain) {
        for (int part = 0; part < now.parts; part++) {
            boolean left = now.usually[part] == actor && isChanged(part);
            if (left && (inChain >> Nights.playerIn(firstNight, part) & 1) == 0) {
                return part;
            }
        }
        return NONE;
    }

    private int firstWrong() {
        for (int part = 0; part < now.toldCount; part++) {
            int actor = now.told[part];
            boolean able = (casting.canBits[actor] >> part & 1) == 1 && (now.illBits >> actor & 1) == 0;
            if (!able || !fitsAhead(part, actor)) {
                return part;
            }
        }
        return NONE;
    }

    private boolean fitsAhead(int part, int actor) {
        int others = 0;
        for (int ahead = 0; ahead < part; ahead++) {
            if (now.told[ahead] == actor) {
                others++;
                if (others > 1 || (casting.beside[ahead] >> part & 1) == 0) {
                    return false;
                }
            }
        }
        return true;
    }

    private int toldCost() {
        int sum = 0;
        for (int part = 0; part < now.toldCount; part++) {
            sum += casting.costs[now.told[part] * SIDE + part];
        }
        return sum;
    }

    /** All that an IMAGE keeps. */
    private static final class State {
        int actors;
        int parts;
        final int[] actorFacts = new int[SIDE * ACTOR_FACTS];
        final int[] partFacts = new int[SIDE * PART_FACTS];
        final int[] usually = {NONE, NONE, NONE, NONE, NONE, NONE, NONE, NONE};
        final int[] known = new int[CELLS];
        int illBits;
        final int[] terms = {1, 0, 0};
        final Law[] laws = new Law[LAWS];
        int lawCount;
        int inForce = NONE;
        final int[] lessons = new int[LESSONS * LESSON_FACTS];
        int lessonCount;
        final int[] told = new int[SIDE];
        int toldCount;

        boolean hasActor(int actor) {
            return actor >= 0 && actor < actors;
        }

        boolean hasPart(int part) {
            return part >= 0 && part < parts;
        }

        boolean hasBoth(int actor, int part) {
            return hasActor(actor) && hasPart(part);
        }

        Law forced() {
            return inForce >= 0 && inForce < lawCount ? laws[inForce] : null;
        }

        void become(State other) {
            actors = other.actors;
            parts = other.parts;
            System.arraycopy(other.actorFacts, 0, actorFacts, 0, actorFacts.length);
            System.arraycopy(other.partFacts, 0, partFacts, 0, partFacts.length);
            System.arraycopy(other.usually, 0, usually, 0, usually.length);
            System.arraycopy(other.known, 0, known, 0, known.length);
            illBits = other.illBits;
            System.arraycopy(other.terms, 0, terms, 0, terms.length);
            // A law never changes once it is read, so the images share it.
            for (int i = 0; i < LAWS; i++) {
                laws[i] = other.laws[i];
            }
            lawCount = other.lawCount;
            inForce = other.inForce;
            System.arraycopy(other.lessons, 0, lessons, 0, lessons.length);
            lessonCount = other.lessonCount;
            System.arraycopy(other.told, 0, told, 0, told.length);
            toldCount = other.toldCount;
        }

        /** How many of the lessons made somebody know better, one after the other. */
        int raise(int[] cells, int lessonBits) {
            int better = 0;
            for (int i = 0; i < lessonCount; i++) {
                int at = lessons[i * LESSON_FACTS] * SIDE + lessons[i * LESSON_FACTS + 1];
                int how = lessons[i * LESSON_FACTS + 2];
                if ((lessonBits >> i & 1) == 1 && cells[at] < how) {
                    cells[at] = how;
                    better++;
                }
            }
            return better;
        }

        void removeLessons(int lessonBits) {
            int left = 0;
            for (int i = 0; i < lessonCount; i++) {
                if ((lessonBits >> i & 1) == 0) {
                    System.arraycopy(lessons, i * LESSON_FACTS, lessons, left * LESSON_FACTS, LESSON_FACTS);
                    left++;
                }
            }
            lessonCount = left;
        }
    }

    /** A TEXT that was read: each clause has a row of steps for its sum, then one for its test; either may be empty. */
    private static final class Law {
        static final int BROKEN = Integer.MIN_VALUE;
        static final int LIMIT = 1000000000;
        static final int STACK = 32;

        // The heads bear the numbers of their words in Reader.WORDS.
        static final int COST = 0;
        static final int FADES = 1;
        static final int BARS = 2;
        static final int LETS = 3;

        static final int NUMBER = 0;
        static final int FACT = 1;
        static final int NOT = 2;
        static final int OR = 3;
        static final int AND = 4;
        static final int PLUS = 5;
        static final int MINUS = 6;
        static final int TIMES = 7;
        static final int OVER = 8;
        static final int LESS = 9;
        static final int MORE = 10;
        static final int SAME = 11;

        private final int[] heads;
        private final int[] places;
        private final int[] steps;

        /** Places: where each clause's sum begins and where its test does, and the end of the last. */
        Law(int[] heads, int[] places, int[] steps) {
            this.heads = heads;
            this.places = places;
            this.steps = steps;
        }

        /** What the last clause with this head that holds tells (1 for one without a sum); BROKEN, if none holds. */
        int tells(int head, int[] facts, int[] stack) {
            for (int i = heads.length - 1; i >= 0; i--) {
                if (heads[i] == head && i * 2 + 2 < places.length) {
                    int sum = places[i * 2];
                    int test = places[i * 2 + 1];
                    int end = places[i * 2 + 2];
                    boolean so = test == end || run(test, end, facts, stack) == 1;
                    int told = !so ? BROKEN : sum == test ? 1 : run(sum, test, facts, stack);
                    if (told != BROKEN) {
                        return told;
                    }
                }
            }
            return BROKEN;
        }

        private int run(int from, int to, int[] facts, int[] stack) {
            int top = 0;
            for (int at = from; at < to && at < steps.length; at++) {
                int kind = steps[at] & 255;
                int with = steps[at] >> 8;
                if (top >= stack.length || with < 0) {
                    return BROKEN;
                }
                if (kind == NUMBER || kind == FACT) {
                    stack[top] = kind == NUMBER || with >= facts.length ? with : facts[with];
                    top++;
                } else if (top < (kind >= PLUS ? 2 : 1)) {
                    return BROKEN;
                } else if (kind == NOT) {
                    stack[top - 1] = 1 - stack[top - 1];
                } else if (kind == OR || kind == AND) {
                    // What stands behind is asked only if it can still matter.
                    boolean settled = stack[top - 1] == (kind == OR ? 1 : 0);
                    top = settled ? top : top - 1;
                    at = settled ? Math.max(at, with - 1) : at;
                } else {
                    int value = joined(kind, stack[top - 2], stack[top - 1]);
                    if (value == BROKEN) {
                        return BROKEN;
                    }
                    top--;
                    stack[top - 1] = value;
                }
            }
            return top == 1 ? stack[0] : BROKEN;
        }

        private static int joined(int kind, long left, long right) {
            long value;
            switch (kind) {
                case PLUS:
                    value = left + right;
                    break;
                case MINUS:
                    value = left - right;
                    break;
                case TIMES:
                    value = left * right;
                    break;
                case OVER:
                    if (right == 0) {
                        return BROKEN;
                    }
                    value = left / right;
                    break;
                case LESS:
                    return left < right ? 1 : 0;
                case MORE:
                    return left > right ? 1 : 0;
                case SAME:
                    return left == right ? 1 : 0;
                default:
                    return BROKEN;
            }
            return value > LIMIT || value < -LIMIT ? BROKEN : (int) value;
        }
    }

    /** Reads a TEXT into a LAW. It always stands at the first token that it has not taken, so that is where a FAULT is. */
    private static final class Reader {
        private static final int BLANK = 32;
        private static final int WIDTH = 7;
        // The facts come last, in the order in which Casting puts them.
        private static final String WORDS = "cost   fades  bars   lets   if     or     and    not    actor  part   height coat   wears  voice  song   knows  usual  week   ";
        private static final int WORD_COUNT = 18;
        private static final int IF = 4;
        private static final int OR = 5;
        private static final int AND = 6;
        private static final int NOT = 7;
        private static final int FIRST_FACT = 8;
        private static final int NUMBER = 18;
        private static final int WRONG = 19;
        private static final int END = 20;
        private static final int MARK = 100;

        private final int[] kinds = new int[TAPE + 1];
        private final int[] values = new int[TAPE + 1];
        private final int[] starts = new int[TAPE + 1];
        private int size;
        private int at;
        private final int[] steps = new int[TAPE];
        private int stepCount;
        private final int[] heads = new int[CLAUSES];
        private final int[] places = new int[CLAUSES * 2 + 1];
        private int clauses;
        private int pieces;
        int fault = NONE;

        /** The law; null with the fault's place, if it can't be. */
        Law read(int[] bytes, int length) {
            cut(bytes, length);
            at = 0;
            stepCount = 0;
            clauses = 0;
            pieces = 0;
            boolean more = true;
            while (more && clauses < CLAUSES && readClause()) {
                clauses++;
                more = sees(MARK + ';');
                if (more) {
                    take();
                }
            }
            // With more due, a clause could not be read or was one too many.
            if (more || !sees(END)) {
                fault = starts[at];
                return null;
            }
            fault = NONE;
            places[clauses * 2] = stepCount;
            return new Law(Arrays.copyOf(heads, clauses), Arrays.copyOf(places, clauses * 2 + 1),
                Arrays.copyOf(steps, stepCount));
        }

        private void cut(int[] bytes, int length) {
            size = 0;
            int from = 0;
            for (int turn = 0; turn < length && from < length; turn++) {
                int to = from + 1;
                if (bytes[from] != BLANK) {
                    int sort = sortOf(bytes[from]);
                    while (sort != MARK && to < length && sortOf(bytes[to]) == sort) {
                        to++;
                    }
                    addToken(bytes, from, to, sort);
                }
                from = to;
            }
            kinds[size] = END;
            starts[size] = length;
            size++;
        }

        private static int sortOf(int letter) {
            if (letter >= 'a' && letter <= 'z') {
                return WRONG;
            }
            return letter >= '0' && letter <= '9' ? NUMBER : MARK;
        }

        private void addToken(int[] bytes, int from, int to, int sort) {
            starts[size] = from;
            values[size] = 0;
            if (sort == MARK) {
                kinds[size] = MARK + bytes[from];
            } else if (sort == NUMBER) {
                values[size] = valueOf(bytes, from, to);
                kinds[size] = values[size] > 1000 ? WRONG : NUMBER;
            } else {
                kinds[size] = wordOf(bytes, from, to);
            }
            size++;
        }

        private static int valueOf(int[] bytes, int from, int to) {
            int value = 0;
            for (int i = from; i < to; i++) {
                // It is held at one too many, since a row of digits may be longer than any number.
                value = Math.min(1001, value * 10 + bytes[i] - '0');
            }
            return value;
        }

        private static int wordOf(int[] bytes, int from, int to) {
            int letters = to - from;
            for (int word = 0; word < WORD_COUNT && letters < WIDTH; word++) {
                int same = 0;
                while (same < letters && WORDS.charAt(word * WIDTH + same) == bytes[from + same]) {
                    same++;
                }
                if (same == letters && WORDS.charAt(word * WIDTH + letters) == ' ') {
                    return word;
                }
            }
            return WRONG;
        }

        private boolean sees(int kind) {
            return kinds[at] == kind;
        }

        /** The end is never taken, so there is always a token to stand at. */
        private void take() {
            if (at < size - 1) {
                at++;
            }
        }

        private void addStep(int kind, int with) {
            if (stepCount < steps.length) {
                steps[stepCount] = kind | with << 8;
                stepCount++;
            }
        }

        private boolean readClause() {
            int head = kinds[at];
            if (head < Law.COST || head > Law.LETS) {
                return false;
            }
            heads[clauses] = head;
            places[clauses * 2] = stepCount;
            take();
            if (head <= Law.FADES && !readSum(0, false)) {
                return false;
            }
            places[clauses * 2 + 1] = stepCount;
            if (!sees(IF)) {
                return true;
            }
            take();
            return readTest(0, false);
        }

        /** A TEST, or with both a BOTH; depth: how many brackets stand open. */
        private boolean readTest(int depth, boolean both) {
            if (!(both ? readPlain(depth) : readTest(depth, true))) {
                return false;
            }
            for (int turn = 0; turn < TAPE && sees(both ? AND : OR); turn++) {
                take();
                int jump = stepCount;
                addStep(both ? Law.AND : Law.OR, 0);
                if (!(both ? readPlain(depth) : readTest(depth, true))) {
                    return false;
                }
                if (jump < steps.length) {
                    steps[jump] |= stepCount << 8;
                }
            }
            return true;
        }

        private boolean readPlain(int depth) {
            boolean turned = false;
            for (int turn = 0; turn < TAPE && sees(NOT); turn++) {
                take();
                turned = !turned;
            }
            if (sees(MARK + '(')) {
                if (depth >= BRACKETS) {
                    return false;
                }
                take();
                if (!readTest(depth + 1, false) || !sees(MARK + ')')) {
                    return false;
                }
                take();
            } else {
                if (!readSum(depth, false)) {
                    return false;
                }
                int kind = comparison();
                if (kind == NONE) {
                    return false;
                }
                take();
                if (!readSum(depth, false)) {
                    return false;
                }
                addStep(kind, 0);
            }
            if (turned) {
                addStep(Law.NOT, 0);
            }
            return true;
        }

        private int comparison() {
            switch (kinds[at]) {
                case MARK + '<':
                    return Law.LESS;
                case MARK + '>':
                    return Law.MORE;
                case MARK + '=':
                    return Law.SAME;
                default:
                    return NONE;
            }
        }

        /** A SUM, or with term a TERM. */
        private boolean readSum(int depth, boolean term) {
            if (!(term ? readPiece(depth) : readSum(depth, true))) {
                return false;
            }
            int one = term ? '*' : '+';
            int other = term ? '/' : '-';
            for (int turn = 0; turn < TAPE && (sees(MARK + one) || sees(MARK + other)); turn++) {
                int kind = sees(MARK + one) ? (term ? Law.TIMES : Law.PLUS) : term ? Law.OVER : Law.MINUS;
                take();
                if (!(term ? readPiece(depth) : readSum(depth, true))) {
                    return false;
                }
                addStep(kind, 0);
            }
            return true;
        }

        private boolean readPiece(int depth) {
            if (sees(MARK + '[')) {
                if (depth >= BRACKETS) {
                    return false;
                }
                take();
                if (!readSum(depth + 1, false) || !sees(MARK + ']')) {
                    return false;
                }
                take();
                return true;
            }
            int kind = kinds[at];
            if (kind < FIRST_FACT || kind > NUMBER || pieces >= PIECES) {
                return false;
            }
            pieces++;
            addStep(kind == NUMBER ? Law.NUMBER : Law.FACT, kind == NUMBER ? values[at] : kind - FIRST_FACT);
            take();
            return true;
        }
    }

    /** Who can play what at which cost, by a state, what is known and a week. */
    private static final class Casting {
        int actors;
        int parts;
        final int[] canBits = new int[SIDE];
        final int[] costs = new int[CELLS];
        /** The parts that one actor may have beside a part, none without DOUBLES. */
        final int[] beside = new int[SIDE];
        private final int[] facts = new int[10];
        private final int[] stack = new int[Law.STACK];

        /** All but the costs, which are not asked for when only a shut house matters. */
        void fillAble(State state, int[] known, int week) {
            actors = state.actors;
            parts = state.parts;
            for (int part = 0; part < parts; part++) {
                beside[part] = state.terms[DOUBLES] == 1 ? apartFrom(state, part) : 0;
            }
            for (int actor = 0; actor < actors; actor++) {
                canBits[actor] = 0;
                for (int part = 0; part < parts; part++) {
                    ask(state, actor, part, known[actor * SIDE + part], week);
                    if (canPlay(state)) {
                        canBits[actor] |= 1 << part;
                    }
                }
            }
        }

        void fillCosts(State state, int[] known, int week) {
            for (int actor = 0; actor < actors; actor++) {
                for (int part = 0; part < parts; part++) {
                    int at = actor * SIDE + part;
                    ask(state, actor, part, known[at], week);
                    costs[at] = price(state);
                }
            }
        }

        private static int apartFrom(State state, int part) {
            int scenes = state.partFacts[part * PART_FACTS + SCENES];
            int bits = 0;
            for (int other = 0; other < state.parts; other++) {
                if (other != part && (state.partFacts[other * PART_FACTS + SCENES] & scenes) == 0) {
                    bits |= 1 << other;
                }
            }
            return bits;
        }

        /** Whom and what the laws are asked of next. */
        void ask(State state, int actor, int part, int known, int week) {
            facts[0] = actor;
            facts[1] = part;
            facts[2] = state.actorFacts[actor * ACTOR_FACTS];
            facts[3] = state.actorFacts[actor * ACTOR_FACTS + 1];
            facts[4] = state.partFacts[part * PART_FACTS];
            facts[5] = state.actorFacts[actor * ACTOR_FACTS + 2];
            facts[6] = state.partFacts[part * PART_FACTS + 1];
            facts[7] = known;
            facts[8] = state.usually[part] == actor ? 1 : 0;
            facts[9] = week;
        }

        boolean canPlay(State state) {
            Law law = state.forced();
            boolean enough = facts[7] >= state.terms[NEED];
            if (law == null) {
                return enough;
            }
            boolean let = enough || law.tells(Law.LETS, facts, stack) != Law.BROKEN;
            return let && law.tells(Law.BARS, facts, stack) == Law.BROKEN;
        }

        int price(State state) {
            Law law = state.forced();
            int told = law == null ? Law.BROKEN : law.tells(Law.COST, facts, stack);
            return told == Law.BROKEN ? 1 - facts[8] : Math.max(0, Math.min(99, told));
        }

        int fading(State state) {
            Law law = state.forced();
            int told = law == null ? Law.BROKEN : law.tells(Law.FADES, facts, stack);
            return told == Law.BROKEN ? 0 : Math.max(0, Math.min(9, told));
        }
    }

    /**
     * The NIGHTS of a casting. Actor by actor it keeps, for each set of parts, the best way to give just these. For the
     * FIRST a way is one number, its cost ahead of its row of actors, so that the lowest number is the FIRST of the
     * LEAST; for a tally it is the cost ahead of how many cost just so much.
     */
    private static final class Nights {
        private static final long NO_NIGHT = 1L << 60;
        private static final int ROW_BITS = 24;
        private static final int DIGIT = 3;
        private static final int COUNT_BITS = 32;
        private static final long COUNT = 0xFFFFFFFFL;

        private static final int FOR_FIRST = 0;
        private static final int FOR_LEAST = 1;
        private static final int FOR_ALL = 2;

        private final long[] rows = new long[(SIDE + 1) * SETS];
        private int purpose;
        private Casting cast;
        /** How much of a row is used: a place for each set of the parts there are. */
        private int span;
        /** The parts that are to be given, and those that each actor has already. */
        private int wanted;
        private final int[] held = new int[SIDE];
        int leastNights;
        int allNights;
        final int[] picked = new int[SIDE];
        int pickedIndex = NONE;

        /** It has a casting from the start, so that there always is one to look at. */
        Nights(Casting casting) {
            cast = casting;
        }

        static boolean isNone(long night) {
            return night >= NO_NIGHT;
        }

        static int costIn(long night) {
            return isNone(night) ? NONE : (int) (night >> ROW_BITS);
        }

        static int playerIn(long night, int part) {
            return isNone(night) ? NONE : (int) (night >> DIGIT * (SIDE - 1 - part)) & 7;
        }

        long firstOf(Casting casting, int illBits) {
            begin(casting, FOR_FIRST);
            return solve(illBits);
        }

        void tallyAll(Casting casting, int illBits) {
            begin(casting, FOR_LEAST);
            leastNights = (int) (solve(illBits) & COUNT);
            begin(casting, FOR_ALL);
            allNights = (int) (solve(illBits) & COUNT);
        }

        private void begin(Casting casting, int forWhat) {
            cast = casting;
            purpose = forWhat;
            span = 1 << casting.parts;
            wanted = span - 1;
            Arrays.fill(held, 0);
        }

        private void open() {
            Arrays.fill(rows, 0, span, NO_NIGHT);
            rows[0] = purpose == FOR_FIRST ? 0 : 1;
        }

        private long solve(int illBits) {
            open();
            for (int actor = 0; actor < cast.actors; actor++) {
                rest(actor);
                if ((illBits >> actor & 1) == 0) {
                    play(actor);
                }
            }
            return rows[cast.actors * SETS + wanted];
        }

        /** The actor plays nothing more: the ways stay as they are. */
        private void rest(int actor) {
            System.arraycopy(rows, actor * SETS, rows, (actor + 1) * SETS, span);
        }

        private void play(int actor) {
            int able = cast.canBits[actor] & wanted & roomBeside(held[actor]);
            for (int part = 0; part < cast.parts; part++) {
                if ((able >> part & 1) == 1) {
                    spread(actor, 1 << part, weight(actor, part));
                    int seconds = held[actor] == 0 ? able & cast.beside[part] : 0;
                    for (int second = part + 1; second < cast.parts; second++) {
                        if ((seconds >> second & 1) == 1) {
                            spread(actor, 1 << part | 1 << second, weight(actor, part) + weight(actor, second));
                        }
                    }
                }
            }
        }

        private int roomBeside(int has) {
            if (has == 0) {
                return SETS - 1;
            }
            int one = Integer.numberOfTrailingZeros(has);
            return has == 1 << one && one < SIDE ? cast.beside[one] : 0;
        }

        private long weight(int actor, int part) {
            long cost = cast.costs[actor * SIDE + part];
            if (purpose == FOR_FIRST) {
                return cost << ROW_BITS | (long) actor << DIGIT * (SIDE - 1 - part);
            }
            return purpose == FOR_LEAST ? cost << COUNT_BITS : 0;
        }

        private void spread(int actor, int taken, long weight) {
            int from = actor * SETS;
            int to = from + SETS;
            int fixed = taken | ~wanted & SETS - 1;
            // On to the next higher set without any of "fixed": one is added behind filling those bits in.
            for (int set = 0; set <= wanted; set = (set | fixed) + 1 & ~fixed) {
                long way = rows[from + set];
                if (way < NO_NIGHT) {
                    int at = to + (set | taken);
                    rows[at] = better(rows[at], way + weight);
                }
            }
        }

        private long better(long one, long other) {
            if (purpose == FOR_FIRST) {
                return Math.min(one, other);
            }
            long costs = Long.compare(one >> COUNT_BITS, other >> COUNT_BITS);
            return costs == 0 ? one + (other & COUNT) : costs < 0 ? one : other;
        }

        /** Picks the index-th of the LEAST, part by part, by how many follow each choice; NONE everywhere without. */
        void pick(Casting casting, int illBits, int index) {
            begin(casting, FOR_LEAST);
            pickedIndex = index;
            Arrays.fill(picked, NONE);
            long whole = solve(illBits);
            if (isNone(whole) || index >= (whole & COUNT)) {
                return;
            }
            long unspent = whole >> COUNT_BITS;
            long ahead = index;
            for (int part = 0; part < cast.parts; part++) {
                wanted &= ~(1 << part);
                for (int actor = 0; actor < cast.actors && picked[part] == NONE; actor++) {
                    long follow = followed(actor, part, illBits, unspent);
                    if (ahead < follow) {
                        picked[part] = actor;
                        held[actor] |= 1 << part;
                        unspent -= cast.costs[actor * SIDE + part];
                    } else {
                        ahead -= follow;
                    }
                }
            }
        }

        /** How many ways to give the parts behind this one cost just what is left, if the actor takes this one. */
        private long followed(int actor, int part, int illBits, long unspent) {
            int able = cast.canBits[actor] & roomBeside(held[actor]);
            if ((illBits >> actor & 1) == 1 || (able >> part & 1) == 0) {
                return 0;
            }
            int had = held[actor];
            held[actor] |= 1 << part;
            long behind = solve(illBits);
            held[actor] = had;
            boolean fits = !isNone(behind) && (behind >> COUNT_BITS) + cast.costs[actor * SIDE + part] == unspent;
            return fits ? behind & COUNT : 0;
        }

        /** The sum of LEAST over all that may be ill, each times how likely it is. */
        long meanCost(Casting casting, State state) {
            begin(casting, FOR_FIRST);
            open();
            return meanFrom(0, 1, state);
        }

        private long meanFrom(int actor, long likely, State state) {
            if (actor >= cast.actors) {
                long night = rows[cast.actors * SETS + wanted];
                return isNone(night) ? 0 : likely * costIn(night);
            }
            int frail = state.actorFacts[actor * ACTOR_FACTS + FRAIL];
            long sum = 0;
            rest(actor);
            if (frail > 0) {
                sum += meanFrom(actor + 1, likely * frail, state);
            }
            if (frail < 100) {
                play(actor);
                sum += meanFrom(actor + 1, likely * (100 - frail), state);
            }
            return sum;
        }
    }

    /**
     * Which illnesses shut the house. Actor by actor it keeps which sets of parts can be given, a bit for each of the 256
     * sets in four words, since the lessons ask this for some ten thousand casts a call.
     */
    private static final class House {
        private static final int WORDS = 4;
        /** The sets without a part, of the six parts that tell the sets of one word apart. */
        private static final long[] WITHOUT = {0x5555555555555555L, 0x3333333333333333L, 0x0F0F0F0F0F0F0F0FL,
            0x00FF00FF00FF00FFL, 0x0000FFFF0000FFFFL, 0x00000000FFFFFFFFL};

        private final long[] rows = new long[(SIDE + 1) * WORDS];
        private final long[] one = new long[WORDS];
        private final long[] two = new long[WORDS];
        private Casting cast;
        private int words;
        final boolean[] closed = new boolean[SETS];
        private int sets;

        House(Casting casting) {
            cast = casting;
        }

        void closeAll(Casting casting) {
            begin(casting);
            sets = 1 << casting.actors;
            closeFrom(0, 0);
        }

        private void closeFrom(int actor, int illBits) {
            if (actor >= cast.actors) {
                closed[illBits] = !fills(actor);
                return;
            }
            rest(actor);
            closeFrom(actor + 1, illBits | 1 << actor);
            play(actor);
            closeFrom(actor + 1, illBits);
        }

        /** Whether the house stays open whoever so many are ill; fewer can't shut it, if no more do. */
        boolean opens(Casting casting, int many) {
            begin(casting);
            return opensFrom(0, many);
        }

        private boolean opensFrom(int actor, int many) {
            // Once all parts can be given, it does not matter who of the others is ill.
            if (actor >= cast.actors || fills(actor)) {
                return fills(actor);
            }
            rest(actor);
            if (many > 0 && !opensFrom(actor + 1, many - 1)) {
                return false;
            }
            play(actor);
            return opensFrom(actor + 1, many);
        }

        private void begin(Casting casting) {
            cast = casting;
            words = casting.parts <= 6 ? 1 : casting.parts == 7 ? 2 : WORDS;
            Arrays.fill(rows, 0, WORDS, 0L);
            rows[0] = 1;
        }

        private boolean fills(int actor) {
            int whole = (1 << cast.parts) - 1;
            return (rows[actor * WORDS + (whole >> 6)] >>> (whole & 63) & 1) == 1;
        }

        private void rest(int actor) {
            System.arraycopy(rows, actor * WORDS, rows, (actor + 1) * WORDS, words);
        }

        private void play(int actor) {
            int able = cast.canBits[actor];
            for (int part = 0; part < cast.parts; part++) {
                if ((able >> part & 1) == 1) {
                    give(rows, actor * WORDS, part, one);
                    join(actor + 1, one);
                    for (int second = part + 1; second < cast.parts; second++) {
                        if ((able & cast.beside[part] & 1 << second) != 0) {
                            give(one, 0, second, two);
                            join(actor + 1, two);
                        }
                    }
                }
            }
        }

        /** Of all sets without a part, these with it. */
        private void give(long[] from, int at, int part, long[] to) {
            for (int word = 0; word < words; word++) {
                if (part < WITHOUT.length) {
                    to[word] = (from[at + word] & WITHOUT[part]) << (1 << part);
                } else {
                    // Parts 6 and 7 choose the word: it comes from the one whose number lacks that bit.
                    int bit = 1 << part - WITHOUT.length;
                    to[word] = (word & bit) != 0 ? from[at + (word ^ bit)] : 0;
                }
            }
        }

        private void join(int actor, long[] more) {
            for (int word = 0; word < words; word++) {
                rows[actor * WORDS + word] |= more[word];
            }
        }

        /** The lowest of the smallest closed sets of at most so many; NONE without. */
        int leastClosed(int many) {
            for (int size = 0; size <= many; size++) {
                for (int set = 0; set < sets; set++) {
                    if (closed[set] && Integer.bitCount(set) == size) {
                        return set;
                    }
                }
            }
            return NONE;
        }

        /** The i-th CLOSING set; how many there are, for NONE. */
        int closingSet(int i) {
            int seen = 0;
            for (int size = 0; size <= SIDE; size++) {
                for (int set = 0; set < sets; set++) {
                    if (Integer.bitCount(set) == size && isClosing(set)) {
                        if (seen == i) {
                            return set;
                        }
                        seen++;
                    }
                }
            }
            return i == NONE ? seen : NONE;
        }

        private boolean isClosing(int set) {
            if (!closed[set]) {
                return false;
            }
            for (int actor = 0; actor < SIDE; actor++) {
                if ((set >> actor & 1) == 1 && closed[set ^ 1 << actor]) {
                    return false;
                }
            }
            return true;
        }

        int keySets(int actor) {
            int keys = 0;
            for (int set = 0; set < sets; set++) {
                if ((set >> actor & 1) == 0 && !closed[set] && closed[set | 1 << actor]) {
                    keys++;
                }
            }
            return keys;
        }

        long closedOdds(State state) {
            long sum = 0;
            for (int set = 0; set < sets; set++) {
                if (closed[set]) {
                    sum += likely(state, set);
                }
            }
            return sum;
        }

        private static long likely(State state, int set) {
            long product = 1;
            for (int actor = 0; actor < state.actors; actor++) {
                int frail = state.actorFacts[actor * ACTOR_FACTS + FRAIL];
                product *= (set >> actor & 1) == 1 ? frail : 100 - frail;
            }
            return product;
        }
    }

    /** Which sets of LESSONS are enough for how many ill ones. */
    private static final class Plans {
        final boolean[] enough = new boolean[SAFETIES * LESSON_SETS];
        private final int[] hours = new int[LESSON_SETS];
        private final int[] known = new int[CELLS];
        private final int[] base = new int[SIDE];
        int sets;

        void begin(State state, Casting trial) {
            System.arraycopy(trial.canBits, 0, base, 0, SIDE);
            sets = 1 << state.lessonCount;
        }

        /** Makes the trial what it would be with a set of lessons learnt. */
        void tryOut(State state, int set, Casting trial) {
            System.arraycopy(state.known, 0, known, 0, CELLS);
            System.arraycopy(base, 0, trial.canBits, 0, SIDE);
            state.raise(known, set);
            hours[set] = 0;
            for (int i = 0; i < state.lessonCount; i++) {
                if ((set >> i & 1) == 1) {
                    hours[set] += state.lessons[i * LESSON_FACTS + 3];
                    int actor = state.lessons[i * LESSON_FACTS];
                    int part = state.lessons[i * LESSON_FACTS + 1];
                    trial.ask(state, actor, part, known[actor * SIDE + part], state.terms[WEEK]);
                    // Who knows more may be barred for it, so the bit may go as well as come.
                    int others = trial.canBits[actor] & ~(1 << part);
                    trial.canBits[actor] = trial.canPlay(state) ? others | 1 << part : others;
                }
            }
        }

        /** The lowest of the sets with the fewest hours that are enough, without some lessons; NONE without any. */
        int cheapest(int k, int without) {
            int best = NONE;
            for (int set = 0; set < sets; set++) {
                boolean may = (set & without) == 0 && enough[k * LESSON_SETS + set];
                if (may && (best == NONE || hours[set] < hours[best])) {
                    best = set;
                }
            }
            return best;
        }

        int hoursOf(int set) {
            return set >= 0 && set < sets ? hours[set] : NONE;
        }

        int enoughSets(int k) {
            int many = 0;
            for (int set = 0; set < sets; set++) {
                many += enough[k * LESSON_SETS + set] ? 1 : 0;
            }
            return many;
        }
    }

    /** The latest SEASON, as it was played on paper. */
    private static final class Season {
        int weeks;
        int actors;
        int parts;
        final int[] illOf = new int[WEEKS];
        final long[] nightOf = new long[WEEKS];
        final int[] known = new int[CELLS];
        private int draws;

        /** How many of its weeks were shut. */
        int play(State state, int seed, int n, Casting trial, Nights nights) {
            weeks = Math.min(n, WEEKS);
            actors = state.actors;
            parts = state.parts;
            System.arraycopy(state.known, 0, known, 0, CELLS);
            draws = seed;
            int closed = 0;
            for (int i = 0; i < weeks; i++) {
                int week = state.terms[WEEK] + i;
                illOf[i] = drawIll(state);
                trial.fillAble(state, known, week);
                trial.fillCosts(state, known, week);
                nightOf[i] = nights.firstOf(trial, illOf[i]);
                closed += Nights.isNone(nightOf[i]) ? 1 : 0;
                passWeek(state, week, nightOf[i], trial);
            }
            return closed;
        }

        private int drawIll(State state) {
            int bits = 0;
            for (int actor = 0; actor < actors; actor++) {
                draws = (int) ((draws * 1103L + 12345) % 1000003);
                if (draws % 100 < state.actorFacts[actor * ACTOR_FACTS + FRAIL]) {
                    bits |= 1 << actor;
                }
            }
            return bits;
        }

        private void passWeek(State state, int week, long night, Casting trial) {
            for (int actor = 0; actor < actors; actor++) {
                for (int part = 0; part < parts; part++) {
                    int at = actor * SIDE + part;
                    if (Nights.playerIn(night, part) == actor) {
                        known[at] = Math.min(BEST, known[at] + 1);
                    } else if (known[at] > 0) {
                        trial.ask(state, actor, part, known[at], week);
                        known[at] = Math.max(0, known[at] - trial.fading(state));
                    }
                }
            }
        }
    }
}
