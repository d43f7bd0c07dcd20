/** Each promise by itself: an ordinary call, the edges that the document names, wrong numbers; answers reckoned by hand. */
public final class PromisesTest {
    private static int wrong = 0;
    private static int asked = 0;

    private static void due(String what, long got, long want) {
        asked++;
        if (got != want) {
            wrong++;
            System.out.println(what + " answered " + got + ", due is " + want);
        }
    }

    public static void main(String[] args) {
        made();
        actors();
        parts();
        turns();
        alters();
        usuals();
        known();
        asks();
        ills();
        termsOf();
        tape();
        rows();
        laws();
        limitsOfLaws();
        manyLaws();
        faults();
        broken();
        shortWays();
        clauses();
        nights();
        doubles();
        eightParts();
        chains();
        chainWithTwoParts();
        nths();
        byHand();
        closings();
        emptyHouses();
        missing();
        odds();
        lessons();
        worths();
        worthAskedFirst();
        barredByLessons();
        seasons();
        seasonLaws();
        seasonStays();
        images();
        counts();
        statuses();
        System.out.println(wrong == 0 ? asked + " answers are as due" : wrong + " answers are not as due");
        if (wrong != 0) {
            System.exit(1);
        }
    }

    private static IllTonight cast(int actors, int parts) {
        IllTonight x = new IllTonight();
        for (int i = 0; i < actors; i++) {
            x.actor(150 + i, i, i, 0);
        }
        for (int i = 0; i < parts; i++) {
            x.part(i, i, 1 << i);
        }
        return x;
    }

    /** A cast in which all know all so well. */
    private static IllTonight knowing(int actors, int parts, int how) {
        IllTonight x = cast(actors, parts);
        for (int a = 0; a < actors; a++) {
            for (int p = 0; p < parts; p++) {
                x.knows(a, p, how);
            }
        }
        return x;
    }

    private static void type(IllTonight x, String text) {
        int before = x.count(6);
        for (int i = 0; i < text.length(); i += 20) {
            int[] five = new int[5];
            for (int j = 0; j < 20; j++) {
                five[j / 4] = five[j / 4] << 8 | (i + j < text.length() ? text.charAt(i + j) : 'z');
            }
            x.feed(five[0], five[1], five[2], five[3], five[4]);
        }
        due("end of '" + text + "'", x.end(before + text.length()), before + text.length());
    }

    private static int law(IllTonight x, String text) {
        type(x, text);
        return x.law();
    }

    /** The only law of a cast, in force. */
    private static void rule(IllTonight x, String text) {
        int law = law(x, text);
        due("law '" + text + "' is read", law >= 0 ? 1 : 0, 1);
        x.force(law);
    }

    private static void made() {
        IllTonight x = new IllTonight();
        int[] counts = {0, 0, 0, 0, 0, 0, 0, 0, 0, 0, 0, 0, -1, 1, 0, 0};
        for (int i = 0; i < counts.length; i++) {
            due("new: count(" + i + ")", x.count(i), counts[i]);
        }
        due("new: status", x.status(), 0);
        due("new: fault", x.fault(), -1);
        due("new: forgot", x.forgot(), 0);
        due("new: week", x.week(0, 0), -1);
        due("new: learnt", x.learnt(0, 0), -1);
        due("new: who", x.who(0), -1);
        due("new: clear", x.clear(), 0);
        due("NONE", IllTonight.NONE, -1);
    }

    private static void actors() {
        IllTonight x = new IllTonight();
        int[][] bad = {{99, 0, 0, 0}, {221, 0, 0, 0}, {100, -1, 0, 0}, {100, 10, 0, 0}, {100, 0, -1, 0}, {100, 0, 10, 0},
            {100, 0, 0, -1}, {100, 0, 0, 101}};
        for (int[] b : bad) {
            due("actor wrong", x.actor(b[0], b[1], b[2], b[3]), -1);
        }
        due("actor lowest", x.actor(100, 0, 0, 0), 0);
        due("actor highest", x.actor(220, 9, 9, 100), 1);
        for (int i = 2; i < 8; i++) {
            due("actor", x.actor(150, 1, 1, 1), i);
        }
        due("the ninth actor", x.actor(150, 1, 1, 1), -5);
        due("the ninth actor, wrong", x.actor(99, 1, 1, 1), -1);
        due("actors", x.count(0), 8);
    }

    private static void parts() {
        IllTonight x = new IllTonight();
        int[][] bad = {{-1, 0, 0}, {10, 0, 0}, {0, -1, 0}, {0, 10, 0}, {0, 0, -1}, {0, 0, 256}};
        for (int[] b : bad) {
            due("part wrong", x.part(b[0], b[1], b[2]), -1);
        }
        due("part lowest", x.part(0, 0, 0), 0);
        due("part highest", x.part(9, 9, 255), 1);
        for (int i = 2; i < 8; i++) {
            due("part", x.part(1, 1, 1), i);
        }
        due("the ninth part", x.part(1, 1, 1), -5);
        due("the ninth part, wrong", x.part(1, 1, 999), -1);
        due("parts", x.count(1), 8);
    }

    private static void turns() {
        IllTonight x = new IllTonight();
        x.actor(170, 3, 4, 50);
        due("turn height", x.turn(0, 0, 220), 170);
        due("turn height again", x.turn(0, 0, 100), 220);
        due("turn coat", x.turn(0, 1, 9), 3);
        due("turn voice", x.turn(0, 2, 0), 4);
        due("turn frail", x.turn(0, 3, 100), 50);
        due("turn frail again", x.turn(0, 3, 0), 100);
        due("turn what", x.turn(0, 4, 0), -1);
        due("turn what below", x.turn(0, -1, 0), -1);
        due("turn height wrong", x.turn(0, 0, 99), -1);
        due("turn coat wrong", x.turn(0, 1, 10), -1);
        due("turn voice wrong", x.turn(0, 2, -1), -1);
        due("turn nobody", x.turn(1, 0, 150), -2);
        due("turn nobody below", x.turn(-1, 0, 150), -2);
        due("turn nobody, wrong", x.turn(1, 0, 99), -1);
        due("turned coat", x.turn(0, 1, 1), 9);
    }

    private static void alters() {
        IllTonight x = new IllTonight();
        x.part(3, 4, 5);
        due("alter coat", x.alter(0, 0, 9), 3);
        due("alter song", x.alter(0, 1, 8), 4);
        due("alter scenes", x.alter(0, 2, 255), 5);
        due("alter scenes again", x.alter(0, 2, 0), 255);
        due("alter what", x.alter(0, 3, 0), -1);
        due("alter what below", x.alter(0, -1, 0), -1);
        due("alter coat wrong", x.alter(0, 0, 10), -1);
        due("alter scenes wrong", x.alter(0, 2, 256), -1);
        due("alter none", x.alter(1, 0, 0), -2);
        due("alter none below", x.alter(-1, 0, 0), -2);
        due("alter none, wrong", x.alter(-1, 0, -1), -1);
    }

    private static void usuals() {
        IllTonight x = cast(2, 2);
        due("usual", x.usual(0, 1), -1);
        due("usual is no refusal", x.status(), 0);
        due("usual, several", x.usual(1, 1), -1);
        due("usual nobody", x.usual(0, -1), 1);
        due("usual part", x.usual(2, 0), -2);
        due("usual part below", x.usual(-1, 0), -2);
        due("usual actor", x.usual(0, 2), -2);
        due("usual actor below", x.usual(0, -2), -2);
        due("usual stays", x.usual(1, 0), 1);
    }

    private static void known() {
        IllTonight x = cast(2, 2);
        due("knows", x.knows(1, 0, 9), 0);
        due("knows again", x.knows(1, 0, 0), 9);
        due("knows wrong", x.knows(1, 0, 10), -1);
        due("knows wrong below", x.knows(1, 0, -1), -1);
        due("knows nobody", x.knows(2, 0, 1), -2);
        due("knows no part", x.knows(0, -1, 1), -2);
        due("knows nobody, wrong", x.knows(9, 9, 99), -1);
        due("knows is as told", x.of(0, 1, 0), 0);
    }

    private static void asks() {
        IllTonight x = cast(2, 2);
        x.knows(0, 1, 3);
        x.usual(1, 0);
        due("of knows", x.of(0, 1, 0), 3);
        due("of can", x.of(0, 1, 1), 1);
        due("of cannot", x.of(1, 1, 1), 0);
        due("of cost usual", x.of(0, 1, 2), 0);
        due("of cost", x.of(1, 1, 2), 1);
        due("of fades", x.of(0, 1, 3), 0);
        due("of what", x.of(0, 1, 4), -1);
        due("of what below", x.of(0, 1, -1), -1);
        due("of nobody", x.of(2, 1, 0), -1);
        due("of nobody below", x.of(-1, 1, 0), -1);
        due("of no part", x.of(0, 2, 0), -1);
        x.terms(0, 4);
        due("of can, more needed", x.of(0, 1, 1), 0);
        x.terms(0, 3);
        due("of can, just needed", x.of(0, 1, 1), 1);
        x.terms(0, 0);
        due("of can, nothing needed", x.of(1, 1, 1), 1);
        x.ill(3);
        due("of can, though ill", x.of(0, 1, 1), 1);
    }

    private static void ills() {
        IllTonight x = cast(3, 1);
        due("ill", x.ill(5), 0);
        due("ill again", x.ill(7), 5);
        due("ill beyond", x.ill(8), -1);
        due("ill below", x.ill(-1), -1);
        due("ill stays", x.ill(0), 7);
        IllTonight y = cast(8, 0);
        due("all eight ill", y.ill(255), 0);
        due("a ninth ill", y.ill(256), -1);
        due("nobody there", new IllTonight().ill(1), -1);
    }

    private static void termsOf() {
        IllTonight x = new IllTonight();
        due("need", x.terms(0, 9), 1);
        due("need again", x.terms(0, 0), 9);
        due("need wrong", x.terms(0, 10), -1);
        due("doubles", x.terms(1, 1), 0);
        due("doubles wrong", x.terms(1, 2), -1);
        due("week", x.terms(2, 99), 0);
        due("week wrong", x.terms(2, 100), -1);
        due("week below", x.terms(2, -1), -1);
        due("term wrong", x.terms(3, 0), -1);
        due("term below", x.terms(-1, 0), -1);
        due("terms stay", x.count(15), 99);
    }

    private static void tape() {
        IllTonight x = new IllTonight();
        for (int i = 1; i <= 20; i++) {
            due("feed", x.feed(0, 0, 0, 0, 0), 20 * i);
        }
        due("feed too many", x.feed(0, 0, 0, 0, 0), -1);
        due("feed too many is no refusal", x.count(7), 0);
        due("end beyond", x.end(401), -1);
        due("end below", x.end(-1), -1);
        due("end all", x.end(400), 400);
        due("end shorter", x.end(381), 381);
        due("feed, still too many", x.feed(0, 0, 0, 0, 0), -1);
        due("end more than there are", x.end(382), -1);
        due("end just enough", x.end(380), 380);
        due("feed the last", x.feed(0, 0, 0, 0, 0), 400);
        due("end none", x.end(0), 0);
        due("bytes", x.count(6), 0);
        x.actor(150, 0, 0, 0);
        x.part(0, 0, 0);
        // The highest byte comes first: 0, 0, 7 and then 0, 0, 255, which can't be.
        x.feed(0x00000700, 0x00FF0000, 0x09000008, 0, 0);
        due("end the row", x.end(12), 12);
        due("row", x.row(), 3);
        due("the last came", x.of(0, 0, 0), 8);
        due("one can't be", x.forgot(), 1);
    }

    private static void rows() {
        IllTonight x = cast(2, 3);
        due("row of nothing", x.row(), -6);
        type(x, "\001\002\011" + "\000\000\012" + "\002\000\001" + "\000\003\001"
            + "\000\001\000" + "\001");
        due("row", x.row(), 2);
        due("forgot", x.forgot(), 4);
        due("row came", x.of(1, 2, 0), 9);
        due("row's tape is empty", x.count(6), 0);
        due("row again", x.row(), -6);
        due("forgot stays", x.forgot(), 4);
        type(x, "\000\000");
        due("row too short", x.row(), 0);
        due("forgot one", x.forgot(), 1);
        due("row with none is no refusal", x.status(), 0);
        type(x, "\000\000\001\000\000\002");
        due("row twice", x.row(), 2);
        due("the later counts", x.of(0, 0, 0), 2);
        due("forgot none", x.forgot(), 0);
        // What stood behind the end of the tape is not read.
        type(x, "\000\000\005");
        x.end(2);
        due("row cut short", x.row(), 0);
        due("what was cut off", x.of(0, 0, 0), 2);
    }

    private static void laws() {
        IllTonight x = cast(2, 2);
        due("law", law(x, "cost 7"), 0);
        due("law's tape is empty", x.count(6), 0);
        due("fault none", x.fault(), -1);
        due("law wrong", law(x, "cost 7 7"), -6);
        due("law wrong: tape is empty", x.count(6), 0);
        due("fault", x.fault(), 7);
        due("laws", x.count(2), 1);
        due("law second", law(x, "  bars  "), 1);
        due("fault none again", x.fault(), -1);
        due("force", x.force(1), -1);
        due("forced", x.count(12), 1);
        due("force other", x.force(0), 1);
        due("force none such", x.force(2), -2);
        due("force below", x.force(-2), -2);
        due("cost told", x.of(0, 0, 2), 7);
        due("force none", x.force(-1), 0);
        due("no cost told", x.of(0, 0, 2), 1);
        for (int i = 2; i < 6; i++) {
            due("law", law(x, "lets"), i);
        }
        due("fault ahead of the seventh", x.fault(), -1);
        due("the seventh", law(x, "nonsense"), -5);
        due("the seventh is not read", x.fault(), -1);
        due("the seventh: tape is empty", x.count(6), 0);
        due("no room with nothing either", x.law(), -5);
        due("six laws", x.count(2), 6);
    }

    private static void limitsOfLaws() {
        IllTonight x = new IllTonight();
        String twelve = "bars;".repeat(11) + "bars";
        due("twelve clauses", law(x, twelve), 0);
        due("thirteen", law(x, twelve + " ; bars"), -6);
        due("thirteen: at its first token", x.fault(), twelve.length() + 3);
        due("thirteen: the end", law(x, twelve + "; "), -6);
        due("thirteen: at the end", x.fault(), twelve.length() + 2);
        String fifty = "cost 1" + "+1".repeat(49);
        due("fifty pieces", law(x, fifty), 1);
        due("fifty-one", law(x, fifty + "+1"), -6);
        due("fifty-one: at it", x.fault(), fifty.length() + 1);
        due("fifty-one in all clauses", law(x, fifty + ";fades 1"), -6);
        due("fifty-one: in the second clause", x.fault(), fifty.length() + 7);
        String eight = "bars if " + "(".repeat(4) + "[".repeat(4) + "1" + "]".repeat(4) + "=1" + ")".repeat(4);
        due("eight brackets", law(x, eight), 2);
        due("nine brackets", law(x, eight.replace("[1]", "[[1]]")), -6);
        due("nine brackets: at the ninth", x.fault(), 16);
        due("brackets beside one another", law(x, "cost [1]+[1]+[1]+[1]+[1]+[1]+[1]+[1]+[1]+[1]"), 3);
        due("nine round ones", law(x, "bars if " + "(".repeat(9) + "1=1" + ")".repeat(9)), -6);
        due("nine round ones: at the ninth", x.fault(), 16);
        due("a thousand", law(x, "cost 1000;cost 0001000"), 4);
        due("above a thousand", law(x, "cost 1+ 1001"), -6);
        due("above a thousand: at it", x.fault(), 8);
        due("a long row of digits", law(x, "cost " + "9".repeat(300)), -6);
        due("a long row of digits: at it", x.fault(), 5);
        due("many nots and noughts", law(x, "bars if " + "not ".repeat(60) + "0".repeat(100) + "=0"), 5);
    }

    /** What was read ahead leaves nothing behind. */
    private static void manyLaws() {
        IllTonight x = cast(1, 1);
        for (int i = 0; i < 30; i++) {
            due("a long law with a fault", law(x, "cost 1" + "+1".repeat(49) + "; bars; x"), -6);
        }
        rule(x, "cost 7 if 1=1 and part=0 or actor=5");
        due("a short one behind", x.of(0, 0, 2), 7);
    }

    private static void faultAt(String text, int place) {
        IllTonight x = new IllTonight();
        due("law '" + text + "'", law(x, text), -6);
        due("fault of '" + text + "'", x.fault(), place);
    }

    private static void faults() {
        faultAt("", 0);
        faultAt("     ", 5);
        faultAt("cost", 4);
        faultAt("cost  ", 6);
        faultAt("Cost 1", 0);
        faultAt("costs 1", 0);
        faultAt("1", 0);
        faultAt(";", 0);
        faultAt("bars;", 5);
        faultAt("bars;;", 5);
        faultAt("bars if", 7);
        faultAt("bars 1", 5);
        faultAt("bars lets", 5);
        faultAt("cost 1 if 1", 11);
        faultAt("cost 1 if 1 <", 13);
        faultAt("cost 1 if 1 < > 2", 14);
        faultAt("cost 1 if 1<2=3", 13);
        faultAt("cost 1 if (1+2)<3", 14);
        faultAt("cost (1)", 5);
        faultAt("cost [1", 7);
        faultAt("cost [1)", 7);
        faultAt("cost 1]", 6);
        faultAt("cost -1", 5);
        faultAt("cost 1 if not", 13);
        faultAt("cost 1 if 1=1 not", 14);
        faultAt("cost 1 if 1=1 or", 16);
        faultAt("cost 1 if 1=1 and or", 18);
        faultAt("cost 1 if 1=1)", 13);
        faultAt("cost 1 if (1=1", 14);
        faultAt("cost 1 if 1=1 if 1=1", 14);
        faultAt("cost 1 1", 7);
        faultAt("cost knowss", 5);
        faultAt("cost heightt", 5);
        faultAt("cost a", 5);
        faultAt("cost if", 5);
        faultAt("cost cost", 5);
        faultAt("cost 1a", 6);
        faultAt("cost \u00e9", 5);
        faultAt("cost\t1", 4);
        faultAt("cost 1\000", 6);
        faultAt("cost 1 & 2", 7);
        faultAt("costactor", 0);
        faultAt("barsz", 0);
        faultAt("zbars", 0);
        faultAt("xost 1", 0);
        faultAt("cost xnows", 5);
        faultAt("cost xeek", 5);
        faultAt("bars xf 1=1", 5);
        faultAt("bars if 1=1 xr 1=1", 12);
        faultAt(";".repeat(400), 0);
        faultAt("bars" + " ".repeat(395) + "1", 399);
        faultAt("bars" + " ".repeat(395) + ";", 400);
        faultAt("cost 1" + "+".repeat(394), 7);
        IllTonight x = new IllTonight();
        due("letters and digits part by themselves", law(x, "cost1if not(knows<3or week=1)and part>0;bars"), 0);
    }

    /** What a law's cost clause tells; the first actor and the first part are asked. */
    private static void tells(String text, int want) {
        IllTonight x = new IllTonight();
        x.actor(173, 4, 6, 0);
        x.actor(181, 5, 7, 0);
        x.part(2, 8, 1);
        x.part(3, 9, 1);
        x.knows(1, 1, 5);
        x.usual(1, 1);
        x.terms(2, 37);
        rule(x, text);
        due("'" + text + "' tells", x.of(1, 1, 2), want);
    }

    private static void broken() {
        tells("cost actor*10+part", 11);
        tells("cost height-100", 81);
        tells("cost coat*10+wears", 53);
        tells("cost voice*10+song", 79);
        tells("cost knows*10+usual", 51);
        tells("cost week", 37);
        tells("cost 2+3*4", 14);
        tells("cost [2+3]*4", 20);
        tells("cost 20-5-3", 12);
        tells("cost 50/5/2", 5);
        tells("cost 7/2", 3);
        tells("cost [0-7]/2+10", 7);
        tells("cost 99", 99);
        tells("cost 100", 99);
        tells("cost 0-1", 0);
        // Beyond a thousand million it is broken, also on the way; without another the usual one costs nothing.
        tells("cost 5;cost 1000*1000*1000/1000/1000", 99);
        tells("cost 5;cost 1000*1000*1000+1-1000*1000*1000", 5);
        tells("cost 5;cost 1000*1000*1000*2/1000", 5);
        tells("cost 5;cost 0-1000*1000*1000", 0);
        tells("cost 5;cost 0-1000*1000*1000-1", 5);
        tells("cost 5;cost 1/0", 5);
        tells("cost 1/0", 0);
        tells("cost 5;cost 0/[part-1]", 5);
        tells("cost 5;cost 6 if 1/0=1", 5);
        tells("cost 5;cost 6 if not 1/0=1", 5);
        tells("cost 5;cost 6 if 1000*1000*1000*2>1", 5);
    }

    private static void shortWays() {
        tells("cost 5;cost 6 if 1=1 or 1/0=1", 6);
        tells("cost 5;cost 6 if 1/0=1 or 1=1", 5);
        tells("cost 5;cost 6 if 1=2 and 1/0=1", 5);
        tells("cost 5;cost 6 if not(1=2 and 1/0=1)", 6);
        tells("cost 5;cost 6 if 1=2 or 1/0=1", 5);
        tells("cost 5;cost 6 if 1=2 and 1/0=1 or 1=1", 6);
        tells("cost 5;cost 6 if 1=1 or 1=1 and 1/0=1", 6);
        tells("cost 5;cost 6 if (1=1 or 1=2) and 1=2", 5);
        tells("cost 5;cost 6 if 1=1 or 1=2 and 1=2", 6);
        tells("cost 5;cost 6 if not 1=1 or 1=1", 6);
        tells("cost 5;cost 6 if not not 1=1", 6);
        tells("cost 5;cost 6 if not not not 1=1", 5);
        tells("cost 5;cost 6 if 1=2 or 1=2 or 1=1", 6);
        tells("cost 5;cost 6 if 1=1 and 1=1 and 1=2", 5);
        tells("cost 5;cost 6 if 2>1", 6);
        tells("cost 5;cost 6 if 2<1", 5);
        tells("cost 5;cost 6 if 2<2 or 2>2", 5);
    }

    private static void clauses() {
        tells("cost 5;cost 6", 6);
        tells("cost 5 if 1=1;cost 6 if 1=2", 5);
        tells("cost 6 if 1=2", 0);
        IllTonight x = cast(1, 2);
        x.knows(0, 0, 1);
        rule(x, "lets if part=1;fades 3;fades 4 if part=1;fades 1/0 if part=1");
        due("knows it", x.of(0, 0, 1), 1);
        due("is let", x.of(0, 1, 1), 1);
        due("fades 3", x.of(0, 0, 3), 3);
        due("fades 4", x.of(0, 1, 3), 4);
        rule(x, "lets;lets if 1=2;bars if part=1;fades 10");
        due("is let by the first", x.of(0, 0, 1), 1);
        due("is barred", x.of(0, 1, 1), 0);
        due("fades nine at most", x.of(0, 0, 3), 9);
        rule(x, "bars;fades 0-1");
        due("barred though he knows", x.of(0, 0, 1), 0);
        due("fades none at least", x.of(0, 0, 3), 0);
        rule(x, "bars if 1/0=1;lets if 1/0=1");
        due("not barred by what is broken", x.of(0, 0, 1), 1);
        due("not let by what is broken", x.of(0, 1, 1), 0);
        due("one costs without a clause", x.of(0, 0, 2), 1);
    }

    private static void nights() {
        IllTonight x = knowing(3, 2, 1);
        due("cost", x.night(0), 2);
        due("least", x.night(1), 6);
        due("all", x.night(2), 6);
        due("night what", x.night(3), -1);
        due("night what below", x.night(-1), -1);
        x.usual(0, 2);
        due("cost, one usual", x.night(0), 1);
        due("least, one usual", x.night(1), 2);
        due("who", x.who(0), 2);
        due("who next", x.who(1), 0);
        due("who none", x.who(2), -1);
        due("who below", x.who(-1), -1);
        due("changed", x.changed(), 2);
        x.ill(6);
        due("shut: cost", x.night(0), -1);
        due("shut: least", x.night(1), 0);
        due("shut: all", x.night(2), 0);
        due("shut: who", x.who(0), -1);
        due("shut: changed", x.changed(), -1);
        due("shut: chain", x.chain(0, -1), -1);
        due("shut: nth", x.nth(0, 0), -1);
        IllTonight y = knowing(8, 8, 1);
        due("all of eight", y.night(2), 40320);
        due("least of eight", y.night(1), 40320);
        y.terms(1, 1);
        due("all of eight, doubled", y.night(2), 8401680);
        due("the last of them", y.nth(8401679, 0), 7);
        due("the last of them ends", y.nth(8401679, 7), 4);
        due("none behind", y.nth(8401680, 0), -1);
    }

    private static void doubles() {
        IllTonight x = knowing(1, 2, 1);
        due("one for two", x.night(0), -1);
        x.terms(1, 1);
        due("doubled", x.night(0), 2);
        x.alter(1, 2, 3);
        due("a scene in common", x.night(0), -1);
        x.alter(1, 2, 0);
        due("no scene at all", x.night(0), 2);
        x.part(0, 0, 128);
        x.knows(0, 2, 1);
        due("three are too many", x.night(0), -1);
        x.actor(150, 0, 0, 0);
        x.knows(1, 1, 1);
        due("two of three", x.night(2), 1);
        due("who takes the third", x.who(1), 1);
    }

    /** Four for eight parts, each with two that nobody else knows. */
    private static void eightParts() {
        IllTonight x = cast(4, 8);
        x.terms(1, 1);
        for (int a = 0; a < 4; a++) {
            x.knows(a, a, 1);
            x.knows(a, 7 - a, 1);
        }
        due("one night", x.night(2), 1);
        for (int p = 0; p < 8; p++) {
            due("who plays part " + p, x.who(p), p < 4 ? p : 7 - p);
        }
        due("open", x.shut(0), 0);
        due("each is needed", x.closing(-1), 4);
        x.knows(0, 7, 0);
        due("nobody knows the last", x.shut(0), 1);
        x.knows(0, 7, 1);
        x.knows(1, 6, 0);
        due("nobody knows the last but one", x.shut(0), 1);
        x.knows(0, 6, 1);
        due("three of one's own", x.shut(0), 1);
        x.knows(1, 7, 1);
        due("one given on", x.shut(0), 0);
        due("who plays the last", x.who(7), 1);
        due("who plays the last but one", x.who(6), 0);
        IllTonight y = knowing(8, 8, 1);
        y.terms(1, 1);
        for (int p = 0; p < 8; p++) {
            for (int a = 0; a < 8; a++) {
                y.knows(a, p, 0);
            }
            due("nobody knows part " + p, y.shut(0), 1);
            due("one knows part " + p, y.knows(p, p, 1), 0);
            due("open with one who knows part " + p, y.shut(0), 0);
            due("shut without him", y.shut(1 << p), 1);
            for (int a = 0; a < 8; a++) {
                y.knows(a, p, 1);
            }
        }
    }

    private static void chains() {
        IllTonight x = cast(4, 3);
        x.usual(0, 0);
        x.usual(1, 1);
        x.usual(2, 2);
        x.knows(0, 0, 1);
        x.knows(1, 1, 1);
        x.knows(2, 2, 1);
        x.knows(1, 0, 1);
        x.knows(2, 1, 1);
        x.knows(3, 2, 1);
        due("no change", x.chain(0, -1), 0);
        due("no change, first", x.chain(0, 0), -1);
        x.ill(1);
        due("chain", x.chain(0, -1), 3);
        due("chain 0", x.chain(0, 0), 1);
        due("chain 1", x.chain(0, 1), 2);
        due("chain 2", x.chain(0, 2), 3);
        due("chain 3", x.chain(0, 3), -1);
        due("chain below", x.chain(0, -2), -1);
        due("chain of another", x.chain(1, 0), 2);
        due("chain of no part", x.chain(3, -1), -1);
        due("chain of no part below", x.chain(-1, -1), -1);
        IllTonight y = cast(2, 2);
        y.usual(0, 0);
        y.usual(1, 1);
        y.knows(0, 1, 1);
        y.knows(1, 0, 1);
        due("a ring ends", y.chain(0, -1), 2);
        due("a ring's first", y.chain(0, 0), 1);
        due("a ring's second", y.chain(0, 1), 0);
        y.usual(0, -1);
        due("nobody's part is changed", y.changed(), 3);
        due("nobody's part has a chain", y.chain(0, -1), 2);
    }

    private static void chainWithTwoParts() {
        // Actor 1 usually has parts 1 and 2; he steps up to part 0; part 1 stays his, so the chain goes on by part 2.
        IllTonight x = cast(4, 4);
        x.usual(0, 0);
        x.usual(1, 1);
        x.usual(2, 1);
        x.usual(3, 1);
        x.terms(1, 1);
        x.knows(1, 0, 1);
        x.knows(1, 1, 1);
        x.knows(3, 2, 1);
        x.knows(2, 3, 1);
        due("who steps up", x.who(0), 1);
        due("who keeps his", x.who(1), 1);
        due("changed", x.changed(), 13);
        due("chain", x.chain(0, -1), 2);
        due("chain by the lowest that is changed", x.chain(0, 1), 3);
    }

    private static void nths() {
        IllTonight x = knowing(3, 2, 1);
        int[][] rows = {{0, 1}, {0, 2}, {1, 0}, {1, 2}, {2, 0}, {2, 1}};
        for (int i = 0; i < rows.length; i++) {
            due("nth " + i, x.nth(i, 0), rows[i][0]);
            due("nth " + i, x.nth(i, 1), rows[i][1]);
        }
        due("nth behind", x.nth(6, 0), -1);
        due("nth below", x.nth(-1, 0), -1);
        due("nth no part", x.nth(0, 2), -1);
        due("nth no part below", x.nth(0, -1), -1);
        due("nth far", x.nth(Integer.MAX_VALUE, 0), -1);
        x.ill(1);
        due("nth with one ill", x.nth(1, 0), 2);
        due("nth with one ill, behind", x.nth(2, 0), -1);
    }

    private static void byHand() {
        IllTonight x = knowing(3, 3, 1);
        x.usual(1, 1);
        due("judge nothing", x.judge(0), -1);
        due("nothing costs", x.judge(1), 0);
        due("gives", x.gives(0), 1);
        due("gives nobody", x.gives(3), -2);
        due("gives nobody below", x.gives(-1), -2);
        due("gives next", x.gives(1), 2);
        due("gives last", x.gives(0), 3);
        due("gives too many", x.gives(0), -3);
        due("gives too many, nobody", x.gives(3), -2);
        due("told", x.count(4), 3);
        due("has too many", x.judge(0), 2);
        due("costs", x.judge(1), 2);
        due("judge what", x.judge(2), -1);
        due("judge what below", x.judge(-1), -1);
        x.terms(1, 1);
        due("may be doubled", x.judge(0), -1);
        x.alter(2, 2, 1);
        due("a scene in common", x.judge(0), 2);
        x.alter(2, 2, 4);
        x.ill(2);
        due("is ill", x.judge(0), 1);
        x.ill(0);
        x.knows(0, 0, 0);
        due("can't", x.judge(0), 0);
        due("costs though he can't", x.judge(1), 2);
        x.part(0, 0, 0);
        due("gives when there is another", x.gives(0), 4);
        x.knows(0, 0, 1);
        x.knows(0, 3, 1);
        due("three are too many", x.judge(0), 3);
        due("clear", x.clear(), 4);
        due("clear again", x.clear(), 0);
        due("cleared", x.count(4), 0);
    }

    private static void closings() {
        // Parts 0 and 1; part 0 by actors 0 and 1, part 1 by actors 1, 2 and 3.
        IllTonight x = cast(4, 2);
        x.knows(0, 0, 1);
        x.knows(1, 0, 1);
        x.knows(1, 1, 1);
        x.knows(2, 1, 1);
        x.knows(3, 1, 1);
        x.ill(15);
        due("shut nobody", x.shut(0), 0);
        due("shut 0, 1", x.shut(3), 1);
        due("shut 1, 2", x.shut(6), 0);
        due("shut 0, 2, 3", x.shut(13), 1);
        due("shut beyond", x.shut(16), -1);
        due("shut below", x.shut(-1), -1);
        due("closing", x.closing(-1), 3);
        due("closing 0", x.closing(0), 3);
        due("closing 1", x.closing(1), 13);
        due("closing 2", x.closing(2), 14);
        due("closing 3", x.closing(3), -1);
        due("closing below", x.closing(-2), -1);
        due("safe 0", x.safe(0), 1);
        due("safe 1", x.safe(1), 1);
        due("safe 2", x.safe(2), 0);
        due("safe 8", x.safe(8), 0);
        due("safe 9", x.safe(9), -1);
        due("safe below", x.safe(-1), -1);
        due("unsafe 1", x.unsafe(1), -1);
        due("unsafe 2", x.unsafe(2), 3);
        due("unsafe 8", x.unsafe(8), 3);
        due("unsafe 9", x.unsafe(9), -1);
        due("unsafe below", x.unsafe(-1), -1);
        due("most", x.most(), 1);
        // Of the sets without 0: {1}, {1,2}, {1,3}, {2,3}; without 1: {0}, {0,2}, {0,3}, {2,3}; without 2: {0,3}, {1,3}.
        due("key 0", x.key(0), 4);
        due("key 1", x.key(1), 4);
        due("key 2", x.key(2), 2);
        due("key nobody", x.key(4), -1);
        due("key below", x.key(-1), -1);
    }

    private static void emptyHouses() {
        IllTonight x = cast(2, 0);
        due("no parts: cost", x.night(0), 0);
        due("no parts: nights", x.night(2), 1);
        due("no parts: most", x.most(), 8);
        due("no parts: safe", x.safe(8), 1);
        due("no parts: closing", x.closing(-1), 0);
        due("no parts: nth", x.nth(0, 0), -1);
        due("no parts: key", x.key(0), 0);
        due("no parts: learn", x.learn(3, 0), 0);
        due("no parts: season", x.season(1, 2), 0);
        due("no parts: week", x.week(1, 1), 0);
        due("no parts: gives", x.gives(0), -3);
        IllTonight z = knowing(8, 1, 1);
        due("all eight know it: most", z.most(), 7);
        due("all eight know it: closing", z.closing(-1), 1);
        due("all eight know it: all of them", z.closing(0), 255);
        due("all eight know it: safe", z.safe(7), 1);
        due("all eight know it: unsafe", z.unsafe(8), 255);
        due("all eight know it: key", z.key(7), 1);
        IllTonight y = cast(0, 1);
        due("no actors: cost", y.night(0), -1);
        due("no actors: shut", y.shut(0), 1);
        due("no actors: most", y.most(), -1);
        due("no actors: safe", y.safe(0), 0);
        due("no actors: unsafe", y.unsafe(0), 0);
        due("no actors: closing", y.closing(-1), 1);
        due("no actors: the empty set", y.closing(0), 0);
        due("no actors: odds", y.odds(0), 1);
        due("no actors: learn", y.learn(0, 0), -1);
        due("no actors: learn sets", y.learn(0, 2), 0);
        due("no actors: season", y.season(1, 3), 3);
    }

    private static void missing() {
        IllTonight x = cast(3, 1);
        x.knows(0, 0, 1);
        x.knows(1, 0, 2);
        rule(x, "cost knows*7");
        due("missed", x.missed(0), 7);
        due("not missed", x.missed(1), 0);
        due("missed nobody", x.missed(3), -1);
        due("missed below", x.missed(-1), -1);
        x.ill(1);
        due("missed, ill already", x.missed(0), 0);
        due("missed, shut then", x.missed(1), 1000);
        x.ill(3);
        due("missed, shut as it is", x.missed(2), -1);
        due("missed, shut as it is, ill already", x.missed(0), -1);
    }

    private static void odds() {
        IllTonight x = cast(2, 1);
        x.turn(0, 3, 30);
        x.turn(1, 3, 20);
        x.usual(0, 0);
        x.knows(0, 0, 1);
        x.knows(1, 0, 1);
        due("shut if both are ill", x.odds(0), 600);
        due("one costs if 0 is ill and 1 not", x.odds(1), 2400);
        due("odds what", x.odds(2), -1);
        due("odds what below", x.odds(-1), -1);
        x.ill(3);
        due("whoever is ill now", x.odds(0), 600);
        IllTonight y = knowing(8, 8, 1);
        rule(y, "cost 99");
        due("the dearest", y.odds(1), 7920000000000000000L);
        due("never shut", y.odds(0), 0);
        y.turn(7, 3, 1);
        due("shut of a hundred", y.odds(0), 100000000000000L);
        for (int a = 0; a < 8; a++) {
            y.turn(a, 3, 100);
        }
        due("surely shut", y.odds(0), 10000000000000000L);
        IllTonight z = knowing(2, 1, 1);
        z.usual(0, 0);
        z.turn(0, 3, 1);
        due("hardly ever another", z.odds(1), 100);
        z.turn(0, 3, 99);
        due("hardly ever himself", z.odds(1), 9900);
        due("nothing to pay", y.odds(1), 0);
    }

    private static void lessons() {
        IllTonight x = cast(2, 2);
        due("lesson", x.lesson(0, 0, 1, 1), 0);
        due("lesson highest", x.lesson(1, 1, 9, 99), 1);
        due("lesson so well", x.lesson(0, 0, 0, 1), -1);
        due("lesson too well", x.lesson(0, 0, 10, 1), -1);
        due("lesson no hours", x.lesson(0, 0, 1, 0), -1);
        due("lesson hours", x.lesson(0, 0, 1, 100), -1);
        due("lesson nobody", x.lesson(2, 0, 1, 1), -2);
        due("lesson no part", x.lesson(0, -1, 1, 1), -2);
        for (int i = 2; i < 7; i++) {
            due("lesson", x.lesson(0, 1, i, i), i);
        }
        due("the eighth", x.lesson(0, 0, 1, 1), -5);
        due("the eighth, nobody", x.lesson(2, 0, 1, 1), -2);
        due("drop", x.drop(0), 6);
        due("drop none", x.drop(6), -2);
        due("drop below", x.drop(-1), -2);
        // Left are: 0 teaches (1, 1) 9; 1 .. 5 teach (0, 1) 2, 3, 4, 5, 6.
        due("teach beyond", x.teach(64), -1);
        due("teach below", x.teach(-1), -1);
        due("teach none", x.teach(0), 0);
        due("teach", x.teach(0b010100), 2);
        due("left", x.count(3), 4);
        due("knows the better", x.of(0, 1, 0), 5);
        due("teach what he knows", x.teach(0b0010), 0);
        due("left then", x.count(3), 3);
        due("teach the others", x.teach(0b111), 2);
        due("taught first", x.of(1, 1, 0), 9);
        due("taught last", x.of(0, 1, 0), 6);
        due("none left", x.count(3), 0);
        due("teach none left", x.teach(1), -1);
    }

    private static void worths() {
        IllTonight x = cast(3, 1);
        x.knows(0, 0, 1);
        due("learn nothing", x.learn(0, 0), 0);
        due("learn nothing as bits", x.learn(0, 1), 0);
        due("learn nothing, sets", x.learn(0, 2), 1);
        due("not enough", x.learn(1, 0), -1);
        due("not enough as bits", x.learn(1, 1), -1);
        due("not enough, sets", x.learn(1, 2), 0);
        x.lesson(1, 0, 1, 5);
        x.lesson(2, 0, 4, 5);
        x.lesson(2, 0, 1, 8);
        due("hours", x.learn(1, 0), 5);
        due("the lowest of alike ones", x.learn(1, 1), 1);
        due("sets", x.learn(1, 2), 7);
        due("hours for two", x.learn(2, 0), 10);
        due("lessons for two", x.learn(2, 1), 3);
        due("sets for two", x.learn(2, 2), 3);
        due("for three", x.learn(3, 0), -1);
        due("learn k", x.learn(4, 0), -1);
        due("learn k below", x.learn(-1, 0), -1);
        due("learn what", x.learn(1, 3), -1);
        due("learn what below", x.learn(1, -1), -1);
        due("worth nothing", x.worth(1, 0), 0);
        due("worth all", x.worth(2, 0), 1000);
        due("worth some", x.worth(2, 1), 3);
        due("worth, not enough", x.worth(3, 0), -1);
        due("worth no lesson", x.worth(1, 3), -1);
        due("worth no lesson below", x.worth(1, -1), -1);
        due("worth k", x.worth(4, 0), -1);
        due("worth k below", x.worth(-1, 0), -1);
        x.terms(0, 2);
        due("nobody knows enough", x.learn(0, 0), 5);
        due("but one lesson", x.learn(0, 1), 2);
        x.drop(0);
        due("the same lesson moved up", x.learn(0, 1), 1);
        x.ill(7);
        due("whoever is ill now", x.learn(0, 0), 5);
    }

    private static void worthAskedFirst() {
        IllTonight x = cast(2, 1);
        x.lesson(0, 0, 1, 3);
        x.lesson(1, 0, 1, 5);
        due("worth asked ahead of learn", x.worth(0, 0), 2);
        x.knows(1, 0, 1);
        due("worth asked once more", x.worth(0, 0), 0);
        due("worth for one", x.worth(1, 0), 1000);
    }

    private static void barredByLessons() {
        // Who knows it too well is barred, so both lessons together are not enough, and each alone is.
        IllTonight x = cast(1, 1);
        rule(x, "bars if knows>5");
        x.lesson(0, 0, 3, 4);
        x.lesson(0, 0, 7, 2);
        due("barred by the second", x.learn(0, 2), 1);
        due("hours", x.learn(0, 0), 4);
        due("lessons", x.learn(0, 1), 1);
        due("worth the second", x.worth(0, 1), 0);
        due("worth the first", x.worth(0, 0), 1000);
        x.knows(0, 0, 5);
        due("knew it already", x.learn(0, 0), 0);
        due("sets without the second", x.learn(0, 2), 2);
    }

    private static void seasons() {
        IllTonight x = cast(2, 1);
        x.knows(0, 0, 1);
        x.knows(1, 0, 1);
        x.usual(0, 0);
        x.turn(0, 3, 50);
        x.turn(1, 3, 20);
        due("season seed below", x.season(-1, 1), -1);
        due("season seed", x.season(1000001, 1), -1);
        due("season no weeks", x.season(0, 0), -1);
        due("season weeks", x.season(0, 41), -1);
        due("none yet", x.week(0, 0), -1);
        // s becomes 12345, 628841, 621889, 953857: the draws are 45 and 41, then 89 and 57.
        due("season", x.season(0, 2), 0);
        due("ill first", x.week(0, 0), 1);
        due("ill second", x.week(1, 0), 0);
        x.turn(1, 3, 58);
        x.season(0, 2);
        due("ill first, both", x.week(0, 0), 3);
        due("ill second, the other", x.week(1, 0), 2);
        x.turn(1, 3, 57);
        x.season(0, 2);
        due("a draw that is not below", x.week(1, 0), 0);
        x.turn(1, 3, 20);
        x.season(0, 2);
        due("cost", x.week(0, 1), 1);
        due("who", x.week(0, 2), 1);
        due("week behind", x.week(2, 0), -1);
        due("week below", x.week(-1, 0), -1);
        due("week what", x.week(0, 10), -1);
        due("week what below", x.week(0, -1), -1);
        due("week no part", x.week(0, 3), -1);
        due("week the last part", x.week(0, 9), -1);
        due("learnt nobody", x.learnt(2, 0), -1);
        due("learnt below", x.learnt(-1, 0), -1);
        due("learnt no part", x.learnt(0, 1), -1);
        due("on paper", x.of(1, 0, 0), 1);
        due("the highest seed", x.season(1000000, 40) >= 0 ? 1 : 0, 1);
        due("forty weeks", x.week(39, 0) >= 0 ? 1 : 0, 1);
        x.ill(3);
        due("those told ill don't matter", x.season(0, 2), 0);
        due("week stays with who is told ill", x.week(0, 0), 1);
    }

    private static void seasonLaws() {
        IllTonight x = cast(2, 2);
        x.terms(2, 98);
        x.knows(0, 0, 8);
        x.knows(1, 1, 4);
        x.knows(1, 0, 9);
        x.knows(0, 1, 3);
        rule(x, "fades knows/4;cost week-95;bars if week>100;bars if actor<part or part<actor");
        due("season", x.season(7, 4), 1);
        due("cost of week 98", x.week(0, 1), 6);
        due("cost of week 100", x.week(2, 1), 10);
        due("shut in week 101", x.week(3, 1), -1);
        due("who in week 101", x.week(3, 2), -1);
        // Played: 8 9 9 9, then 9 - 9 / 4; 4 5 6 7, then 7 - 7 / 4. Not played: 9 7 6 5 4; 3 stays.
        due("learnt 0 0", x.learnt(0, 0), 7);
        due("learnt 1 1", x.learnt(1, 1), 6);
        due("learnt 1 0", x.learnt(1, 0), 4);
        due("learnt 0 1", x.learnt(0, 1), 3);
        due("the week stays", x.count(15), 98);
        rule(x, "lets;fades 9");
        x.knows(0, 0, 0);
        x.season(7, 1);
        due("who plays what he did not know", x.learnt(0, 0), 1);
        due("who did not play", x.learnt(1, 0), 0);
    }

    private static void seasonStays() {
        IllTonight x = knowing(2, 1, 2);
        x.image(0);
        x.season(3, 5);
        due("refused", x.season(3, 41), -1);
        due("the latest stays", x.week(4, 2), 0);
        x.actor(150, 0, 0, 0);
        x.part(0, 0, 0);
        due("who was not there", x.learnt(2, 0), -1);
        due("what was not there", x.learnt(0, 1), -1);
        x.back(0);
        due("the season is not gone back to", x.week(4, 2), 0);
        due("learnt neither", x.learnt(0, 0), 7);
        x.season(3, 1);
        due("a shorter one", x.week(1, 0), -1);
    }

    private static void images() {
        IllTonight x = knowing(2, 2, 3);
        due("back to none", x.back(0), -2);
        due("image wrong", x.image(2), -1);
        due("image below", x.image(-1), -1);
        due("back wrong", x.back(2), -1);
        due("back below", x.back(-1), -1);
        rule(x, "cost 4");
        x.usual(0, 1);
        x.lesson(0, 0, 5, 6);
        x.gives(1);
        x.ill(2);
        x.terms(2, 9);
        due("image", x.image(1), 0);
        rule(x, "cost 8");
        x.actor(200, 1, 1, 1);
        x.part(1, 1, 1);
        x.turn(0, 0, 199);
        x.alter(0, 1, 9);
        x.usual(0, 0);
        x.knows(0, 0, 9);
        x.lesson(0, 1, 7, 8);
        x.drop(0);
        x.gives(0);
        x.ill(0);
        x.terms(0, 5);
        x.terms(2, 10);
        x.season(1, 1);
        law(x, "x");
        type(x, "ab");
        x.row();
        type(x, "abc");
        int refused = x.count(7);
        due("back", x.back(1), 0);
        due("actors", x.count(0), 2);
        due("parts", x.count(1), 2);
        due("laws", x.count(2), 1);
        due("lessons", x.count(3), 1);
        due("told", x.count(4), 1);
        due("ill", x.count(5), 2);
        due("tape stays", x.count(6), 3);
        due("refusals stay", x.count(7), refused);
        due("force", x.count(12), 0);
        due("need", x.count(13), 1);
        due("week", x.count(15), 9);
        due("fault stays", x.fault(), 0);
        due("forgot stays", x.forgot(), 1);
        due("season stays", x.week(0, 0) >= 0 ? 1 : 0, 1);
        due("cost of the law", x.of(0, 0, 2), 4);
        due("knows", x.of(0, 0, 0), 3);
        due("usual", x.usual(0, 0), 1);
        due("height", x.turn(0, 0, 111), 150);
        due("song", x.alter(0, 1, 1), 0);
        due("the lesson", x.teach(1), 1);
        due("the lesson's part", x.of(0, 0, 0), 5);
        x.end(0);
        due("another law in its place", law(x, "cost 6"), 1);
        x.force(1);
        due("its cost", x.of(0, 0, 2), 6);
        due("back again", x.back(1), 0);
        due("images stay", x.of(0, 0, 0), 3);
        due("the other is not kept", x.back(0), -2);
        due("image over", x.image(1), 0);
        IllTonight y = cast(1, 1);
        y.image(0);
        rule(y, "cost 4");
        y.image(1);
        y.back(0);
        due("no law then", y.count(2), 0);
        due("no cost then", y.of(0, 0, 2), 1);
        rule(y, "cost 8");
        due("the cost of another", y.of(0, 0, 2), 8);
        y.back(1);
        due("the cost of the one kept", y.of(0, 0, 2), 4);
    }

    private static void counts() {
        IllTonight x = cast(2, 1);
        x.actor(0, 0, 0, 0);
        x.ill(99);
        x.turn(5, 0, 150);
        x.gives(0);
        x.gives(0);
        x.row();
        x.law();
        for (int i = 0; i < 7; i++) {
            law(x, "bars");
        }
        x.image(0);
        due("by -1", x.count(7), 2);
        due("by -2", x.count(8), 1);
        due("by -3", x.count(9), 1);
        due("by -5", x.count(10), 1);
        due("by -6", x.count(11), 2);
        x.back(0);
        x.back(1);
        due("by -2, one more", x.count(8), 2);
        due("count behind", x.count(16), -1);
        due("count below", x.count(-1), -1);
        x.night(9);
        x.shut(99);
        x.end(-1);
        x.of(9, 9, 9);
        due("NONE is no refusal", x.count(7), 2);
    }

    private static void statuses() {
        IllTonight x = cast(1, 1);
        due("fine", x.status(), 0);
        x.actor(0, 0, 0, 0);
        due("actor", x.status(), -1);
        x.feed(0, 0, 0, 0, 0);
        x.end(0);
        x.night(0);
        x.who(0);
        x.clear();
        x.count(0);
        x.learn(0, 0);
        due("stays over the others", x.status(), -1);
        x.part(0, 0, 0);
        due("part", x.status(), 0);
        x.turn(9, 0, 100);
        due("turn", x.status(), -2);
        x.alter(0, 0, 0);
        due("alter", x.status(), 0);
        x.usual(9, 0);
        due("usual", x.status(), -2);
        x.knows(0, 0, 1);
        due("knows", x.status(), 0);
        x.ill(9);
        due("ill", x.status(), -1);
        x.terms(0, 1);
        due("terms", x.status(), 0);
        x.row();
        due("row", x.status(), -6);
        x.force(-1);
        due("force", x.status(), 0);
        x.law();
        due("law", x.status(), -6);
        x.gives(0);
        due("gives", x.status(), 0);
        x.gives(0);
        x.gives(0);
        due("gives too many", x.status(), -3);
        x.lesson(0, 0, 1, 1);
        due("lesson", x.status(), 0);
        x.drop(3);
        due("drop", x.status(), -2);
        x.teach(0);
        due("teach", x.status(), 0);
        x.teach(9);
        due("teach wrong", x.status(), -1);
        x.season(0, 1);
        due("season", x.status(), 0);
        x.back(0);
        due("back", x.status(), -2);
        x.image(0);
        due("image", x.status(), 0);
        x.image(9);
        due("image wrong", x.status(), -1);
        x.back(0);
        due("back to it", x.status(), 0);
    }
}
