/** Promises 11 to 17, and the language of the LAWS: a test of its own for each sentence that names an edge. */
public final class EdgesOfLawsTest extends Edges {
    public static void main(String[] args) throws Exception {
        runAll(EdgesOfLawsTest.class);
    }

    private static IllTonight withTape(int bytes) {
        IllTonight x = new IllTonight();
        type(x, "b".repeat(bytes));
        return x;
    }

    // Promise 11: feed.

    static void p11_twentyEachTime() {
        IllTonight x = new IllTonight();
        for (int i = 1; i <= 20; i++) {
            int bytes = 20 * i;
            asks(x, bytes, "feed " + i, () -> x.feed(0, 0, 0, 0, 0));
        }
        due("bytes", x.count(6), 400);
    }

    static void p11_moreThan400() {
        IllTonight x = withTape(400);
        leaves(x, -1, "feed on 400", () -> x.feed(0, 0, 0, 0, 0));
        due("bytes", x.count(6), 400);
    }

    static void p11_just400() {
        IllTonight x = withTape(380);
        asks(x, 400, "feed on 380", () -> x.feed(1, 2, 3, 4, 5));
    }

    static void p11_justMoreThan400() {
        IllTonight x = withTape(381);
        leaves(x, -1, "feed on 381", () -> x.feed(1, 2, 3, 4, 5));
        due("bytes", x.count(6), 381);
    }

    static void p11_whatHasNoRoomLeavesTheBytes() {
        IllTonight x = cast(1, 1);
        type(x, "bars" + " ".repeat(384));
        due("feed on 388", x.feed(-1, -1, -1, -1, -1), -1);
        taken(x, 0, "the law that stood there", x::law);
    }

    static void p11_theHighestByteFirst() {
        IllTonight x = cast(1, 1);
        // b, a, r, s in each number's place by turns; the others are blanks.
        x.feed(0x62617273, 0x20202020, 0x20202020, 0x20202020, 0x20202020);
        taken(x, 0, "bars in the first number", x::law);
        x.feed(0x20202020, 0x20202020, 0x20202020, 0x20202020, 0x62617273);
        taken(x, 1, "bars in the last number", x::law);
        x.feed(0x73726162, 0x20202020, 0x20202020, 0x20202020, 0x20202020);
        due("the lowest byte first", x.law(), -6);
        due("srab is no head", x.fault(), 0);
    }

    static void p11_bytes128To255() {
        IllTonight x = knowing(1, 1, 3);
        x.feed(0xFF000009, 0x00FF0900, 0x00FF0000, 0x80000000, 0x07FFFFFF);
        // 255 0 0 | 9 0 255 | 9 0 0 | 255 0 0 | 128 0 0 | 0 7 255 | 255 255
        taken(x, 0, "no row of these can be", x::row);
        due("forgot", x.forgot(), 7);
        x.feed(-1, -1, -1, -1, -1);
        taken(x, 0, "all bits", x::row);
        due("forgot, all bits", x.forgot(), 7);
    }

    static void p11_comesBehindWhatThereIs() {
        IllTonight x = cast(1, 1);
        type(x, "cost 4");
        x.feed(0x32202020, 0x20202020, 0x20202020, 0x20202020, 0x20202020);
        taken(x, 0, "cost 42", x::law);
        x.force(0);
        due("cost", x.of(0, 0, 2), 42);
    }

    // Promise 12: end.

    static void p12_noneOfThem() {
        IllTonight x = withTape(20);
        asks(x, 0, "end(0)", () -> x.end(0));
        due("bytes", x.count(6), 0);
    }

    static void p12_allOfThem() {
        IllTonight x = withTape(20);
        leaves(x, 20, "end(20)", () -> x.end(20));
    }

    static void p12_moreThanThereAre() {
        IllTonight x = withTape(20);
        leaves(x, -1, "end(21)", () -> x.end(21));
        leaves(x, -1, "end, far beyond", () -> x.end(Integer.MAX_VALUE));
        due("bytes", x.count(6), 20);
    }

    static void p12_below0() {
        IllTonight x = withTape(20);
        leaves(x, -1, "end(-1)", () -> x.end(-1));
        leaves(x, -1, "end, far below", () -> x.end(Integer.MIN_VALUE));
        due("bytes", x.count(6), 20);
    }

    static void p12_fullTape() {
        IllTonight x = withTape(400);
        leaves(x, -1, "end(401)", () -> x.end(401));
        leaves(x, 400, "end(400)", () -> x.end(400));
        asks(x, 399, "end(399)", () -> x.end(399));
        leaves(x, -1, "end(400) of 399", () -> x.end(400));
    }

    static void p12_emptyTape() {
        IllTonight x = new IllTonight();
        leaves(x, 0, "end(0)", () -> x.end(0));
        leaves(x, -1, "end(1)", () -> x.end(1));
    }

    static void p12_whatIsCutOffIsGone() {
        IllTonight x = cast(1, 1);
        type(x, "bars if 1=2");
        x.end(4);
        taken(x, 0, "the first four", x::law);
        x.force(0);
        due("barred", x.of(0, 0, 1), 0);
    }

    static void p12_behindALawOrARowThereIsNothing() {
        IllTonight x = withTape(9);
        x.law();
        asks(x, -1, "end(1) behind a law", () -> x.end(1));
        type(x, "abc");
        x.row();
        asks(x, -1, "end(1) behind a row", () -> x.end(1));
    }

    // Promises 13 and 14: row, forgot.

    static void p13_emptyTape() {
        IllTonight x = cast(1, 1);
        refused(x, -6, "row of nothing", x::row);
        type(x, "abc");
        x.end(0);
        refused(x, -6, "row of what was cut off", x::row);
    }

    static void p13_theTapeIsEmptyThen() {
        IllTonight x = cast(1, 1);
        type(x, "\0\0\5");
        taken(x, 1, "row", x::row);
        due("bytes", x.count(6), 0);
        refused(x, -6, "row again", x::row);
    }

    static void p13_theTapeEndsBehindOneByte() {
        IllTonight x = knowing(1, 1, 7);
        type(x, "\0");
        taken(x, 0, "one byte", x::row);
        due("forgot", x.forgot(), 1);
        due("knows", x.of(0, 0, 0), 7);
    }

    static void p13_theTapeEndsBehindTwoBytes() {
        IllTonight x = knowing(1, 1, 7);
        type(x, "\0\0");
        taken(x, 0, "two bytes", x::row);
        due("forgot", x.forgot(), 1);
        due("knows", x.of(0, 0, 0), 7);
    }

    static void p13_theTapeEndsWithinTheSecond() {
        IllTonight x = knowing(2, 1, 7);
        type(x, "\0\0\5\1\0");
        taken(x, 1, "three bytes and two", x::row);
        due("forgot", x.forgot(), 1);
        due("the first came", x.of(0, 0, 0), 5);
        due("the second did not", x.of(1, 0, 0), 7);
    }

    static void p13_theTapeEndsBehindARow() {
        IllTonight x = cast(2, 1);
        type(x, "\0\0\5\1\0\6");
        taken(x, 2, "twice three bytes", x::row);
        due("forgot", x.forgot(), 0);
        due("the second came", x.of(1, 0, 0), 6);
    }

    static void p13_fullTape() {
        IllTonight x = cast(8, 8);
        StringBuilder text = new StringBuilder();
        for (int i = 0; i < 133; i++) {
            text.append((char) (i % 8)).append((char) (i / 8 % 8)).append((char) (i % 10));
        }
        type(x, text.append('\0').toString());
        due("bytes", x.count(6), 400);
        taken(x, 133, "133 rows and a byte", x::row);
        due("forgot", x.forgot(), 1);
        due("the last of them", x.of(4, 0, 0), 2);
        due("the one ahead of the last", x.of(3, 0, 0), 1);
    }

    static void p13_bytesBehindTheEndAreNotRead() {
        for (int end = 1; end <= 2; end++) {
            IllTonight x = knowing(1, 1, 7);
            type(x, "\0\0\5");
            x.end(end);
            taken(x, 0, "cut to " + end, x::row);
            due("forgot", x.forgot(), 1);
            due("knows", x.of(0, 0, 0), 7);
        }
    }

    static void p13_actorsThereAndNotThere() {
        IllTonight x = cast(3, 1);
        type(x, "\2\0\5\3\0\5\377\0\5\200\0\5");
        taken(x, 1, "the last actor and beyond", x::row);
        due("forgot", x.forgot(), 3);
        due("the last one's came", x.of(2, 0, 0), 5);
    }

    static void p13_partsThereAndNotThere() {
        IllTonight x = cast(1, 3);
        type(x, "\0\2\5\0\3\5\0\377\5\0\200\5");
        taken(x, 1, "the last part and beyond", x::row);
        due("forgot", x.forgot(), 3);
        due("the last one's came", x.of(0, 2, 0), 5);
    }

    static void p13_knows9And10() {
        IllTonight x = cast(2, 1);
        type(x, "\0\0\11\1\0\12\1\0\377");
        taken(x, 1, "9, 10 and 255", x::row);
        due("forgot", x.forgot(), 2);
        due("9 came", x.of(0, 0, 0), 9);
        due("10 did not", x.of(1, 0, 0), 0);
    }

    static void p13_knows0() {
        IllTonight x = knowing(1, 1, 9);
        type(x, "\0\0\0");
        taken(x, 1, "0", x::row);
        due("0 came", x.of(0, 0, 0), 0);
    }

    static void p13_nobodyThere() {
        IllTonight x = new IllTonight();
        type(x, "\0\0\0\0\0\0");
        taken(x, 0, "rows of nobody", x::row);
        due("forgot", x.forgot(), 2);
    }

    static void p13_oneForgottenDoesNotStopTheNext() {
        IllTonight x = cast(1, 1);
        type(x, "\1\0\5\0\0\6");
        taken(x, 1, "one that can't be, one that can", x::row);
        due("the next came", x.of(0, 0, 0), 6);
    }

    static void p13_theLaterOneStands() {
        IllTonight x = cast(1, 1);
        type(x, "\0\0\5\0\0\6");
        taken(x, 2, "twice the same", x::row);
        due("the later", x.of(0, 0, 0), 6);
    }

    static void p14_aheadOfAny() {
        IllTonight x = cast(1, 1);
        asks(x, 0, "forgot", x::forgot);
        x.row();
        asks(x, 0, "forgot behind one refused", x::forgot);
    }

    static void p14_aRefusedRowLeavesIt() {
        IllTonight x = cast(1, 1);
        type(x, "ab");
        x.row();
        asks(x, 1, "forgot", x::forgot);
        x.row();
        asks(x, 1, "forgot behind one refused", x::forgot);
    }

    static void p14_theLatestAlone() {
        IllTonight x = cast(1, 1);
        type(x, "abcdef");
        x.row();
        asks(x, 2, "forgot two", x::forgot);
        type(x, "\0\0\1");
        x.row();
        asks(x, 0, "forgot none", x::forgot);
    }

    static void p14_aLawForgetsNothing() {
        IllTonight x = cast(1, 1);
        type(x, "abcdef");
        x.row();
        law(x, "abcdef");
        asks(x, 2, "forgot behind a law", x::forgot);
    }

    // Promises 15 and 16: law, fault.

    static void p15_sixAtMost() {
        IllTonight x = cast(1, 1);
        for (int i = 0; i < 6; i++) {
            int number = i;
            type(x, "bars");
            taken(x, number, "law " + number, x::law);
        }
        type(x, "bars");
        due("the seventh", x.law(), -5);
        due("its status", x.status(), -5);
        due("laws", x.count(2), 6);
        due("refused", x.count(10), 1);
    }

    private static IllTonight withSixLaws() {
        IllTonight x = cast(1, 1);
        for (int i = 0; i < 6; i++) {
            law(x, "cost " + i);
        }
        return x;
    }

    static void p15_noRoomEmptiesTheTape() {
        IllTonight x = withSixLaws();
        due("the seventh", law(x, "bars"), -5);
        due("bytes", x.count(6), 0);
    }

    static void p15_noRoomAheadOfReading() {
        IllTonight x = withSixLaws();
        due("the seventh, with a fault", law(x, "bars x"), -5);
        due("fault", x.fault(), -1);
        due("counted as no room", x.count(10), 1);
        due("counted as no text", x.count(11), 0);
        due("bytes", x.count(6), 0);
    }

    static void p15_noRoomForNothing() {
        IllTonight x = withSixLaws();
        refused(x, -5, "the seventh, of nothing", x::law);
    }

    static void p15_roomAgainBehindBack() {
        IllTonight x = cast(1, 1);
        x.image(0);
        for (int i = 0; i < 6; i++) {
            law(x, "cost " + i);
        }
        x.back(0);
        type(x, "cost 77");
        taken(x, 0, "the first anew", x::law);
        x.force(0);
        due("cost", x.of(0, 0, 2), 77);
    }

    static void p15_theTapeIsEmptyThen() {
        IllTonight x = cast(1, 1);
        type(x, "bars");
        taken(x, 0, "law", x::law);
        due("bytes", x.count(6), 0);
        due("a fault", law(x, "bars bars"), -6);
        due("bytes behind a fault", x.count(6), 0);
    }

    static void p15_emptyTape() {
        IllTonight x = cast(1, 1);
        due("law of nothing", x.law(), -6);
        due("status", x.status(), -6);
        due("refused", x.count(11), 1);
        due("fault", x.fault(), 0);
    }

    static void p15_blanksAlone() {
        for (int blanks : new int[] {1, 2, 19, 20, 21, 399, 400}) {
            IllTonight x = cast(1, 1);
            due(blanks + " blanks", law(x, " ".repeat(blanks)), -6);
            due("fault of " + blanks + " blanks", x.fault(), blanks);
            due("bytes behind " + blanks + " blanks", x.count(6), 0);
        }
    }

    static void p15_aFaultIsNoLaw() {
        IllTonight x = cast(1, 1);
        due("a fault", law(x, "bars 1"), -6);
        due("laws", x.count(2), 0);
        due("the next is the first", law(x, "bars"), 0);
    }

    static void p15_400Bytes() {
        IllTonight x = cast(1, 1);
        due("all of the tape", law(x, " ".repeat(394) + "cost 7"), 0);
        x.force(0);
        due("cost", x.of(0, 0, 2), 7);
        IllTonight y = cast(1, 1);
        due("ends with a blank", law(y, "cost 7" + " ".repeat(394)), 0);
        due("a fault in the last byte", law(y, " ".repeat(393) + "cost 7;"), -6);
        due("at the end", y.fault(), 400);
        due("a fault that is the last byte", law(y, " ".repeat(395) + "bars5"), -6);
        due("at it", y.fault(), 399);
    }

    static void p15_400Tokens() {
        faultAt(0, ";".repeat(400));
        faultAt(4, "bars" + "!".repeat(396));
        faultAt(13, "cost " + "[".repeat(395));
        faultAt(6, "cost [" + "]".repeat(394));
        faultAt(399, "cost" + " ".repeat(395) + ";");
    }

    static void p15_bytesBehindTheEndAreNotRead() {
        IllTonight x = cast(1, 1);
        type(x, "cost 123");
        x.end(7);
        due("law", x.law(), 0);
        x.force(0);
        due("cost", x.of(0, 0, 2), 12);
        type(x, "bars if 1=1 or 1=2");
        x.end(11);
        due("law cut behind a number", x.law(), 1);
        type(x, "lets;lets");
        x.end(5);
        due("law cut behind a ;", x.law(), -6);
        due("fault", x.fault(), 5);
    }

    static void p15_whatWasReadAheadLeavesNothing() {
        IllTonight x = knowing(1, 1, 1);
        String longOne = "cost 1" + "+1".repeat(49) + ";bars;fades 9";
        due("a fault behind many steps", law(x, longOne), -6);
        due("as many steps once more", law(x, "cost 1" + "+1".repeat(49) + ";bars"), 0);
        due("twelve clauses", law(x, "bars;".repeat(11) + "bars"), 1);
        due("twelve clauses once more", law(x, "bars;".repeat(11) + "bars"), 2);
        due("one clause", law(x, "fades 2 if 1=1 and part=0 or actor=5"), 3);
        x.force(3);
        due("no cost of those ahead", x.of(0, 0, 2), 1);
        due("no bars of those ahead", x.of(0, 0, 1), 1);
        due("its own", x.of(0, 0, 3), 2);
        String eight = "[".repeat(8) + "1" + "]".repeat(8);
        due("a fault eight brackets deep", law(x, "cost " + "[".repeat(8) + "x"), -6);
        due("eight brackets once more", law(x, "cost " + eight), 4);
    }

    static void p16_noneAheadOfAny() {
        IllTonight x = new IllTonight();
        asks(x, -1, "fault", x::fault);
    }

    static void p16_noneBehindOneThatIsRead() {
        IllTonight x = cast(1, 1);
        law(x, "bars x");
        asks(x, 5, "fault", x::fault);
        law(x, "bars");
        asks(x, -1, "fault behind a law", x::fault);
    }

    static void p16_staysWhereNothingWasRead() {
        IllTonight x = cast(1, 1);
        for (int i = 0; i < 5; i++) {
            law(x, "bars");
        }
        law(x, "bars x");
        law(x, "lets;x");
        asks(x, 5, "fault of the latest", x::fault);
        IllTonight y = withSixLaws();
        y.image(0);
        law(y, "x");
        asks(y, -1, "fault behind no room", y::fault);
        type(y, "\0\0\1");
        y.row();
        asks(y, -1, "fault behind a row", y::fault);
    }

    static void p16_noRoomLeavesTheFault() {
        IllTonight x = cast(1, 1);
        for (int i = 0; i < 5; i++) {
            law(x, "bars");
        }
        x.image(0);
        law(x, "bars");
        x.image(1);
        x.back(0);
        law(x, "bars x");
        x.back(1);
        due("no room", law(x, "lets lets"), -5);
        asks(x, 5, "fault is the older one", x::fault);
    }

    // The language: tokens.

    private static void reads(String text) {
        IllTonight x = new IllTonight();
        type(x, text);
        taken(x, 0, "law '" + text + "'", x::law);
        due("fault of '" + text + "'", x.fault(), -1);
        due("bytes behind '" + text + "'", x.count(6), 0);
    }

    private static void faultAt(int place, String text) {
        IllTonight x = new IllTonight();
        due("law '" + text + "'", law(x, text), -6);
        due("status behind '" + text + "'", x.status(), -6);
        due("fault of '" + text + "'", x.fault(), place);
        due("laws behind '" + text + "'", x.count(2), 0);
        due("bytes behind '" + text + "'", x.count(6), 0);
    }

    static void p16_lettersAreAToZAlone() {
        faultAt(4, "bars`");
        faultAt(4, "bars{");
        faultAt(4, "barsA");
        faultAt(4, "barsZ");
        faultAt(4, "bars@");
        faultAt(4, "bars[");
        faultAt(0, "barsa");
        faultAt(0, "barsz");
        faultAt(0, "Bars");
        faultAt(0, "{bars");
    }

    static void p16_digitsAre0To9Alone() {
        faultAt(6, "cost 1:");
        faultAt(7, "cost 1/");
        faultAt(6, "cost 1.5");
        reads("cost 1/9");
        reads("cost 0");
        reads("cost 9");
    }

    static void p16_otherBytesAreSingle() {
        faultAt(5, "cost ++1");
        faultAt(7, "cost 1++1");
        faultAt(13, "cost 1 if 1 ==1");
        faultAt(12, "cost 1 if 1<=1");
        faultAt(4, "bars::bars");
    }

    static void p16_onlyByte32IsABlank() {
        for (int sign = 0; sign < 256; sign++) {
            char c = (char) sign;
            boolean letter = c >= 'a' && c <= 'z';
            String text = "bars" + c;
            if (c == ' ') {
                reads(text);
            } else if (c == ';') {
                faultAt(5, text);
            } else {
                faultAt(letter ? 0 : 4, text);
            }
        }
    }

    static void p16_anyBlanksBetween() {
        reads("cost1if1<2;bars");
        reads("   cost   1   if   1   <   2   ;   bars   ");
        reads("cost 1+2*3-4/5if not(1=2)");
        reads("bars if not not(knows<3)or[1]=1and 2>1");
    }

    static void p16_longestRows() {
        faultAt(0, "costactor");
        faultAt(0, "barsif 1=1");
        faultAt(12, "bars if 1=1 notnot 1=1");
        faultAt(8, "bars if notnot 1=1");
        faultAt(7, "cost 1 2");
        faultAt(5, "cost act or");
        faultAt(6, "cost 1actor");
        faultAt(0, "co st 1");
        reads("cost 12");
    }

    // The language: clauses and heads.

    static void p15_oneClauseIsTheLeast() {
        reads("bars");
        faultAt(0, ";");
        faultAt(0, ";bars");
        faultAt(5, "bars;");
        faultAt(6, "bars; ");
        faultAt(5, "bars;;bars");
    }

    static void p15_twelveClauses() {
        reads("bars;".repeat(11) + "bars");
        reads("cost 1 if 1=1;".repeat(11) + "lets");
    }

    static void p15_theThirteenthsFirstToken() {
        String twelve = "bars;".repeat(12);
        faultAt(60, twelve + "bars");
        faultAt(62, twelve + "  bars if");
        faultAt(60, twelve + "x");
        faultAt(60, twelve + ";");
        faultAt(60, twelve);
        faultAt(62, twelve + "  ");
    }

    static void p15_aFaultWithinTheTwelfth() {
        faultAt(60, "bars;".repeat(11) + "cost ");
        faultAt(60, "bars;".repeat(11) + "bars 5;bars");
    }

    static void p15_heads() {
        for (String head : new String[] {"cost 1", "fades 1", "bars", "lets"}) {
            reads(head);
            reads(head + " if 1=1");
        }
        for (String word : new String[] {"if", "or", "and", "not", "actor", "part", "height", "coat", "wears", "voice", "song",
            "knows", "usual", "week", "1", "(", "[", "x", "cos", "costs", "fade", "bar", "let"}) {
            faultAt(0, word);
            faultAt(5, "bars;" + word);
        }
    }

    static void p15_costAndFadesWithoutASum() {
        faultAt(4, "cost");
        faultAt(5, "fades");
        faultAt(5, "cost if 1=1");
        faultAt(6, "fades if 1=1");
        faultAt(4, "cost;bars");
    }

    static void p15_barsAndLetsWithASum() {
        faultAt(5, "bars 1");
        faultAt(5, "lets knows");
        faultAt(5, "bars [1]");
    }

    static void p15_ifWithoutATest() {
        faultAt(7, "bars if");
        faultAt(7, "bars if;lets");
        faultAt(8, "bars if if 1=1");
    }

    static void p15_aSecondIf() {
        faultAt(12, "bars if 1=1 if 1=1");
    }

    // The language: tests.

    static void p15_aSumAloneIsNoTest() {
        faultAt(9, "bars if 1");
        faultAt(10, "bars if 1 or 1=1");
        faultAt(10, "bars if (1)=1");
        faultAt(14, "bars if ([1+1])<3");
        faultAt(15, "bars if knows  ");
    }

    static void p15_oneComparisonAlone() {
        faultAt(11, "bars if 1<2<3");
        faultAt(11, "bars if 1=2=3");
        faultAt(11, "bars if 1>2>3");
        reads("bars if 1<2 and 2<3");
    }

    static void p15_nothingBehindAComparison() {
        faultAt(10, "bars if 1<");
        faultAt(10, "bars if 1<;");
        faultAt(10, "bars if 1<or 1=1");
        faultAt(10, "bars if 1<(1)");
    }

    static void p15_nothingAroundOrAndNot() {
        faultAt(8, "bars if or 1=1");
        faultAt(8, "bars if and 1=1");
        faultAt(11, "bars if not");
        faultAt(14, "bars if 1=1 or");
        faultAt(15, "bars if 1=1 and");
        faultAt(15, "bars if 1=1 or or 1=1");
        faultAt(16, "bars if 1=1 and or 1=1");
        faultAt(12, "bars if 1=1 not 1=1");
        faultAt(10, "bars if 1 not =1");
        faultAt(12, "bars if not or 1=1");
    }

    static void p15_notWithinASum() {
        faultAt(5, "cost not 1");
        faultAt(7, "cost 1+not 1");
        faultAt(10, "bars if 1=not 1");
        faultAt(9, "bars if [not 1]=1");
    }

    static void p15_manyNots() {
        reads("bars if " + "not ".repeat(97) + "1=1");
        faultAt(8 + 4 * 98, "bars if " + "not ".repeat(98));
    }

    static void p15_roundBracketsAreOfTestsSquareOfSums() {
        faultAt(5, "cost (1)");
        faultAt(10, "bars if [1=1]");
        faultAt(10, "bars if [1<2]");
        faultAt(10, "bars if 1=(1)");
        faultAt(8, "bars if ]1=1");
        reads("bars if ([1]=[1])");
        reads("bars if (([1+1]*2=4))");
    }

    static void p15_bracketsThatAreNotClosed() {
        faultAt(12, "bars if (1=1");
        faultAt(12, "bars if (1=1;lets");
        faultAt(7, "cost [1");
        faultAt(7, "cost [1;bars");
        faultAt(7, "cost [1)");
        faultAt(12, "bars if (1=1]");
    }

    static void p15_bracketsThatWereNotOpened() {
        faultAt(6, "cost 1]");
        faultAt(11, "bars if 1=1)");
        faultAt(13, "bars if (1=1))");
    }

    static void p15_bracketsWithNothingWithin() {
        faultAt(6, "cost []");
        faultAt(9, "bars if ()");
    }

    static void p15_somethingBehindABracket() {
        faultAt(8, "cost [1][1]");
        faultAt(8, "cost [1]1");
        faultAt(13, "bars if (1=1)(1=1)");
        faultAt(13, "bars if (1=1)<1");
    }

    // The language: sums.

    static void p15_signsWithNothingAhead() {
        faultAt(5, "cost +1");
        faultAt(5, "cost -1");
        faultAt(5, "cost *1");
        faultAt(5, "cost /1");
    }

    static void p15_signsWithNothingBehind() {
        faultAt(7, "cost 1+");
        faultAt(7, "cost 1-");
        faultAt(7, "cost 1*");
        faultAt(7, "cost 1/");
        faultAt(8, "cost 1+ if 1=1");
        faultAt(7, "cost 1*;bars");
    }

    static void p15_numbersTo1000() {
        reads("cost 0");
        reads("cost 999");
        reads("cost 1000");
        reads("cost 0000000000000001000");
        faultAt(5, "cost 1001");
        faultAt(5, "cost 2000");
        faultAt(5, "cost 9999");
        faultAt(5, "cost 10000");
        faultAt(5, "cost 0001001");
        faultAt(5, "cost 4294967296");
        faultAt(5, "cost 4294967297");
        faultAt(5, "cost 18446744073709551617");
        faultAt(5, "cost " + "1".repeat(395));
        reads("cost " + "0".repeat(395));
        faultAt(7, "cost 1+1001");
        faultAt(10, "bars if 1<1001");
    }

    static void p15_words() {
        for (String word : new String[] {"actor", "part", "height", "coat", "wears", "voice", "song", "knows", "usual", "week"}) {
            reads("cost " + word);
            reads("bars if " + word + "=" + word);
            faultAt(5, "cost " + word + "s");
            faultAt(5, "cost x" + word);
            faultAt(5, "cost " + word.substring(0, word.length() - 1));
            faultAt(5, "cost " + word.substring(1));
        }
        for (String word : new String[] {"cost", "fades", "bars", "lets", "if", "or", "and", "not", "scenes", "frail", "need"}) {
            faultAt(5, "cost " + word);
        }
    }

    static void p15_eachLetterCounts() {
        for (String word : new String[] {"cost", "fades", "bars", "lets"}) {
            for (int i = 0; i < word.length(); i++) {
                faultAt(0, word.substring(0, i) + "q" + word.substring(i + 1));
            }
        }
        for (String word : new String[] {"actor", "part", "height", "coat", "wears", "voice", "song", "knows", "usual", "week"}) {
            for (int i = 0; i < word.length(); i++) {
                faultAt(5, "cost " + word.substring(0, i) + "q" + word.substring(i + 1));
            }
        }
        faultAt(5, "bars qf 1=1");
        faultAt(5, "bars iq 1=1");
        faultAt(12, "bars if 1=1 qr 1=1");
        faultAt(12, "bars if 1=1 oq 1=1");
        faultAt(12, "bars if 1=1 qnd 1=1");
        faultAt(12, "bars if 1=1 aqd 1=1");
        faultAt(12, "bars if 1=1 anq 1=1");
        faultAt(8, "bars if qot 1=1");
        faultAt(8, "bars if nqt 1=1");
        faultAt(8, "bars if noq 1=1");
    }

    static void p15_fiftyPieces() {
        reads("cost 1" + "+1".repeat(49));
        reads("cost week" + "*week".repeat(49));
        reads("cost [1]" + "+[1]".repeat(49));
        reads("bars if 1=1" + " and 1=1".repeat(24));
    }

    static void p15_fiftyOnePieces() {
        faultAt(105, "cost 1" + "+1".repeat(50));
        faultAt(5 + 5 * 50, "cost week" + "*week".repeat(50));
        faultAt(206, "cost [1]" + "+[1]".repeat(50));
        faultAt(208, "bars if 1=1" + " and 1=1".repeat(25));
    }

    static void p15_piecesOfAllClauses() {
        reads("cost 1+1+1+1;".repeat(11) + "cost 1+1+1+1+1+1");
        faultAt(143 + 17, "cost 1+1+1+1;".repeat(11) + "cost 1+1+1+1+1+1+1");
        faultAt(104 + 7, "cost 1" + "+1".repeat(49) + ";fades 1");
        reads("cost 1" + "+1".repeat(49) + ";bars;lets");
    }

    static void p15_whatCanNotBeAPieceIsTheFaultFirst() {
        faultAt(105, "cost 1" + "+1".repeat(49) + "+x");
        faultAt(104, "cost 1" + "+1".repeat(49) + "x");
        faultAt(104, "cost 1" + "+1".repeat(49) + "]");
    }

    static void p15_eightBracketsWithinOneAnother() {
        reads("cost " + "[".repeat(8) + "1" + "]".repeat(8));
        reads("bars if " + "(".repeat(8) + "1=1" + ")".repeat(8));
        reads("bars if " + "(".repeat(7) + "[1]=[1]" + ")".repeat(7));
    }

    static void p15_theNinthBracket() {
        faultAt(13, "cost " + "[".repeat(9) + "1" + "]".repeat(9));
        faultAt(16, "bars if " + "(".repeat(9) + "1=1" + ")".repeat(9));
        faultAt(16, "bars if " + "(".repeat(8) + "[1]=1" + ")".repeat(8));
        faultAt(18, "bars if " + "(".repeat(8) + "1=[1]" + ")".repeat(8));
        faultAt(13, "cost " + "[".repeat(9));
        faultAt(13, "cost " + "[".repeat(300));
        faultAt(16, "bars if " + "(".repeat(300));
    }

    static void p15_bracketsBesideOneAnotherAreNotWithin() {
        String eight = "[".repeat(8) + "1" + "]".repeat(8);
        reads("cost " + eight + "+" + eight + "+" + eight);
        reads("cost " + eight + " if " + eight + "<" + eight);
        reads("bars if " + "(1=1)or".repeat(20) + "(1=1)");
        faultAt(5 + 17 + 1 + 8, "cost " + eight + "+[" + eight + "]");
    }

    static void p15_eightThatAreClosedLeaveRoom() {
        String eight = "(".repeat(8) + "1=1" + ")".repeat(8);
        reads("bars if " + eight + "and" + eight + ";lets if " + eight);
    }

    // The language: what it tells.

    /** Told by "cost" of an ACTOR 1 and a PART 1 with all facts at other numbers. */
    private static IllTonight toBeAsked() {
        IllTonight x = new IllTonight();
        x.actor(100, 0, 0, 0);
        x.actor(187, 4, 6, 33);
        x.part(0, 0, 0);
        x.part(2, 8, 77);
        x.knows(1, 1, 5);
        x.usual(1, 1);
        x.terms(2, 37);
        return x;
    }

    private static void tells(int want, String law) {
        IllTonight x = toBeAsked();
        rule(x, law);
        asks(x, want, "'" + law + "'", () -> x.of(1, 1, 2));
    }

    private static void holds(boolean so, String test) {
        tells(so ? 7 : 3, "cost 3;cost 7 if " + test);
    }

    static void p08_eachFact() {
        tells(1, "cost actor");
        tells(1, "cost part");
        tells(87, "cost height-100");
        tells(4, "cost coat");
        tells(2, "cost wears");
        tells(6, "cost voice");
        tells(8, "cost song");
        tells(5, "cost knows");
        tells(1, "cost usual");
        tells(37, "cost week");
    }

    static void p08_factsAtTheirEdges() {
        IllTonight x = cast(8, 8);
        x.turn(7, 0, 220);
        x.turn(7, 1, 9);
        x.turn(7, 2, 9);
        x.alter(7, 0, 9);
        x.alter(7, 1, 9);
        x.knows(7, 7, 9);
        x.terms(2, 99);
        rule(x, "cost 50 if actor=7 and part=7 and height=220 and coat=9 and voice=9 and wears=9 and song=9 and knows=9");
        asks(x, 50, "the greatest", () -> x.of(7, 7, 2));
        rule(x, "cost week");
        asks(x, 99, "the latest week", () -> x.of(7, 7, 2));
        rule(x, "cost 50 if actor=0 and part=0 and height=150 and coat=0 and voice=0 and wears=0 and song=0 and knows=0");
        asks(x, 50, "the least", () -> x.of(0, 0, 2));
    }

    static void p08_usualIs1Or0() {
        IllTonight x = toBeAsked();
        rule(x, "cost 10+usual");
        asks(x, 11, "his", () -> x.of(1, 1, 2));
        asks(x, 10, "another's", () -> x.of(0, 1, 2));
        asks(x, 10, "nobody's", () -> x.of(0, 0, 2));
        x.usual(0, 0);
        asks(x, 11, "the first one's", () -> x.of(0, 0, 2));
    }

    static void p08_brokenBeyondTheLimit() {
        holds(true, "1000*1000*1000>0");
        holds(false, "1000*1000*1000+1>0");
        holds(false, "1+1000*1000*1000>0");
        holds(true, "1000*1000*1000-1>0");
        holds(false, "1000*1000*1000*2>0");
        holds(false, "1000*1000*1000*1000*1000*1000*1000*1000*1000>0");
        holds(true, "999*1000*1000+1000*1000>0");
        holds(false, "999*1000*1000+1000*1000+1>0");
    }

    static void p08_brokenBelowTheLimit() {
        holds(true, "0-1000*1000*1000<0");
        holds(false, "0-1000*1000*1000-1<0");
        holds(true, "0-1000*1000*1000+1<0");
        holds(false, "[0-1000]*1000*[1000+1]<0");
        holds(true, "[0-1000]*1000*1000<0");
    }

    static void p08_brokenOnTheWay() {
        holds(false, "1000*1000*1000+1-1>0");
        holds(false, "1000*1000*1000*2/2>0");
        holds(true, "1000*1000*1000-1+1>0");
        holds(false, "[1000*1000*1000+1]*0=0");
        tells(3, "cost 3;cost 1000*1000*1000*2/1000");
    }

    static void p08_dividedBy0() {
        holds(false, "1/0=0");
        holds(false, "0/0=0");
        holds(false, "1/[1-1]=0");
        holds(false, "1/[usual-1]=0");
        holds(false, "1=1/0");
        holds(false, "0*[1/0]=0");
        holds(true, "0/1=0");
        tells(3, "cost 3;cost 1/0");
        tells(3, "cost 3;cost knows/[week-37]");
    }

    static void p08_cutTowards0() {
        holds(true, "7/2=3");
        holds(true, "[0-7]/2=0-3");
        holds(true, "7/[0-2]=0-3");
        holds(true, "[0-7]/[0-2]=3");
        holds(true, "1/2=0");
        holds(true, "[0-1]/2=0");
        holds(true, "6/2=3");
        holds(true, "1000*1000*1000/[0-1]=0-1000*1000*1000");
    }

    static void p08_compareJustBeside() {
        holds(true, "2<3");
        holds(false, "3<3");
        holds(false, "4<3");
        holds(false, "2>3");
        holds(false, "3>3");
        holds(true, "4>3");
        holds(false, "2=3");
        holds(true, "3=3");
        holds(false, "4=3");
        holds(true, "0-1<0");
        holds(true, "0>0-1");
        holds(true, "0-1000*1000*1000<1000*1000*1000");
    }

    static void p08_orAsksBehindOnlyIfItMatters() {
        holds(true, "1=1 or 1/0=0");
        holds(false, "1=2 or 1/0=0");
        holds(false, "1/0=0 or 1=1");
        holds(true, "1=2 or 1=1 or 1/0=0");
        holds(true, "1=1 or 1/0=0 or 1/0=0");
        holds(true, "1=1 or 1=1 and 1/0=0");
        holds(false, "1=2 or 1=1 and 1/0=0");
        holds(true, "(1=1 or 1/0=0) and 1=1");
    }

    static void p08_andAsksBehindOnlyIfItMatters() {
        holds(false, "1=2 and 1/0=0");
        holds(true, "not (1=2 and 1/0=0)");
        holds(false, "not (1=1 and 1/0=0)");
        holds(false, "1/0=0 and 1=2");
        holds(false, "not (1/0=0 and 1=2)");
        holds(true, "1=2 and 1/0=0 or 1=1");
        holds(false, "1=1 and 1/0=0 or 1=1");
        holds(true, "1=2 and 1/0=0 and 1/0=0 or 1=1");
        holds(true, "1=2 and (1/0=0 or 1/0=1) or 1=1");
    }

    static void p08_brokenIsNotTurnedByNot() {
        holds(false, "1/0=0");
        holds(false, "not 1/0=0");
        holds(false, "not not 1/0=0");
        holds(false, "not (1=2 or 1/0=0)");
    }

    static void p08_bindsByAndAheadOfOrNotAheadOfAnd() {
        holds(true, "1=1 or 1=1 and 1=2");
        holds(false, "(1=1 or 1=1) and 1=2");
        holds(true, "1=2 and 1=2 or 1=1");
        holds(false, "1=2 and (1=2 or 1=1)");
        holds(false, "not 1=1 and 1=2");
        holds(true, "not (1=1 and 1=2)");
        holds(true, "not 1=1 or 1=1");
    }

    static void p08_sumsFromTheLeft() {
        tells(1, "cost 5-3-1");
        tells(3, "cost 5-[3-1]");
        tells(2, "cost 20/5/2");
        tells(10, "cost 20/[5/2]");
        tells(6, "cost 5/2*3");
        tells(14, "cost 2+3*4");
        tells(20, "cost [2+3]*4");
        tells(2, "cost 8-3*2");
        tells(4, "cost 5-3+2");
    }

    static void p08_theLastThatHolds() {
        tells(6, "cost 4;cost 5;cost 6");
        tells(5, "cost 4;cost 5;cost 6 if 1=2");
        tells(4, "cost 4;cost 5/0;cost 6 if 1=2");
        tells(4, "cost 4;cost 5 if 1/0=0;cost 6/0");
        tells(4, "cost 4;fades 5;bars;lets");
        tells(6, "cost 4 if 1=1;cost 5 if 1=2;cost 6 if 1=1");
        tells(0, "cost 4 if 1=2;cost 5 if 1=2");
    }

    static void p08_aTestHoldsButItsSumIsBroken() {
        tells(4, "cost 4;cost 1/0 if 1=1");
        tells(4, "cost 4;cost 1 if 1/0=1");
    }

    static void p08_barsAndLetsThatAreBrokenDoNotHold() {
        IllTonight x = cast(1, 1);
        rule(x, "lets if 1/0=0");
        asks(x, 0, "lets is broken", () -> x.of(0, 0, 1));
        x.knows(0, 0, 1);
        rule(x, "bars if 1/0=0");
        asks(x, 1, "bars is broken", () -> x.of(0, 0, 1));
    }

    static void p08_twelfthClauseIsAsked() {
        tells(12, "cost 1;cost 2;cost 3;cost 4;cost 5;cost 6;cost 7;cost 8;cost 9;cost 10;cost 11;cost 12");
        tells(1, "cost 1" + ";cost 2 if 1=2".repeat(11));
    }

    static void p08_fiftiethPieceIsAsked() {
        tells(50, "cost 1" + "+1".repeat(49));
        tells(18, "cost [" + "1+".repeat(30) + "1]-13" + "-0".repeat(18));
    }

    static void p08_deepestBracketsAreAsked() {
        tells(36, "cost 1+[2+[3+[4+[5+[6+[7+[8]]]]]]]");
        tells(45, "cost [1+[2+[3+[4+[5+[6+[7+[8+9]]]]]]]]");
        holds(true, "not (not (not (not (not (not (not (not 1=1)))))))");
    }

    // Promise 17: force.

    static void p17_noneAtFirst() {
        IllTonight x = cast(1, 1);
        taken(x, -1, "none to none", () -> x.force(-1));
    }

    static void p17_noLawAtAll() {
        IllTonight x = cast(1, 1);
        noSuch(x, "force", -1, 0, x::force);
    }

    static void p17_firstAndLast() {
        IllTonight x = withSixLaws();
        taken(x, -1, "the first", () -> x.force(0));
        taken(x, 0, "the last", () -> x.force(5));
        due("cost of the last", x.of(0, 0, 2), 5);
        taken(x, 5, "the same again", () -> x.force(5));
        taken(x, 5, "none", () -> x.force(-1));
        due("cost of none", x.of(0, 0, 2), 1);
        taken(x, -1, "the first again", () -> x.force(0));
        due("cost of the first", x.of(0, 0, 2), 0);
    }

    static void p17_noSuchLaw() {
        IllTonight x = withSixLaws();
        x.force(3);
        noSuch(x, "force", -1, 6, x::force);
        taken(x, 3, "the one in force stays", () -> x.force(-1));
    }

    static void p17_aLawIsNotInForceByItself() {
        IllTonight x = cast(1, 1);
        law(x, "cost 7");
        due("in force", x.count(12), -1);
        due("cost", x.of(0, 0, 2), 1);
    }

    static void p17_noneInForceIsNoClause() {
        IllTonight x = knowing(1, 1, 1);
        rule(x, "cost 7;fades 7;bars");
        x.force(-1);
        due("can", x.of(0, 0, 1), 1);
        due("cost", x.of(0, 0, 2), 1);
        due("fades", x.of(0, 0, 3), 0);
    }

    static void p17_aLawThatWentWithBackIsNoMore() {
        IllTonight x = cast(1, 1);
        law(x, "cost 1");
        x.image(0);
        law(x, "cost 2");
        x.force(1);
        x.back(0);
        due("in force", x.count(12), -1);
        refused(x, -2, "force the one that went", () -> x.force(1));
    }
}
