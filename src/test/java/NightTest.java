import java.util.List;

/** A NIGHT in letters: for each sentence that names a boundary a test of its own, the sentence above it. */
public final class NightTest {
    private static final Due DUE = new Due("NightTest");
    private static final Twins TWINS = new Twins(DUE);
    /** Letters that are no digits: around the digits, at the ends of all letters, and those of statements. */
    private static final String NO_DIGITS = "/:;cdrp \0\377";
    private static final String EIGHTY = "r31;".repeat(20);

    public static void main(String[] args) {
        eightyAtMost();
        semicolonBehindEach();
        candleStatement();
        debtStatement();
        roomStatement();
        placeStatement();
        litIfItHasGrains();
        atLeastOneStatement();
        firstLetterThatNoNightGoesOnWith();
        theEndIfSomethingLacks();
        formAheadOfMeaning();
        numberOutOfRange();
        noSuchCandle();
        oneTwice();
        noRoom();
        firstStatementThatIsWrong();
        allOfItComes();
        nothingComesWithFault();
        lettersAreNoMore();
        howManyStatements();
        nothingIsCounted();
        DUE.end();
    }

    private static void is(String call, long got, long want) {
        DUE.is(call, got, want);
    }

    /** The letters are told to an object that has one candle already. */
    private static void answers(String sentence, String letters, int want) {
        PaidInLight x = DUE.told("c0009;");
        is(sentence + ": " + letters, Due.night(x, letters), want);
    }

    /** "A NIGHT is told in letters, one by one (80 at most)" */
    private static void eightyAtMost() {
        PaidInLight x = new PaidInLight();
        for (int i = 0; i < 80; i++) {
            is("80: letter " + i, x.feed(EIGHTY.charAt(i)), i + 1);
        }
        is("80: no 81st", x.feed('r'), -6);
        is("80: letters", x.count(8), 80);
        is("80: a night", x.night(), 20);
        is("80: it came", x.draught(3, 0), 1);
    }

    /** "STATEMENTS, each with ";" behind" */
    private static void semicolonBehindEach() {
        answers(";: one", "r31;", 1);
        answers(";: lacks at the end", "r31", -1003);
        answers(";: lacks between two", "r31r31;", -1003);
        answers(";: lacks at the end of the second", "r31;r31", -1007);
        answers(";: twice", "r31;;", -1004);
        answers(";: ahead", ";r31;", -1000);
        answers(";: lacks behind one digit of three", "d011", -1004);
        answers(";: another letter", "d011,", -1004);
    }

    /** Nothing that is no digit can stand in the places of digits, which begin behind the first letter. */
    private static void onlyDigits(String sentence, String statement, int digits) {
        for (int place = 1; place <= digits; place++) {
            for (int i = 0; i < NO_DIGITS.length(); i++) {
                char letter = NO_DIGITS.charAt(i);
                String letters = statement.substring(0, place) + letter + statement.substring(place + 1);
                answers(sentence + " letter " + (int) letter + " at " + place, letters, -1000 - place);
            }
        }
    }

    /** '"c" KIND, FIGURE, WHOSE (a digit each), GRAINS (1 to 3 digits): a CANDLE more' */
    private static void candleStatement() {
        String c = "\"c\"";
        onlyDigits(c, "c1235;", 4);
        answers(c, "c123;", -1004);
        answers(c, "c1235;", 1);
        answers(c, "c12356;", 1);
        answers(c, "c123567;", 1);
        answers(c, "c1235678;", -1007);
        PaidInLight x = DUE.told("c1235;c12356;c123567;c123007;c1230;c123000;");
        int[] grains = {5, 56, 567, 7, 0, 0};
        for (int candle = 0; candle < 6; candle++) {
            is(c + " kind", x.candle(candle, 0), 1);
            is(c + " figure", x.candle(candle, 1), 2);
            is(c + " grains", x.candle(candle, 2), grains[candle]);
            is(c + " whose", x.candle(candle, 3), 3);
        }
    }

    /** '"d" two of PEOPLE (a digit each), DEBT (1 to 3 digits): the first owes the other so much' */
    private static void debtStatement() {
        String d = "\"d\"";
        onlyDigits(d, "d235;", 3);
        answers(d, "d23;", -1003);
        answers(d, "d235;", 1);
        answers(d, "d2356;", 1);
        answers(d, "d23567;", 1);
        answers(d, "d235678;", -1006);
        is(d + " the first owes", DUE.told("d235;").debt(2, 3), 5);
        is(d + " not the other", DUE.told("d235;").debt(3, 2), 0);
        is(d + " two digits", DUE.told("d2356;").debt(2, 3), 56);
        is(d + " three digits", DUE.told("d23567;").debt(2, 3), 567);
        is(d + " 007", DUE.told("d23007;").debt(2, 3), 7);
        is(d + " so much, not so much more", DUE.told("d235;d236;").debt(2, 3), 6);
    }

    /** '"r" a ROOM, DRAUGHT (a digit each)' */
    private static void roomStatement() {
        String r = "\"r\"";
        onlyDigits(r, "r29;", 2);
        answers(r, "r2;", -1002);
        answers(r, "r29;", 1);
        answers(r, "r295;", -1003);
        is(r + " 9", DUE.told("r29;").draught(2, 0), 9);
        is(r + " 0 behind 9", DUE.told("r29;r20;").draught(2, 0), 0);
    }

    /** '"p" a CANDLE, a ROOM (a digit each): it is there' */
    private static void placeStatement() {
        String p = "\"p\"";
        onlyDigits(p, "p03;", 2);
        answers(p, "p0;", -1002);
        answers(p, "p03;", 1);
        answers(p, "p035;", -1003);
        is(p + " there", DUE.told("c0009;p03;").candle(0, 4), 3);
        is(p + " the last place holds", DUE.told("c0009;p03;p01;").candle(0, 4), 1);
    }

    /** "it is there, LIT, if it has GRAINS." */
    private static void litIfItHasGrains() {
        PaidInLight x = DUE.told("c0000;c0001;p03;p13;");
        is("lit: without grains", x.candle(0, 5), 0);
        is("lit: there without grains", x.candle(0, 4), 3);
        is("lit: one grain", x.candle(1, 5), 1);
        is("lit: there", x.candle(1, 4), 3);
        x.go(1);
        is("lit: burnt out put again", Due.night(x, "p12;"), 1);
        is("lit: burnt out is there", x.candle(1, 4), 2);
        is("lit: burnt out is not lit", x.candle(1, 5), 0);
    }

    /** "At least one STATEMENT." */
    private static void atLeastOneStatement() {
        is("one: no letters at all", new PaidInLight().night(), -1000);
        answers("one: none", "", -1000);
        answers("one: one", "p00;", 1);
    }

    /** "kind 1 the place of the first letter with which no NIGHT can go on: -1000 less the place" */
    private static void firstLetterThatNoNightGoesOnWith() {
        for (int letter = 0; letter <= 255; letter++) {
            boolean begins = "cdrp".indexOf(letter) >= 0;
            PaidInLight x = new PaidInLight();
            x.feed(letter);
            is("kind 1: letter " + letter, x.night(), begins ? -1001 : -1000);
        }
        answers("kind 1: the first of two", "x31;y31;", -1000);
        answers("kind 1: in the second statement", "r31;x31;", -1004);
        answers("kind 1: what comes behind is no matter", "r3x;c0009;", -1002);
        answers("kind 1: at the 80th letter", EIGHTY.substring(0, 79) + "1", -1079);
        String seventyNine = "d010;d0100;" + EIGHTY.substring(0, 68);
        answers("kind 1: no statement begins so at the 80th", seventyNine + "x", -1079);
        answers("kind 1: one that begins at the 80th lacks its rest", seventyNine + "r", -1080);
        answers("kind 1: 79 letters are a night", seventyNine, 19);
    }

    /** "(the end, if something lacks)" */
    private static void theEndIfSomethingLacks() {
        for (String whole : List.of("c123567;", "d01567;", "r31;", "p00;")) {
            for (int size = 0; size < whole.length(); size++) {
                answers("lacks: ", whole.substring(0, size), -1000 - size);
                if (size > 0) {
                    answers("lacks: behind another", "r31;" + whole.substring(0, size), -1004 - size);
                }
            }
        }
        answers("lacks: at 80 letters", EIGHTY.substring(0, 76) + "d011", -1080);
    }

    /** "else kind 2": a letter that does not fit goes ahead of statements that are not as they must be. */
    private static void formAheadOfMeaning() {
        answers("form first", "r91;r3", -1006);
        answers("form first", "d005;p99;x", -1009);
        answers("form first", "p9x;", -1002);
        answers("meaning alone", "r91;r31;", -2000);
    }

    /** "kind 2 .. (a number out of range": KIND, WHOSE, PEOPLE, ROOM; FIGURE, GRAINS, DRAUGHT, DEBT are never so. */
    private static void numberOutOfRange() {
        for (int digit = 0; digit <= 9; digit++) {
            int ofFour = digit <= 3 ? 1 : -2000;
            answers("range: kind", "c" + digit + "009;", digit <= 5 ? 1 : -2000);
            answers("range: figure", "c0" + digit + "09;", 1);
            answers("range: whose", "c00" + digit + "9;", ofFour);
            answers("range: one", "d" + digit + (digit == 0 ? 1 : 0) + "9;", ofFour);
            answers("range: other", "d" + (digit == 0 ? 1 : 0) + digit + "9;", ofFour);
            answers("range: room", "r" + digit + "9;", ofFour);
            answers("range: draught", "r0" + digit + ";", 1);
            answers("range: room of a candle", "p0" + digit + ";", ofFour);
        }
    }

    /** "no such CANDLE" */
    private static void noSuchCandle() {
        is("no such: there are none", Due.night(new PaidInLight(), "p00;"), -2000);
        answers("no such: the one", "p00;", 1);
        answers("no such: behind the last", "p10;", -2000);
        answers("no such: comes ahead of it", "c0009;p10;", 2);
        answers("no such: comes behind it", "p10;c0009;", -2000);
        PaidInLight six = DUE.told("c0009;c0009;c0009;c0009;c0009;c0009;p50;");
        is("no such: 6 of six", Due.night(six, "p60;"), -2000);
        is("no such: 9 of six", Due.night(six, "p90;"), -2000);
        is("no such: 5 of six", Due.night(six, "p53;"), 1);
    }

    /** "one twice" */
    private static void oneTwice() {
        for (int one = 0; one <= 3; one++) {
            answers("twice", "d" + one + one + "5;", -2000);
            answers("twice, owing nothing", "r31;d" + one + one + "0;", -2004);
        }
        answers("not twice", "d015;d015;", 2);
    }

    /** "no room" */
    private static void noRoom() {
        is("room: six at once", Due.night(new PaidInLight(), "c0009;".repeat(6)), 6);
        is("room: seven at once", Due.night(new PaidInLight(), "c0009;".repeat(7)), -2036);
        answers("room: five more", "c0009;".repeat(5), 5);
        answers("room: six more", "c0009;".repeat(6), -2030);
        PaidInLight six = DUE.told("c0000;".repeat(6));
        is("room: not without grains", Due.night(six, "c0000;"), -2000);
        is("room: nor when one of them is wrong otherwise", Due.night(six, "c9000;"), -2000);
    }

    /** "the place of the first letter of the first STATEMENT that is not as it must be: -2000 less the place" */
    private static void firstStatementThatIsWrong() {
        answers("first: of two", "r31;d005;r91;", -2004);
        answers("first: behind a long one", "c123567;p93;p94;", -2008);
        answers("first: the last of 20", EIGHTY.substring(0, 76) + "r91;", -2076);
    }

    /** "Without FAULT all of it comes" */
    private static void allOfItComes() {
        PaidInLight x = DUE.told("c54210;c00120;d3199;r38;p13;d02998;");
        is("all: candles", x.count(0), 2);
        is("all: kind", x.candle(0, 0), 5);
        is("all: figure", x.candle(0, 1), 4);
        is("all: grains", x.count(2), 30);
        is("all: whose", x.candle(0, 3), 2);
        is("all: one debt", x.debt(3, 1), 99);
        is("all: another debt", x.debt(0, 2), 998);
        is("all: debts", x.count(3), 1097);
        is("all: draught", x.draught(3, 0), 8);
        is("all: put", x.candle(1, 4), 3);
        is("all: lit", x.count(4), 1);
        is("all: no minute", x.count(1), 0);
    }

    /** Letters that are there already are cleared ahead, so that none but these are told. */
    private static int nightAlone(PaidInLight x, String letters) {
        x.night();
        return Due.night(x, letters);
    }

    /** ", with one nothing.": not even the statements ahead of it. */
    private static void nothingComesWithFault() {
        String much = "c1119;d03777;r27;p43;p11;";
        for (String wrong : List.of("x", "r3", "r91;", "d115;", "p90;", "c6009;")) {
            int place = wrong.endsWith(";") ? -2000 - much.length() : -1000 - much.length() - (wrong.equals("r3") ? 2 : 0);
            PaidInLight untouched = Twins.furnished();
            PaidInLight x = Twins.furnished();
            is("nothing: " + wrong, nightAlone(x, much + wrong), place);
            TWINS.alike("nothing comes: " + wrong, Twins.seenOfHouse(x), Twins.seenOfHouse(untouched));
        }
    }

    /** Promise 3: "The letters, which are no more then, are a NIGHT" */
    private static void lettersAreNoMore() {
        for (String letters : List.of("", "r31;", "r91;", "x", "r3")) {
            PaidInLight x = new PaidInLight();
            Due.night(x, letters);
            is("no more: " + letters, x.count(8), 0);
            is("no more: nothing is left", x.night(), -1000);
            is("no more: the first again", x.feed('r'), 1);
        }
    }

    /** Promise 3: "how many STATEMENTS" */
    private static void howManyStatements() {
        for (int many = 1; many <= 20; many++) {
            answers("how many", "r31;".repeat(many), many);
        }
    }

    /** Promise 3: "the FAULT (nothing is counted)" */
    private static void nothingIsCounted() {
        for (String letters : List.of("", "x", "r3", "r91;", "d115;", "p90;", "c6009;", "c0009;".repeat(7))) {
            PaidInLight x = new PaidInLight();
            is("counted: a fault", Due.night(x, letters) < 0 ? 1 : 0, 1);
            for (int what = 11; what <= 16; what++) {
                is("counted: count(" + what + ") of " + letters, x.count(what), 0);
            }
        }
    }
}
