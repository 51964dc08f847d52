import java.util.List;

/** Part II and THE IMAGE: for each sentence that names a boundary a test of its own, the sentence above it. */
public final class MindTest {
    private static final Due DUE = new Due("MindTest");
    private static final Twins TWINS = new Twins(DUE);
    private static final int LOW = Integer.MIN_VALUE;
    private static final int HIGH = Integer.MAX_VALUE;

    public static void main(String[] args) {
        inMind();
        fromNow();
        sixCandles();
        behindZeroTo300();
        owesZeroTo300();
        readsZeroTo300();
        mindGoesBeyondTheLastMinute();
        endsZeroTo999();
        endsNever();
        clearZeroTo999();
        clearNever();
        darkInTheEnd();
        darkInNoneOfThem();
        bestZeroTo20();
        bestAllLit();
        bestOfAllWays();
        bestFirstOfSeveral();
        bestWithoutCandles();
        bestWithSix();
        pourOneTo999();
        pourNothingOwed();
        pourNever();
        pourAlone();
        ringsOfTwoOrThree();
        ringsTwoAheadOfThree();
        ringsByPeople();
        ringsAsLongAsThereIsOne();
        owedBelowZero();
        cheatZeroTo300();
        cheatToldGrains();
        drippedZeroTo99();
        drippedNever();
        drippedAsItIsNow();
        rowOfSix();
        judgedFirstThatIsNotSo();
        judgedTooFew();
        judgedTooMany();
        judgedRight();
        seedsOneTo60();
        seedsLitIfItWasNot();
        drawsWrapAround();
        drawsBelowHowMany();
        imageOfAll();
        imageButItself();
        imageButLetters();
        imageButTheRow();
        imageButRefusals();
        imageOfFewerAndOfMoreCandles();
        DUE.end();
    }

    private static void is(String call, long got, long want) {
        DUE.is(call, got, want);
    }

    /** "In mind, from now": what is told of a furnished house changes nothing. */
    private static void inMind() {
        PaidInLight x = Twins.furnished();
        TWINS.changesNothing("behind", Twins::furnished, y -> y.behind(0, 300), 0);
        TWINS.changesNothing("owes", Twins::furnished, y -> y.owes(0, 1, 300), x.owes(0, 1, 300));
        TWINS.changesNothing("reads", Twins::furnished, y -> y.reads(1, 300), x.reads(1, 300));
        TWINS.changesNothing("ends", Twins::furnished, y -> y.ends(3), x.ends(3));
        TWINS.changesNothing("ends of one not lit", Twins::furnished, y -> y.ends(4), -9);
        TWINS.changesNothing("clearBy", Twins::furnished, PaidInLight::clearBy, -9);
        TWINS.changesNothing("dark", Twins::furnished, y -> y.dark(300), x.dark(300));
        TWINS.changesNothing("best", Twins::furnished, y -> y.best(20, -1), x.best(20, -1));
        TWINS.changesNothing("best of one", Twins::furnished, y -> y.best(20, 4), x.best(20, 4));
        TWINS.changesNothing("pour", Twins::furnished, y -> y.pour(2, 9, 1, 0), -9);
        TWINS.changesNothing("owed", Twins::furnished, y -> y.owed(0), x.owed(0));
        TWINS.changesNothing("cheat", Twins::furnished, y -> y.cheat(0, 0, 999, 999, 0), 63);
        TWINS.changesNothing("dripped", Twins::furnished, y -> y.dripped(0, 1, HIGH, 1), -9);
        TWINS.changesNothing("seeds", Twins::furnished, y -> y.seeds(60, 1), x.seeds(60, 1));
        TWINS.changesNothing("candle", Twins::furnished, y -> y.candle(4, 8), x.candle(4, 8));
        TWINS.changesNothing("debt", Twins::furnished, y -> y.debt(2, 3), 44);
        TWINS.changesNothing("count of another what", Twins::furnished, y -> y.count(10), -9);
    }

    /** ".., from now": each time from what there is then, whatever was thought ahead of it. */
    private static void fromNow() {
        PaidInLight x = DUE.told("c0009;c00190;p01;d019;");
        for (int i = 0; i < 2; i++) {
            is("from now: behind", x.behind(0, 1), 6);
            is("from now: owes", x.owes(0, 1, 1), 6);
            is("from now: reads", x.reads(1, 300), 3);
            is("from now: seeds", x.seeds(1, 0), 99);
            is("from now: clear", x.clearBy(), 3);
            is("from now: seeds again", x.seeds(2, 0), 96);
            is("from now: ends", x.ends(0), 3);
            is("from now: dark", x.dark(300), 0);
        }
        x.owe(2, 3, 1);
        is("from now: clear of more debts", x.clearBy(), -9);
        is("from now: dark of more debts", x.dark(300), 8);
        x.owe(2, 3, 0);
        x.draught(1, 6);
        is("from now: ends in a draught", x.ends(0), 2);
        is("from now: clear in a draught", x.clearBy(), -9);
        x.light(0, false);
        is("from now: reads when it is snuffed", x.reads(1, 300), 0);
        x.light(0, true);
        x.put(0, 2);
        is("from now: reads elsewhere", x.reads(2, 300), 3);
        is("from now: owes, burning elsewhere", x.owes(0, 1, 300), 9);
        x.go(1);
        is("from now: ends behind a minute", x.ends(0), 2);
        is("from now: behind a minute", x.behind(0, 1), 3);
    }

    /** CANDLES 0 .. 5: with all six every call takes part in the last one. */
    private static void sixCandles() {
        PaidInLight x = DUE.told("c0009;c0009;c0009;c0009;c0009;c00010;d0150;d0250;d0350;");
        is("six: dark, none lit", x.dark(300), 14);
        is("six: reads, none lit", x.reads(0, 300) + x.reads(3, 300), 0);
        is("six: clear, none lit", x.clearBy(), -9);
        is("six: ends, not lit", x.ends(5), -9);
        is("six: put", x.put(5, 3), 0);
        is("six: light", x.light(5, true), 1);
        is("six: lit", x.count(4), 1);
        is("six: grains", x.count(2), 55);
        is("six: behind", x.behind(5, 1), 7);
        is("six: owes", x.owes(0, 3, 300), 40);
        is("six: reads", x.reads(3, 300), 4);
        is("six: reads elsewhere", x.reads(2, 300), 0);
        is("six: ends", x.ends(5), 4);
        is("six: dark", x.dark(300), 6);
        is("six: clear", x.clearBy(), -9);
        is("six: best", x.best(20, -1), 95);
        is("six: best room of it, behind five that fill room 1", x.best(20, 5), 2);
        is("six: dripped", x.dripped(5, 3, 0, 0), 100);
        is("six: seeds", x.seeds(1, 0), 55 - 3 - 3);
        is("six: image", x.image(), 0);
        is("six: go", x.go(1), 3);
        is("six: candle", x.candle(5, 2), 7);
        is("six: restore", x.restore(), 0);
        is("six: candle restored", x.candle(5, 2), 10);
        for (int candle = 0; candle <= 5; candle++) {
            x.row(x.candle(candle, 2));
        }
        is("six: judge", x.judge(), -9);
        is("six: no seventh", Due.night(x, "c0001;"), -2000);
    }

    /** "BEHIND n MINUTES (0 .. 300): GRAINS of a CANDLE": one that burns 1 a minute. */
    private static void behindZeroTo300() {
        PaidInLight x = DUE.told("c490999;c490999;c49010;p00;p20;");
        is("behind 0", x.behind(0, 0), 999);
        is("behind 1", x.behind(0, 1), 998);
        is("behind 299", x.behind(0, 299), 700);
        is("behind 300", x.behind(0, 300), 699);
        is("behind 301", x.behind(0, 301), -6);
        is("behind -1", x.behind(0, -1), -4);
        is("behind 300, not lit", x.behind(1, 300), 999);
        is("behind 9, one grain left", x.behind(2, 9), 1);
        is("behind 10, none left", x.behind(2, 10), 0);
        is("behind 11, none still", x.behind(2, 11), 0);
    }

    /** "BEHIND n MINUTES (0 .. 300): .. DEBT of one to another": one that counts 1 a minute. */
    private static void owesZeroTo300() {
        PaidInLight x = DUE.told("c440999;p01;d01999;d10999;");
        is("owes behind 0", x.owes(0, 1, 0), 999);
        is("owes behind 1", x.owes(0, 1, 1), 998);
        is("owes behind 299", x.owes(0, 1, 299), 700);
        is("owes behind 300", x.owes(0, 1, 300), 699);
        is("owes behind 301", x.owes(0, 1, 301), -6);
        is("owes behind -1", x.owes(0, 1, -1), -4);
        is("owes the other way", x.owes(1, 0, 300), 999);
        PaidInLight y = DUE.told("c00050;p01;d015;");
        is("owes 2", y.owes(0, 1, 1), 2);
        is("owes 0 at least", y.owes(0, 1, 2), 0);
    }

    /** "READS: in how many of n MINUTES a ROOM is BRIGHT." */
    private static void readsZeroTo300() {
        PaidInLight x = DUE.told("c490999;c0004;c0003;p03;p11;p21;");
        is("reads 0", x.reads(3, 0), 0);
        is("reads 1", x.reads(3, 1), 1);
        is("reads 299", x.reads(3, 299), 299);
        is("reads 300", x.reads(3, 300), 300);
        is("reads 301", x.reads(3, 301), -6);
        is("reads -1", x.reads(3, -1), -4);
        is("reads no more than n", x.reads(1, 1), 1);
        is("reads by the longest of two", x.reads(1, 300), 2);
        is("reads in a room without", x.reads(2, 300), 0);
        is("reads in a new house", new PaidInLight().reads(0, 300), 0);
    }

    /** In mind there is no last MINUTE: only of go() "MINUTE above 9999" is refused. */
    private static void mindGoesBeyondTheLastMinute() {
        PaidInLight x = DUE.told("c490999;d01999;");
        for (int i = 0; i < 101; i++) {
            x.go(99);
        }
        x.light(0, true);
        is("9999: no more", x.go(1), -6);
        is("9999: behind", x.behind(0, 300), 699);
        is("9999: reads", x.reads(0, 300), 300);
        is("9999: ends", x.ends(0), 999);
        is("9999: seeds", x.seeds(2, 0), 998);
        is("9999: image", x.image(), 9999);
        is("9999: restored", x.restore(), 9999);
    }

    /** "ENDS of a CANDLE: behind how many MINUTES (0 .. 999) it has no GRAINS" */
    private static void endsZeroTo999() {
        PaidInLight x = DUE.told("c490999;c0000;c0001;c0003;c0004;p00;p10;p20;p30;p40;");
        is("ends: 999", x.ends(0), 999);
        is("ends: without grains", x.ends(1), 0);
        is("ends: one grain", x.ends(2), 1);
        is("ends: just a minute", x.ends(3), 1);
        is("ends: a grain more", x.ends(4), 2);
        x.go(1);
        is("ends: 998 from now", x.ends(0), 998);
        is("ends: burnt out", x.ends(3), 0);
    }

    /** "ENDS ..; -9." */
    private static void endsNever() {
        PaidInLight x = DUE.told("c0001;p00;");
        x.light(0, false);
        is("ends: not lit", x.ends(0), -9);
        is("ends: -9 is no refusal", x.count(11) + x.count(12) + x.count(13) + x.count(14) + x.count(16), 0);
        x.light(0, true);
        is("ends: lit", x.ends(0), 1);
    }

    /** "CLEAR: behind how many MINUTES (0 .. 999) there are no DEBTS": 499 is the most that any candle can need. */
    private static void clearZeroTo999() {
        is("clear: a new house", new PaidInLight().clearBy(), 0);
        is("clear: no debts, a candle burns", DUE.told("c00050;p01;").clearBy(), 0);
        is("clear: one", DUE.told("c0003;p01;d013;").clearBy(), 1);
        is("clear: beyond 300", DUE.told("c440999;p01;d01499;").clearBy(), 499);
        is("clear: the last of two", DUE.told("c00050;c10050;p01;p12;d013;d0220;").clearBy(), 5);
    }

    /** "CLEAR ..; -9." */
    private static void clearNever() {
        is("clear: one grain too few", DUE.told("c0003;p01;d014;").clearBy(), -9);
        is("clear: half a grain too few", DUE.told("c440999;p01;d01500;").clearBy(), -9);
        is("clear: at home", DUE.told("c000999;p00;d011;").clearBy(), -9);
        is("clear: not lit", DUE.told("c000999;d011;").clearBy(), -9);
        is("clear: no candles", DUE.told("d011;").clearBy(), -9);
        is("clear: one of two", DUE.told("c000999;p01;d011;d101;").clearBy(), -9);
    }

    /** "DARK: PEOPLE (bits) who are owed something in the end of n MINUTES" */
    private static void darkInTheEnd() {
        PaidInLight x = DUE.told("d011;d121;d231;d301;");
        is("dark: all of them behind 0", x.dark(0), 15);
        is("dark: all of them behind 300", x.dark(300), 15);
        is("dark: -1", x.dark(-1), -4);
        is("dark: 301", x.dark(301), -6);
        for (int one = 0; one < 4; one++) {
            PaidInLight y = new PaidInLight();
            y.owe((one + 1) % 4, one, 1);
            is("dark: one alone", y.dark(300), 1 << one);
        }
        is("dark: nobody is owed", new PaidInLight().dark(0), 0);
        is("dark: nobody is owed in the end", DUE.told("c0003;p01;d013;").dark(1), 0);
    }

    /** "and whose ROOM was not BRIGHT in any of them." */
    private static void darkInNoneOfThem() {
        PaidInLight x = DUE.told("c0001;c0000;c00350;p01;p12;d0199;d0299;d0399;");
        is("dark: no minute, none bright", x.dark(0), 14);
        is("dark: bright in the first", x.dark(1), 12);
        is("dark: bright in the first of 300", x.dark(300), 12);
        x.light(2, true);
        is("dark: bright by one's own", x.dark(1), 4);
        x.go(1);
        is("dark: burnt out", x.dark(1), 6);
    }

    /** "BEST ROOMS: .. DEBTS together are least behind n MINUTES (0 .. 20)" */
    private static void bestZeroTo20() {
        PaidInLight x = DUE.told("c000999;d01500;d02500;");
        is("best 0", x.best(0, -1), 1000);
        is("best 1", x.best(1, -1), 997);
        is("best 19", x.best(19, -1), 943);
        is("best 20", x.best(20, -1), 940);
        is("best 21", x.best(21, -1), -6);
        is("best -1", x.best(-1, -1), -4);
        is("best 20 of a candle", x.best(20, 0), 1);
        is("best: burnt out ahead of 20", DUE.told("c0004;d0150;").best(20, -1), 46);
        is("best: 0 at least", DUE.told("c000999;d015;").best(20, -1), 0);
    }

    /** "of all ways to put all CANDLES into ROOMS (all LIT then)" */
    private static void bestAllLit() {
        PaidInLight x = DUE.told("c00050;c00050;c0000;p13;d0150;r02;");
        is("best: not lit and elsewhere, lit and there", x.best(1, -1), 44);
        is("best: the first", x.best(1, 0), 1);
        is("best: the second", x.best(1, 1), 1);
        is("best: without grains", x.best(1, 2), 0);
        PaidInLight y = DUE.told("c000999;d10500;d12500;");
        is("best: nobody's debt but the owner's", y.best(20, -1), 1000);
        is("best: then the first room", y.best(20, 0), 0);
        PaidInLight draught = DUE.told("c500999;d01500;d02500;r24;");
        is("best: the draught of that room", draught.best(2, -1), 988);
        is("best: chosen by it", draught.best(2, 0), 2);
    }

    /** "of all ways": the best one begins with less than others do. */
    private static void bestOfAllWays() {
        // In room 0 a candle counts 4 and beeswax 10 each; in room 1 the candle counts 3.
        PaidInLight x = DUE.told("c00350;c10350;c10350;d3020;d313;r09;");
        is("all ways: all is paid", x.best(1, -1), 0);
        is("all ways: candle 0", x.best(1, 0), 1);
        is("all ways: candle 1", x.best(1, 1), 0);
        is("all ways: candle 2", x.best(1, 2), 0);
        is("all ways: behind 0 the first of them all", x.best(0, 0), 0);
        is("all ways: and their sum", x.best(0, -1), 23);
        is("all ways: then as before", x.best(1, 0), 1);
    }

    /** "of several the first by CANDLES one behind the other" */
    private static void bestFirstOfSeveral() {
        PaidInLight x = DUE.told("c00050;c00050;d013;d023;");
        is("first: behind 0 all in room 0", x.best(0, 0) + x.best(0, 1), 0);
        is("first: paid", x.best(1, -1), 0);
        is("first: candle 0", x.best(1, 0), 1);
        is("first: candle 1", x.best(1, 1), 2);
        PaidInLight three = DUE.told("c00350;c00350;c00350;d303;d313;d323;");
        is("first of three: candle 0", three.best(1, 0), 0);
        is("first of three: candle 1", three.best(1, 1), 1);
        is("first of three: candle 2", three.best(1, 2), 2);
        PaidInLight idle = DUE.told("c10150;c10150;d123;");
        is("first: one is enough, candle 0 stays in room 0", idle.best(1, 0), 0);
        is("first: one is enough, candle 1 pays", idle.best(1, 1), 2);
    }

    /** No candles: one way, which is to put none. */
    private static void bestWithoutCandles() {
        PaidInLight x = DUE.told("d01999;d10999;");
        is("best without candles", x.best(20, -1), 1998);
        is("best of no candle", x.best(20, 0), -1);
        is("best of a new house", new PaidInLight().best(0, -1), 0);
    }

    /** All six candles take part. */
    private static void bestWithSix() {
        PaidInLight x = DUE.told("c0009;c0019;c0029;c0039;c0009;c0019;d319;d039;d209;");
        is("six: behind 3", x.best(3, -1), 0);
        int[] rooms = {0, 0, 0, 1, 3, 0};
        for (int candle = 0; candle < 6; candle++) {
            is("six: candle " + candle, x.best(3, candle), rooms[candle]);
        }
        is("six: no seventh", x.best(3, 6), -1);
    }

    /** "POUR: the least GRAINS (1 .. 999) of a new CANDLE of a KIND and FIGURE that pays all" */
    private static void pourOneTo999() {
        PaidInLight x = new PaidInLight();
        x.owe(0, 1, 1);
        is("pour: 1", x.pour(0, 0, 0, 1), 1);
        is("pour: 1 of beeswax", x.pour(1, 0, 0, 1), 1);
        is("pour: the least of fat", x.pour(2, 0, 0, 1), 3);
        x.owe(0, 1, 2);
        is("pour: 1 of beeswax counts twice", x.pour(1, 0, 0, 1), 1);
        x.owe(0, 1, 3);
        is("pour: 2 of beeswax", x.pour(1, 0, 0, 1), 2);
        x.owe(0, 1, 999);
        is("pour: 999", x.pour(0, 0, 0, 1), 999);
        is("pour: 500 of beeswax", x.pour(1, 9, 0, 1), 500);
        x.owe(0, 1, 167);
        is("pour: 999 of fat", x.pour(2, 0, 0, 1), 999);
        x.owe(0, 1, 166);
        is("pour: the grains of the last minute that count", x.pour(2, 0, 0, 1), 993);
        // Guttering in draught 9 counts 2 of 2 grains, but 1 of 3 and no more than 2 of 4 to 10.
        x.draught(1, 9);
        x.owe(0, 1, 2);
        is("pour: less may count more", x.pour(5, 0, 0, 1), 2);
        x.owe(0, 1, 3);
        is("pour: within a minute", x.pour(5, 0, 0, 1), 11);
        x.owe(0, 1, 4);
        is("pour: a minute and a grain", x.pour(5, 0, 0, 1), 16);
    }

    /** "0 nothing is owed" */
    private static void pourNothingOwed() {
        PaidInLight x = new PaidInLight();
        x.owe(1, 0, 5);
        is("pour: owed the other way alone", x.pour(0, 0, 0, 1), 0);
        for (int kind = 0; kind <= 5; kind++) {
            is("pour: nothing owed, kind " + kind, x.pour(kind, 9, 2, 3), 0);
        }
    }

    /** "POUR ..; -9." */
    private static void pourNever() {
        PaidInLight x = new PaidInLight();
        x.owe(0, 1, 168);
        is("pour: 999 of fat count 167", x.pour(2, 0, 0, 1), -9);
        x.owe(0, 1, 1);
        is("pour: mixed that counts nothing", x.pour(4, 9, 0, 1), -9);
        x.owe(0, 1, 667);
        x.draught(1, 9);
        is("pour: a third drips", x.pour(0, 0, 0, 1), -9);
        is("pour: -9 is no refusal", x.count(11) + x.count(12) + x.count(13) + x.count(14) + x.count(16), 0);
    }

    /** "if it burnt alone in that one's ROOM till its end" */
    private static void pourAlone() {
        PaidInLight x = DUE.told("c000999;p01;d0120;r09;");
        is("pour: alone", x.pour(0, 0, 0, 1), 20);
        is("pour: in that one's room", x.pour(5, 0, 0, 1), 20);
        x.draught(1, 9);
        is("pour: in that one's draught", x.pour(0, 0, 0, 1), 30);
        PaidInLight six = DUE.told("c0009;".repeat(6) + "d015;");
        is("pour: six there are", six.pour(0, 0, 0, 1), 5);
    }

    /** "RINGS: two or three of PEOPLE of whom each owes the next one, the last the first" */
    private static void ringsOfTwoOrThree() {
        is("rings: none in a new house", new PaidInLight().strike(), 0);
        PaidInLight one = DUE.told("d01999;d12999;d02999;");
        is("rings: none without a way back", one.strike(), 0);
        is("rings: nothing is lessened", one.count(3), 2997);
        PaidInLight four = DUE.told("d015;d125;d235;d305;");
        is("rings: four are none", four.strike(), 0);
        is("rings: four stay", four.count(3), 20);
        for (int a = 0; a < 4; a++) {
            for (int b = 0; b < 4; b++) {
                if (a != b) {
                    PaidInLight two = DUE.told("d" + a + b + "7;d" + b + a + "9;");
                    is("rings: two", two.strike(), 1);
                    is("rings: the least is gone", two.debt(a, b), 0);
                    is("rings: the other is less by it", two.debt(b, a), 2);
                }
            }
        }
        PaidInLight full = DUE.told("d01999;d10999;d23999;d32999;");
        is("rings: 999", full.strike(), 2);
        is("rings: 999 gone", full.count(3), 0);
        PaidInLight least = DUE.told("d011;d101;");
        is("rings: two of 1", least.strike(), 1);
        is("rings: two of 1 gone", least.count(3), 0);
        PaidInLight three = DUE.told("d131;d321;d211;");
        is("rings: three of 1", three.strike(), 1);
        is("rings: three of 1 gone", three.count(3), 0);
    }

    /** "the first (two ahead of three" */
    private static void ringsTwoAheadOfThree() {
        PaidInLight x = DUE.told("d015;d103;d124;d204;");
        is("two first: struck", x.strike(), 2);
        is("two first: 0 to 1", x.debt(0, 1), 0);
        is("two first: 1 to 0", x.debt(1, 0), 0);
        is("two first: 1 to 2", x.debt(1, 2), 2);
        is("two first: 2 to 0", x.debt(2, 0), 2);
        // The ring 0 1 2 has less people's numbers than 2 3, but it is of three.
        PaidInLight y = DUE.told("d015;d125;d205;d235;d325;");
        is("two first: of greater numbers", y.strike(), 2);
        is("two first: all gone", y.count(3), 0);
    }

    /** "the least of it first; by PEOPLE one behind the other)": of two rings with a debt in common one is struck. */
    private static void ringsByPeople() {
        for (int from = 0; from < 4; from++) {
            for (int to = 0; to < 4; to++) {
                if (from != to) {
                    firstOfTwoRings(from, to);
                }
            }
        }
    }

    /** From and to are in both rings, so the one with the lesser of the other two comes first. */
    private static void firstOfTwoRings(int from, int to) {
        int[] others = new int[2];
        int found = 0;
        for (int one = 0; one < 4; one++) {
            if (one != from && one != to) {
                others[found++] = one;
            }
        }
        PaidInLight x = new PaidInLight();
        x.owe(from, to, 5);
        for (int other : others) {
            x.owe(to, other, 5);
            x.owe(other, from, 5);
        }
        String row = "rings over " + from + " to " + to;
        is(row + " struck", x.strike(), 1);
        is(row + " in common", x.debt(from, to), 0);
        is(row + " the first", x.debt(to, others[0]) + x.debt(others[0], from), 0);
        is(row + " the second", x.debt(to, others[1]) + x.debt(others[1], from), 10);
    }

    /** "STRIKING as long as there is one: the first .. is lessened by the least DEBT in it." */
    private static void ringsAsLongAsThereIsOne() {
        PaidInLight x = DUE.told("d019;d124;d203;d135;d305;");
        is("as long: two rings over one debt", x.strike(), 2);
        is("as long: 0 to 1", x.debt(0, 1), 1);
        is("as long: 1 to 2", x.debt(1, 2), 1);
        is("as long: 2 to 0", x.debt(2, 0), 0);
        is("as long: 1 to 3", x.debt(1, 3), 0);
        is("as long: 3 to 0", x.debt(3, 0), 0);
        is("as long: none is left", x.strike(), 0);
        PaidInLight all = new PaidInLight();
        for (int one = 0; one < 4; one++) {
            for (int other = 0; other < 4; other++) {
                if (one != other) {
                    all.owe(one, other, 999);
                }
            }
        }
        is("as long: all pairs", all.strike(), 6);
        is("as long: no debts", all.count(3), 0);
    }

    /** "OWED: what one is owed less what one owes (may be below 0)." */
    private static void owedBelowZero() {
        PaidInLight x = DUE.told("d01999;d02999;d03999;");
        is("owed: least", x.owed(0), -2997);
        is("owed: 999", x.owed(1), 999);
        PaidInLight y = DUE.told("d10999;d20999;d30999;");
        is("owed: most", y.owed(0), 2997);
        is("owed: -999", y.owed(3), -999);
        is("owed: as a refusal would be", DUE.told("d011;").owed(0), -1);
        is("owed: both ways", DUE.told("d015;d105;").owed(0), 0);
    }

    /** "CHEAT: .. burnt n MINUTES (0 .. 300) in a ROOM" */
    private static void cheatZeroTo300() {
        PaidInLight x = new PaidInLight();
        is("cheat: 0 minutes", x.cheat(0, 0, 999, 999, 0), 63);
        is("cheat: 0 minutes, less", x.cheat(0, 0, 999, 998, 0), 0);
        is("cheat: 300 minutes of 3", x.cheat(0, 0, 999, 99, 300), 33);
        is("cheat: 299 minutes of 3", x.cheat(0, 0, 999, 102, 299), 33);
        is("cheat: 300 minutes of 2", x.cheat(0, 0, 999, 399, 300), 10);
        is("cheat: 300 minutes of 1", x.cheat(0, 9, 999, 699, 300), 16);
        is("cheat: 300 minutes of 6 and 6", x.cheat(0, 0, 999, 0, 300), 20);
        is("cheat: 300 minutes of 6 and 11", x.cheat(0, 9, 999, 0, 300), 12);
        is("cheat: 301 minutes", x.cheat(0, 0, 999, 0, 301), -6);
        is("cheat: -1 minutes", x.cheat(0, 0, 999, 0, -1), -4);
        x.draught(3, 9);
        is("cheat: draught of that room", x.cheat(3, 0, 999, 984, 1), 32);
    }

    /** "from told GRAINS at dusk, has told GRAINS at dawn." */
    private static void cheatToldGrains() {
        PaidInLight x = new PaidInLight();
        is("cheat: none at dusk", x.cheat(0, 0, 0, 0, 300), 63);
        is("cheat: none at dusk, one at dawn", x.cheat(0, 0, 0, 1, 300), 0);
        is("cheat: more at dawn", x.cheat(0, 0, 998, 999, 0), 0);
        is("cheat: no more than there are", x.cheat(0, 0, 2, 0, 1), 63);
        is("cheat: one left by those of 2", x.cheat(0, 0, 3, 1, 1), 10);
        is("cheat: all gone but by those of 2", x.cheat(0, 0, 3, 0, 1), 53);
        is("cheat: figure 1", x.cheat(0, 1, 100, 97, 1), 41);
        is("cheat: figure 9 of thick", x.cheat(0, 9, 100, 89, 1), 8);
    }

    /** "DRIPPED: for how many n of 0 .. 99": fat drips 3 a minute. */
    private static void drippedZeroTo99() {
        PaidInLight x = DUE.told("c200999;c100999;");
        is("dripped: n 0, how many", x.dripped(0, 0, 0, 0), 1);
        is("dripped: n 0, the least", x.dripped(0, 0, 0, 1), 0);
        is("dripped: n 1", x.dripped(0, 0, 3, 1), 1);
        is("dripped: n 99, how many", x.dripped(0, 0, 297, 0), 1);
        is("dripped: n 99, the least", x.dripped(0, 0, 297, 1), 99);
        is("dripped: n 100, how many", x.dripped(0, 0, 300, 0), 0);
        is("dripped: n 100, the least", x.dripped(0, 0, 300, 1), -9);
        is("dripped: none at all, how many", x.dripped(1, 0, 0, 0), 100);
        is("dripped: none at all, the least", x.dripped(1, 0, 0, 1), 0);
        PaidInLight y = DUE.told("c2008;");
        is("dripped: burnt out, how many", y.dripped(0, 0, 4, 0), 98);
        is("dripped: burnt out, the least", y.dripped(0, 0, 4, 1), 2);
    }

    /** "DRIPS just so many grains together; the least; -9." */
    private static void drippedNever() {
        PaidInLight x = DUE.told("c200999;");
        is("dripped: between two minutes, how many", x.dripped(0, 0, 2, 0), 0);
        is("dripped: between two minutes, the least", x.dripped(0, 0, 2, 1), -9);
        is("dripped: the most of numbers, how many", x.dripped(0, 0, HIGH, 0), 0);
        is("dripped: the most of numbers, the least", x.dripped(0, 0, HIGH, 1), -9);
        is("dripped: -9 is no refusal", x.count(11) + x.count(12) + x.count(14), 0);
    }

    /** "a CANDLE as it is now, burnt in a ROOM": lit or not, wherever it is. */
    private static void drippedAsItIsNow() {
        PaidInLight x = DUE.told("c00010;r19;");
        is("dripped: at home nothing", x.dripped(0, 0, 0, 0), 100);
        is("dripped: there 2 and 1", x.dripped(0, 1, 3, 1), 2);
        is("dripped: there for ever", x.dripped(0, 1, 3, 0), 98);
        x.light(0, true);
        is("dripped: lit all the same", x.dripped(0, 1, 3, 1), 2);
        x.go(2);
        is("dripped: 4 grains now", x.dripped(0, 1, 1, 1), 1);
        x.go(2);
        is("dripped: no grains now", x.dripped(0, 1, 0, 0), 100);
        is("dripped: no grains now, never", x.dripped(0, 1, 1, 1), -9);
    }

    /** "A ROW of numbers (0 .. 999; 6 at most)" */
    private static void rowOfSix() {
        PaidInLight x = new PaidInLight();
        is("row: 0", x.row(0), 1);
        is("row: 999", x.row(999), 2);
        is("row: 1000", x.row(1000), -6);
        is("row: -1", x.row(-1), -4);
        for (int i = 3; i <= 6; i++) {
            is("row: " + i, x.row(5), i);
        }
        is("row: no seventh", x.row(5), -6);
        is("row: six", x.count(9), 6);
        PaidInLight six = DUE.told("c0000;c0001;c0002;c0003;c0004;c000999;");
        for (int i = 0; i < 5; i++) {
            six.row(i);
        }
        six.row(999);
        is("row: six of six", six.judge(), -9);
    }

    private static int judged(String night, int... told) {
        PaidInLight x = DUE.told(night);
        for (int i = 0; i < told.length; i++) {
            is("row", x.row(told[i]), i + 1);
        }
        int answer = x.judge();
        is("judge: the ROW has none then", x.count(9), 0);
        is("judge: nothing is refused", x.count(11) + x.count(13) + x.count(14) + x.count(16), 0);
        return answer;
    }

    /** "JUDGED: the first that is not so" */
    private static void judgedFirstThatIsNotSo() {
        String three = "c0005;c0006;c0007;";
        is("not so: the first", judged(three, 4, 6, 7), 0);
        is("not so: the second", judged(three, 5, 5, 7), 1);
        is("not so: the last", judged(three, 5, 6, 8), 2);
        is("not so: the first of two", judged(three, 5, 7, 8), 1);
        is("not so: of too few", judged(three, 4), 0);
        is("not so: of too many", judged(three, 5, 6, 8, 9, 9), 2);
        is("not so: sixth of six", judged("c0001;".repeat(6), 1, 1, 1, 1, 1, 2), 5);
    }

    /** "how many are told, if too few" */
    private static void judgedTooFew() {
        String three = "c0005;c0006;c0007;";
        is("too few: none", judged(three), 0);
        is("too few: one", judged(three, 5), 1);
        is("too few: two", judged(three, 5, 6), 2);
        is("too few: five of six", judged("c0001;".repeat(6), 1, 1, 1, 1, 1), 5);
    }

    /** "how many CANDLES, if too many" */
    private static void judgedTooMany() {
        is("too many: of none", judged("r00;", 0), 0);
        is("too many: six of none", judged("r00;", 0, 0, 0, 0, 0, 0), 0);
        is("too many: two of one", judged("c0005;", 5, 0), 1);
        is("too many: six of one", judged("c0005;", 5, 5, 5, 5, 5, 5), 1);
        is("too many: six of five", judged("c0001;".repeat(5), 1, 1, 1, 1, 1, 1), 5);
    }

    /** "-9." */
    private static void judgedRight() {
        is("right: none of none", new PaidInLight().judge(), -9);
        is("right: one", judged("c0005;", 5), -9);
        is("right: without grains", judged("c0000;", 0), -9);
        PaidInLight x = DUE.told("c00010;p00;");
        x.row(7);
        x.go(1);
        is("right: as it is when judged", x.judge(), -9);
        is("right: the ROW has none then", x.judge(), 0);
        is("right: the first again", x.row(7), 1);
    }

    /** "SEEDS: n MINUTES (1 .. 60) with a seed z, in mind" */
    private static void seedsOneTo60() {
        PaidInLight x = DUE.told("c000999;p00;");
        is("seeds: 0", x.seeds(0, 1), -4);
        is("seeds: 1, snuffed at once", x.seeds(1, 1), 999);
        is("seeds: 2, lit again", x.seeds(2, 1), 996);
        is("seeds: 59", x.seeds(59, 1), 999 - 29 * 3);
        is("seeds: 60", x.seeds(60, 1), 999 - 30 * 3);
        is("seeds: 61", x.seeds(61, 1), -6);
    }

    /** "ahead of each a DRAW below how many CANDLES: that one is LIT, if it was not, else not: all GRAINS then." */
    private static void seedsLitIfItWasNot() {
        is("seeds: lit", DUE.told("c00010;").seeds(1, 0), 7);
        is("seeds: not lit", DUE.told("c00010;p00;").seeds(1, 0), 10);
        is("seeds: without grains", DUE.told("c0000;").seeds(60, 0), 0);
        PaidInLight out = DUE.told("c0003;c00090;p10;");
        // From 7 the draws are 19564, 9806: below 2 both are 0; the other one burns on.
        is("seeds: it burns out", out.seeds(1, 7), 87);
        is("seeds: burnt out and drawn again", out.seeds(2, 7), 84);
        PaidInLight all = DUE.told("c00010;c00020;c0000;");
        is("seeds: all grains, drawn or not", all.seeds(1, 0), 27);
    }

    /** Six candles that burn 3, 2, 6, 11, 4, 1 in the first minute show which of them was drawn. */
    private static int drawnOfSix(int z) {
        PaidInLight x = DUE.told("c000100;c100100;c200100;c390100;c420100;c490100;");
        int[] burns = {3, 2, 6, 11, 4, 1};
        int burnt = 600 - x.seeds(1, z);
        for (int candle = 0; candle < 6; candle++) {
            if (burns[candle] == burnt) {
                return candle;
            }
        }
        return -1;
    }

    /** "z becomes z times 1103515245 and 12345 (an int); a DRAW below n is (z without its sign's bit by 65536, cut)" */
    private static void drawsWrapAround() {
        is("draws: 0 becomes 12345, by 65536 is 0", drawnOfSix(0), 0);
        is("draws: 1 becomes 1103527590, by 65536 is 16838", drawnOfSix(1), 2);
        is("draws: 5 becomes 1222621274, by 65536 is 18655", drawnOfSix(5), 1);
        is("draws: 2 becomes -2087924461, without its sign's bit 59559187: 908", drawnOfSix(2), 2);
        is("draws: 7 becomes -865315532, without its sign's bit 1282168116: 19564", drawnOfSix(7), 4);
        is("draws: -1 becomes -1103502900, without its sign's bit 1043980748: 15929", drawnOfSix(-1), 5);
        is("draws: -5 becomes -1222596584, without its sign's bit 924887064: 14112", drawnOfSix(-5), 0);
        is("draws: -12345 becomes 740575732: 11300", drawnOfSix(-12345), 2);
        is("draws: the greatest z becomes 1043980748: 15929", drawnOfSix(HIGH), 5);
        is("draws: the least z becomes -2147471303, without its sign's bit 12345: 0", drawnOfSix(LOW), 0);
        // From 2 the draws are 908, 22817, 10239: below 6 these are 2, 5, 3.
        PaidInLight x = DUE.told("c000100;c100100;c200100;c390100;c420100;c490100;");
        is("draws: 2 and on, two minutes", x.seeds(2, 2), 600 - 6 - 7);
        is("draws: 2 and on, three minutes", x.seeds(3, 2), 600 - 6 - 7 - 18);
    }

    /** "modulo n", n being how many candles there are. */
    private static void drawsBelowHowMany() {
        // z = -1: 15929 is 0 below 1, 1 below 2, 2 below 3, 1 below 4, 4 below 5.
        is("below 1", DUE.told("c000100;").seeds(1, -1), 97);
        is("below 2", DUE.told("c000100;c100100;").seeds(1, -1), 198);
        is("below 3", DUE.told("c000100;c100100;c200100;").seeds(1, -1), 294);
        is("below 4", DUE.told("c000100;c100100;c200100;c390100;").seeds(1, -1), 398);
        is("below 5", DUE.told("c000100;c100100;c200100;c390100;c420100;").seeds(1, -1), 496);
    }

    /** "THE IMAGE: all that there is" */
    private static void imageOfAll() {
        PaidInLight x = Twins.furnished();
        is("image: the minute", x.image(), 3);
        List<String> then = Twins.seenOfHouse(x);
        x.night();
        is("image: much comes", Due.night(x, "c54390;p53;p01;p02;d01999;d03998;d30997;r08;r17;r36;"), 10);
        x.go(9);
        x.light(1, false);
        x.strike();
        is("image: restored", x.restore(), 3);
        TWINS.alike("image: all that there was", Twins.seenOfHouse(x), then);
        is("image: sums too", x.count(5) > 0 && x.count(6) > 0 && x.count(7) > 0 ? 1 : 0, 1);
    }

    /** "THE IMAGE: .. but it": restoring leaves the image, and the last one taken holds. */
    private static void imageButItself() {
        PaidInLight x = DUE.told("c00050;p00;");
        is("image: none yet", x.restore(), -3);
        is("image: at 0", x.image(), 0);
        x.go(2);
        is("image: back at 0", x.restore(), 0);
        x.go(3);
        is("image: once more", x.restore(), 0);
        x.go(4);
        is("image: another at 4", x.image(), 4);
        x.go(5);
        is("image: the last one holds", x.restore(), 4);
        is("image: not the one ahead of it", x.restore(), 4);
        is("image: grains of then", x.candle(0, 2), 38);
    }

    /** "THE IMAGE: .. but .. letters" */
    private static void imageButLetters() {
        PaidInLight x = new PaidInLight();
        x.feed('r');
        x.image();
        x.feed('3');
        x.restore();
        is("image: letters stay", x.count(8), 2);
        x.feed('7');
        x.feed(';');
        is("image: they are a night", x.night(), 1);
        x.restore();
        is("image: letters told do not come back", x.count(8), 0);
        is("image: what they told is gone", x.draught(3, 0), 0);
    }

    /** "THE IMAGE: .. but .. the ROW" */
    private static void imageButTheRow() {
        PaidInLight x = DUE.told("c0005;c0006;");
        x.row(5);
        x.image();
        x.row(6);
        x.restore();
        is("image: the ROW stays", x.count(9), 2);
        is("image: as it was told", x.judge(), -9);
        x.restore();
        is("image: a ROW judged does not come back", x.count(9), 0);
    }

    /** "THE IMAGE: .. but .. REFUSALS." */
    private static void imageButRefusals() {
        PaidInLight x = new PaidInLight();
        x.restore();
        x.go(0);
        x.image();
        x.candle(0, 0);
        x.go(0);
        x.go(100);
        x.pour(6, 0, 0, 1);
        x.restore();
        int[] want = {1, 1, 1, 2, 0, 1};
        for (int what = 11; what <= 16; what++) {
            is("image: count(" + what + ")", x.count(what), want[what - 11]);
        }
    }

    /** Candles that came behind the image are no more, and their numbers are free again; and the other way. */
    private static void imageOfFewerAndOfMoreCandles() {
        PaidInLight x = DUE.told("c0005;");
        x.image();
        is("fewer: five more", Due.night(x, "c00099;".repeat(5) + "p11;p21;p31;p41;p51;d0199;"), 11);
        is("fewer: best of six", x.best(9, 0), 0);
        x.restore();
        is("fewer: one", x.count(0), 1);
        is("fewer: no second", x.candle(1, 0), -1);
        is("fewer: a new second", Due.night(x, "c3138;"), 1);
        is("fewer: its kind", x.candle(1, 0), 3);
        is("fewer: its grains", x.candle(1, 2), 8);
        is("fewer: not lit", x.candle(1, 5), 0);
        is("fewer: best of two", x.best(9, 0), 0);
        is("fewer: the sum of no debts", x.best(9, -1), 0);
        x.owe(0, 1, 9);
        is("fewer: best of two with a debt", x.best(9, -1), 4);
        is("fewer: best room of the first", x.best(9, 0), 1);
        is("fewer: best room of the second", x.best(9, 1), 0);
        PaidInLight empty = new PaidInLight();
        is("fewer: image of none", empty.image(), 0);
        is("fewer: six come", Due.night(empty, "c0009;".repeat(6)), 6);
        is("fewer: none again", empty.restore(), 0);
        is("fewer: none there", empty.count(0), 0);
        is("fewer: six come again", Due.night(empty, "c0008;".repeat(6)), 6);
    }
}
