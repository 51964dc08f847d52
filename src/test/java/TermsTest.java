/** 'Terms': for each sentence that names a boundary a test of its own, the sentence above it. */
public final class TermsTest {
    private static final Due DUE = new Due("TermsTest");
    private static final int BURNS = 6;
    private static final int DRIPS = 7;
    private static final int COUNTS = 8;

    public static void main(String[] args) {
        rooms();
        draughts();
        debts();
        candles();
        kinds();
        figuresAndGrains();
        newCandles();
        firstMinute();
        burns();
        mixedBurnsOneAtLeast();
        noMoreThanGrains();
        drips();
        mixedDripsZeroAtLeast();
        gutteringDripsNoMoreThanItBurns();
        counts();
        burnsLitWithGrains();
        paysInAnothersRoom();
        debtZeroAtLeast();
        litNoMore();
        summedUp();
        oneMinuteMore();
        brightAsItBegins();
        DUE.end();
    }

    private static void is(String call, long got, long want) {
        DUE.is(call, got, want);
    }

    /** "PEOPLE 0 .. 3, each with a ROOM of that number" */
    private static void rooms() {
        for (int one = 0; one <= 3; one++) {
            PaidInLight x = DUE.told("c00" + one + "9;");
            is("people: whose " + one, x.candle(0, 3), one);
            is("people: the room of " + one, x.candle(0, 4), one);
            for (int room = 0; room <= 3; room++) {
                is("people: put there", x.put(0, room) >= 0 ? 1 : 0, 1);
                is("people: room " + room, x.candle(0, 4), room);
            }
            is("people: no room 4", x.put(0, 4), -1);
            is("people: no room -1", x.put(0, -1), -1);
            is("people: owed " + one, x.owed(one), 0);
        }
    }

    /** "its DRAUGHT (0 .. 9; 0 at first)" */
    private static void draughts() {
        PaidInLight x = new PaidInLight();
        for (int room = 0; room <= 3; room++) {
            is("draught: 0 at first", x.draught(room, 0), 0);
        }
        for (int v = 0; v <= 9; v++) {
            x.draught(1, v);
            is("draught: " + v, x.draught(1, 0), v);
        }
        is("draught: 10", x.draught(1, 10), -6);
        is("draught: -1", x.draught(1, -1), -4);
        for (int v = 0; v <= 9; v++) {
            PaidInLight told = DUE.told("r3" + v + ";");
            is("draught: told " + v, told.draught(3, 0), v);
            is("draught: of the others", told.draught(2, 0), 0);
        }
    }

    /** "DEBTS: so many grains (0 .. 999; 0 at first) one owes another." */
    private static void debts() {
        PaidInLight x = new PaidInLight();
        for (int one = 0; one < 4; one++) {
            for (int other = 0; other < 4; other++) {
                if (one != other) {
                    is("debts: 0 at first", x.debt(one, other), 0);
                    is("debts: 999", x.owe(one, other, 999), 0);
                    is("debts: 999 owed", x.debt(one, other), 999);
                }
            }
        }
        is("debts: all", x.count(3), 12 * 999);
        is("debts: 1000", x.owe(0, 1, 1000), -6);
        is("debts: -1", x.owe(0, 1, -1), -4);
        is("debts: 0", x.owe(0, 1, 0), 999);
        is("debts: 0 owed", x.debt(0, 1), 0);
        is("debts: told 999", DUE.told("d23999;").debt(2, 3), 999);
        is("debts: told 0", DUE.told("d23999;d230;").debt(2, 3), 0);
    }

    /** "CANDLES 0 .. 5 as they come" */
    private static void candles() {
        PaidInLight x = new PaidInLight();
        for (int i = 0; i <= 5; i++) {
            is("candles: none yet", x.candle(i, 2), -1);
            is("candles: one more", Due.night(x, "c000" + (10 + i) + ";"), 1);
            is("candles: how many", x.count(0), i + 1);
        }
        for (int i = 0; i <= 5; i++) {
            is("candles: as they came", x.candle(i, 2), 10 + i);
        }
        is("candles: no seventh", Due.night(x, "c0001;"), -2000);
        is("candles: six still", x.count(0), 6);
        is("candles: none behind the sixth", x.candle(6, 2), -1);
    }

    /** "of KINDS: 0 CANDLE; 1 BEESWAX ..; 5 GUTTERING under CANDLE" */
    private static void kinds() {
        for (int kind = 0; kind <= 5; kind++) {
            is("kinds: " + kind, DUE.told("c" + kind + "009;").candle(0, 0), kind);
        }
        for (int kind = 6; kind <= 9; kind++) {
            is("kinds: no " + kind, Due.night(new PaidInLight(), "c" + kind + "009;"), -2000);
        }
    }

    /** "with a FIGURE (0 .. 9), GRAINS (0 .. 999), WHOSE it is" */
    private static void figuresAndGrains() {
        for (int figure = 0; figure <= 9; figure++) {
            is("figure: " + figure, DUE.told("c0" + figure + "05;").candle(0, 1), figure);
        }
        is("grains: 0", DUE.told("c0000;").candle(0, 2), 0);
        is("grains: 999", DUE.told("c000999;").candle(0, 2), 999);
        PaidInLight six = DUE.told("c000999;c000999;c000999;c000999;c000999;c000999;");
        is("grains: six times 999", six.count(2), 6 * 999);
    }

    /** "in a ROOM (that of its owner at first), LIT or not (not at first)" */
    private static void newCandles() {
        PaidInLight x = DUE.told("c00350;c0020;");
        is("at first: the owner's room", x.candle(0, 4), 3);
        is("at first: the owner's room, without grains", x.candle(1, 4), 2);
        is("at first: not lit", x.candle(0, 5), 0);
        is("at first: none lit", x.count(4), 0);
        is("at first: it does not burn", x.go(1), 0);
    }

    /** "MINUTE (0 at first)." */
    private static void firstMinute() {
        is("minute: 0 at first", new PaidInLight().count(1), 0);
        is("minute: 0 behind a night", DUE.told("c0009;").count(1), 0);
    }

    /** What a candle with grains enough tells in the draughts 0 .. 9, and what a minute makes of it. */
    private static void byDraughts(int kind, int figure, int what, int... want) {
        for (int draught = 0; draught <= 9; draught++) {
            PaidInLight x = DUE.told("c" + kind + figure + "0900;p01;d01999;r1" + draught + ";r09;");
            String row = "kind " + kind + " figure " + figure + " draught " + draught;
            is(row + " candle(0, " + what + ")", x.candle(0, what), want[draught]);
            x.go(1);
            is(row + " summed up", x.count(what - 1), want[draught]);
        }
    }

    /** "What one BURNS in a MINUTE in a DRAUGHT: CANDLE 3 and a third of DRAUGHT, cut. .." */
    private static void burns() {
        byDraughts(0, 5, BURNS, 3, 3, 3, 4, 4, 4, 5, 5, 5, 6);
        byDraughts(1, 5, BURNS, 2, 2, 2, 3, 3, 3, 4, 4, 4, 5);
        byDraughts(2, 5, BURNS, 6, 6, 6, 8, 8, 8, 10, 10, 10, 12);
        byDraughts(3, 0, BURNS, 2, 2, 2, 3, 3, 3, 4, 4, 4, 5);
        byDraughts(3, 9, BURNS, 11, 11, 11, 12, 12, 12, 13, 13, 13, 14);
        byDraughts(4, 0, BURNS, 6, 6, 6, 8, 8, 8, 10, 10, 10, 12);
        byDraughts(4, 1, BURNS, 5, 5, 5, 7, 7, 7, 9, 9, 9, 11);
        byDraughts(5, 5, BURNS, 3, 4, 5, 7, 8, 9, 11, 12, 13, 15);
    }

    /** "MIXED a FAT's less FIGURE, 1 at least." */
    private static void mixedBurnsOneAtLeast() {
        byDraughts(4, 5, BURNS, 1, 1, 1, 3, 3, 3, 5, 5, 5, 7);
        byDraughts(4, 6, BURNS, 1, 1, 1, 2, 2, 2, 4, 4, 4, 6);
        byDraughts(4, 7, BURNS, 1, 1, 1, 1, 1, 1, 3, 3, 3, 5);
        byDraughts(4, 9, BURNS, 1, 1, 1, 1, 1, 1, 1, 1, 1, 3);
    }

    /** What the kinds 0 .. 5 with figure 1 and so many grains tell in draught 9. */
    private static void byKinds(int grains, int what, int... want) {
        for (int kind = 0; kind <= 5; kind++) {
            PaidInLight x = DUE.told("c" + kind + "10" + grains + ";p01;d01999;r19;");
            String row = "grains " + grains + " kind " + kind;
            is(row + " candle(0, " + what + ")", x.candle(0, what), want[kind]);
            x.go(1);
            is(row + " summed up", x.count(what - 1), want[kind]);
        }
    }

    /** "No more than its GRAINS." */
    private static void noMoreThanGrains() {
        // With grains enough they burn 6, 5, 12, 6, 11, 15 there.
        int[] most = {6, 5, 12, 6, 11, 15};
        for (int kind = 0; kind <= 5; kind++) {
            for (int grains = most[kind] - 1; grains <= most[kind] + 1; grains++) {
                PaidInLight x = DUE.told("c" + kind + "10" + grains + ";p00;r09;");
                int want = Math.min(grains, most[kind]);
                is("grains: kind " + kind + " of " + grains, x.candle(0, BURNS), want);
                is("grains: kind " + kind + " of " + grains + " go(1)", x.go(1), want);
                is("grains: kind " + kind + " of " + grains + " left", x.candle(0, 2), grains - want);
                is("grains: kind " + kind + " of " + grains + " lit", x.candle(0, 5), grains > want ? 1 : 0);
            }
        }
        byKinds(4, BURNS, 4, 4, 4, 4, 4, 4);
        byKinds(4, DRIPS, 1, 0, 2, 0, 1, 2);
        byKinds(4, COUNTS, 3, 8, 1, 8, 1, 2);
        byKinds(1, BURNS, 1, 1, 1, 1, 1, 1);
        byKinds(1, DRIPS, 0, 0, 0, 0, 0, 0);
        byKinds(1, COUNTS, 1, 2, 0, 2, 0, 1);
        byKinds(0, BURNS, 0, 0, 0, 0, 0, 0);
        byKinds(0, DRIPS, 0, 0, 0, 0, 0, 0);
        byKinds(0, COUNTS, 0, 0, 0, 0, 0, 0);
    }

    /** "What of that DRIPS: CANDLE DRAUGHT times it by 20, cut; BEESWAX none; FAT half of it, cut; .." */
    private static void drips() {
        byDraughts(0, 5, DRIPS, 0, 0, 0, 0, 0, 1, 1, 1, 2, 2);
        byDraughts(1, 5, DRIPS, 0, 0, 0, 0, 0, 0, 0, 0, 0, 0);
        byDraughts(2, 5, DRIPS, 3, 3, 3, 4, 4, 4, 5, 5, 5, 6);
        byDraughts(3, 5, DRIPS, 0, 0, 0, 0, 0, 0, 0, 0, 0, 0);
        byDraughts(4, 0, DRIPS, 3, 3, 3, 4, 4, 4, 5, 5, 5, 6);
        byDraughts(4, 1, DRIPS, 1, 1, 1, 2, 2, 2, 3, 3, 3, 4);
        byDraughts(5, 5, DRIPS, 0, 0, 0, 2, 2, 4, 6, 8, 10, 12);
        // Fat of an odd number of grains: the half is cut.
        is("drips: fat of 5", DUE.told("c2005;").candle(0, DRIPS), 2);
        is("drips: fat of 1", DUE.told("c2001;").candle(0, DRIPS), 0);
    }

    /** "MIXED a FAT's less FIGURE, 0 at least" */
    private static void mixedDripsZeroAtLeast() {
        byDraughts(4, 2, DRIPS, 0, 0, 0, 1, 1, 1, 2, 2, 2, 3);
        byDraughts(4, 3, DRIPS, 0, 0, 0, 0, 0, 0, 0, 0, 0, 1);
        byDraughts(4, 9, DRIPS, 0, 0, 0, 0, 0, 0, 0, 0, 0, 0);
    }

    /** "GUTTERING twice a CANDLE's, no more than what it BURNS." */
    private static void gutteringDripsNoMoreThanItBurns() {
        for (int draught = 0; draught <= 9; draught++) {
            for (int grains = 0; grains <= 16; grains++) {
                PaidInLight x = DUE.told("c500" + grains + ";r0" + draught + ";");
                int burns = x.candle(0, BURNS);
                int drips = x.candle(0, DRIPS);
                String row = "guttering: draught " + draught + " grains " + grains;
                is(row + " drips", drips, Math.min(burns, draught * burns / 20 * 2));
                is(row + " no more", drips <= burns ? 1 : 0, 1);
                is(row + " counts", x.candle(0, COUNTS), burns - drips);
            }
        }
    }

    /** "What COUNTS: what it BURNS less what DRIPS: CANDLE that; BEESWAX twice that; FAT half of that, cut; .." */
    private static void counts() {
        byDraughts(0, 5, COUNTS, 3, 3, 3, 4, 4, 3, 4, 4, 3, 4);
        byDraughts(1, 5, COUNTS, 4, 4, 4, 6, 6, 6, 8, 8, 8, 10);
        byDraughts(2, 5, COUNTS, 1, 1, 1, 2, 2, 2, 2, 2, 2, 3);
        byDraughts(3, 9, COUNTS, 22, 22, 22, 24, 24, 24, 26, 26, 26, 28);
        byDraughts(4, 1, COUNTS, 2, 2, 2, 2, 2, 2, 3, 3, 3, 3);
        byDraughts(4, 9, COUNTS, 0, 0, 0, 0, 0, 0, 0, 0, 0, 1);
        byDraughts(5, 5, COUNTS, 3, 4, 5, 5, 6, 5, 5, 4, 3, 3);
    }

    /** "A MINUTE: all LIT CANDLES with GRAINS, by numbers: GRAINS are less by what it BURNS" */
    private static void burnsLitWithGrains() {
        PaidInLight x = DUE.told("c00050;c00150;c0020;c00350;p00;p22;p32;");
        is("minute: two burn", x.go(1), 6);
        is("minute: lit", x.candle(0, 2), 47);
        is("minute: not lit", x.candle(1, 2), 50);
        is("minute: without grains", x.candle(2, 2), 0);
        is("minute: the last", x.candle(3, 2), 47);
    }

    /** "if it is in another one's ROOM, its owner's DEBT to that one is less by what COUNTS" */
    private static void paysInAnothersRoom() {
        PaidInLight home = DUE.told("c00250;p02;d2050;d0250;");
        is("pays: burns at home", home.go(1), 3);
        is("pays: nothing at home", home.count(7), 0);
        is("pays: all debts at home", home.count(3), 100);
        PaidInLight x = DUE.told("c00250;p00;d2050;d0250;d2150;d1050;");
        x.go(1);
        is("pays: the owner's debt to that one", x.debt(2, 0), 47);
        is("pays: no other debt", x.count(3), 197);
        is("pays: paid", x.count(7), 3);
    }

    /** "(0 at least; the rest is for nothing)" */
    private static void debtZeroAtLeast() {
        for (int debt = 0; debt <= 5; debt++) {
            PaidInLight x = DUE.told("c00050;p01;d01" + debt + ";d0250;");
            is("rest: all the same", x.go(1), 3);
            is("rest: debt " + debt, x.debt(0, 1), Math.max(0, debt - 3));
            is("rest: paid of " + debt, x.count(7), Math.min(debt, 3));
            is("rest: for nothing", x.debt(0, 2), 50);
        }
        PaidInLight two = DUE.told("c00050;c00050;p01;p11;d014;");
        is("rest: two candles", two.go(1), 6);
        is("rest: two candles, the debt", two.debt(0, 1), 0);
        is("rest: two candles, paid", two.count(7), 4);
    }

    /** "one without GRAINS is LIT no more." */
    private static void litNoMore() {
        PaidInLight x = DUE.told("c0004;c0003;p00;p10;");
        x.go(1);
        is("lit: one grain left", x.candle(0, 5), 1);
        is("lit: none left", x.candle(1, 5), 0);
        is("lit: one of two", x.count(4), 1);
        is("lit: the last grain", x.go(1), 1);
        is("lit: no more", x.candle(0, 5), 0);
        is("lit: none", x.count(4), 0);
        is("lit: nothing burns", x.go(99), 0);
    }

    /** "All that BURNS, DRIPS, PAYS is summed up." */
    private static void summedUp() {
        // Fat burns 6, drips 3, counts 1; a plain candle in draught 9 burns 6, drips 2, and pays nothing at home.
        PaidInLight x = DUE.told("c200100;c00319;p01;p13;d015;r39;");
        is("sums: nothing yet", x.count(5) + x.count(6) + x.count(7), 0);
        x.go(1);
        is("sums: burnt", x.count(5), 12);
        is("sums: dripped", x.count(6), 5);
        is("sums: paid", x.count(7), 1);
        x.go(2);
        is("sums: burnt on", x.count(5), 36);
        is("sums: dripped on", x.count(6), 15);
        is("sums: paid on", x.count(7), 3);
        is("sums: go() tells its own", x.go(3), 19);
        is("sums: burnt to the end of one", x.count(5), 55);
        is("sums: dripped to the end of one", x.count(6), 24);
        is("sums: paid no more than was owed", x.count(7), 5);
    }

    /** "MINUTE is one more." */
    private static void oneMinuteMore() {
        PaidInLight x = new PaidInLight();
        is("minute: without candles", x.go(1), 0);
        is("minute: 1", x.count(1), 1);
        x.go(99);
        is("minute: 100", x.count(1), 100);
    }

    /** "A ROOM is BRIGHT in a MINUTE, if a LIT CANDLE with GRAINS is in it as it begins." */
    private static void brightAsItBegins() {
        PaidInLight x = DUE.told("c0004;c00150;c0020;p03;p22;");
        is("bright: in the first and, with one grain, the second", x.reads(3, 300), 2);
        is("bright: not lit", x.reads(1, 300), 0);
        is("bright: without grains", x.reads(2, 300), 0);
        is("bright: none in it", x.reads(0, 300), 0);
        x.go(1);
        is("bright: one grain", x.reads(3, 300), 1);
        x.go(1);
        is("bright: no grains", x.reads(3, 300), 0);
    }
}
