/** For each promise what was worked out by hand from the document. */
public final class PromisesTest {
    private static final Due DUE = new Due("PromisesTest");
    private static final int LOW = Integer.MIN_VALUE;
    private static final int HIGH = Integer.MAX_VALUE;

    private static void is(String call, long got, long want) {
        DUE.is(call, got, want);
    }

    private static PaidInLight told(String letters) {
        return DUE.told(letters);
    }

    public static void main(String[] args) {
        newObject();
        feed();
        nightForms();
        nightMeanings();
        candle();
        put();
        light();
        draught();
        oweAndDebt();
        go();
        behind();
        owes();
        reads();
        ends();
        clearBy();
        dark();
        best();
        pour();
        strike();
        owed();
        cheat();
        dripped();
        rowAndJudge();
        seeds();
        imageAndRestore();
        count();
        DUE.end();
    }

    private static void newObject() {
        PaidInLight x = new PaidInLight();
        for (int what = 0; what <= 9; what++) {
            is("1 count(" + what + ")", x.count(what), 0);
        }
        for (int one = 0; one < 4; one++) {
            is("1 draught", x.draught(one, 0), 0);
            for (int other = 0; other < 4; other++) {
                is("1 debt", x.debt(one, other), one == other ? -1 : 0);
            }
        }
        is("1 candle", x.candle(0, 2), -1);
        is("1 restore", x.restore(), -3);
    }

    private static void feed() {
        PaidInLight x = new PaidInLight();
        is("2 feed(0)", x.feed(0), 1);
        is("2 feed(255)", x.feed(255), 2);
        is("2 feed(256)", x.feed(256), -6);
        is("2 feed(-1)", x.feed(-1), -4);
        is("2 feed(LOW)", x.feed(LOW), -4);
        is("2 feed(HIGH)", x.feed(HIGH), -6);
        for (int i = 3; i <= 80; i++) {
            is("2 feed", x.feed('c'), i);
        }
        is("2 feed when full", x.feed('c'), -6);
        is("2 feed(-1) when full", x.feed(-1), -4);
        is("2 letters", x.count(8), 80);
        is("2 refusals -4", x.count(14), 3);
        is("2 refusals -6", x.count(16), 3);
        is("2 night", x.night(), -1000);
        is("2 letters behind night", x.count(8), 0);
        is("2 feed again", x.feed('c'), 1);
    }

    private static void nightForms() {
        PaidInLight x = new PaidInLight();
        is("3 nothing", Due.night(x, ""), -1000);
        is("3 x", Due.night(x, "x"), -1000);
        is("3 ;", Due.night(x, ";"), -1000);
        is("3 c", Due.night(x, "c"), -1001);
        is("3 c;", Due.night(x, "c;"), -1001);
        is("3 c000;", Due.night(x, "c000;"), -1004);
        is("3 c000", Due.night(x, "c000"), -1004);
        is("3 c0001", Due.night(x, "c0001"), -1005);
        is("3 c00012", Due.night(x, "c00012"), -1006);
        is("3 c000123", Due.night(x, "c000123"), -1007);
        is("3 c0001234;", Due.night(x, "c0001234;"), -1007);
        is("3 c0001x;", Due.night(x, "c0001x;"), -1005);
        is("3 d01", Due.night(x, "d01"), -1003);
        is("3 d01;", Due.night(x, "d01;"), -1003);
        is("3 d011234;", Due.night(x, "d011234;"), -1006);
        is("3 r0;", Due.night(x, "r0;"), -1002);
        is("3 r011;", Due.night(x, "r011;"), -1003);
        is("3 p000;", Due.night(x, "p000;"), -1003);
        is("3 r00;;", Due.night(x, "r00;;"), -1004);
        is("3 r00; ", Due.night(x, "r00; "), -1004);
        is("3 C", Due.night(x, "C0001;"), -1000);
        is("3 form ahead of meaning", Due.night(x, "r90;r0"), -1006);
        String full = "r01;r01;r01;r01;r01;r01;r01;r01;r01;r01;r01;r01;r01;r01;r01;r01;r01;r01;r01;r01;";
        is("3 80 letters", Due.night(x, full), 20);
        is("3 draught told", x.draught(0, 0), 1);
        is("3 80 letters without end", Due.night(x, full.substring(0, 78) + "c0"), -1078);
        is("3 end at 80", Due.night(x, full.substring(0, 76) + "c000"), -1080);
        is("3 nothing counted", x.count(11) + x.count(12) + x.count(13) + x.count(14) + x.count(16), 0);
    }

    private static void nightMeanings() {
        PaidInLight x = new PaidInLight();
        is("3 kind", Due.night(x, "c6001;"), -2000);
        is("3 whose", Due.night(x, "c0041;"), -2000);
        is("3 second statement", Due.night(x, "d01999;c0091;"), -2007);
        is("3 nothing came", x.debt(0, 1), 0);
        is("3 first of two faults", Due.night(x, "r00;r40;r50;"), -2004);
        is("3 one twice", Due.night(x, "d115;"), -2000);
        is("3 no such person", Due.night(x, "d045;"), -2000);
        is("3 no such person first", Due.night(x, "d405;"), -2000);
        is("3 no such room", Due.night(x, "r40;"), -2000);
        is("3 no such candle", Due.night(x, "p00;"), -2000);
        is("3 candle told too late", Due.night(x, "p00;c0001;"), -2000);
        is("3 no such room for it", Due.night(x, "c0001;p04;"), -2006);
        is("3 it did not come", x.count(0), 0);
        is("3 put there", Due.night(x, "c5937;p02;d137;d13007;r39;"), 5);
        is("3 kind of it", x.candle(0, 0), 5);
        is("3 figure of it", x.candle(0, 1), 9);
        is("3 grains of it", x.candle(0, 2), 7);
        is("3 whose it is", x.candle(0, 3), 3);
        is("3 room of it", x.candle(0, 4), 2);
        is("3 it is lit", x.candle(0, 5), 1);
        is("3 the debt", x.debt(1, 3), 7);
        is("3 the draught", x.draught(3, 1), 9);
        is("3 five more", Due.night(x, "c0009;c0019;c0029;c0039;c00099;"), 5);
        is("3 not lit", x.count(4), 1);
        is("3 at home", x.candle(4, 4), 3);
        is("3 a seventh", Due.night(x, "r00;c0001;"), -2004);
        is("3 draught untouched", x.draught(3, 0), 1);
        PaidInLight y = told("c0000;p01;");
        is("3 without grains not lit", y.candle(0, 5), 0);
        is("3 without grains put", y.candle(0, 4), 1);
        PaidInLight z = new PaidInLight();
        is("3 seven at once", Due.night(z, "c0001;c0001;c0001;c0001;c0001;c0001;c0001;"), -2036);
        is("3 none of seven", z.count(0), 0);
    }

    /** Burns, drips, counts of the kinds 0 .. 5. */
    private static void kindTable(int draught, int figure, int grains, int[][] want) {
        for (int kind = 0; kind < 6; kind++) {
            PaidInLight x = told("c" + kind + figure + "1" + grains + ";p02;r2" + draught + ";");
            String row = "4 kind " + kind + " figure " + figure + " draught " + draught + " grains " + grains;
            for (int i = 0; i < 3; i++) {
                is(row + " what " + (6 + i), x.candle(0, 6 + i), want[kind][i]);
            }
            x.owe(1, 2, 999);
            is(row + " go", x.go(1), want[kind][0]);
            is(row + " grains", x.candle(0, 2), grains - want[kind][0]);
            is(row + " debt", x.debt(1, 2), 999 - want[kind][2]);
            is(row + " burnt", x.count(5), want[kind][0]);
            is(row + " dripped", x.count(6), want[kind][1]);
            is(row + " paid", x.count(7), want[kind][2]);
        }
    }

    private static void candle() {
        kindTable(9, 4, 500, new int[][] {{6, 2, 4}, {5, 0, 10}, {12, 6, 3}, {9, 0, 18}, {8, 0, 4}, {15, 12, 3}});
        kindTable(0, 9, 500, new int[][] {{3, 0, 3}, {2, 0, 4}, {6, 3, 1}, {11, 0, 22}, {1, 0, 0}, {3, 0, 3}});
        kindTable(5, 1, 500, new int[][] {{4, 1, 3}, {3, 0, 6}, {8, 4, 2}, {4, 0, 8}, {7, 2, 2}, {9, 4, 5}});
        kindTable(9, 4, 2, new int[][] {{2, 0, 2}, {2, 0, 4}, {2, 1, 0}, {2, 0, 4}, {2, 0, 1}, {2, 0, 2}});
        kindTable(9, 0, 0, new int[][] {{0, 0, 0}, {0, 0, 0}, {0, 0, 0}, {0, 0, 0}, {0, 0, 0}, {0, 0, 0}});
        PaidInLight x = told("c34177;c0021;");
        int[] want = {3, 4, 77, 1, 1, 0, 6, 0, 12};
        for (int what = 0; what < want.length; what++) {
            is("4 candle(0, " + what + ")", x.candle(0, what), want[what]);
        }
        is("4 what 9", x.candle(0, 9), -2);
        is("4 what -1", x.candle(0, -1), -2);
        is("4 no such candle", x.candle(2, 9), -1);
        is("4 candle -1", x.candle(-1, 0), -1);
        is("4 -1", x.count(11), 2);
        is("4 -2", x.count(12), 2);
    }

    private static void put() {
        PaidInLight x = told("c00350;c00010;");
        is("5 put", x.put(0, 1), 3);
        is("5 put again", x.put(0, 1), 1);
        is("5 room", x.candle(0, 4), 1);
        is("5 not lit by it", x.candle(0, 5), 0);
        is("5 candle", x.put(2, 0), -1);
        is("5 candle below", x.put(-1, 0), -1);
        is("5 room above", x.put(0, 4), -1);
        is("5 room below", x.put(0, -1), -1);
        is("5 unmoved", x.candle(0, 4), 1);
        is("5 -1", x.count(11), 4);
    }

    private static void light() {
        PaidInLight x = told("c0033;c0000;");
        is("6 not lit", x.light(0, false), 0);
        is("6 light", x.light(0, true), 1);
        is("6 lit", x.light(0, true), 0);
        is("6 no grains", x.light(1, true), -3);
        is("6 no grains, not lit", x.light(1, false), 0);
        is("6 candle", x.light(2, true), -1);
        is("6 candle below", x.light(-1, false), -1);
        is("6 snuff", x.light(0, false), 1);
        is("6 relight", x.light(0, true), 1);
        is("6 burnt out", x.go(1), 3);
        is("6 out", x.candle(0, 5), 0);
        is("6 burnt out is not lit again", x.light(0, true), -3);
        is("6 -3", x.count(13), 2);
    }

    private static void draught() {
        PaidInLight x = new PaidInLight();
        is("7 draught", x.draught(2, 9), 0);
        is("7 draught was", x.draught(2, 0), 9);
        is("7 room", x.draught(4, -1), -1);
        is("7 room below", x.draught(-1, 10), -1);
        is("7 below", x.draught(2, -1), -4);
        is("7 above", x.draught(2, 10), -6);
        is("7 unchanged", x.draught(2, 1), 0);
        is("7 other rooms", x.draught(1, 1), 0);
    }

    private static void oweAndDebt() {
        PaidInLight x = new PaidInLight();
        is("8 owe", x.owe(0, 3, 999), 0);
        is("8 was", x.owe(0, 3, 5), 999);
        is("9 debt", x.debt(0, 3), 5);
        is("9 not back", x.debt(3, 0), 0);
        is("8 twice", x.owe(1, 1, -1), -1);
        is("8 nobody", x.owe(4, 1, 1), -1);
        is("8 nobody else", x.owe(1, -1, 1000), -1);
        is("8 below", x.owe(0, 3, -1), -4);
        is("8 above", x.owe(0, 3, 1000), -6);
        is("9 kept", x.debt(0, 3), 5);
        is("9 twice", x.debt(2, 2), -1);
        is("9 nobody", x.debt(0, 4), -1);
        is("9 nobody below", x.debt(-1, 0), -1);
    }

    private static void go() {
        PaidInLight x = told("c00010;c10120;p01;p10;d013;d105;");
        is("10 go", x.go(1), 5);
        is("10 first paid", x.debt(0, 1), 0);
        is("10 second paid", x.debt(1, 0), 1);
        is("10 go on", x.go(1), 5);
        is("10 rest for nothing", x.debt(1, 0), 0);
        is("10 paid", x.count(7), 8);
        is("10 to the end", x.go(99), 20);
        is("10 all grains", x.count(2), 0);
        is("10 none lit", x.count(4), 0);
        is("10 minute", x.count(1), 101);
        is("10 burnt", x.count(5), 30);
        is("10 go(0)", x.go(0), -4);
        is("10 go(100)", x.go(100), -6);
        is("10 go(LOW)", x.go(LOW), -4);
        is("10 go(HIGH)", x.go(HIGH), -6);
        PaidInLight y = told("c000999;");
        for (int i = 0; i < 100; i++) {
            y.go(99);
        }
        is("10 not lit", y.count(2), 999);
        is("10 minute 9900", y.count(1), 9900);
        is("10 to 9998", y.go(98), 0);
        is("10 above 9999", y.go(2), -6);
        is("10 to 9999", y.go(1), 0);
        is("10 no more", y.go(1), -6);
        is("10 below still", y.go(0), -4);
        is("10 minute 9999", y.count(1), 9999);
        is("10 in mind still", y.behind(0, 300), 999);
        PaidInLight z = told("c00030;c00030;p01;p11;d014;");
        is("10 two by numbers", z.go(1), 6);
        is("10 two paid", z.count(7), 4);
        PaidInLight home = told("c00030;p00;d015;d105;");
        is("10 at home", home.go(2), 6);
        is("10 at home nothing paid", home.count(3), 10);
    }

    private static void behind() {
        PaidInLight x = told("c00010;c000100;p00;");
        is("11 0", x.behind(0, 0), 10);
        is("11 1", x.behind(0, 1), 7);
        is("11 3", x.behind(0, 3), 1);
        is("11 4", x.behind(0, 4), 0);
        is("11 300", x.behind(0, 300), 0);
        is("11 not lit", x.behind(1, 300), 100);
        is("11 301", x.behind(0, 301), -6);
        is("11 -1", x.behind(0, -1), -4);
        is("11 candle", x.behind(2, -1), -1);
        is("11 candle below", x.behind(-1, 5), -1);
        is("11 in mind alone", x.candle(0, 2), 10);
        is("11 minute", x.count(1), 0);
    }

    private static void owes() {
        PaidInLight x = told("c00010;c01110;p01;p10;d0120;d204;");
        is("12 0", x.owes(0, 1, 0), 20);
        is("12 2", x.owes(0, 1, 2), 14);
        is("12 300", x.owes(0, 1, 300), 10);
        is("12 another", x.owes(2, 0, 300), 4);
        is("12 301", x.owes(0, 1, 301), -6);
        is("12 -1", x.owes(0, 1, -1), -4);
        is("12 twice", x.owes(1, 1, -1), -1);
        is("12 nobody", x.owes(1, 4, 301), -1);
        is("12 in mind alone", x.debt(0, 1), 20);
    }

    private static void reads() {
        PaidInLight x = told("c00010;c0007;c00090;p01;p11;");
        is("13 0", x.reads(1, 0), 0);
        is("13 1", x.reads(1, 1), 1);
        is("13 4", x.reads(1, 4), 4);
        is("13 the longest", x.reads(1, 300), 4);
        is("13 not lit", x.reads(0, 300), 0);
        is("13 301", x.reads(1, 301), -6);
        is("13 -1", x.reads(1, -1), -4);
        is("13 room", x.reads(4, -1), -1);
        is("13 room below", x.reads(-1, 1), -1);
        is("13 in mind alone", x.candle(0, 2), 10);
    }

    private static void ends() {
        PaidInLight x = told("c00010;c0000;c0009;c490999;p00;p20;p30;");
        is("14 cut", x.ends(0), 4);
        is("14 none", x.ends(1), 0);
        is("14 even", x.ends(2), 3);
        is("14 999", x.ends(3), 999);
        x.light(0, false);
        is("14 not lit", x.ends(0), -9);
        is("14 candle", x.ends(4), -1);
        is("14 candle below", x.ends(-1), -1);
        is("14 in mind alone", x.candle(2, 2), 9);
    }

    private static void clearBy() {
        PaidInLight x = told("c00020;c10120;p01;p10;d017;d109;");
        is("15 both", x.clearBy(), 3);
        is("15 in mind alone", x.count(3), 16);
        x.owe(2, 3, 1);
        is("15 one stays", x.clearBy(), -9);
        PaidInLight y = told("c490999;p01;d01999;");
        is("15 nothing counts", y.clearBy(), -9);
        PaidInLight z = told("c480999;p01;d01499;");
        is("15 mixed counts nothing", z.clearBy(), -9);
        PaidInLight w = told("c440999;p01;d01499;");
        is("15 2 a minute, 1 counts", w.clearBy(), 499);
        is("15 none", new PaidInLight().clearBy(), 0);
    }

    private static void dark() {
        PaidInLight x = told("c0009;p01;d0120;d105;d325;");
        is("16 0", x.dark(0), 7);
        is("16 1", x.dark(1), 5);
        is("16 300", x.dark(300), 5);
        is("16 -1", x.dark(-1), -4);
        is("16 301", x.dark(301), -6);
        PaidInLight y = told("c0009;p01;d0120;c0009;p12;d024;");
        y.put(1, 3);
        is("16 paid in the end only", y.dark(300), 4);
        y.owe(0, 3, 3);
        is("16 bright", y.dark(1), 4);
        is("16 none", new PaidInLight().dark(0), 0);
    }

    private static void best() {
        PaidInLight x = told("c00030;c00030;d0110;d023;");
        is("17 0", x.best(0, -1), 13);
        is("17 0 first way", x.best(0, 0), 0);
        is("17 1", x.best(1, -1), 7);
        is("17 1 candle 0", x.best(1, 0), 1);
        is("17 1 candle 1", x.best(1, 1), 1);
        is("17 4", x.best(4, -1), 0);
        is("17 4 candle 0", x.best(4, 0), 1);
        is("17 4 candle 1", x.best(4, 1), 2);
        is("17 2", x.best(2, -1), 3);
        is("17 2 candle 0", x.best(2, 0), 1);
        is("17 2 candle 1", x.best(2, 1), 1);
        is("17 20", x.best(20, -1), 0);
        is("17 21", x.best(21, -1), -6);
        is("17 -1", x.best(-1, -1), -4);
        is("17 candle", x.best(-1, 2), -1);
        is("17 candle -2", x.best(21, -2), -1);
        is("17 in mind alone", x.candle(0, 4) + x.candle(0, 5), 0);
        PaidInLight y = told("c00130;d1050;d1250;r29;");
        is("17 draught helps", y.best(1, -1), 96);
        is("17 draught chosen", y.best(1, 0), 2);
    }

    private static void pour() {
        PaidInLight x = new PaidInLight();
        is("18 nothing", x.pour(0, 0, 0, 1), 0);
        x.owe(0, 1, 10);
        is("18 candle", x.pour(0, 0, 0, 1), 10);
        is("18 beeswax", x.pour(1, 0, 0, 1), 5);
        is("18 fat", x.pour(2, 0, 0, 1), 57);
        is("18 thick", x.pour(3, 9, 0, 1), 5);
        is("18 mixed counts nothing", x.pour(4, 9, 0, 1), -9);
        x.draught(1, 9);
        is("18 candle in draught", x.pour(0, 0, 0, 1), 14);
        is("18 guttering in draught", x.pour(5, 0, 0, 1), 46);
        x.draught(0, 9);
        x.draught(1, 0);
        is("18 the other's room", x.pour(0, 0, 0, 1), 10);
        x.owe(0, 1, 999);
        is("18 999", x.pour(0, 0, 0, 1), 999);
        is("18 too much", x.pour(2, 0, 0, 1), -9);
        is("18 kind", x.pour(6, -1, 0, 0), -2);
        is("18 kind below", x.pour(-1, 0, 0, 1), -2);
        is("18 figure below", x.pour(0, -1, 0, 0), -4);
        is("18 figure above", x.pour(0, 10, 0, 0), -6);
        is("18 twice", x.pour(0, 0, 0, 0), -1);
        is("18 nobody", x.pour(0, 0, 4, 0), -1);
    }

    private static void strike() {
        PaidInLight x = new PaidInLight();
        x.owe(0, 1, 10);
        x.owe(1, 0, 4);
        x.owe(1, 2, 5);
        x.owe(2, 0, 9);
        is("19 two, then three", x.strike(), 2);
        is("19 0 to 1", x.debt(0, 1), 1);
        is("19 1 to 0", x.debt(1, 0), 0);
        is("19 1 to 2", x.debt(1, 2), 0);
        is("19 2 to 0", x.debt(2, 0), 4);
        is("19 no more", x.strike(), 0);
        is("19 nothing is paid by it", x.count(7), 0);
        PaidInLight four = new PaidInLight();
        four.owe(0, 1, 1);
        four.owe(1, 2, 1);
        four.owe(2, 3, 1);
        four.owe(3, 0, 1);
        is("19 no ring of four", four.strike(), 0);
        PaidInLight order = new PaidInLight();
        order.owe(0, 1, 5);
        order.owe(1, 2, 5);
        order.owe(1, 3, 5);
        order.owe(2, 0, 5);
        order.owe(3, 0, 5);
        is("19 0 1 2 ahead of 0 1 3", order.strike(), 1);
        is("19 0 1 2 struck", order.debt(1, 2), 0);
        is("19 0 1 3 not", order.debt(1, 3), 5);
        PaidInLight equal = new PaidInLight();
        equal.owe(2, 3, 7);
        equal.owe(3, 2, 7);
        is("19 both gone", equal.strike(), 1);
        is("19 nothing left", equal.count(3), 0);
        PaidInLight back = new PaidInLight();
        back.owe(1, 3, 2);
        back.owe(3, 2, 3);
        back.owe(2, 1, 4);
        is("19 1 3 2", back.strike(), 1);
        is("19 1 3 2 left", back.debt(2, 1) * 10 + back.debt(3, 2), 21);
    }

    private static void owed() {
        PaidInLight x = new PaidInLight();
        x.owe(0, 1, 10);
        x.owe(2, 1, 5);
        x.owe(1, 3, 7);
        is("20 1", x.owed(1), 8);
        is("20 0", x.owed(0), -10);
        is("20 3", x.owed(3), 7);
        is("20 nobody", x.owed(4), 1000000001);
        is("20 nobody below", x.owed(-1), 1000000001);
        is("20 -1", x.count(11), 2);
    }

    private static void cheat() {
        PaidInLight x = new PaidInLight();
        is("21 0", x.cheat(0, 0, 100, 100, 0), 63);
        is("21 1 to 97", x.cheat(0, 0, 100, 97, 1), 33);
        is("21 1 to 98", x.cheat(0, 0, 100, 98, 1), 10);
        is("21 1 to 94", x.cheat(0, 0, 100, 94, 1), 20);
        is("21 figure", x.cheat(0, 5, 100, 99, 1), 16);
        is("21 figure thick", x.cheat(0, 5, 100, 93, 1), 8);
        is("21 all gone", x.cheat(0, 0, 2, 0, 300), 63);
        is("21 more at dawn", x.cheat(0, 0, 2, 3, 0), 0);
        x.draught(1, 9);
        is("21 draught", x.cheat(1, 0, 100, 85, 1), 32);
        is("21 room", x.cheat(4, -1, 0, 0, 0), -1);
        is("21 room below", x.cheat(-1, 0, 0, 0, 0), -1);
        is("21 below ahead of above", x.cheat(0, 10, 0, 0, -1), -4);
        is("21 figure below", x.cheat(0, -1, 0, 0, 0), -4);
        is("21 dusk below", x.cheat(0, 0, -1, 0, 0), -4);
        is("21 dawn below", x.cheat(0, 0, 0, -1, 0), -4);
        is("21 figure above", x.cheat(0, 10, 0, 0, 0), -6);
        is("21 dusk above", x.cheat(0, 0, 1000, 0, 0), -6);
        is("21 dawn above", x.cheat(0, 0, 0, 1000, 0), -6);
        is("21 n above", x.cheat(0, 0, 0, 0, 301), -6);
        is("21 edges", x.cheat(3, 9, 999, 999, 300), 0);
    }

    private static void dripped() {
        PaidInLight x = told("c20010;c10050;");
        is("22 0", x.dripped(0, 1, 0, 0), 1);
        is("22 0 least", x.dripped(0, 1, 0, 1), 0);
        is("22 3", x.dripped(0, 1, 3, 0), 1);
        is("22 3 least", x.dripped(0, 1, 3, 1), 1);
        is("22 5 for ever", x.dripped(0, 1, 5, 0), 98);
        is("22 5 least", x.dripped(0, 1, 5, 1), 2);
        is("22 4 never", x.dripped(0, 1, 4, 0), 0);
        is("22 4 least", x.dripped(0, 1, 4, 1), -9);
        is("22 beeswax", x.dripped(1, 1, 0, 0), 100);
        is("22 much", x.dripped(0, 1, HIGH, 0), 0);
        x.draught(1, 9);
        is("22 draught", x.dripped(0, 1, 5, 1), 1);
        is("22 candle", x.dripped(2, 0, -1, 5), -1);
        is("22 room", x.dripped(0, 4, -1, 5), -1);
        is("22 what", x.dripped(0, 0, -1, 2), -2);
        is("22 what below", x.dripped(0, 0, -1, -1), -2);
        is("22 grains", x.dripped(0, 0, -1, 1), -4);
    }

    private static void rowAndJudge() {
        PaidInLight x = told("c0005;c0006;");
        is("23 row", x.row(5), 1);
        is("24 too few", x.judge(), 1);
        is("24 none told", x.judge(), 0);
        is("24 none in the row", x.count(9), 0);
        x.row(5);
        is("23 second", x.row(6), 2);
        is("23 in the row", x.count(9), 2);
        is("24 right", x.judge(), -9);
        x.row(5);
        x.row(6);
        x.row(0);
        is("24 too many", x.judge(), 2);
        is("24 none behind too many", x.count(9), 0);
        x.row(5);
        x.row(7);
        x.row(7);
        is("24 the second", x.judge(), 1);
        x.row(6);
        is("24 the first", x.judge(), 0);
        is("24 none behind a wrong one", x.count(9), 0);
        is("23 below", x.row(-1), -4);
        is("23 above", x.row(1000), -6);
        is("23 999", x.row(999), 1);
        for (int i = 2; i <= 6; i++) {
            is("23 row", x.row(0), i);
        }
        is("23 full", x.row(0), -6);
        is("23 below when full", x.row(-1), -4);
        is("24 none of candles", new PaidInLight().judge(), -9);
    }

    private static void seeds() {
        PaidInLight x = new PaidInLight();
        is("25 below ahead of state", x.seeds(0, 1), -4);
        is("25 above ahead of state", x.seeds(61, 1), -6);
        is("25 no candles", x.seeds(60, 1), -3);
        is("25 one candle", Due.night(x, "c00010;"), 1);
        is("25 lit in the first", x.seeds(1, 5), 7);
        is("25 snuffed in the second", x.seeds(2, 5), 7);
        is("25 lit again", x.seeds(3, 5), 4);
        is("25 in mind alone", x.candle(0, 2) + x.candle(0, 5), 10);
        // From z = 1 the draws are 16838, 5758, 10113: below 3 these are 2, 1, 0.
        PaidInLight y = told("c000100;c100100;c200100;");
        is("25 1", y.seeds(1, 1), 294);
        is("25 2", y.seeds(2, 1), 286);
        is("25 3", y.seeds(3, 1), 275);
        y.light(2, true);
        is("25 lit is snuffed", y.seeds(1, 1), 300);
        // From z = -1 z becomes -1103502900; without its sign's bit 1043980748, by 65536 that is 15929: 2 below 3.
        y.light(2, false);
        is("25 below 0", y.seeds(1, -1), 294);
        is("25 60", y.seeds(60, 0) >= 0 ? 1 : 0, 1);
    }

    private static void imageAndRestore() {
        PaidInLight x = told("c00050;p01;d0130;");
        x.go(2);
        is("26 image", x.image(), 2);
        x.go(3);
        x.feed('c');
        x.row(1);
        x.draught(1, 9);
        x.owe(2, 3, 4);
        x.put(0, 3);
        x.light(0, false);
        x.go(0);
        is("26 a candle more", Due.night(x, "") != 0 ? 1 : 0, 1);
        is("26 another", Due.night(x, "c1119;"), 1);
        x.feed('c');
        is("27 restore", x.restore(), 2);
        is("27 candles", x.count(0), 1);
        is("27 minute", x.count(1), 2);
        is("27 grains", x.count(2), 44);
        is("27 debts", x.count(3), 24);
        is("27 lit", x.count(4), 1);
        is("27 burnt", x.count(5), 6);
        is("27 paid", x.count(7), 6);
        is("27 room", x.candle(0, 4), 1);
        is("27 letters stay", x.count(8), 1);
        is("27 the row stays", x.count(9), 1);
        is("27 refusals stay", x.count(14), 1);
        is("27 draught", x.draught(1, 0), 0);
        x.go(1);
        is("27 once more", x.restore(), 2);
        is("27 grains once more", x.count(2), 44);
        is("26 new image", x.image(), 2);
        PaidInLight y = new PaidInLight();
        is("27 none", y.restore(), -3);
        is("27 -3", y.count(13), 1);
        is("26 of nothing", y.image(), 0);
        Due.night(y, "c0009;");
        is("27 nothing again", y.restore(), 0);
        is("27 no candles", y.count(0), 0);
    }

    private static void count() {
        PaidInLight x = told("c20050;c5017;p01;d0112;r15;");
        x.go(2);
        is("28 candles", x.count(0), 2);
        is("28 minute", x.count(1), 2);
        is("28 grains", x.count(2), 41);
        is("28 debts", x.count(3), 8);
        is("28 lit", x.count(4), 1);
        is("28 burnt", x.count(5), 16);
        is("28 dripped", x.count(6), 8);
        is("28 paid", x.count(7), 4);
        is("28 10", x.count(10), -9);
        is("28 17", x.count(17), -9);
        is("28 -1", x.count(-1), -9);
        is("28 LOW", x.count(LOW), -9);
        is("28 HIGH", x.count(HIGH), -9);
        x.ends(7);
        x.candle(0, 9);
        x.restore();
        x.go(-1);
        x.go(100);
        x.go(100);
        for (int what = 11; what <= 16; what++) {
            is("28 count(" + what + ")", x.count(what), what == 15 ? 0 : what == 16 ? 2 : 1);
        }
    }
}
