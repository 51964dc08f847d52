import java.util.function.Supplier;
import java.util.function.ToIntFunction;

/**
 * REFUSALS: what each promise refuses, in the order in which it tells them, and what it just takes still.
 * Each refused call is held against a twin: "nothing changes but how many there were".
 */
public final class RefusalsTest {
    private static final Due DUE = new Due("RefusalsTest");
    private static final Twins TWINS = new Twins(DUE);
    private static final int LOW = Integer.MIN_VALUE;
    private static final int HIGH = Integer.MAX_VALUE;
    private static final int[] NOBODY = {LOW, -1, 4, 5, HIGH};
    /** The furnished house has five candles. */
    private static final int[] NO_CANDLE = {LOW, -1, 5, 6, HIGH};
    private static final int[] BELOW = {LOW, -1};

    public static void main(String[] args) {
        newObject();
        feed();
        candle();
        put();
        light();
        draught();
        owe();
        debt();
        go();
        goAtTheLastMinutes();
        behind();
        owes();
        reads();
        ends();
        dark();
        best();
        pour();
        owed();
        cheat();
        dripped();
        row();
        seeds();
        restore();
        countOfAnotherWhat();
        refusalsCounted();
        neverRefused();
        callsTo512();
        DUE.end();
    }

    private static void is(String call, long got, long want) {
        DUE.is(call, got, want);
    }

    private static void refused(String call, ToIntFunction<PaidInLight> calling, int refusal) {
        TWINS.refused(call, Twins::furnished, calling, refusal);
    }

    /** "Promise 1: No CANDLES, no DEBTS." */
    private static void newObject() {
        Supplier<PaidInLight> made = PaidInLight::new;
        TWINS.refused("1 candle(0, 0)", made, x -> x.candle(0, 0), -1);
        TWINS.refused("1 put(0, 0)", made, x -> x.put(0, 0), -1);
        TWINS.refused("1 light(0, false)", made, x -> x.light(0, false), -1);
        TWINS.refused("1 behind(0, 0)", made, x -> x.behind(0, 0), -1);
        TWINS.refused("1 ends(0)", made, x -> x.ends(0), -1);
        TWINS.refused("1 best(0, 0)", made, x -> x.best(0, 0), -1);
        TWINS.refused("1 dripped(0, 0, 0, 0)", made, x -> x.dripped(0, 0, 0, 0), -1);
        for (int what = 0; what <= 9; what++) {
            int counted = what;
            TWINS.changesNothing("1 count(" + what + ")", made, x -> x.count(counted), 0);
        }
        for (int what = 11; what <= 16; what++) {
            is("1 count(" + what + ")", new PaidInLight().count(what), 0);
        }
    }

    /** "Promise 2: A letter comes: how many there are. -4; -6 (255; 80, too)." */
    private static void feed() {
        for (int letter : BELOW) {
            refused("2 feed(" + letter + ")", x -> x.feed(letter), -4);
        }
        refused("2 feed(256)", x -> x.feed(256), -6);
        refused("2 feed(HIGH)", x -> x.feed(HIGH), -6);
        Supplier<PaidInLight> full = () -> fed(80);
        TWINS.refused("2 an 81st", full, x -> x.feed(';'), -6);
        TWINS.refused("2 an 81st above 255", full, x -> x.feed(256), -6);
        TWINS.refused("2 an 81st below 0: -4 comes first", full, x -> x.feed(-1), -4);
        is("2 the 80th", fed(79).feed(';'), 80);
        is("2 letter 0", new PaidInLight().feed(0), 1);
        is("2 letter 255", new PaidInLight().feed(255), 1);
    }

    private static PaidInLight fed(int letters) {
        PaidInLight x = new PaidInLight();
        for (int i = 0; i < letters; i++) {
            is("2 feed", x.feed("r31;".charAt(i % 4)), i + 1);
        }
        return x;
    }

    /** "Promise 4: .. -1; -2." */
    private static void candle() {
        for (int candle : NO_CANDLE) {
            refused("4 candle(" + candle + ", 0)", x -> x.candle(candle, 0), -1);
            refused("4 candle(" + candle + ", 9): -1 comes first", x -> x.candle(candle, 9), -1);
        }
        for (int what : new int[] {LOW, -1, 9, 10, HIGH}) {
            refused("4 candle(4, " + what + ")", x -> x.candle(4, what), -2);
        }
        PaidInLight x = Twins.furnished();
        for (int what = 0; what <= 8; what++) {
            is("4 what " + what + " of the last", x.candle(4, what) >= 0 ? 1 : 0, 1);
        }
    }

    /** "Promise 5: .. -1 either." */
    private static void put() {
        for (int candle : NO_CANDLE) {
            refused("5 put(" + candle + ", 0)", x -> x.put(candle, 0), -1);
            refused("5 put(" + candle + ", 4)", x -> x.put(candle, 4), -1);
        }
        for (int room : NOBODY) {
            refused("5 put(0, " + room + ")", x -> x.put(0, room), -1);
        }
        PaidInLight x = Twins.furnished();
        is("5 the last candle", x.put(4, 3), 0);
        is("5 into the first room", x.put(4, 0), 3);
        is("5 where it is", x.put(4, 0), 0);
        is("5 the first candle", x.put(0, 3), 1);
        is("5 lit it stays", x.candle(0, 5), 1);
    }

    /** "Promise 6: It is LIT, or not: 1; 0 it was so. -1; -3 it is to be LIT and has no GRAINS." */
    private static void light() {
        for (int candle : NO_CANDLE) {
            refused("6 light(" + candle + ", true)", x -> x.light(candle, true), -1);
            refused("6 light(" + candle + ", false)", x -> x.light(candle, false), -1);
        }
        Supplier<PaidInLight> none = () -> DUE.told("c0000;c0003;p13;");
        TWINS.refused("6 without grains", none, x -> x.light(0, true), -3);
        TWINS.changesNothing("6 without grains, not to be lit", none, x -> x.light(0, false), 0);
        TWINS.changesNothing("6 it was lit", none, x -> x.light(1, true), 0);
        Supplier<PaidInLight> burnt = () -> {
            PaidInLight x = none.get();
            x.go(1);
            return x;
        };
        TWINS.refused("6 burnt out", burnt, x -> x.light(1, true), -3);
        TWINS.changesNothing("6 burnt out, not to be lit", burnt, x -> x.light(1, false), 0);
        PaidInLight x = DUE.told("c0001;");
        is("6 one grain", x.light(0, true), 1);
        is("6 lit", x.candle(0, 5), 1);
        is("6 snuffed", x.light(0, false), 1);
        is("6 not lit", x.candle(0, 5), 0);
        is("6 it was not", x.light(0, false), 0);
    }

    /** "Promise 7: DRAUGHT of a ROOM becomes v: what it was. -1; -4; -6 9." */
    private static void draught() {
        for (int room : NOBODY) {
            refused("7 draught(" + room + ", 5)", x -> x.draught(room, 5), -1);
            refused("7 draught(" + room + ", -1): -1 comes first", x -> x.draught(room, -1), -1);
            refused("7 draught(" + room + ", 10): -1 comes first", x -> x.draught(room, 10), -1);
        }
        for (int v : BELOW) {
            refused("7 draught(0, " + v + ")", x -> x.draught(0, v), -4);
        }
        refused("7 draught(3, 10)", x -> x.draught(3, 10), -6);
        refused("7 draught(3, HIGH)", x -> x.draught(3, HIGH), -6);
        PaidInLight x = Twins.furnished();
        is("7 9", x.draught(0, 9), 5);
        is("7 0", x.draught(0, 0), 9);
        is("7 the last room", x.draught(3, 9), 2);
    }

    /** "Promise 8: One owes another so much: what it was. -1 two; -4; -6 999." */
    private static void owe() {
        for (int v : new int[] {5, -1, 1000}) {
            for (int nobody : NOBODY) {
                refused("8 owe(" + nobody + ", 0, " + v + "): -1 comes first", x -> x.owe(nobody, 0, v), -1);
                refused("8 owe(0, " + nobody + ", " + v + "): -1 comes first", x -> x.owe(0, nobody, v), -1);
                refused("8 owe of one twice, nobody", x -> x.owe(nobody, nobody, v), -1);
            }
            for (int one = 0; one <= 3; one++) {
                int twice = one;
                refused("8 owe(" + one + ", " + one + ", " + v + ")", x -> x.owe(twice, twice, v), -1);
            }
        }
        for (int v : BELOW) {
            refused("8 owe(0, 1, " + v + ")", x -> x.owe(0, 1, v), -4);
        }
        refused("8 owe(0, 1, 1000)", x -> x.owe(0, 1, 1000), -6);
        refused("8 owe(0, 1, HIGH)", x -> x.owe(0, 1, HIGH), -6);
        PaidInLight x = Twins.furnished();
        is("8 999", x.owe(2, 3, 999), 44);
        is("8 0", x.owe(2, 3, 0), 999);
        is("8 what it was", x.owe(2, 3, 1), 0);
    }

    /** "Promise 9: DEBT of one to another. -1 two." */
    private static void debt() {
        for (int nobody : NOBODY) {
            refused("9 debt(" + nobody + ", 0)", x -> x.debt(nobody, 0), -1);
            refused("9 debt(0, " + nobody + ")", x -> x.debt(0, nobody), -1);
            refused("9 debt of nobody twice", x -> x.debt(nobody, nobody), -1);
        }
        for (int one = 0; one <= 3; one++) {
            int twice = one;
            refused("9 debt(" + one + ", " + one + ")", x -> x.debt(twice, twice), -1);
        }
    }

    /** "Promise 10: n MINUTES (1 .. 99) go by: .. -4; -6 (99; ..)." */
    private static void go() {
        for (int n : new int[] {LOW, -1, 0}) {
            refused("10 go(" + n + ")", x -> x.go(n), -4);
        }
        for (int n : new int[] {100, 9999, HIGH}) {
            refused("10 go(" + n + ")", x -> x.go(n), -6);
        }
        PaidInLight x = DUE.told("c490999;p00;");
        is("10 go(1)", x.go(1), 1);
        is("10 go(99)", x.go(99), 99);
        is("10 a hundred", x.count(1), 100);
        is("10 left", x.candle(0, 2), 899);
    }

    /** An object with a lit candle at a late MINUTE. */
    private static PaidInLight lateAt(int minute) {
        PaidInLight x = DUE.told("c490999;d0199;");
        for (int at = 0; at < minute; at += 99) {
            x.go(Math.min(99, minute - at));
        }
        is("10 it is", x.count(1), minute);
        x.light(0, true);
        return x;
    }

    /** "Promise 10: .. -6 (99; MINUTE above 9999 then)." */
    private static void goAtTheLastMinutes() {
        TWINS.refused("10 at 9999 one more", () -> lateAt(9999), x -> x.go(1), -6);
        TWINS.refused("10 at 9999 the most", () -> lateAt(9999), x -> x.go(HIGH), -6);
        TWINS.refused("10 at 9999 none: -4 comes first", () -> lateAt(9999), x -> x.go(0), -4);
        TWINS.refused("10 at 9998 two more", () -> lateAt(9998), x -> x.go(2), -6);
        TWINS.refused("10 at 9901 99 more", () -> lateAt(9901), x -> x.go(99), -6);
        PaidInLight x = lateAt(9998);
        is("10 to 9999", x.go(1), 1);
        is("10 9999", x.count(1), 9999);
        PaidInLight y = lateAt(9900);
        is("10 99 to 9999", y.go(99), 99);
        is("10 9999 by 99", y.count(1), 9999);
        PaidInLight z = lateAt(9901);
        is("10 98 to 9999", z.go(98), 98);
    }

    /** "Promise 11: .. -1; -4; -6 300." */
    private static void behind() {
        for (int candle : NO_CANDLE) {
            for (int n : new int[] {0, -1, 301}) {
                refused("11 behind(" + candle + ", " + n + "): -1 comes first", x -> x.behind(candle, n), -1);
            }
        }
        for (int n : BELOW) {
            refused("11 behind(0, " + n + ")", x -> x.behind(0, n), -4);
        }
        refused("11 behind(0, 301)", x -> x.behind(0, 301), -6);
        refused("11 behind(4, HIGH)", x -> x.behind(4, HIGH), -6);
    }

    /** "Promise 12: .. -1 two; -4; -6 300." */
    private static void owes() {
        for (int n : new int[] {0, -1, 301}) {
            for (int nobody : NOBODY) {
                refused("12 owes(" + nobody + ", 0, " + n + "): -1 comes first", x -> x.owes(nobody, 0, n), -1);
                refused("12 owes(0, " + nobody + ", " + n + "): -1 comes first", x -> x.owes(0, nobody, n), -1);
            }
            for (int one = 0; one <= 3; one++) {
                int twice = one;
                refused("12 owes(" + one + ", " + one + ", " + n + ")", x -> x.owes(twice, twice, n), -1);
            }
        }
        for (int n : BELOW) {
            refused("12 owes(0, 1, " + n + ")", x -> x.owes(0, 1, n), -4);
        }
        refused("12 owes(0, 1, 301)", x -> x.owes(0, 1, 301), -6);
        refused("12 owes(0, 1, HIGH)", x -> x.owes(0, 1, HIGH), -6);
    }

    /** "Promise 13: READS. -1; -4; -6 300." */
    private static void reads() {
        for (int room : NOBODY) {
            for (int n : new int[] {0, -1, 301}) {
                refused("13 reads(" + room + ", " + n + "): -1 comes first", x -> x.reads(room, n), -1);
            }
        }
        for (int n : BELOW) {
            refused("13 reads(0, " + n + ")", x -> x.reads(0, n), -4);
        }
        refused("13 reads(0, 301)", x -> x.reads(0, 301), -6);
        refused("13 reads(3, HIGH)", x -> x.reads(3, HIGH), -6);
    }

    /** "Promise 14: ENDS; -9. -1." */
    private static void ends() {
        for (int candle : NO_CANDLE) {
            refused("14 ends(" + candle + ")", x -> x.ends(candle), -1);
        }
    }

    /** "Promise 16: DARK (bits). -4; -6 300." */
    private static void dark() {
        for (int n : BELOW) {
            refused("16 dark(" + n + ")", x -> x.dark(n), -4);
        }
        refused("16 dark(301)", x -> x.dark(301), -6);
        refused("16 dark(HIGH)", x -> x.dark(HIGH), -6);
    }

    /** "Promise 17: .. -1 (candle below -1, too); -4; -6 20." */
    private static void best() {
        for (int candle : new int[] {LOW, -2, 5, 6, HIGH}) {
            for (int n : new int[] {0, -1, 21}) {
                refused("17 best(" + n + ", " + candle + "): -1 comes first", x -> x.best(n, candle), -1);
            }
        }
        for (int candle : new int[] {-1, 0, 4}) {
            for (int n : BELOW) {
                refused("17 best(" + n + ", " + candle + ")", x -> x.best(n, candle), -4);
            }
            refused("17 best(21, " + candle + ")", x -> x.best(21, candle), -6);
            refused("17 best(HIGH, " + candle + ")", x -> x.best(HIGH, candle), -6);
        }
        PaidInLight x = Twins.furnished();
        is("17 candle -1 is the sum", x.best(0, -1), x.count(3));
        is("17 the last candle", x.best(0, 4), 0);
    }

    /** "Promise 18: POUR; -9. -2 KIND; -4; -6 9 (FIGURE); -1 two." */
    private static void pour() {
        for (int kind : new int[] {LOW, -1, 6, HIGH}) {
            refused("18 pour(" + kind + ", 0, 0, 1)", x -> x.pour(kind, 0, 0, 1), -2);
            refused("18 kind " + kind + " and figure -1: -2 comes first", x -> x.pour(kind, -1, 0, 1), -2);
            refused("18 kind " + kind + " and figure 10: -2 comes first", x -> x.pour(kind, 10, 0, 1), -2);
            refused("18 kind " + kind + " and nobody: -2 comes first", x -> x.pour(kind, 0, 4, 1), -2);
        }
        for (int figure : BELOW) {
            refused("18 pour(0, " + figure + ", 0, 1)", x -> x.pour(0, figure, 0, 1), -4);
            refused("18 figure " + figure + " and one twice: -4 comes first", x -> x.pour(0, figure, 1, 1), -4);
        }
        for (int figure : new int[] {10, HIGH}) {
            refused("18 pour(5, " + figure + ", 0, 1)", x -> x.pour(5, figure, 0, 1), -6);
            refused("18 figure " + figure + " and nobody: -6 comes first", x -> x.pour(5, figure, 0, -1), -6);
        }
        for (int nobody : NOBODY) {
            refused("18 pour(0, 0, " + nobody + ", 1)", x -> x.pour(0, 0, nobody, 1), -1);
            refused("18 pour(0, 0, 1, " + nobody + ")", x -> x.pour(0, 0, 1, nobody), -1);
        }
        for (int one = 0; one <= 3; one++) {
            int twice = one;
            refused("18 pour of " + one + " twice", x -> x.pour(5, 9, twice, twice), -1);
        }
        is("18 the last kind and figure", Twins.furnished().pour(5, 9, 2, 3), 44);
    }

    /** "Promise 20: OWED. Refused as told: -1." and "Of owed() 1000000000 less them." */
    private static void owed() {
        for (int nobody : NOBODY) {
            TWINS.refused("20 owed(" + nobody + ")", Twins::furnished, x -> x.owed(nobody), -1, 1000000001);
        }
    }

    /** "Promise 21: CHEAT (bits). -1; -4 (figure, dusk, dawn, n); -6 (9; 999; 999; 300)." */
    private static void cheat() {
        for (int room : NOBODY) {
            refused("21 room " + room, x -> x.cheat(room, 0, 9, 9, 0), -1);
            refused("21 room " + room + " and below: -1 comes first", x -> x.cheat(room, -1, -1, -1, -1), -1);
            refused("21 room " + room + " and above: -1 comes first", x -> x.cheat(room, 10, 1000, 1000, 301), -1);
        }
        for (int low : BELOW) {
            refused("21 figure " + low, x -> x.cheat(0, low, 9, 9, 0), -4);
            refused("21 dusk " + low, x -> x.cheat(0, 0, low, 9, 0), -4);
            refused("21 dawn " + low, x -> x.cheat(0, 0, 9, low, 0), -4);
            refused("21 n " + low, x -> x.cheat(0, 0, 9, 9, low), -4);
            refused("21 figure " + low + ", the others above: -4 comes first", x -> x.cheat(0, low, 1000, 1000, 301), -4);
            refused("21 dusk " + low + ", the others above: -4 comes first", x -> x.cheat(0, 10, low, 1000, 301), -4);
            refused("21 dawn " + low + ", the others above: -4 comes first", x -> x.cheat(0, 10, 1000, low, 301), -4);
            refused("21 n " + low + ", the others above: -4 comes first", x -> x.cheat(0, 10, 1000, 1000, low), -4);
        }
        refused("21 figure 10", x -> x.cheat(0, 10, 9, 9, 0), -6);
        refused("21 dusk 1000", x -> x.cheat(0, 0, 1000, 9, 0), -6);
        refused("21 dawn 1000", x -> x.cheat(0, 0, 9, 1000, 0), -6);
        refused("21 n 301", x -> x.cheat(0, 0, 9, 9, 301), -6);
        refused("21 all HIGH", x -> x.cheat(3, HIGH, HIGH, HIGH, HIGH), -6);
        is("21 the greatest of all", new PaidInLight().cheat(3, 9, 999, 999, 300), 0);
        is("21 the least of all", new PaidInLight().cheat(0, 0, 0, 0, 0), 63);
    }

    /** "Promise 22: .. -1 either; -2; -4 grains." */
    private static void dripped() {
        for (int candle : NO_CANDLE) {
            refused("22 candle " + candle, x -> x.dripped(candle, 0, 0, 0), -1);
            refused("22 candle " + candle + " and all else: -1 comes first", x -> x.dripped(candle, 4, -1, 2), -1);
        }
        for (int room : NOBODY) {
            refused("22 room " + room, x -> x.dripped(0, room, 0, 0), -1);
            refused("22 room " + room + " and all else: -1 comes first", x -> x.dripped(0, room, -1, 2), -1);
        }
        for (int what : new int[] {LOW, -1, 2, HIGH}) {
            refused("22 what " + what, x -> x.dripped(4, 3, 0, what), -2);
            refused("22 what " + what + " and below: -2 comes first", x -> x.dripped(4, 3, -1, what), -2);
        }
        for (int grains : BELOW) {
            refused("22 grains " + grains + ", how many", x -> x.dripped(4, 3, grains, 0), -4);
            refused("22 grains " + grains + ", the least", x -> x.dripped(4, 3, grains, 1), -4);
        }
        PaidInLight x = Twins.furnished();
        is("22 grains 0", x.dripped(4, 3, 0, 1), 0);
        is("22 grains HIGH are not refused", x.dripped(4, 3, HIGH, 0), 0);
    }

    private static PaidInLight rowOf(int told) {
        PaidInLight x = Twins.furnished();
        x.judge();
        for (int i = 0; i < told; i++) {
            is("23 row", x.row(900 + i), i + 1);
        }
        return x;
    }

    /** "Promise 23: A number more of the ROW: how many. -4; -6 (999; 6, too)." */
    private static void row() {
        for (int grains : BELOW) {
            refused("23 row(" + grains + ")", x -> x.row(grains), -4);
        }
        refused("23 row(1000)", x -> x.row(1000), -6);
        refused("23 row(HIGH)", x -> x.row(HIGH), -6);
        TWINS.refused("23 a seventh", () -> rowOf(6), x -> x.row(0), -6);
        TWINS.refused("23 a seventh above 999", () -> rowOf(6), x -> x.row(1000), -6);
        TWINS.refused("23 a seventh below 0: -4 comes first", () -> rowOf(6), x -> x.row(-1), -4);
        is("23 the sixth", rowOf(5).row(999), 6);
        is("23 0", rowOf(0).row(0), 1);
    }

    /** "Promise 25: SEEDS. -4; -6 60; -3 there are no CANDLES." */
    private static void seeds() {
        Supplier<PaidInLight> none = PaidInLight::new;
        for (int n : new int[] {LOW, -1, 0}) {
            refused("25 seeds(" + n + ", 1)", x -> x.seeds(n, 1), -4);
            TWINS.refused("25 no candles: -4 comes first", none, x -> x.seeds(n, 1), -4);
        }
        for (int n : new int[] {61, HIGH}) {
            refused("25 seeds(" + n + ", 1)", x -> x.seeds(n, 1), -6);
            TWINS.refused("25 no candles: -6 comes first", none, x -> x.seeds(n, 1), -6);
        }
        for (int z : new int[] {LOW, -1, 0, 1, HIGH}) {
            TWINS.refused("25 no candles, z " + z, none, x -> x.seeds(1, z), -3);
            is("25 every z is taken", DUE.told("c00010;").seeds(1, z), 7);
        }
        TWINS.refused("25 no candles, 60", none, x -> x.seeds(60, 1), -3);
    }

    /** "Promise 27: It is RESTORED: MINUTE. -3 there is none." */
    private static void restore() {
        TWINS.refused("27 restore()", () -> DUE.told("c00050;p01;d0150;"), PaidInLight::restore, -3);
        PaidInLight x = new PaidInLight();
        is("27 none", x.restore(), -3);
        is("26 image", x.image(), 0);
        is("27 one", x.restore(), 0);
    }

    /** "Promise 28: .. -9 for another what.": it is no refusal. */
    private static void countOfAnotherWhat() {
        for (int what : new int[] {LOW, -9, -1, 10, 17, 18, HIGH}) {
            TWINS.changesNothing("28 count(" + what + ")", Twins::furnished, x -> x.count(what), -9);
        }
    }

    /** "Promise 28: .. 11 .. 16 REFUSALS -1 .. -6." */
    private static void refusalsCounted() {
        PaidInLight x = new PaidInLight();
        for (int i = 0; i < 5; i++) {
            x.ends(0);
        }
        x.owed(4);
        for (int i = 0; i < 4; i++) {
            x.pour(6, 0, 0, 1);
        }
        for (int i = 0; i < 3; i++) {
            x.restore();
        }
        x.go(0);
        x.go(0);
        x.go(100);
        int[] want = {6, 4, 3, 2, 0, 1};
        for (int what = 11; what <= 16; what++) {
            is("28 count(" + what + ")", x.count(what), want[what - 11]);
        }
    }

    /** Calls whose promises tell no refusal answer something else in every house. */
    private static void neverRefused() {
        PaidInLight x = new PaidInLight();
        x.night();
        x.clearBy();
        x.strike();
        x.judge();
        x.image();
        x.count(99);
        for (int what = 11; what <= 16; what++) {
            is("never refused: count(" + what + ")", x.count(what), 0);
        }
    }

    /** "An object is used for at most 512 calls after it has been made": the 512th is as promised still. */
    private static void callsTo512() {
        PaidInLight refusing = new PaidInLight();
        PaidInLight going = new PaidInLight();
        PaidInLight feeding = new PaidInLight();
        for (int i = 0; i < 511; i++) {
            refusing.go(0);
            going.go(i < 101 ? 99 : 1);
            feeding.feed('x');
        }
        is("512 refusals", refusing.count(14), 511);
        is("512 minutes", going.count(1), 9999);
        is("512 letters", feeding.night(), -1000);
    }
}
