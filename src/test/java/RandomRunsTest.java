import java.util.Random;

/** Random runs of 512 calls, each answer held against the slow reading of the document. */
public final class RandomRunsTest {
    private static final int RUNS = 1500;
    private static final int CALLS = 512;
    private static final Due DUE = new Due("RandomRunsTest");

    private final Random random;
    private final PaidInLight x = new PaidInLight();
    private final SlowPaidInLight slow = new SlowPaidInLight();
    private final int run;
    private String waiting = "";

    private RandomRunsTest(int run) {
        this.run = run;
        this.random = new Random(run);
    }

    public static void main(String[] args) {
        for (int run = 0; run < RUNS && DUE.wrong() < 20; run++) {
            RandomRunsTest test = new RandomRunsTest(run);
            for (int i = 0; i < CALLS; i++) {
                test.step();
            }
            test.lookAtAll();
        }
        DUE.end();
    }

    /** A number from least to most, seldom one outside. */
    private int number(int least, int most) {
        switch (random.nextInt(40)) {
            case 0: return least - 1;
            case 1: return most + 1;
            case 2: return random.nextInt();
            case 3: return random.nextBoolean() ? Integer.MIN_VALUE : Integer.MAX_VALUE;
            case 4: return least;
            case 5: return most;
            default: return least + random.nextInt(most - least + 1);
        }
    }

    private int candle() {
        return random.nextInt(12) == 0 ? number(0, 5) : random.nextInt(Math.max(1, slow.s.candles.size()));
    }

    private String digits() {
        int most = random.nextInt(3) == 0 ? 1000 : 100;
        String number = Integer.toString(random.nextInt(most));
        return random.nextInt(8) == 0 ? ("00" + number).substring(0, Math.min(3, 2 + number.length())) : number;
    }

    private int digit(int most) {
        return random.nextInt(40) == 0 ? random.nextInt(10) : random.nextInt(most + 1);
    }

    private String statement() {
        switch (random.nextInt(5)) {
            case 0: return "c" + digit(5) + digit(9) + digit(3) + digits() + ";";
            case 1: return "d" + digit(3) + digit(3) + digits() + ";";
            case 2: return "r" + digit(3) + digit(9) + ";";
            default: return "p" + digit(Math.max(0, slow.s.candles.size() - 1)) + digit(3) + ";";
        }
    }

    private String newNight() {
        StringBuilder night = new StringBuilder();
        int statements = random.nextInt(4);
        for (int i = 0; i <= statements; i++) {
            night.append(statement());
        }
        if (random.nextInt(5) == 0) {
            int place = random.nextInt(night.length());
            char sign = "cdrp0123456789;; x".charAt(random.nextInt(18));
            switch (random.nextInt(4)) {
                case 0: night.setCharAt(place, sign); break;
                case 1: night.insert(place, sign); break;
                case 2: night.deleteCharAt(place); break;
                default: night.setLength(place);
            }
        }
        return night.toString();
    }

    private void is(String call, long got, long want) {
        DUE.is("run " + run + " " + call, got, want);
    }

    private void step() {
        if (!waiting.isEmpty()) {
            feed(waiting.charAt(0));
            waiting = waiting.substring(1);
            if (waiting.isEmpty()) {
                is("night()", x.night(), slow.night());
            }
            return;
        }
        switch (random.nextInt(8)) {
            case 0: case 1: change(); break;
            case 2: case 3: look(); break;
            case 4: think(); break;
            case 5: seldom(); break;
            case 6: is("count", x.count(6), slow.count(6)); break;
            default: waiting = random.nextInt(6) == 0 ? newNight() : "";
        }
    }

    private void feed(int letter) {
        is("feed(" + letter + ")", x.feed(letter), slow.feed(letter));
    }

    private void change() {
        int c = candle();
        int room = number(0, 3);
        int other = number(0, 3);
        switch (random.nextInt(6)) {
            case 0: is("put(" + c + ", " + room + ")", x.put(c, room), slow.put(c, room)); break;
            case 1: {
                boolean lit = random.nextInt(3) != 0;
                is("light(" + c + ", " + lit + ")", x.light(c, lit), slow.light(c, lit));
                break;
            }
            case 2: {
                int v = number(0, 9);
                is("draught(" + room + ", " + v + ")", x.draught(room, v), slow.draught(room, v));
                break;
            }
            case 3: {
                int v = number(0, random.nextBoolean() ? 999 : 60);
                is("owe(" + room + ", " + other + ", " + v + ")", x.owe(room, other, v), slow.owe(room, other, v));
                break;
            }
            default: {
                int n = number(1, random.nextInt(8) == 0 ? 99 : 9);
                is("go(" + n + ")", x.go(n), slow.go(n));
            }
        }
    }

    private void look() {
        int c = candle();
        int what = number(0, 8);
        int one = number(0, 3);
        int other = number(0, 3);
        is("candle(" + c + ", " + what + ")", x.candle(c, what), slow.candle(c, what));
        is("debt(" + one + ", " + other + ")", x.debt(one, other), slow.debt(one, other));
        is("owed(" + one + ")", x.owed(one), slow.owed(one));
        int counted = number(0, 17);
        is("count(" + counted + ")", x.count(counted), slow.count(counted));
    }

    private void think() {
        int c = candle();
        int one = number(0, 3);
        int other = number(0, 3);
        int n = number(0, random.nextBoolean() ? 300 : 30);
        switch (random.nextInt(8)) {
            case 0: is("behind(" + c + ", " + n + ")", x.behind(c, n), slow.behind(c, n)); break;
            case 1: is("owes(" + one + ", " + other + ", " + n + ")", x.owes(one, other, n), slow.owes(one, other, n)); break;
            case 2: is("reads(" + one + ", " + n + ")", x.reads(one, n), slow.reads(one, n)); break;
            case 3: is("ends(" + c + ")", x.ends(c), slow.ends(c)); break;
            case 4: is("clearBy()", x.clearBy(), slow.clearBy()); break;
            case 5: is("dark(" + n + ")", x.dark(n), slow.dark(n)); break;
            case 6: {
                int z = random.nextInt();
                int m = number(1, 60);
                is("seeds(" + m + ", " + z + ")", x.seeds(m, z), slow.seeds(m, z));
                break;
            }
            default: best();
        }
    }

    private void best() {
        // The slow way tries all ways minute by minute, so many candles come seldom.
        if (slow.s.candles.size() > 4 && random.nextInt(40) != 0) {
            return;
        }
        int c = random.nextBoolean() ? -1 : candle();
        int n = number(0, 20);
        is("best(" + n + ", " + c + ")", x.best(n, c), slow.best(n, c));
    }

    private void seldom() {
        int one = number(0, 3);
        int other = number(0, 3);
        int figure = number(0, 9);
        switch (random.nextInt(8)) {
            case 0: {
                int kind = number(0, 5);
                is("pour(" + kind + ", " + figure + ", " + one + ", " + other + ")",
                    x.pour(kind, figure, one, other), slow.pour(kind, figure, one, other));
                break;
            }
            case 1:
                if (random.nextInt(4) == 0) {
                    is("strike()", x.strike(), slow.strike());
                }
                break;
            case 2: cheat(one, figure); break;
            case 3: {
                int c = candle();
                int grains = number(0, 60);
                int what = number(0, 1);
                is("dripped(" + c + ", " + one + ", " + grains + ", " + what + ")",
                    x.dripped(c, one, grains, what), slow.dripped(c, one, grains, what));
                break;
            }
            case 4: row(); break;
            case 5: is("image()", x.image(), slow.image()); break;
            case 6:
                if (random.nextInt(3) == 0) {
                    is("restore()", x.restore(), slow.restore());
                }
                break;
            default:
                if (random.nextInt(6) == 0) {
                    feed(number(0, 255));
                }
        }
    }

    private void cheat(int room, int figure) {
        int dusk = number(0, random.nextBoolean() ? 999 : 40);
        int n = number(0, random.nextBoolean() ? 300 : 5);
        int dawn = number(0, 999);
        if (random.nextInt(4) != 0 && room >= 0 && room < 4 && figure >= 0 && dusk >= 0 && n >= 0 && n <= 300 && dusk <= 999) {
            int rate = SlowPaidInLight.burns(random.nextInt(6), figure, slow.s.draught[room], 999);
            dawn = Math.max(0, dusk - n * rate);
        }
        is("cheat(" + room + ", " + figure + ", " + dusk + ", " + dawn + ", " + n + ")",
            x.cheat(room, figure, dusk, dawn, n), slow.cheat(room, figure, dusk, dawn, n));
    }

    private void row() {
        int told = random.nextInt(8);
        for (int i = 0; i < told; i++) {
            boolean right = i < slow.s.candles.size() && random.nextInt(10) != 0;
            int grains = right ? slow.s.candles.get(i)[2] : number(0, 999);
            is("row(" + grains + ")", x.row(grains), slow.row(grains));
        }
        if (random.nextInt(4) != 0) {
            is("judge()", x.judge(), slow.judge());
        }
    }

    private void lookAtAll() {
        for (int what = -1; what <= 18; what++) {
            is("at last count(" + what + ")", x.count(what), slow.count(what));
        }
        for (int c = 0; c < 6; c++) {
            for (int what = 0; what <= 8; what++) {
                is("at last candle(" + c + ", " + what + ")", x.candle(c, what), slow.candle(c, what));
            }
        }
        for (int one = 0; one < 4; one++) {
            for (int other = 0; other < 4; other++) {
                is("at last debt(" + one + ", " + other + ")", x.debt(one, other), slow.debt(one, other));
            }
        }
    }
}
