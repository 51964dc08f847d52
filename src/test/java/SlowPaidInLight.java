import java.util.ArrayList;
import java.util.List;
import java.util.regex.Pattern;

/** The document read a second time, in the slowest and plainest way, to be held against the class. */
final class SlowPaidInLight {
    static final class State {
        List<int[]> candles = new ArrayList<>(); // kind, figure, grains, whose, room, lit
        int[][] debt = new int[4][4];
        int[] draught = new int[4];
        int minute;
        int burnt;
        int dripped;
        int paid;

        State copy() {
            State s = new State();
            for (int[] c : candles) {
                s.candles.add(c.clone());
            }
            for (int i = 0; i < 4; i++) {
                s.debt[i] = debt[i].clone();
            }
            s.draught = draught.clone();
            s.minute = minute;
            s.burnt = burnt;
            s.dripped = dripped;
            s.paid = paid;
            return s;
        }

        int debts() {
            int sum = 0;
            for (int[] row : debt) {
                for (int v : row) {
                    sum += v;
                }
            }
            return sum;
        }

        int grains() {
            return candles.stream().mapToInt(c -> c[2]).sum();
        }

        boolean bright(int room) {
            return candles.stream().anyMatch(c -> c[4] == room && c[5] == 1 && c[2] > 0);
        }

        void minute() {
            for (int[] c : candles) {
                if (c[5] == 1 && c[2] > 0) {
                    int d = draught[c[4]];
                    int b = burns(c[0], c[1], d, c[2]);
                    int p = counts(c[0], c[1], d, c[2]);
                    burnt += b;
                    dripped += drips(c[0], c[1], d, c[2]);
                    c[2] -= b;
                    if (c[4] != c[3]) {
                        int real = Math.min(p, debt[c[3]][c[4]]);
                        debt[c[3]][c[4]] -= real;
                        paid += real;
                    }
                }
                if (c[2] == 0) {
                    c[5] = 0;
                }
            }
            minute++;
        }
    }

    static int burns(int kind, int figure, int d, int grains) {
        int plain = 3 + d / 3;
        int[] all = {plain, plain - 1, plain * 2, plain - 1 + figure, Math.max(1, plain * 2 - figure), plain + d};
        return Math.min(grains, all[kind]);
    }

    static int drips(int kind, int figure, int d, int grains) {
        int b = burns(kind, figure, d, grains);
        int[] all = {d * b / 20, 0, b / 2, 0, Math.max(0, b / 2 - figure), Math.min(b, d * b / 20 * 2)};
        return all[kind];
    }

    static int counts(int kind, int figure, int d, int grains) {
        int clean = burns(kind, figure, d, grains) - drips(kind, figure, d, grains);
        int[] all = {clean, clean * 2, clean / 2, clean * 2, clean / 2, clean};
        return all[kind];
    }

    State s = new State();
    State image;
    String letters = "";
    List<Integer> row = new ArrayList<>();
    int[] refusals = new int[7];

    private int no(int r) {
        refusals[-r]++;
        return r;
    }

    private boolean noCandle(int c) {
        return c < 0 || c >= s.candles.size();
    }

    private static boolean nobody(int p) {
        return p < 0 || p > 3;
    }

    private static boolean notTwo(int a, int b) {
        return nobody(a) || nobody(b) || a == b;
    }

    private State ahead(int n) {
        State m = s.copy();
        for (int i = 0; i < n; i++) {
            m.minute();
        }
        return m;
    }

    int feed(int letter) {
        if (letter < 0) {
            return no(-4);
        }
        if (letter > 255 || letters.length() == 80) {
            return no(-6);
        }
        letters += (char) letter;
        return letters.length();
    }

    private static final String STATEMENT = "(c\\d{3}\\d{1,3};|d\\d{2}\\d{1,3};|[rp]\\d{2};)";

    /** Whether some night begins so: tried with all that may lack. */
    private static boolean canGoOn(String head) {
        for (String tail : new String[] {"", ";", "0;", "00;", "000;", "0000;", "c0000;", "r00;"}) {
            if (Pattern.matches(STATEMENT + "+", head + tail)) {
                return true;
            }
        }
        return false;
    }

    int night() {
        String all = letters;
        letters = "";
        if (!Pattern.matches(STATEMENT + "+", all)) {
            int good = 0;
            while (good < all.length() && canGoOn(all.substring(0, good + 1))) {
                good++;
            }
            return -1000 - good;
        }
        State m = s.copy();
        int place = 0;
        int told = 0;
        for (String statement : all.split(";")) {
            if (!comes(m, statement)) {
                return -2000 - place;
            }
            place += statement.length() + 1;
            told++;
        }
        s = m;
        return told;
    }

    private static boolean comes(State m, String t) {
        int a = t.charAt(1) - '0';
        int b = t.charAt(2) - '0';
        if (t.startsWith("c")) {
            int whose = t.charAt(3) - '0';
            if (a > 5 || whose > 3 || m.candles.size() == 6) {
                return false;
            }
            m.candles.add(new int[] {a, b, Integer.parseInt(t.substring(4)), whose, whose, 0});
        } else if (t.startsWith("d")) {
            if (notTwo(a, b)) {
                return false;
            }
            m.debt[a][b] = Integer.parseInt(t.substring(3));
        } else if (t.startsWith("r")) {
            if (nobody(a)) {
                return false;
            }
            m.draught[a] = b;
        } else {
            if (a >= m.candles.size() || nobody(b)) {
                return false;
            }
            int[] c = m.candles.get(a);
            c[4] = b;
            c[5] = c[2] > 0 ? 1 : 0;
        }
        return true;
    }

    int candle(int candle, int what) {
        if (noCandle(candle)) {
            return no(-1);
        }
        int[] c = s.candles.get(candle);
        int d = s.draught[c[4]];
        if (what < 0 || what > 8) {
            return no(-2);
        }
        if (what < 6) {
            return c[what];
        }
        return what == 6 ? burns(c[0], c[1], d, c[2]) : what == 7 ? drips(c[0], c[1], d, c[2]) : counts(c[0], c[1], d, c[2]);
    }

    int put(int candle, int room) {
        if (noCandle(candle) || nobody(room)) {
            return no(-1);
        }
        int was = s.candles.get(candle)[4];
        s.candles.get(candle)[4] = room;
        return was;
    }

    int light(int candle, boolean lit) {
        if (noCandle(candle)) {
            return no(-1);
        }
        int[] c = s.candles.get(candle);
        if (lit && c[2] == 0) {
            return no(-3);
        }
        int want = lit ? 1 : 0;
        int answer = c[5] == want ? 0 : 1;
        c[5] = want;
        return answer;
    }

    int draught(int room, int v) {
        if (nobody(room)) {
            return no(-1);
        }
        if (v < 0) {
            return no(-4);
        }
        if (v > 9) {
            return no(-6);
        }
        int was = s.draught[room];
        s.draught[room] = v;
        return was;
    }

    int owe(int one, int other, int v) {
        if (notTwo(one, other)) {
            return no(-1);
        }
        if (v < 0) {
            return no(-4);
        }
        if (v > 999) {
            return no(-6);
        }
        int was = s.debt[one][other];
        s.debt[one][other] = v;
        return was;
    }

    int debt(int one, int other) {
        return notTwo(one, other) ? no(-1) : s.debt[one][other];
    }

    int go(int n) {
        if (n < 1) {
            return no(-4);
        }
        if (n > 99 || s.minute + n > 9999) {
            return no(-6);
        }
        int grains = s.grains();
        s = ahead(n);
        return grains - s.grains();
    }

    int behind(int candle, int n) {
        if (noCandle(candle)) {
            return no(-1);
        }
        return n < 0 ? no(-4) : n > 300 ? no(-6) : ahead(n).candles.get(candle)[2];
    }

    int owes(int one, int other, int n) {
        if (notTwo(one, other)) {
            return no(-1);
        }
        return n < 0 ? no(-4) : n > 300 ? no(-6) : ahead(n).debt[one][other];
    }

    int reads(int room, int n) {
        if (nobody(room)) {
            return no(-1);
        }
        if (n < 0) {
            return no(-4);
        }
        if (n > 300) {
            return no(-6);
        }
        State m = s.copy();
        int times = 0;
        for (int i = 0; i < n; i++) {
            times += m.bright(room) ? 1 : 0;
            m.minute();
        }
        return times;
    }

    int ends(int candle) {
        if (noCandle(candle)) {
            return no(-1);
        }
        State m = s.copy();
        for (int i = 0; i <= 999; i++) {
            if (m.candles.get(candle)[2] == 0) {
                return i;
            }
            m.minute();
        }
        return -9;
    }

    int clearBy() {
        State m = s.copy();
        for (int i = 0; i <= 999; i++) {
            if (m.debts() == 0) {
                return i;
            }
            m.minute();
        }
        return -9;
    }

    int dark(int n) {
        if (n < 0) {
            return no(-4);
        }
        if (n > 300) {
            return no(-6);
        }
        State m = s.copy();
        boolean[] bright = new boolean[4];
        for (int i = 0; i < n; i++) {
            for (int p = 0; p < 4; p++) {
                bright[p] |= m.bright(p);
            }
            m.minute();
        }
        int bits = 0;
        for (int p = 0; p < 4; p++) {
            if (!bright[p] && m.debt[0][p] + m.debt[1][p] + m.debt[2][p] + m.debt[3][p] > 0) {
                bits += 1 << p;
            }
        }
        return bits;
    }

    int best(int n, int candle) {
        if (candle < -1 || candle >= s.candles.size()) {
            return no(-1);
        }
        if (n < 0) {
            return no(-4);
        }
        if (n > 20) {
            return no(-6);
        }
        int size = s.candles.size();
        int least = Integer.MAX_VALUE;
        int room = -1;
        for (int way = 0; way < 1 << 2 * size; way++) {
            State m = s.copy();
            for (int i = 0; i < size; i++) {
                m.candles.get(i)[4] = way >> 2 * (size - 1 - i) & 3;
                m.candles.get(i)[5] = 1;
            }
            for (int i = 0; i < n; i++) {
                m.minute();
            }
            if (m.debts() < least) {
                least = m.debts();
                room = candle < 0 ? -1 : m.candles.get(candle)[4];
            }
        }
        return candle < 0 ? least : room;
    }

    int pour(int kind, int figure, int one, int other) {
        if (kind < 0 || kind > 5) {
            return no(-2);
        }
        if (figure < 0) {
            return no(-4);
        }
        if (figure > 9) {
            return no(-6);
        }
        if (notTwo(one, other)) {
            return no(-1);
        }
        if (s.debt[one][other] == 0) {
            return 0;
        }
        for (int grains = 1; grains <= 999; grains++) {
            State m = s.copy();
            m.candles.clear();
            m.candles.add(new int[] {kind, figure, grains, one, other, 1});
            while (m.candles.get(0)[2] > 0) {
                m.minute();
            }
            if (m.debt[one][other] == 0) {
                return grains;
            }
        }
        return -9;
    }

    private static final int[][] RINGS = {
        {0, 1}, {0, 2}, {0, 3}, {1, 2}, {1, 3}, {2, 3}, {0, 1, 2}, {0, 1, 3},
        {0, 2, 1}, {0, 2, 3}, {0, 3, 1}, {0, 3, 2}, {1, 2, 3}, {1, 3, 2}};

    private boolean strikeFirst() {
        for (int[] ring : RINGS) {
            int least = Integer.MAX_VALUE;
            for (int i = 0; i < ring.length; i++) {
                least = Math.min(least, s.debt[ring[i]][ring[(i + 1) % ring.length]]);
            }
            if (least > 0) {
                for (int i = 0; i < ring.length; i++) {
                    s.debt[ring[i]][ring[(i + 1) % ring.length]] -= least;
                }
                return true;
            }
        }
        return false;
    }

    int strike() {
        int struck = 0;
        while (strikeFirst()) {
            struck++;
        }
        return struck;
    }

    int owed(int one) {
        if (nobody(one)) {
            return 1000000000 - no(-1);
        }
        int sum = 0;
        for (int p = 0; p < 4; p++) {
            sum += s.debt[p][one] - s.debt[one][p];
        }
        return sum;
    }

    int cheat(int room, int figure, int dusk, int dawn, int n) {
        if (nobody(room)) {
            return no(-1);
        }
        if (Math.min(Math.min(figure, dusk), Math.min(dawn, n)) < 0) {
            return no(-4);
        }
        if (figure > 9 || dusk > 999 || dawn > 999 || n > 300) {
            return no(-6);
        }
        int bits = 0;
        for (int kind = 0; kind < 6; kind++) {
            int grains = dusk;
            for (int i = 0; i < n; i++) {
                grains -= burns(kind, figure, s.draught[room], grains);
            }
            bits += grains == dawn ? 1 << kind : 0;
        }
        return bits;
    }

    int dripped(int candle, int room, int grains, int what) {
        if (noCandle(candle) || nobody(room)) {
            return no(-1);
        }
        if (what != 0 && what != 1) {
            return no(-2);
        }
        if (grains < 0) {
            return no(-4);
        }
        int times = 0;
        int least = -9;
        for (int n = 99; n >= 0; n--) {
            State m = s.copy();
            int[] c = m.candles.get(candle);
            m.candles.clear();
            m.candles.add(c);
            c[4] = room;
            c[5] = 1;
            m.dripped = 0;
            for (int i = 0; i < n; i++) {
                m.minute();
            }
            if (m.dripped == grains) {
                times++;
                least = n;
            }
        }
        return what == 0 ? times : least;
    }

    int row(int grains) {
        if (grains < 0) {
            return no(-4);
        }
        if (grains > 999 || row.size() == 6) {
            return no(-6);
        }
        row.add(grains);
        return row.size();
    }

    int judge() {
        List<Integer> told = row;
        row = new ArrayList<>();
        for (int i = 0; i < 7; i++) {
            boolean more = i < told.size();
            boolean candle = i < s.candles.size();
            if (!more && !candle) {
                return -9;
            }
            if (more != candle || told.get(i) != s.candles.get(i)[2]) {
                return i;
            }
        }
        return -9;
    }

    int seeds(int n, int z) {
        if (n < 1) {
            return no(-4);
        }
        if (n > 60) {
            return no(-6);
        }
        if (s.candles.isEmpty()) {
            return no(-3);
        }
        State m = s.copy();
        long seed = z;
        for (int i = 0; i < n; i++) {
            seed = (int) (seed * 1103515245L + 12345L);
            long draw = (seed & 0x7fffffffL) / 65536 % m.candles.size();
            m.candles.get((int) draw)[5] ^= 1;
            m.minute();
        }
        return m.grains();
    }

    int image() {
        image = s.copy();
        return s.minute;
    }

    int restore() {
        if (image == null) {
            return no(-3);
        }
        s = image.copy();
        return s.minute;
    }

    int count(int what) {
        if (what >= 11 && what <= 16) {
            return refusals[what - 10];
        }
        int[] all = {s.candles.size(), s.minute, s.grains(), s.debts(),
            (int) s.candles.stream().filter(c -> c[5] == 1).count(), s.burnt, s.dripped, s.paid,
            letters.length(), row.size()};
        return what >= 0 && what < all.length ? all[what] : -9;
    }
}
