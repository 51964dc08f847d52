/** Debts that are paid by burning: the debtor's candle burns in the creditor's room. */
public final class PaidInLight {
    private static final int PEOPLE = 4;
    private static final int KINDS = 6;
    private static final int MOST_CANDLES = 6;
    private static final int MOST_FIGURE = 9;
    private static final int MOST_DRAUGHT = 9;
    private static final int MOST_GRAINS = 999;
    private static final int MOST_DEBT = 999;
    private static final int MOST_MINUTE = 9999;
    private static final int MOST_GO = 99;
    private static final int MOST_AHEAD = 300;
    private static final int MOST_AWAITED = 999;
    private static final int MOST_BEST = 20;
    private static final int MOST_SEEDS = 60;
    private static final int MOST_DRIPPED = 99;
    private static final int MOST_LETTER = 255;
    private static final int MOST_LETTERS = 80;

    private static final int NOBODY = -1;
    private static final int OTHER = -2;
    private static final int STATE = -3;
    private static final int BELOW = -4;
    private static final int ROOM = -6;
    private static final int NONE = -9;
    private static final int FORM_FAULT = -1000;
    private static final int MEANING_FAULT = -2000;
    /** Plain refusals could be mistaken for what owed() answers, which may be below 0. */
    private static final int OWED_REFUSED = 1000000000;

    private final Wax[] kinds;
    private final House now;
    private final House mind;
    private final House kept;
    private boolean isKept;
    private final Letters letters;
    private final Ways ways;
    private final int[] told;
    private int toldCount;
    private final int[] refusals;

    public PaidInLight() {
        Wax[] all = {new Wax(), new Beeswax(), new Fat(), new Thick(), new Mixed(), new Guttering()};
        kinds = all;
        now = new House(all);
        mind = new House(all);
        kept = new House(all);
        letters = new Letters();
        ways = new Ways();
        told = new int[MOST_CANDLES];
        refusals = new int[7];
    }

    public int feed(int letter) {
        if (letter < 0) {
            return refuse(BELOW);
        }
        if (letter > MOST_LETTER || letters.size >= MOST_LETTERS) {
            return refuse(ROOM);
        }
        letters.signs[letters.size] = letter;
        letters.size++;
        return letters.size;
    }

    public int night() {
        int answer = readNight();
        letters.size = 0;
        return answer;
    }

    public int candle(int candle, int what) {
        if (!isCandle(candle)) {
            return refuse(NOBODY);
        }
        Candle it = now.candles[candle];
        switch (what) {
            case 0: return it.kind;
            case 1: return it.figure;
            case 2: return it.grains;
            case 3: return it.whose;
            case 4: return it.room;
            case 5: return it.lit ? 1 : 0;
            case 6: return now.burnsOf(it);
            case 7: return now.dripsOf(it);
            case 8: return now.worthOf(it);
            default: return refuse(OTHER);
        }
    }

    public int put(int candle, int room) {
        if (!isCandle(candle) || !isPerson(room)) {
            return refuse(NOBODY);
        }
        Candle it = now.candles[candle];
        int was = it.room;
        it.room = room;
        return was;
    }

    public int light(int candle, boolean lit) {
        if (!isCandle(candle)) {
            return refuse(NOBODY);
        }
        Candle it = now.candles[candle];
        if (lit && it.grains == 0) {
            return refuse(STATE);
        }
        if (it.lit == lit) {
            return 0;
        }
        it.lit = lit;
        return 1;
    }

    public int draught(int room, int v) {
        if (!isPerson(room)) {
            return refuse(NOBODY);
        }
        int outside = outside(v, 0, MOST_DRAUGHT);
        if (outside != 0) {
            return refuse(outside);
        }
        int was = now.draughts[room];
        now.draughts[room] = v;
        return was;
    }

    public int owe(int one, int other, int v) {
        if (!areTwo(one, other)) {
            return refuse(NOBODY);
        }
        int outside = outside(v, 0, MOST_DEBT);
        if (outside != 0) {
            return refuse(outside);
        }
        int was = now.debts[pair(one, other)];
        now.debts[pair(one, other)] = v;
        return was;
    }

    public int debt(int one, int other) {
        return areTwo(one, other) ? now.debts[pair(one, other)] : refuse(NOBODY);
    }

    public int go(int n) {
        int outside = outside(n, 1, Math.min(MOST_GO, MOST_MINUTE - now.minute));
        if (outside != 0) {
            return refuse(outside);
        }
        int before = now.burntSum;
        for (int i = 0; i < n; i++) {
            now.passMinute();
        }
        return now.burntSum - before;
    }

    public int behind(int candle, int n) {
        if (!isCandle(candle)) {
            return refuse(NOBODY);
        }
        int outside = outside(n, 0, MOST_AHEAD);
        if (outside != 0) {
            return refuse(outside);
        }
        thinkAhead(n);
        return mind.candles[candle].grains;
    }

    public int owes(int one, int other, int n) {
        if (!areTwo(one, other)) {
            return refuse(NOBODY);
        }
        int outside = outside(n, 0, MOST_AHEAD);
        if (outside != 0) {
            return refuse(outside);
        }
        thinkAhead(n);
        return mind.debts[pair(one, other)];
    }

    public int reads(int room, int n) {
        if (!isPerson(room)) {
            return refuse(NOBODY);
        }
        int outside = outside(n, 0, MOST_AHEAD);
        if (outside != 0) {
            return refuse(outside);
        }
        mind.become(now);
        int bright = 0;
        // Nobody lights a candle in mind: a room that is dark once stays dark.
        while (bright < n && mind.isBright(room)) {
            bright++;
            mind.passMinute();
        }
        return bright;
    }

    public int ends(int candle) {
        if (!isCandle(candle)) {
            return refuse(NOBODY);
        }
        mind.become(now);
        Candle it = mind.candles[candle];
        for (int minutes = 0; minutes <= MOST_AWAITED; minutes++) {
            if (it.grains == 0) {
                return minutes;
            }
            if (!it.lit) {
                return NONE;
            }
            mind.passMinute();
        }
        return NONE;
    }

    public int clearBy() {
        mind.become(now);
        for (int minutes = 0; minutes <= MOST_AWAITED; minutes++) {
            if (mind.allDebts() == 0) {
                return minutes;
            }
            if (mind.litCandles() == 0) {
                return NONE;
            }
            mind.passMinute();
        }
        return NONE;
    }

    public int dark(int n) {
        int outside = outside(n, 0, MOST_AHEAD);
        if (outside != 0) {
            return refuse(outside);
        }
        thinkAhead(n);
        int bits = 0;
        for (int one = 0; one < PEOPLE; one++) {
            // Nobody lights a candle in mind: a room bright at all is bright in the first minute.
            boolean sawLight = n > 0 && now.isBright(one);
            if (!sawLight && mind.owedTo(one) > 0) {
                bits |= 1 << one;
            }
        }
        return bits;
    }

    public int best(int n, int candle) {
        if (candle != -1 && !isCandle(candle)) {
            return refuse(NOBODY);
        }
        int outside = outside(n, 0, MOST_BEST);
        if (outside != 0) {
            return refuse(outside);
        }
        ways.find(now, n);
        return candle == -1 ? ways.least : ways.rooms[candle];
    }

    public int pour(int kind, int figure, int one, int other) {
        if (!isKind(kind)) {
            return refuse(OTHER);
        }
        int outside = outside(figure, 0, MOST_FIGURE);
        if (outside != 0) {
            return refuse(outside);
        }
        if (!areTwo(one, other)) {
            return refuse(NOBODY);
        }
        int owing = now.debts[pair(one, other)];
        return owing == 0 ? 0 : leastGrains(kinds[kind], figure, now.draughts[other], owing);
    }

    public int strike() {
        // A ring struck has a debt of 0, so no ring comes back and one look at each in order is enough.
        return now.strikePairs() + now.strikeTriples();
    }

    public int owed(int one) {
        if (!isPerson(one)) {
            return OWED_REFUSED - refuse(NOBODY);
        }
        return now.owedTo(one) - now.owedBy(one);
    }

    public int cheat(int room, int figure, int dusk, int dawn, int n) {
        if (!isPerson(room)) {
            return refuse(NOBODY);
        }
        if (figure < 0 || dusk < 0 || dawn < 0 || n < 0) {
            return refuse(BELOW);
        }
        if (figure > MOST_FIGURE || dusk > MOST_GRAINS || dawn > MOST_GRAINS || n > MOST_AHEAD) {
            return refuse(ROOM);
        }
        int bits = 0;
        for (int kind = 0; kind < KINDS; kind++) {
            int rate = kinds[kind].rate(figure, now.draughts[room]);
            if (Math.max(0, dusk - n * rate) == dawn) {
                bits |= 1 << kind;
            }
        }
        return bits;
    }

    public int dripped(int candle, int room, int grains, int what) {
        if (!isCandle(candle) || !isPerson(room)) {
            return refuse(NOBODY);
        }
        if (what != 0 && what != 1) {
            return refuse(OTHER);
        }
        if (grains < 0) {
            return refuse(BELOW);
        }
        Candle it = now.candles[candle];
        int draught = now.draughts[room];
        int left = it.grains;
        int drips = 0;
        int times = 0;
        int least = NONE;
        for (int n = 0; n <= MOST_DRIPPED; n++) {
            if (drips == grains) {
                times++;
                least = times == 1 ? n : least;
            }
            int burns = Math.min(kinds[it.kind].rate(it.figure, draught), left);
            drips += kinds[it.kind].drips(burns, it.figure, draught);
            left -= burns;
        }
        return what == 0 ? times : least;
    }

    public int row(int grains) {
        if (grains < 0) {
            return refuse(BELOW);
        }
        if (grains > MOST_GRAINS || toldCount >= MOST_CANDLES) {
            return refuse(ROOM);
        }
        told[toldCount] = grains;
        toldCount++;
        return toldCount;
    }

    public int judge() {
        int answer = firstWrong();
        toldCount = 0;
        return answer;
    }

    public int seeds(int n, int z) {
        int outside = outside(n, 1, MOST_SEEDS);
        if (outside != 0) {
            return refuse(outside);
        }
        if (now.candleCount == 0) {
            return refuse(STATE);
        }
        mind.become(now);
        int seed = z;
        for (int i = 0; i < n; i++) {
            seed = seed * 1103515245 + 12345;
            Candle drawn = mind.candles[(seed & 0x7fffffff) / 65536 % now.candleCount];
            drawn.lit = !drawn.lit;
            mind.passMinute();
        }
        return mind.allGrains();
    }

    public int image() {
        kept.become(now);
        isKept = true;
        return now.minute;
    }

    public int restore() {
        if (!isKept) {
            return refuse(STATE);
        }
        now.become(kept);
        return now.minute;
    }

    public int count(int what) {
        if (what >= 11 && what <= 16) {
            return refusals[what - 10];
        }
        switch (what) {
            case 0: return now.candleCount;
            case 1: return now.minute;
            case 2: return now.allGrains();
            case 3: return now.allDebts();
            case 4: return now.litCandles();
            case 5: return now.burntSum;
            case 6: return now.dripsSum;
            case 7: return now.paidSum;
            case 8: return letters.size;
            case 9: return toldCount;
            default: return NONE;
        }
    }

    private int refuse(int refusal) {
        int kind = -refusal;
        if (kind > 0 && kind < refusals.length) {
            refusals[kind]++;
        }
        return refusal;
    }

    private boolean isCandle(int candle) {
        return candle >= 0 && candle < now.candleCount;
    }

    private static boolean isPerson(int one) {
        return one >= 0 && one < PEOPLE;
    }

    private static boolean areTwo(int one, int other) {
        return isPerson(one) && isPerson(other) && one != other;
    }

    private static boolean isKind(int kind) {
        return kind >= 0 && kind < KINDS;
    }

    private static int pair(int one, int other) {
        return one * PEOPLE + other;
    }

    /** The refusal of a number that is not from least to greatest, or 0. */
    private static int outside(int number, int least, int greatest) {
        if (number < least) {
            return BELOW;
        }
        return number > greatest ? ROOM : 0;
    }

    private void thinkAhead(int n) {
        mind.become(now);
        // Without a lit candle the minutes left change nothing that is asked for.
        for (int i = 0; i < n && mind.litCandles() > 0; i++) {
            mind.passMinute();
        }
    }

    /** The least grains whose burning to the end pays so much, or NONE. */
    private static int leastGrains(Wax wax, int figure, int draught, int owing) {
        int rate = wax.rate(figure, draught);
        int paidInWholeMinutes = 0;
        int inLastMinute = 0;
        for (int grains = 1; grains <= MOST_GRAINS; grains++) {
            inLastMinute++;
            int paid = paidInWholeMinutes + wax.worth(inLastMinute, figure, draught);
            if (paid >= owing) {
                return grains;
            }
            if (inLastMinute == rate) {
                paidInWholeMinutes = paid;
                inLastMinute = 0;
            }
        }
        return NONE;
    }

    private int firstWrong() {
        int both = Math.min(toldCount, now.candleCount);
        for (int i = 0; i < both; i++) {
            if (told[i] != now.candles[i].grains) {
                return i;
            }
        }
        return toldCount == now.candleCount ? NONE : both;
    }

    private int readNight() {
        int fault = letters.formFault();
        if (fault != 0) {
            return fault;
        }
        // Told to the mind first, so that a fault leaves everything as it was.
        mind.become(now);
        int start = 0;
        int statements = 0;
        while (start < letters.size && statements < MOST_LETTERS) {
            if (!tellMind(start)) {
                return MEANING_FAULT - start;
            }
            start = letters.behindStatement(start);
            statements++;
        }
        now.become(mind);
        return statements;
    }

    /** False if the statement that starts there is not as it must be. */
    private boolean tellMind(int start) {
        int first = letters.digitAt(start + 1);
        int second = letters.digitAt(start + 2);
        switch (letters.signAt(start)) {
            case 'c':
                return mind.takeCandle(first, second, letters.digitAt(start + 3), letters.numberAt(start + 4));
            case 'd':
                return mind.takeDebt(first, second, letters.numberAt(start + 3));
            case 'r':
                return mind.takeDraught(first, second);
            default:
                return mind.takePlace(first, second);
        }
    }

    /** How a plain candle burns; the other kinds stand under it and tell only what they do otherwise. */
    private static class Wax {
        /** What burns in a minute while there are grains enough. */
        int rate(int figure, int draught) {
            return 3 + draught / 3;
        }

        int drips(int burns, int figure, int draught) {
            return draught * burns / 20;
        }

        int worthOfClean(int clean) {
            return clean;
        }

        /** What counts of so much that burns. */
        final int worth(int burns, int figure, int draught) {
            return worthOfClean(burns - drips(burns, figure, draught));
        }
    }

    private static class Beeswax extends Wax {
        int rate(int figure, int draught) {
            return super.rate(figure, draught) - 1;
        }

        int drips(int burns, int figure, int draught) {
            return 0;
        }

        int worthOfClean(int clean) {
            return 2 * clean;
        }
    }

    private static class Fat extends Wax {
        int rate(int figure, int draught) {
            return 2 * super.rate(figure, draught);
        }

        int drips(int burns, int figure, int draught) {
            return burns / 2;
        }

        int worthOfClean(int clean) {
            return clean / 2;
        }
    }

    private static final class Thick extends Beeswax {
        int rate(int figure, int draught) {
            return super.rate(figure, draught) + figure;
        }
    }

    private static final class Mixed extends Fat {
        int rate(int figure, int draught) {
            return Math.max(1, super.rate(figure, draught) - figure);
        }

        int drips(int burns, int figure, int draught) {
            return Math.max(0, super.drips(burns, figure, draught) - figure);
        }
    }

    private static final class Guttering extends Wax {
        int rate(int figure, int draught) {
            return super.rate(figure, draught) + draught;
        }

        int drips(int burns, int figure, int draught) {
            return Math.min(burns, 2 * super.drips(burns, figure, draught));
        }
    }

    private static final class Candle {
        int kind;
        int figure;
        int grains;
        int whose;
        int room;
        boolean lit;

        void become(Candle other) {
            kind = other.kind;
            figure = other.figure;
            grains = other.grains;
            whose = other.whose;
            room = other.room;
            lit = other.lit;
        }
    }

    /** All that an image keeps: candles, rooms, debts, the minute and the sums. */
    private static final class House {
        final Wax[] kinds;
        final Candle[] candles;
        final int[] draughts;
        /** By pairs; what one owes oneself stays 0, so a candle at home pays nothing. */
        final int[] debts;
        int candleCount;
        int minute;
        int burntSum;
        int dripsSum;
        int paidSum;

        House(Wax[] kinds) {
            this.kinds = kinds;
            candles = new Candle[MOST_CANDLES];
            for (int i = 0; i < MOST_CANDLES; i++) {
                candles[i] = new Candle();
            }
            draughts = new int[PEOPLE];
            debts = new int[PEOPLE * PEOPLE];
        }

        void become(House other) {
            candleCount = other.candleCount;
            for (int i = 0; i < candleCount; i++) {
                candles[i].become(other.candles[i]);
            }
            System.arraycopy(other.draughts, 0, draughts, 0, PEOPLE);
            System.arraycopy(other.debts, 0, debts, 0, PEOPLE * PEOPLE);
            minute = other.minute;
            burntSum = other.burntSum;
            dripsSum = other.dripsSum;
            paidSum = other.paidSum;
        }

        int burnsOf(Candle it) {
            return Math.min(kinds[it.kind].rate(it.figure, draughts[it.room]), it.grains);
        }

        int dripsOf(Candle it) {
            return kinds[it.kind].drips(burnsOf(it), it.figure, draughts[it.room]);
        }

        int worthOf(Candle it) {
            return kinds[it.kind].worth(burnsOf(it), it.figure, draughts[it.room]);
        }

        void passMinute() {
            for (int i = 0; i < candleCount; i++) {
                if (isBurning(candles[i])) {
                    burnMinute(candles[i]);
                }
            }
            minute++;
        }

        private void burnMinute(Candle it) {
            int burns = burnsOf(it);
            int drips = kinds[it.kind].drips(burns, it.figure, draughts[it.room]);
            int owing = pair(it.whose, it.room);
            int pays = Math.min(debts[owing], kinds[it.kind].worthOfClean(burns - drips));
            debts[owing] -= pays;
            it.grains -= burns;
            it.lit = it.grains > 0;
            burntSum += burns;
            dripsSum += drips;
            paidSum += pays;
        }

        private static boolean isBurning(Candle it) {
            return it.lit && it.grains > 0;
        }

        boolean isBright(int room) {
            for (int i = 0; i < candleCount; i++) {
                if (candles[i].room == room && isBurning(candles[i])) {
                    return true;
                }
            }
            return false;
        }

        int litCandles() {
            int lit = 0;
            for (int i = 0; i < candleCount; i++) {
                lit += candles[i].lit ? 1 : 0;
            }
            return lit;
        }

        int allGrains() {
            int sum = 0;
            for (int i = 0; i < candleCount; i++) {
                sum += candles[i].grains;
            }
            return sum;
        }

        int allDebts() {
            int sum = 0;
            for (int i = 0; i < debts.length; i++) {
                sum += debts[i];
            }
            return sum;
        }

        int owedTo(int one) {
            int sum = 0;
            for (int other = 0; other < PEOPLE; other++) {
                sum += debts[pair(other, one)];
            }
            return sum;
        }

        int owedBy(int one) {
            int sum = 0;
            for (int other = 0; other < PEOPLE; other++) {
                sum += debts[pair(one, other)];
            }
            return sum;
        }

        int strikePairs() {
            int struck = 0;
            for (int one = 0; one < PEOPLE; one++) {
                for (int next = one + 1; next < PEOPLE; next++) {
                    int least = Math.min(debts[pair(one, next)], debts[pair(next, one)]);
                    debts[pair(one, next)] -= least;
                    debts[pair(next, one)] -= least;
                    struck += least > 0 ? 1 : 0;
                }
            }
            return struck;
        }

        int strikeTriples() {
            int struck = 0;
            for (int one = 0; one < PEOPLE; one++) {
                for (int next = one + 1; next < PEOPLE; next++) {
                    for (int last = one + 1; last < PEOPLE; last++) {
                        struck += last != next && strikeTriple(one, next, last) ? 1 : 0;
                    }
                }
            }
            return struck;
        }

        private boolean strikeTriple(int one, int next, int last) {
            int least = Math.min(debts[pair(one, next)], Math.min(debts[pair(next, last)], debts[pair(last, one)]));
            debts[pair(one, next)] -= least;
            debts[pair(next, last)] -= least;
            debts[pair(last, one)] -= least;
            return least > 0;
        }

        boolean takeCandle(int kind, int figure, int whose, int grains) {
            if (!isKind(kind) || !isPerson(whose) || candleCount >= MOST_CANDLES) {
                return false;
            }
            Candle it = candles[candleCount];
            it.kind = kind;
            it.figure = figure;
            it.grains = grains;
            it.whose = whose;
            it.room = whose;
            it.lit = false;
            candleCount++;
            return true;
        }

        boolean takeDebt(int one, int other, int v) {
            if (!areTwo(one, other)) {
                return false;
            }
            debts[pair(one, other)] = v;
            return true;
        }

        boolean takeDraught(int room, int v) {
            if (!isPerson(room)) {
                return false;
            }
            draughts[room] = v;
            return true;
        }

        boolean takePlace(int candle, int room) {
            if (candle < 0 || candle >= candleCount || !isPerson(room)) {
                return false;
            }
            candles[candle].room = room;
            candles[candle].lit = candles[candle].grains > 0;
            return true;
        }
    }

    /** The letters of a night and the form that they must have. */
    private static final class Letters {
        private static final int MOST_NUMBER_DIGITS = 3;

        final int[] signs = new int[MOST_LETTERS];
        int size;

        /** The letter there, or -1 where there is none. */
        int signAt(int place) {
            return place >= 0 && place < size ? signs[place] : -1;
        }

        int digitAt(int place) {
            return signAt(place) - '0';
        }

        private boolean isDigitAt(int place) {
            return signAt(place) >= '0' && signAt(place) <= '9';
        }

        int numberAt(int place) {
            int number = 0;
            for (int i = 0; i < MOST_NUMBER_DIGITS && isDigitAt(place + i); i++) {
                number = number * 10 + digitAt(place + i);
            }
            return number;
        }

        /** The fault if no night has this form, or 0. */
        int formFault() {
            int place = 0;
            for (int statements = 0; statements < MOST_LETTERS; statements++) {
                place = behindStatement(place);
                if (place < 0) {
                    return place;
                }
                if (place >= size) {
                    return 0;
                }
            }
            return 0;
        }

        /** The place behind the statement that starts there, or the fault in its form. */
        int behindStatement(int start) {
            int least = leastDigits(signAt(start));
            if (least == 0) {
                return FORM_FAULT - start;
            }
            int most = mostDigits(signAt(start));
            int digits = 0;
            while (digits < most && isDigitAt(start + 1 + digits)) {
                digits++;
            }
            int place = start + 1 + digits;
            return digits >= least && signAt(place) == ';' ? place + 1 : FORM_FAULT - place;
        }

        /** 0 for a letter that begins no statement. */
        private static int leastDigits(int sign) {
            switch (sign) {
                case 'c': return 4;
                case 'd': return 3;
                case 'r': return 2;
                case 'p': return 2;
                default: return 0;
            }
        }

        private static int mostDigits(int sign) {
            boolean endsInNumber = sign == 'c' || sign == 'd';
            return leastDigits(sign) + (endsInNumber ? MOST_NUMBER_DIGITS - 1 : 0);
        }
    }

    /** Looks for the best rooms of all candles. */
    private static final class Ways {
        /** What is still owed, by pairs, while the candles ahead are in their tried rooms. */
        private final int[] debts = new int[PEOPLE * PEOPLE];
        /** What a candle would count in a room, by candle and room. */
        private final int[] worths = new int[MOST_CANDLES * PEOPLE];
        /** What a candle and all behind it can pay at most. */
        private final int[] mostPaid = new int[MOST_CANDLES + 1];
        private final int[] tried = new int[MOST_CANDLES];
        final int[] rooms = new int[MOST_CANDLES];
        int least;

        void find(House house, int n) {
            System.arraycopy(house.debts, 0, debts, 0, debts.length);
            mostPaid[house.candleCount] = 0;
            for (int candle = house.candleCount - 1; candle >= 0; candle--) {
                weigh(house, candle, n);
            }
            least = house.allDebts() + 1;
            tryRooms(this, house, 0, house.allDebts());
        }

        private void weigh(House house, int candle, int n) {
            int most = 0;
            for (int room = 0; room < PEOPLE; room++) {
                int worth = worthIn(house, candle, room, n);
                worths[pair(candle, room)] = worth;
                most = Math.max(most, worth);
            }
            mostPaid[candle] = mostPaid[candle + 1] + most;
        }

        private static int worthIn(House house, int candle, int room, int n) {
            Candle it = house.candles[candle];
            Wax wax = house.kinds[it.kind];
            int draught = house.draughts[room];
            int rate = wax.rate(it.figure, draught);
            int left = it.grains;
            int worth = 0;
            for (int i = 0; i < n && left > 0; i++) {
                int burns = Math.min(rate, left);
                worth += wax.worth(burns, it.figure, draught);
                left -= burns;
            }
            return worth;
        }

        /** Tries all rooms for a candle and all behind it; the candle's number is the depth, 6 at most. */
        private static void tryRooms(Ways ways, House house, int candle, int owing) {
            // A way that is only as good comes behind the best and does not count.
            if (candle > house.candleCount || owing - ways.mostPaid[candle] >= ways.least) {
                return;
            }
            if (candle == house.candleCount) {
                ways.least = owing;
                System.arraycopy(ways.tried, 0, ways.rooms, 0, MOST_CANDLES);
                return;
            }
            int whose = house.candles[candle].whose;
            for (int room = 0; room < PEOPLE; room++) {
                int pays = Math.min(ways.debts[pair(whose, room)], ways.worths[pair(candle, room)]);
                ways.tried[candle] = room;
                ways.debts[pair(whose, room)] -= pays;
                tryRooms(ways, house, candle + 1, owing - pays);
                ways.debts[pair(whose, room)] += pays;
            }
        }
    }
}
