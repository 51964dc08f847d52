import java.util.ArrayList;
import java.util.List;
import java.util.function.Supplier;
import java.util.function.ToIntFunction;

/** Two objects made alike; a call on one of them, held against the other, shows whether it changed anything. */
final class Twins {
    private final Due due;

    Twins(Due due) {
        this.due = due;
    }

    /** Something of everything: candles lit and not, debts, draughts, sums, an image, letters, a ROW; no refusals. */
    static PaidInLight furnished() {
        PaidInLight x = new PaidInLight();
        Due.night(x, "c00050;c13130;c20290;c34077;c47125;p01;p12;p23;p30;");
        Due.night(x, "d0130;d10500;d1220;d2005;d3299;r05;r19;r23;");
        x.go(2);
        x.image();
        x.go(1);
        x.owe(2, 3, 44);
        x.put(4, 0);
        x.draught(3, 2);
        x.feed('r');
        x.feed('3');
        x.row(x.candle(0, 2));
        x.row(x.candle(1, 2));
        return x;
    }

    /** The call is refused: it answers the refusal, one more of it is counted, and nothing else changes. */
    void refused(String call, Supplier<PaidInLight> made, ToIntFunction<PaidInLight> calling, int refusal) {
        refused(call, made, calling, refusal, refusal);
    }

    /** As above where the call doesn't answer the refusal itself. */
    void refused(String call, Supplier<PaidInLight> made, ToIntFunction<PaidInLight> calling, int refusal, int answer) {
        PaidInLight untouched = made.get();
        PaidInLight x = made.get();
        due.is(call, calling.applyAsInt(x), answer);
        for (int what = 11; what <= 16; what++) {
            int more = what == 10 - refusal ? 1 : 0;
            due.is(call + ": more in count(" + what + ")", x.count(what) - untouched.count(what), more);
        }
        alike(call, seen(x), seen(untouched));
    }

    /** The call answers so much and changes nothing, not even how many refusals there were. */
    void changesNothing(String call, Supplier<PaidInLight> made, ToIntFunction<PaidInLight> calling, int answer) {
        PaidInLight untouched = made.get();
        PaidInLight x = made.get();
        due.is(call, calling.applyAsInt(x), answer);
        for (int what = 11; what <= 16; what++) {
            due.is(call + ": count(" + what + ")", x.count(what), untouched.count(what));
        }
        alike(call, seen(x), seen(untouched));
    }

    void alike(String call, List<String> got, List<String> want) {
        String difference = "";
        for (int i = 0; i < Math.max(got.size(), want.size()) && difference.isEmpty(); i++) {
            String one = i < got.size() ? got.get(i) : "nothing";
            String other = i < want.size() ? want.get(i) : "nothing";
            difference = one.equals(other) ? "" : one + " and not " + other;
        }
        due.is(call + ": differs: " + difference, difference.isEmpty() ? 0 : 1, 0);
    }

    /** All that is seen of an object, at last of its ROW, its letters and its image, which are used up by it. */
    private static List<String> seen(PaidInLight x) {
        List<String> all = seenOfHouse(x);
        all.add("letters " + x.count(8));
        all.add("in the ROW " + x.count(9));
        all.add("judge() " + x.judge());
        all.add("feed('7') " + x.feed('7'));
        all.add("feed(';') " + x.feed(';'));
        all.add("night() " + x.night());
        all.addAll(seenOfHouse(x));
        all.add("restore() " + x.restore());
        all.addAll(seenOfHouse(x));
        return all;
    }

    /** What an image keeps, as it is now. */
    static List<String> seenOfHouse(PaidInLight x) {
        List<String> all = new ArrayList<>();
        for (int what = 0; what <= 7; what++) {
            all.add("count(" + what + ") " + x.count(what));
        }
        for (int candle = 0; candle < x.count(0); candle++) {
            for (int what = 0; what <= 8; what++) {
                all.add("candle(" + candle + ", " + what + ") " + x.candle(candle, what));
            }
        }
        for (int one = 0; one < 4; one++) {
            int draught = x.draught(one, 0);
            x.draught(one, draught);
            all.add("draught of " + one + " " + draught);
            for (int other = 0; other < 4; other++) {
                if (one != other) {
                    all.add("debt(" + one + ", " + other + ") " + x.debt(one, other));
                }
            }
        }
        return all;
    }
}
