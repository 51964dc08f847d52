/** Counts answers that are not as due, and ends the test with them. */
final class Due {
    private static final int MOST_PRINTED = 50;

    private final String test;
    private int asked;
    private int wrong;

    Due(String test) {
        this.test = test;
    }

    void is(String call, long got, long want) {
        asked++;
        if (got != want) {
            wrong++;
            print(test + ": " + call + " answered " + got + ", due is " + want);
        }
    }

    private void print(String line) {
        if (wrong <= MOST_PRINTED) {
            System.out.println(line);
        }
    }

    int wrong() {
        return wrong;
    }

    /** Feeds all letters and tells what night() answers. */
    static int night(PaidInLight x, String letters) {
        for (int i = 0; i < letters.length(); i++) {
            x.feed(letters.charAt(i));
        }
        return x.night();
    }

    /** A new object with a night that must be without fault. */
    PaidInLight told(String letters) {
        PaidInLight x = new PaidInLight();
        is("night() of " + letters, night(x, letters), letters.chars().filter(c -> c == ';').count());
        return x;
    }

    void end() {
        System.out.println(test + ": " + asked + " answers, " + wrong + " not as due");
        if (wrong != 0 || asked == 0) {
            System.exit(1);
        }
    }
}
