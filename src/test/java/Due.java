/** Counts answers that are not as due, and ends the test with them. */
final class Due {
    private final String test;
    private int asked;
    private int wrong;

    Due(String test) {
        this.test = test;
    }

    void is(String call, long got, long want) {
        asked++;
        if (got != want) {
            wrong++;
            System.out.println(test + ": " + call + " answered " + got + ", due is " + want);
        }
    }

    int wrong() {
        return wrong;
    }

    /** Feeds all letters and tells what night() answers. */
    static int night(PaidInLight x, String letters) {
        for (int i = 0; i < letters.length(); i++) {
            x.feed(letters.charAt(i));
        }
        return x.night();
    }

    void end() {
        System.out.println(test + ": " + asked + " answers, " + wrong + " not as due");
        if (wrong != 0 || asked == 0) {
            System.exit(1);
        }
    }
}
