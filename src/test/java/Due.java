/** Counts and prints the answers that are not as due. */
final class Due {
    private String sentence = "";
    private int wrong;
    private int asked;

    /** The words of the document that the answers from here on belong to; told with each that is not as due. */
    void sentence(String said) {
        sentence = "\"" + said + "\": ";
    }

    void due(String call, long got, long want) {
        asked++;
        if (got != want) {
            wrong++;
            System.out.println(sentence + call + " answered " + got + ", due is " + want);
        }
    }

    void due(String call, boolean got, boolean want) {
        due(call, got ? 1 : 0, want ? 1 : 0);
    }

    /** The seats of rides, each on its first stretch. */
    void dueSeats(String when, SeatDesk x, int... wanted) {
        for (int ride = 0; ride < wanted.length; ride++) {
            due(when + ": seat of ride " + ride, x.seatOf(ride, x.ride(ride, 1)), wanted[ride]);
        }
    }

    void end() {
        System.out.println(asked + " answers, " + wrong + " not as due");
        if (wrong != 0 || asked == 0) {
            System.exit(1);
        }
    }
}
