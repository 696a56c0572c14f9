/** Promises 9 and 10, a test for each sentence that names a boundary case: offerChanges, bookChanges. */
public final class EdgeChangesTest {
    private static final int WRONG = SeatDesk.WRONG, FULL = SeatDesk.FULL, BROKEN = SeatDesk.BROKEN, NONE = SeatDesk.NONE;
    private static final int MIN = Integer.MIN_VALUE, MAX = Integer.MAX_VALUE;
    private static final Due CHECK = new Due();

    public static void main(String[] args) {
        fewest();
        mostPossible();
        asAllSitNow();
        noneWhenAllAreTaken();
        offerWrong();
        fixedWithChanges();
        longestToTheLastStation();
        lowerCoachThenSeat();
        upToWhereItIsNotFree();
        bookWrong();
        fullAsNone();
        CHECK.end();
    }

    /** A train of one coach; a text per seat, a '.' for each stretch that is free, an 'r' for a ride, a 'b' for a block. */
    private static SeatDesk train(String... seats) {
        SeatDesk x = new SeatDesk(seats[0].length() + 1);
        x.coach(0, seats.length);
        for (int seat = 0; seat < seats.length; seat++) {
            for (int stretch = 0; stretch < seats[seat].length(); stretch++) {
                char there = seats[seat].charAt(stretch);
                if (there == 'r') {
                    x.bookSeat(stretch, stretch + 1, 0, seat);
                } else if (there == 'b') {
                    x.block(0, seat, stretch, stretch + 1);
                }
            }
        }
        return x;
    }

    private static void seatsOf(String when, SeatDesk x, int ride, int from, int... seats) {
        for (int k = 0; k < seats.length; k++) {
            CHECK.due(when + ", stretch " + (from + k), x.seatOf(ride, from + k), seats[k]);
        }
        CHECK.due(when + ", before", x.seatOf(ride, from - 1), NONE);
        CHECK.due(when + ", behind", x.seatOf(ride, from + seats.length), NONE);
    }

    private static void fewest() {
        CHECK.sentence("The fewest changes of seat from a station to a later one");
        CHECK.due("no change", train("rrr", "...").offerChanges(0, 3, 0), 0);
        CHECK.due("one stretch", train("r.r", "rrr").offerChanges(1, 2, 0), 0);
        CHECK.due("the lowest seats would make two", train(".rrrrr", "...rrr", "r.....").offerChanges(0, 6, 0), 1);
        CHECK.due("the highest seats would make two", train("r.....", "...rrr", ".rrrrr").offerChanges(0, 6, 0), 1);
        CHECK.due("the longest of all, taken first, would make two", train("...rrr", "r....r", "rrr...").offerChanges(0, 6, 0), 1);
        CHECK.due("back to a seat", train("..r...", "rr.rrr").offerChanges(0, 6, 0), 2);
        CHECK.due("a part of the way", train("..r...", "rr.rrr").offerChanges(0, 3, 0), 1);
        CHECK.due("another part", train("..r...", "rr.rrr").offerChanges(2, 6, 0), 1);
        CHECK.due("a part without", train("..r...", "rr.rrr").offerChanges(3, 6, 0), 0);
    }

    private static void mostPossible() {
        CHECK.sentence("The fewest changes of seat");
        StringBuilder even = new StringBuilder();
        StringBuilder odd = new StringBuilder();
        for (int stretch = 0; stretch < 29; stretch++) {
            even.append(stretch % 2 == 0 ? '.' : 'r');
            odd.append(stretch % 2 == 0 ? 'b' : '.');
        }
        SeatDesk x = train(even.toString(), odd.toString());
        CHECK.due("a change at each station of 30", x.offerChanges(0, 29, 0), 28);
        CHECK.due("booked", x.bookChanges(0, 29, 0), 14);
        CHECK.due("its changes", x.ride(14, 5), 28);
        CHECK.due("the first seat", x.seatOf(14, 0), 0);
        CHECK.due("the last seat", x.seatOf(14, 28), 0);
        CHECK.due("the one before", x.seatOf(14, 27), 1);
        CHECK.due("all are taken now", x.offerChanges(0, 29, 0), NONE);
    }

    private static void asAllSitNow() {
        CHECK.sentence("in seats that are free as all sit now");
        SeatDesk x = new SeatDesk(3);
        x.coach(0, 2);
        x.coach(1, 1);
        x.bookSeat(0, 1, 0, 1);
        x.book(1, 2, 0);
        CHECK.dueSeats("before", x, 1, 0);
        CHECK.due("a sweep could save the change", x.offerChanges(0, 2, 0), 1);
        CHECK.due("nobody moves", x.moved(), 0);
        CHECK.dueSeats("behind", x, 1, 0);
        CHECK.due("nothing is booked", x.load(0, 0), 1);
        CHECK.due("booked by a sweep", x.book(0, 2, 0), 2);
        CHECK.due("none now, and none of another class", x.offerChanges(0, 2, 0), NONE);
        CHECK.due("the other class", x.offerChanges(0, 2, 1), 0);
        x.coach(0, 2);
        CHECK.due("a coach more", x.offerChanges(0, 2, 0), 0);
        x.removeCoach(2);
        CHECK.due("it is taken out", x.offerChanges(0, 2, 0), NONE);
    }

    private static void noneWhenAllAreTaken() {
        CHECK.sentence("NONE when on some stretch all are taken");
        String[][] trains = {{"r..", "b.."}, {".r.", ".b."}, {"..b", "..r"}, {"rrr", "bbb"}};
        for (int k = 0; k < trains.length; k++) {
            CHECK.due("train " + k, train(trains[k]).offerChanges(0, 3, 0), NONE);
        }
        SeatDesk x = train(".r.r.", ".r.b.");
        CHECK.due("up to it", x.offerChanges(0, 1, 0), 0);
        CHECK.due("with it", x.offerChanges(0, 2, 0), NONE);
        CHECK.due("between", x.offerChanges(2, 3, 0), 0);
        CHECK.due("from it on", x.offerChanges(1, 3, 0), NONE);
        CHECK.due("behind the last", x.offerChanges(4, 5, 0), 0);
        CHECK.due("just it", x.offerChanges(3, 4, 0), NONE);
        CHECK.due("no seats", new SeatDesk(2).offerChanges(0, 1, 1), NONE);
    }

    private static void offerWrong() {
        CHECK.sentence("on some stretch all are taken; WRONG");
        SeatDesk x = train("rrr");
        int[][] wrong = {{-1, 1, 0}, {0, 4, 0}, {3, 4, 0}, {1, 1, 0}, {2, 1, 0}, {0, 1, -1}, {0, 1, 2}, {MIN, MAX, 0}, {0, 1, MIN}, {0, 1, MAX}};
        for (int[] w : wrong) {
            CHECK.due("before NONE: from " + w[0] + " to " + w[1] + " in " + w[2], x.offerChanges(w[0], w[1], w[2]), WRONG);
        }
        CHECK.due("none", x.offerChanges(0, 3, 0), NONE);
    }

    private static void fixedWithChanges() {
        CHECK.sentence("A fixed ride with changes");
        SeatDesk x = train(".r.", "r.r");
        CHECK.due("not on one seat", x.book(0, 3, 0), BROKEN);
        CHECK.due("with changes", x.bookChanges(0, 3, 0), 3);
        seatsOf("with two changes", x, 3, 0, 0, 1, 0);
        CHECK.due("changes", x.ride(3, 5), 2);
        CHECK.due("fixed", x.ride(3, 0), 2);
        CHECK.due("class", x.ride(3, 3), 0);
        CHECK.due("agency", x.ride(3, 4), NONE);
        CHECK.due("a wish", x.wish(3, 0), WRONG);
        CHECK.due("a block on its first seat", x.block(0, 0, 0, 1), 0);
        CHECK.due("on its second", x.block(0, 1, 1, 2), 0);
        SeatDesk y = new SeatDesk(4);
        y.coach(1, 2);
        CHECK.due("without a change", y.bookChanges(1, 2, 1), 0);
        seatsOf("without a change", y, 0, 1, 0);
        CHECK.due("no changes", y.ride(0, 5), 0);
        CHECK.due("fixed, too", y.ride(0, 0), 2);
        CHECK.due("gives no way", y.block(0, 0, 1, 2), 0);
    }

    private static void longestToTheLastStation() {
        CHECK.sentence("from its beginning on always the seat that is free the longest (as far as the last station");
        SeatDesk x = train("...r..", "....rr", "...rrr", ".....r");
        CHECK.due("a way of one stretch", x.bookChanges(0, 1, 0), 7);
        seatsOf("the longest beyond its own end", x, 7, 0, 3);
        CHECK.due("from the next station on", x.bookChanges(1, 3, 0), 8);
        seatsOf("the longest from there", x, 8, 1, 3, 3);
        CHECK.due("the longest left", x.bookChanges(0, 4, 0), 9);
        seatsOf("the longest left", x, 9, 0, 1, 1, 1, 1);
        CHECK.due("up to the last station", x.bookChanges(4, 6, 0), 10);
        seatsOf("seat 0 has it, seat 3 a stretch less", x, 10, 4, 0, 0);
        SeatDesk y = train(".r....", "..r...", "...rrr");
        CHECK.due("longest at each change", y.bookChanges(0, 6, 0), 5);
        // Seat 2 is free on 0 to 2; from station 3 on seats 0 and 1 are free to the end.
        seatsOf("always from where it is", y, 5, 0, 2, 2, 2, 0, 0, 0);
        SeatDesk z = train("....", "....");
        CHECK.due("to the last station", z.bookChanges(2, 4, 0), 0);
        seatsOf("the whole train is free", z, 0, 2, 0, 0);
        CHECK.due("again", z.bookChanges(0, 4, 0), 1);
        seatsOf("the other is free to the last station", z, 1, 0, 1, 1, 1, 1);
    }

    private static void lowerCoachThenSeat() {
        CHECK.sentence("of several the lower coach, then seat");
        SeatDesk x = new SeatDesk(4);
        x.coach(1, 3);
        x.coach(0, 2);
        x.coach(0, 3);
        x.coach(0, 3);
        x.block(1, 0, 2, 3);
        x.block(1, 1, 2, 3);
        x.block(2, 0, 2, 3);
        int[] seats = {201, 202, 300, 301, 302, 100, 101, 200};
        for (int k = 0; k < seats.length; k++) {
            CHECK.due("ride " + k, x.seatOf(x.bookChanges(0, 1, 0), 0), seats[k]);
        }
        CHECK.due("no more", x.bookChanges(0, 1, 0), FULL);
    }

    private static void upToWhereItIsNotFree() {
        CHECK.sentence("up to where that isn't free any more: its number");
        SeatDesk x = train("....r.", "rr....");
        CHECK.due("to the end", x.bookChanges(0, 6, 0), 3);
        // From station 2 on seat 1 would be free longer, but seat 0 is kept as long as it is free.
        seatsOf("not earlier", x, 3, 0, 0, 0, 0, 0, 1, 1);
        CHECK.due("one change", x.ride(3, 5), 1);
        SeatDesk y = train("..b...", "rr..b.");
        CHECK.due("a block, too", y.bookChanges(0, 6, 0), 2);
        seatsOf("up to the blocks", y, 2, 0, 0, 0, 1, 1, 0, 0);
        CHECK.due("two changes", y.ride(2, 5), 2);
        SeatDesk z = train("..r", "r..");
        CHECK.due("its own end comes first", z.bookChanges(0, 2, 0), 2);
        seatsOf("no change", z, 2, 0, 0, 0);
        CHECK.due("the other seat stays free", z.bookSeat(1, 3, 0, 1), 3);
    }

    private static void bookWrong() {
        CHECK.sentence("its number. WRONG");
        SeatDesk x = train("rrr");
        int[][] wrong = {{-1, 1, 0}, {0, 4, 0}, {3, 4, 0}, {1, 1, 0}, {2, 1, 0}, {0, 1, -1}, {0, 1, 2}, {MIN, MAX, 0}, {0, 1, MIN}, {0, 1, MAX}};
        for (int[] w : wrong) {
            CHECK.due("before FULL: from " + w[0] + " to " + w[1] + " in " + w[2], x.bookChanges(w[0], w[1], w[2]), WRONG);
        }
        CHECK.due("full", x.bookChanges(0, 3, 0), FULL);
    }

    private static void fullAsNone() {
        CHECK.sentence("FULL as offerChanges has NONE");
        String[][] trains = {{"r..", "b.."}, {".r.", ".b."}, {"..b", "..r"}, {"rrr", "bbb"}};
        for (int k = 0; k < trains.length; k++) {
            SeatDesk x = train(trains[k]);
            CHECK.due("train " + k, x.bookChanges(0, 3, 0), FULL);
            CHECK.due("no ride was made", x.load(0, 0) + x.load(1, 0) + x.load(2, 0), k == 3 ? 3 : 1);
            CHECK.due("no seat was taken", x.free(0, 0) + x.free(1, 0) + x.free(2, 0), k == 3 ? 0 : 4);
        }
        SeatDesk y = train(".r.", ".b.");
        CHECK.due("the last stretch", y.bookChanges(2, 3, 0), 1);
        CHECK.due("the first stretch", y.bookChanges(0, 1, 0), 2);
        CHECK.due("broken space for a ride is none for changes", train(".b", "b.").book(0, 2, 0), BROKEN);
        CHECK.due("but a change", train(".b", "b.").bookChanges(0, 2, 0), 0);
        CHECK.due("no seats", new SeatDesk(2).bookChanges(0, 1, 1), FULL);
    }
}
