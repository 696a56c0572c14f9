/** Promises 9 and 10: offerChanges, bookChanges. */
public final class ChangesTest {
    private static final Due CHECK = new Due();

    public static void main(String[] args) {
        wrongNumbers();
        offer();
        asAllSitNow();
        book();
        longestToTheLastStation();
        CHECK.end();
    }

    private static void wrongNumbers() {
        SeatDesk x = new SeatDesk(4);
        int[][] wrong = {{-1, 2, 0}, {0, 4, 0}, {2, 2, 0}, {2, 1, 0}, {0, 1, 2}, {0, 1, -1}};
        for (int[] w : wrong) {
            CHECK.due("offerChanges " + w[0] + " " + w[1] + " " + w[2], x.offerChanges(w[0], w[1], w[2]), SeatDesk.WRONG);
            CHECK.due("bookChanges " + w[0] + " " + w[1] + " " + w[2], x.bookChanges(w[0], w[1], w[2]), SeatDesk.WRONG);
        }
        CHECK.due("no coach: offerChanges", x.offerChanges(0, 3, 0), SeatDesk.NONE);
        CHECK.due("no coach: bookChanges", x.bookChanges(0, 3, 0), SeatDesk.FULL);
        x.coach(1, 2);
        CHECK.due("no coach of the class", x.offerChanges(0, 1, 0), SeatDesk.NONE);
        CHECK.due("the other class", x.offerChanges(0, 3, 1), 0);
    }

    /** Stretches 0 .. 5; seat 0 is free on 0, 1, 4 and 5, seat 1 on 1, 2 and 3, seat 2 on 0, 3 and 4. */
    private static SeatDesk broken() {
        SeatDesk x = new SeatDesk(7);
        x.coach(0, 3);
        x.bookSeat(2, 4, 0, 0);
        x.bookSeat(0, 1, 0, 1);
        x.block(0, 1, 4, 6);
        x.bookSeat(1, 3, 0, 2);
        x.block(0, 2, 5, 6);
        return x;
    }

    private static void offer() {
        SeatDesk x = broken();
        CHECK.due("one seat", x.offerChanges(0, 2, 0), 0);
        CHECK.due("one change", x.offerChanges(0, 4, 0), 1);
        CHECK.due("all the way", x.offerChanges(0, 6, 0), 2);
        CHECK.due("from the middle", x.offerChanges(3, 6, 0), 1);
        CHECK.due("one stretch", x.offerChanges(5, 6, 0), 0);
        CHECK.due("the last seat of stretch 2", x.bookSeat(2, 3, 0, 1), 3);
        CHECK.due("all taken on a stretch", x.offerChanges(0, 6, 0), SeatDesk.NONE);
        CHECK.due("up to it", x.offerChanges(0, 2, 0), 0);
        CHECK.due("behind it", x.offerChanges(3, 6, 0), 1);
        CHECK.due("nothing was booked", x.load(0, 0), 1);
    }

    private static void asAllSitNow() {
        SeatDesk x = new SeatDesk(4);
        x.coach(0, 2);
        x.book(0, 1, 0);
        x.book(1, 3, 0);
        x.book(1, 3, 0);
        x.cancel(1);
        CHECK.due("nobody is moved for it", x.offerChanges(0, 3, 0), 1);
        CHECK.due("a change", x.bookChanges(0, 3, 0), 3);
        CHECK.due("first", x.seatOf(3, 0), 1);
        CHECK.due("then", x.seatOf(3, 1), 0);
        CHECK.due("to the end", x.seatOf(3, 2), 0);
        CHECK.due("moved", x.moved(), 0);
    }

    private static void book() {
        SeatDesk x = broken();
        CHECK.due("all the way", x.bookChanges(0, 6, 0), 3);
        int[] seats = {0, 0, 1, 1, 0, 0};
        for (int s = 0; s < 6; s++) {
            CHECK.due("stretch " + s, x.seatOf(3, s), seats[s]);
        }
        CHECK.due("fixed", x.ride(3, 0), 2);
        CHECK.due("changes", x.ride(3, 5), 2);
        CHECK.due("of no agency", x.ride(3, 4), SeatDesk.NONE);
        CHECK.due("a wish is too late", x.wish(3, 0), SeatDesk.WRONG);
        CHECK.due("free on stretch 0", x.free(0, 0), 1);
        CHECK.due("free on stretch 2", x.free(2, 0), 0);
        CHECK.due("full now", x.bookChanges(0, 6, 0), SeatDesk.FULL);
        CHECK.due("nothing was given", x.bookChanges(3, 5, 0), 4);
        CHECK.due("where it sits", x.seatOf(4, 3), 2);
        CHECK.due("without a change it is fixed, too", x.ride(4, 0), 2);
        CHECK.due("no change", x.ride(4, 5), 0);
        CHECK.due("shorter", x.shorten(3, 1, 4), true);
        CHECK.due("one change is left", x.ride(3, 5), 1);
        CHECK.due("cancelled", x.cancel(3), true);
        CHECK.due("its seats are free", x.bookSeat(0, 2, 0, 0), 5);
        CHECK.due("all of them", x.bookSeat(1, 4, 0, 1), 6);
    }

    private static void longestToTheLastStation() {
        SeatDesk x = new SeatDesk(5);
        x.coach(0, 1);
        x.coach(0, 2);
        x.bookSeat(3, 4, 0, 0);
        CHECK.due("a short way", x.bookChanges(0, 2, 0), 1);
        CHECK.due("the longest counts beyond its end, of two the lower", x.seatOf(1, 0), 100);
        CHECK.due("a second", x.bookChanges(1, 3, 0), 2);
        CHECK.due("the other", x.seatOf(2, 2), 101);
        CHECK.due("up to where it isn't free", x.bookChanges(0, 4, 0), 3);
        CHECK.due("from 0", x.seatOf(3, 0), 0);
        CHECK.due("not changing early", x.seatOf(3, 2), 0);
        CHECK.due("lower coach of two", x.seatOf(3, 3), 100);
    }
}
