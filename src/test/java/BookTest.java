/** Promises 5 to 8: book, agencyBook, bookSeat, bookGroup, and how a ride is placed. */
public final class BookTest {
    private static final Due CHECK = new Due();

    public static void main(String[] args) {
        wrongNumbers();
        leastSpaceBehind();
        classesApart();
        sweepMoves();
        sweepLeavesFixed();
        sweepOrder();
        fullOrBroken();
        refusalChangesNothing();
        limitOfRides();
        agencyBook();
        agencyCounts();
        bookSeat();
        bookGroup();
        CHECK.end();
    }

    private static void wrongNumbers() {
        SeatDesk x = new SeatDesk(4);
        x.coach(0, 1);
        CHECK.due("from -1", x.book(-1, 2, 0), SeatDesk.WRONG);
        CHECK.due("to 4 of 4", x.book(0, 4, 0), SeatDesk.WRONG);
        CHECK.due("nowhere", x.book(2, 2, 0), SeatDesk.WRONG);
        CHECK.due("backwards", x.book(2, 1, 0), SeatDesk.WRONG);
        CHECK.due("class 2", x.book(0, 1, 2), SeatDesk.WRONG);
        CHECK.due("class -1", x.book(0, 1, -1), SeatDesk.WRONG);
        CHECK.due("far ends", x.book(Integer.MIN_VALUE, Integer.MAX_VALUE, 0), SeatDesk.WRONG);
        CHECK.due("good", x.book(0, 3, 0), 0);
        CHECK.due("it is movable", x.ride(0, 0), 1);
        CHECK.due("of no agency", x.ride(0, 4), SeatDesk.NONE);
    }

    private static void leastSpaceBehind() {
        SeatDesk x = new SeatDesk(6);
        x.coach(0, 3);
        x.coach(0, 2);
        x.bookSeat(4, 5, 0, 1);
        x.bookSeat(3, 4, 1, 0);
        x.bookSeat(3, 5, 1, 1);
        CHECK.due("least behind, lower seat of two", x.seatOf(x.book(0, 3, 0), 0), 100);
        CHECK.due("the other of the two", x.seatOf(x.book(0, 3, 0), 0), 101);
        CHECK.due("one stretch behind", x.seatOf(x.book(0, 3, 0), 0), 1);
        CHECK.due("two behind, lower of two", x.seatOf(x.book(0, 3, 0), 0), 0);
        CHECK.due("a block ends the space, too", x.block(0, 2, 3, 4), 1);
        SeatDesk y = new SeatDesk(6);
        y.coach(0, 3);
        y.block(0, 2, 2, 3);
        CHECK.due("behind a block", y.seatOf(y.book(0, 2, 0), 0), 2);
        CHECK.due("to the last station none has space", y.seatOf(y.book(4, 5, 0), 4), 0);
        CHECK.due("far space does not count", y.seatOf(y.book(0, 1, 0), 0), 0);
        CHECK.due("up to the first that isn't free", y.seatOf(y.book(0, 4, 0), 0), 1);
    }

    private static void classesApart() {
        SeatDesk x = new SeatDesk(3);
        x.coach(1, 1);
        x.coach(0, 1);
        CHECK.due("a seat of class 0", x.seatOf(x.book(0, 2, 0), 1), 100);
        CHECK.due("class 0 has no more", x.book(0, 1, 0), SeatDesk.FULL);
        CHECK.due("class 1 has", x.seatOf(x.book(0, 1, 1), 0), 0);
        CHECK.due("its class", x.ride(1, 3), 1);
    }

    /** Rides 0 on (0, 1) in seat 0 and 2 on (1, 3) in seat 1 leave no seat for the whole way. */
    private static SeatDesk apart() {
        SeatDesk x = new SeatDesk(4);
        x.coach(0, 2);
        x.book(0, 1, 0);
        x.book(1, 3, 0);
        x.book(1, 3, 0);
        x.cancel(1);
        CHECK.due("apart: ride 0", x.seatOf(0, 0), 0);
        CHECK.due("apart: ride 2", x.seatOf(2, 1), 1);
        return x;
    }

    private static void sweepMoves() {
        SeatDesk x = apart();
        CHECK.due("the whole way", x.book(0, 3, 0), 3);
        CHECK.due("ride 0 keeps its seat", x.seatOf(0, 0), 0);
        CHECK.due("ride 2 moves", x.seatOf(2, 1), 0);
        CHECK.due("on all its stretches", x.seatOf(2, 2), 0);
        CHECK.due("the new one", x.seatOf(3, 2), 1);
        CHECK.due("one has moved, the new one has not", x.moved(), 1);
        CHECK.due("nothing is free", x.free(0, 0) + x.free(1, 0) + x.free(2, 0), 0);
    }

    private static void sweepLeavesFixed() {
        SeatDesk x = apart();
        x.print(2);
        CHECK.due("ride 0 moves to ride 2", x.book(0, 3, 0), 3);
        CHECK.due("printed: it stays", x.seatOf(2, 1), 1);
        CHECK.due("the other gives way", x.seatOf(0, 0), 1);
        CHECK.due("the new one", x.seatOf(3, 0), 0);
        CHECK.due("moved", x.moved(), 1);
        SeatDesk y = apart();
        y.print(0);
        y.print(2);
        CHECK.due("both are printed", y.book(0, 3, 0), SeatDesk.BROKEN);
    }

    private static void sweepOrder() {
        SeatDesk x = new SeatDesk(5);
        x.coach(0, 2);
        x.book(0, 1, 0);
        x.book(3, 4, 0);
        x.book(0, 3, 0);
        CHECK.dueSeats("before", x, 0, 0, 1);
        // In the order of numbers ride 1 would take seat 0 before ride 3, which would find none.
        CHECK.due("by the station where they begin", x.book(2, 4, 0), 3);
        CHECK.dueSeats("behind", x, 0, 1, 1, 0);
        CHECK.due("moved", x.moved(), 1);
    }

    private static void fullOrBroken() {
        SeatDesk x = new SeatDesk(4);
        x.coach(0, 2);
        x.bookSeat(0, 1, 0, 0);
        x.bookSeat(1, 3, 0, 1);
        x.bookSeat(2, 3, 0, 0);
        CHECK.due("by the loads there is room, full is only what is behind", x.book(0, 2, 0), SeatDesk.BROKEN);
        x.bookSeat(0, 1, 0, 1);
        CHECK.due("one stretch is full", x.book(0, 2, 0), SeatDesk.FULL);
        SeatDesk y = new SeatDesk(3);
        y.coach(0, 1);
        y.block(0, 0, 0, 1);
        CHECK.due("a blocked seat is there all the same", y.book(0, 1, 0), SeatDesk.BROKEN);
        y.coach(1, 1);
        y.coach(0, 1);
        y.block(2, 0, 1, 2);
        CHECK.due("two seats, two blocks", y.book(0, 2, 0), SeatDesk.BROKEN);
        CHECK.due("taken out", y.removeCoach(2), 0);
        y.bookSeat(1, 2, 0, 0);
        CHECK.due("one seat, one ride", y.book(1, 2, 0), SeatDesk.FULL);
        SeatDesk z = new SeatDesk(3);
        z.coach(0, 1);
        z.coach(0, 1);
        z.bookSeat(0, 1, 0, 0);
        z.bookSeat(0, 1, 1, 0);
        CHECK.due("one stands", z.removeCoach(1), 1);
        z.cancel(0);
        z.block(0, 0, 0, 1);
        CHECK.due("who stands counts", z.book(0, 1, 0), SeatDesk.FULL);
        z.cancel(1);
        CHECK.due("who is cancelled doesn't", z.book(0, 1, 0), SeatDesk.BROKEN);
    }

    private static void refusalChangesNothing() {
        SeatDesk x = apart();
        x.bookSeat(0, 1, 0, 1);
        CHECK.due("full", x.book(0, 3, 0), SeatDesk.FULL);
        CHECK.due("ride 0 sits as it sat", x.seatOf(0, 0), 0);
        CHECK.due("ride 2 sits as it sat", x.seatOf(2, 1), 1);
        CHECK.due("nobody moved", x.moved(), 0);
        CHECK.due("load", x.load(2, 0), 1);
        CHECK.due("free", x.free(2, 0), 1);
        CHECK.due("its number is given to the next", x.book(1, 2, 0), 4);
        CHECK.due("who sits where there is room", x.seatOf(4, 1), 0);
        CHECK.due("seat 0 is free behind", x.seatOf(x.book(2, 3, 0), 2), 0);
    }

    private static void limitOfRides() {
        SeatDesk x = new SeatDesk(30);
        for (int k = 0; k < 4; k++) {
            x.coach(0, 20);
        }
        for (int k = 0; k < 148; k++) {
            CHECK.due("ride " + k, x.book(k % 29, k % 29 + 1, 0), k);
        }
        CHECK.due("a group of 3 would be too many", x.bookGroup(0, 1, 0, 3), SeatDesk.WRONG);
        CHECK.due("a group of 2", x.bookGroup(0, 1, 0, 2), 148);
        x.cancel(0);
        x.quota(3, 0, 150);
        CHECK.due("150 were given: book", x.book(3, 4, 0), SeatDesk.WRONG);
        CHECK.due("agencyBook", x.agencyBook(0, 3, 4, 0), SeatDesk.WRONG);
        CHECK.due("agencyBook is not OVER", x.agencyBook(1, 3, 4, 0), SeatDesk.WRONG);
        CHECK.due("bookSeat", x.bookSeat(3, 4, 3, 19), SeatDesk.WRONG);
        CHECK.due("bookSeat is not FULL", x.bookSeat(0, 1, 0, 1), SeatDesk.WRONG);
        CHECK.due("bookGroup", x.bookGroup(3, 4, 0, 2), SeatDesk.WRONG);
        CHECK.due("bookChanges", x.bookChanges(3, 4, 0), SeatDesk.WRONG);
        CHECK.due("offerChanges still offers", x.offerChanges(3, 4, 0), 0);
        CHECK.due("the last ride", x.ride(149, 0), 2);
    }

    private static void agencyBook() {
        SeatDesk x = new SeatDesk(4);
        CHECK.due("agency -1", x.agencyBook(-1, 0, 1, 0), SeatDesk.WRONG);
        CHECK.due("agency 4", x.agencyBook(4, 0, 1, 0), SeatDesk.WRONG);
        CHECK.due("from -1", x.agencyBook(0, -1, 1, 0), SeatDesk.WRONG);
        CHECK.due("to 4 of 4", x.agencyBook(0, 0, 4, 0), SeatDesk.WRONG);
        CHECK.due("nowhere", x.agencyBook(0, 1, 1, 0), SeatDesk.WRONG);
        CHECK.due("class 2", x.agencyBook(0, 0, 1, 2), SeatDesk.WRONG);
        CHECK.due("OVER before FULL", x.agencyBook(0, 0, 1, 0), SeatDesk.OVER);
        x.quota(0, 0, 2);
        CHECK.due("within the quota", x.agencyBook(0, 0, 1, 0), SeatDesk.FULL);
        x.coach(0, 2);
        x.bookSeat(0, 1, 0, 0);
        x.bookSeat(1, 2, 0, 1);
        x.quota(1, 0, 1);
        CHECK.due("BROKEN, too", x.agencyBook(0, 0, 2, 0), SeatDesk.BROKEN);
        CHECK.due("placed", x.agencyBook(0, 0, 1, 0), 2);
        CHECK.due("its agency", x.ride(2, 4), 0);
        CHECK.due("movable", x.ride(2, 0), 1);
        CHECK.due("its seat", x.seatOf(2, 0), 1);
    }

    private static void agencyCounts() {
        SeatDesk x = new SeatDesk(4);
        x.coach(0, 4);
        x.coach(1, 4);
        x.quota(0, 1, 2);
        x.quota(1, 1, 1);
        x.quota(2, 1, 1);
        CHECK.due("first", x.agencyBook(1, 0, 3, 0), 0);
        CHECK.due("one stretch would be over", x.agencyBook(1, 0, 2, 1), SeatDesk.OVER);
        CHECK.due("both classes together", x.agencyBook(1, 0, 1, 1), 1);
        CHECK.due("two of two", x.agencyBook(1, 0, 1, 0), SeatDesk.OVER);
        CHECK.due("others do not count", x.book(0, 3, 0), 2);
        x.quota(0, 2, 1);
        CHECK.due("each agency for itself", x.agencyBook(2, 0, 1, 0), 3);
        CHECK.due("shorter", x.shorten(0, 1, 2), true);
        CHECK.due("stretch 0 is its own no more", x.agencyBook(1, 0, 1, 0), 4);
        CHECK.due("stretch 2, too", x.agencyBook(1, 2, 3, 0), 5);
        CHECK.due("stretch 1 still is", x.agencyBook(1, 1, 2, 0), SeatDesk.OVER);
        x.cancel(0);
        CHECK.due("cancelled", x.agencyBook(1, 1, 2, 0), 6);
        CHECK.due("out", x.removeCoach(0), 5);
        CHECK.due("who stands counts", x.agencyBook(1, 1, 2, 1), SeatDesk.OVER);
    }

    private static void bookSeat() {
        SeatDesk x = new SeatDesk(4);
        x.coach(0, 2);
        x.coach(1, 3);
        CHECK.due("from -1", x.bookSeat(-1, 1, 0, 0), SeatDesk.WRONG);
        CHECK.due("to 4 of 4", x.bookSeat(0, 4, 0, 0), SeatDesk.WRONG);
        CHECK.due("nowhere", x.bookSeat(2, 2, 0, 0), SeatDesk.WRONG);
        CHECK.due("coach -1", x.bookSeat(0, 1, -1, 0), SeatDesk.WRONG);
        CHECK.due("coach 2 of 2", x.bookSeat(0, 1, 2, 0), SeatDesk.WRONG);
        CHECK.due("seat -1", x.bookSeat(0, 1, 0, -1), SeatDesk.WRONG);
        CHECK.due("seat 2 of 2", x.bookSeat(0, 1, 0, 2), SeatDesk.WRONG);
        CHECK.due("good", x.bookSeat(1, 3, 1, 2), 0);
        CHECK.due("fixed", x.ride(0, 0), 2);
        CHECK.due("of the coach's class", x.ride(0, 3), 1);
        CHECK.due("of no agency", x.ride(0, 4), SeatDesk.NONE);
        CHECK.due("there", x.seatOf(0, 2), 102);
        CHECK.due("taken in part", x.bookSeat(0, 2, 1, 2), SeatDesk.FULL);
        CHECK.due("free up to it", x.bookSeat(0, 1, 1, 2), 1);
        CHECK.due("movable", x.book(0, 3, 0), 2);
        CHECK.due("a movable ride gives no way", x.bookSeat(0, 1, 0, 0), SeatDesk.FULL);
        x.block(0, 1, 1, 2);
        CHECK.due("blocked", x.bookSeat(0, 2, 0, 1), SeatDesk.FULL);
        CHECK.due("before the block", x.bookSeat(0, 1, 0, 1), 3);
        x.removeCoach(1);
        CHECK.due("not there any more", x.bookSeat(0, 1, 1, 0), SeatDesk.WRONG);
    }

    private static void bookGroup() {
        SeatDesk x = new SeatDesk(4);
        x.coach(0, 3);
        x.coach(1, 13);
        x.coach(0, 5);
        CHECK.due("n 1", x.bookGroup(0, 1, 0, 1), SeatDesk.WRONG);
        CHECK.due("n 13", x.bookGroup(0, 1, 1, 13), SeatDesk.WRONG);
        CHECK.due("class 2", x.bookGroup(0, 1, 2, 2), SeatDesk.WRONG);
        CHECK.due("to 4 of 4", x.bookGroup(0, 4, 0, 2), SeatDesk.WRONG);
        CHECK.due("nowhere", x.bookGroup(1, 1, 0, 2), SeatDesk.WRONG);
        x.bookSeat(1, 2, 2, 1);
        CHECK.due("the lowest coach that has 4", x.bookGroup(0, 2, 0, 4), 1);
        CHECK.due("first", x.seatOf(1, 0), 200);
        CHECK.due("seat 1 is taken", x.seatOf(2, 0), 202);
        CHECK.due("third", x.seatOf(3, 1), 203);
        CHECK.due("fourth", x.seatOf(4, 1), 204);
        CHECK.due("fixed", x.ride(4, 0), 2);
        CHECK.due("a group of 2", x.bookGroup(0, 3, 0, 2), 5);
        CHECK.due("in coach 0", x.seatOf(5, 0), 0);
        CHECK.due("the lowest", x.seatOf(6, 2), 1);
        CHECK.due("no coach has two", x.bookGroup(0, 2, 0, 2), SeatDesk.FULL);
        CHECK.due("the next number", x.book(2, 3, 0), 7);
        CHECK.due("twelve in class 1", x.bookGroup(0, 1, 1, 12), 8);
        CHECK.due("the last", x.seatOf(19, 0), 111);
        CHECK.due("nobody is moved for a group", x.moved(), 0);
        x.block(2, 4, 2, 3);
        CHECK.due("blocked seats don't count", x.bookGroup(2, 3, 0, 5), SeatDesk.FULL);
        x.removeCoach(1);
        CHECK.due("a coach that is not there", x.bookGroup(2, 3, 1, 2), SeatDesk.FULL);
    }
}
