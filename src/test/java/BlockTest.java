/** Promises 16 and 17: block, unblock. */
public final class BlockTest {
    private static final Due CHECK = new Due();

    public static void main(String[] args) {
        wrongNumbers();
        keepsRidesOut();
        fixedRides();
        movableRides();
        refusedBySweep();
        asOftenAsTold();
        unblockWrong();
        CHECK.end();
    }

    private static void wrongNumbers() {
        SeatDesk x = new SeatDesk(4);
        CHECK.due("no coach", x.block(0, 0, 0, 1), SeatDesk.WRONG);
        x.coach(0, 2);
        int[][] wrong = {{-1, 0, 0, 1}, {1, 0, 0, 1}, {0, -1, 0, 1}, {0, 2, 0, 1}, {0, 0, -1, 1}, {0, 0, 0, 4}, {0, 0, 2, 2}, {0, 0, 2, 1}};
        for (int[] w : wrong) {
            CHECK.due("block " + java.util.Arrays.toString(w), x.block(w[0], w[1], w[2], w[3]), SeatDesk.WRONG);
            CHECK.due("unblock " + java.util.Arrays.toString(w), x.unblock(w[0], w[1], w[2], w[3]), false);
        }
        CHECK.due("good", x.block(0, 1, 0, 3), 1);
        x.removeCoach(0);
        CHECK.due("not there any more: block", x.block(0, 0, 0, 1), SeatDesk.WRONG);
        CHECK.due("not there any more: unblock", x.unblock(0, 1, 0, 3), false);
    }

    private static void keepsRidesOut() {
        SeatDesk x = new SeatDesk(4);
        x.coach(0, 2);
        CHECK.due("block", x.block(0, 0, 1, 2), 1);
        CHECK.due("free there", x.free(1, 0), 1);
        CHECK.due("free before", x.free(0, 0), 2);
        CHECK.due("load", x.load(1, 0), 0);
        CHECK.due("book", x.seatOf(x.book(0, 2, 0), 0), 1);
        CHECK.due("bookSeat", x.bookSeat(1, 2, 0, 0), SeatDesk.FULL);
        CHECK.due("bookGroup", x.bookGroup(1, 2, 0, 2), SeatDesk.FULL);
        CHECK.due("offerChanges", x.offerChanges(0, 3, 0), SeatDesk.NONE);
        CHECK.due("wish", x.wish(0, 0), 1);
        CHECK.due("around it", x.bookSeat(2, 3, 0, 0), 1);
    }

    private static void fixedRides() {
        SeatDesk x = new SeatDesk(4);
        x.coach(0, 2);
        x.bookSeat(1, 2, 0, 0);
        CHECK.due("a fixed ride in part of it", x.block(0, 0, 0, 3), 0);
        CHECK.due("no block was made", x.unblock(0, 0, 0, 3), false);
        CHECK.due("free", x.free(0, 0), 2);
        CHECK.due("up to it", x.block(0, 0, 0, 1), 1);
        CHECK.due("behind it", x.block(0, 0, 2, 3), 1);
        SeatDesk y = new SeatDesk(4);
        y.coach(0, 2);
        y.bookSeat(1, 2, 0, 0);
        y.book(0, 1, 0);
        CHECK.due("a movable one before it", y.seatOf(1, 0), 0);
        CHECK.due("one of both kinds", y.block(0, 0, 0, 2), 0);
        CHECK.due("nobody moved", y.moved(), 0);
        CHECK.due("the movable one alone", y.block(0, 0, 0, 1), 1);
        CHECK.due("has moved", y.seatOf(1, 0), 1);
        CHECK.due("by one", y.moved(), 1);
    }

    private static void movableRides() {
        SeatDesk x = new SeatDesk(4);
        x.coach(0, 2);
        x.coach(1, 1);
        x.book(0, 3, 0);
        x.book(0, 1, 0);
        x.cancel(0);
        x.book(1, 2, 1);
        CHECK.due("ride 1", x.seatOf(1, 0), 1);
        CHECK.due("nobody is there: nobody moves", x.block(0, 1, 1, 2), 1);
        CHECK.due("ride 1 still", x.seatOf(1, 0), 1);
        CHECK.due("moved", x.moved(), 0);
        x.book(2, 3, 0);
        CHECK.due("ride 3", x.seatOf(3, 2), 0);
        CHECK.due("somebody is there: a sweep", x.block(0, 0, 2, 3), 1);
        CHECK.due("ride 3 moves away", x.seatOf(3, 2), 1);
        CHECK.due("ride 1 takes the best, too: none is behind", x.seatOf(1, 0), 1);
        CHECK.due("one has moved", x.moved(), 1);
        CHECK.due("the other class sits", x.seatOf(2, 1), 100);
        SeatDesk y = new SeatDesk(4);
        y.coach(0, 3);
        y.book(0, 3, 0);
        y.book(0, 3, 0);
        y.book(0, 3, 0);
        y.cancel(0);
        CHECK.due("a sweep takes all of the class", y.block(0, 2, 0, 1), 1);
        CHECK.due("ride 1 moves to the lowest", y.seatOf(1, 0), 0);
        CHECK.due("ride 2 to the next", y.seatOf(2, 0), 1);
        CHECK.due("both have moved", y.moved(), 2);
    }

    private static void refusedBySweep() {
        SeatDesk x = new SeatDesk(3);
        x.coach(0, 2);
        x.book(0, 2, 0);
        x.book(1, 2, 0);
        CHECK.due("no other seat", x.block(0, 0, 1, 2), 0);
        CHECK.dueSeats("all sit as before", x, 0, 1);
        CHECK.due("nobody moved", x.moved(), 0);
        CHECK.due("free", x.free(0, 0), 1);
        CHECK.due("no block was made", x.unblock(0, 0, 1, 2), false);
        x.cancel(0);
        CHECK.due("it can be sat on", x.bookSeat(0, 2, 0, 0), 2);
    }

    private static void asOftenAsTold() {
        SeatDesk x = new SeatDesk(5);
        x.coach(0, 1);
        CHECK.due("once", x.block(0, 0, 1, 3), 1);
        CHECK.due("twice", x.block(0, 0, 1, 3), 1);
        CHECK.due("over its end", x.block(0, 0, 2, 4), 1);
        CHECK.due("kept by all", x.free(1, 0) + x.free(2, 0) + x.free(3, 0), 0);
        CHECK.due("not before", x.free(0, 0), 1);
        CHECK.due("away once", x.unblock(0, 0, 1, 3), true);
        CHECK.due("still kept", x.free(1, 0), 0);
        CHECK.due("away twice", x.unblock(0, 0, 1, 3), true);
        CHECK.due("free", x.free(1, 0), 1);
        CHECK.due("kept by the third", x.free(2, 0), 0);
        CHECK.due("no more", x.unblock(0, 0, 1, 3), false);
        CHECK.due("the third", x.unblock(0, 0, 2, 4), true);
        CHECK.due("free", x.free(2, 0) + x.free(3, 0), 2);
        SeatDesk y = new SeatDesk(5);
        y.coach(0, 1);
        for (int k = 0; k < 255; k++) {
            CHECK.due("very often", y.block(0, 0, 0, 4), 1);
        }
        for (int k = 0; k < 255; k++) {
            CHECK.due("kept " + k, y.unblock(0, 0, 0, 4), true);
        }
        CHECK.due("free", y.free(0, 0), 1);
    }

    private static void unblockWrong() {
        SeatDesk x = new SeatDesk(5);
        x.coach(0, 2);
        x.block(0, 0, 1, 4);
        CHECK.due("another seat", x.unblock(0, 1, 1, 4), false);
        CHECK.due("a part", x.unblock(0, 0, 1, 3), false);
        CHECK.due("another part", x.unblock(0, 0, 2, 4), false);
        CHECK.due("more", x.unblock(0, 0, 0, 4), false);
        CHECK.due("kept all the time", x.free(1, 0) + x.free(2, 0) + x.free(3, 0), 3);
        x.block(0, 0, 0, 1);
        CHECK.due("two together", x.unblock(0, 0, 0, 4), false);
        CHECK.due("just these", x.unblock(0, 0, 1, 4), true);
        CHECK.due("and these", x.unblock(0, 0, 0, 1), true);
    }
}
