/** Promises 18 and 19: removeCoach, standing. */
public final class RemoveTest {
    private static final Due CHECK = new Due();

    public static void main(String[] args) {
        wrongNumbers();
        seatedAnew();
        blocksGo();
        changesGo();
        placedInOrder();
        thoseBehindAreInNoSweep();
        sweepOfARemoval();
        whoStandsIsInNoSweep();
        standing();
        CHECK.end();
    }

    private static void wrongNumbers() {
        SeatDesk x = new SeatDesk(3);
        CHECK.due("no coach", x.removeCoach(0), SeatDesk.WRONG);
        x.coach(0, 2);
        CHECK.due("coach -1", x.removeCoach(-1), SeatDesk.WRONG);
        CHECK.due("coach 1 of 1", x.removeCoach(1), SeatDesk.WRONG);
        CHECK.due("far", x.removeCoach(Integer.MAX_VALUE), SeatDesk.WRONG);
        CHECK.due("nobody was in it", x.removeCoach(0), 0);
        CHECK.due("not there any more", x.removeCoach(0), SeatDesk.WRONG);
        CHECK.due("free", x.free(0, 0), 0);
        CHECK.due("the next number", x.coach(0, 1), 1);
    }

    private static void seatedAnew() {
        SeatDesk x = new SeatDesk(4);
        x.coach(0, 3);
        x.coach(0, 4);
        x.book(0, 3, 0);
        x.bookSeat(0, 3, 0, 1);
        x.print(1);
        x.book(0, 3, 0);
        x.wish(2, 0);
        x.bookSeat(1, 2, 1, 3);
        x.print(3);
        CHECK.due("all find seats", x.removeCoach(0), 0);
        CHECK.dueSeats("behind", x, 100, 101, 102, 103);
        for (int ride = 0; ride < 3; ride++) {
            CHECK.due("movable now: ride " + ride, x.ride(ride, 0), 1);
        }
        CHECK.due("the other coach's ride is fixed still", x.ride(3, 0), 2);
        CHECK.due("and printed", x.print(3), false);
        CHECK.due("what was printed counts no more", x.print(1), true);
        CHECK.due("who is placed has not moved", x.moved(), 0);
        CHECK.due("a wish again", x.wish(2, 0), 102);
    }

    private static void blocksGo() {
        SeatDesk x = new SeatDesk(4);
        x.coach(0, 2);
        x.coach(0, 2);
        x.block(0, 1, 0, 2);
        x.block(0, 1, 0, 2);
        x.block(1, 1, 0, 2);
        x.block(0, 0, 2, 3);
        x.block(1, 0, 2, 3);
        CHECK.due("out", x.removeCoach(0), 0);
        CHECK.due("its blocks, too", x.unblock(0, 1, 0, 2), false);
        CHECK.due("not the other's", x.free(0, 0), 1);
        CHECK.due("which can be taken away", x.unblock(1, 1, 0, 2), true);
        CHECK.due("of its first seat, too", x.unblock(1, 0, 2, 3), true);
        CHECK.due("free", x.free(0, 0), 2);
    }

    private static void changesGo() {
        SeatDesk x = new SeatDesk(4);
        x.coach(0, 1);
        x.coach(0, 1);
        x.coach(0, 1);
        x.bookSeat(1, 2, 0, 0);
        x.bookSeat(0, 1, 1, 0);
        x.bookSeat(2, 3, 1, 0);
        x.bookSeat(0, 3, 2, 0);
        CHECK.due("with changes", x.bookChanges(0, 3, 0), 4);
        CHECK.due("in coach 1", x.seatOf(4, 1), 100);
        x.cancel(3);
        CHECK.due("one seat of it is gone: all are lost", x.removeCoach(1), 0);
        CHECK.due("one seat for the whole way", x.seatOf(4, 0), 200);
        CHECK.due("no changes", x.ride(4, 5), 0);
        CHECK.due("movable", x.ride(4, 0), 1);
        CHECK.due("ride 1 behind it in coach 0", x.seatOf(1, 0), 0);
        CHECK.due("ride 2", x.seatOf(2, 2), 0);
    }

    private static void placedInOrder() {
        SeatDesk x = new SeatDesk(4);
        x.coach(0, 3);
        x.coach(0, 1);
        x.bookSeat(1, 3, 0, 2);
        x.bookSeat(0, 1, 0, 1);
        x.bookSeat(0, 2, 0, 0);
        CHECK.due("one stands", x.removeCoach(0), 1);
        CHECK.due("the first in order sits", x.seatOf(0, 1), 100);
        CHECK.due("the second, too", x.seatOf(1, 0), 100);
        CHECK.due("the third stands", x.ride(2, 0), 3);
        CHECK.due("it has no seat", x.seatOf(2, 0), SeatDesk.NONE);
        CHECK.due("its load counts", x.load(0, 0), 2);
        CHECK.due("free behind", x.free(0, 0), 0);
    }

    private static void thoseBehindAreInNoSweep() {
        SeatDesk x = new SeatDesk(4);
        x.coach(0, 2);
        x.coach(0, 2);
        x.book(0, 3, 0);
        x.book(0, 3, 0);
        x.book(0, 3, 0);
        x.book(0, 3, 0);
        CHECK.dueSeats("before", x, 0, 1, 100, 101);
        CHECK.due("two stand", x.removeCoach(0), 2);
        CHECK.due("ride 0", x.ride(0, 0), 3);
        CHECK.due("ride 1", x.ride(1, 0), 3);
        CHECK.due("ride 2 keeps its seat", x.seatOf(2, 0), 100);
        x.cancel(2);
        CHECK.due("nobody who stands is seated by a cancelling", x.ride(0, 0), 3);
        CHECK.due("out", x.removeCoach(1), 1);
        CHECK.due("of these alone", x.standing(2), 3);
        SeatDesk y = new SeatDesk(4);
        y.coach(0, 2);
        y.coach(0, 1);
        y.bookSeat(0, 3, 0, 0);
        y.book(0, 3, 0);
        CHECK.due("both lose their seats, one finds one", y.removeCoach(0), 1);
        CHECK.due("the first by number", y.seatOf(0, 0), 100);
        CHECK.due("the second was movable and stands", y.ride(1, 0), 3);
    }

    private static void sweepOfARemoval() {
        SeatDesk x = new SeatDesk(4);
        x.coach(0, 1);
        x.coach(0, 2);
        x.bookSeat(0, 3, 0, 0);
        x.book(0, 1, 0);
        x.book(1, 3, 0);
        x.book(1, 3, 0);
        x.cancel(2);
        CHECK.due("ride 1", x.seatOf(1, 0), 100);
        CHECK.due("ride 3", x.seatOf(3, 1), 101);
        CHECK.due("a sweep makes room", x.removeCoach(0), 0);
        // By station and number: ride 0 takes seat 100, ride 1 seat 101, ride 3 seat 101.
        CHECK.due("ride 0", x.seatOf(0, 0), 100);
        CHECK.due("ride 1", x.seatOf(1, 0), 101);
        CHECK.due("ride 3", x.seatOf(3, 2), 101);
        CHECK.due("ride 1 has moved, ride 0 was placed", x.moved(), 1);
    }

    private static void whoStandsIsInNoSweep() {
        SeatDesk x = new SeatDesk(4);
        x.coach(0, 1);
        x.coach(0, 2);
        x.bookSeat(0, 1, 0, 0);
        x.bookSeat(0, 1, 1, 0);
        x.bookSeat(0, 1, 1, 1);
        CHECK.due("stands", x.removeCoach(0), 1);
        x.cancel(1);
        x.cancel(2);
        x.book(1, 2, 0);
        x.book(2, 3, 0);
        x.book(2, 3, 0);
        x.cancel(4);
        CHECK.due("ride 3", x.seatOf(3, 1), 100);
        CHECK.due("ride 5", x.seatOf(5, 2), 101);
        CHECK.due("a sweep", x.book(1, 3, 0), 6);
        CHECK.due("still stands", x.ride(0, 0), 3);
        CHECK.due("without a seat", x.seatOf(0, 0), SeatDesk.NONE);
    }

    private static void standing() {
        SeatDesk x = new SeatDesk(3);
        x.coach(0, 4);
        x.coach(1, 1);
        CHECK.due("nobody", x.standing(0), SeatDesk.NONE);
        x.bookGroup(0, 2, 0, 3);
        x.book(0, 1, 1);
        x.book(0, 1, 0);
        CHECK.due("four stand", x.removeCoach(0), 4);
        int[] stand = {0, 1, 2, 4};
        for (int i = 0; i < 4; i++) {
            CHECK.due("standing " + i, x.standing(i), stand[i]);
        }
        CHECK.due("a fifth", x.standing(4), SeatDesk.NONE);
        CHECK.due("i -1", x.standing(-1), SeatDesk.NONE);
        CHECK.due("far", x.standing(Integer.MIN_VALUE), SeatDesk.NONE);
        x.cancel(1);
        CHECK.due("living alone", x.standing(1), 2);
        CHECK.due("and then", x.standing(2), 4);
    }
}
