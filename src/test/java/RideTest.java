/** Promises 11 to 15: wish, print, cancel, shorten, seatOf. */
public final class RideTest {
    private static final Due CHECK = new Due();

    public static void main(String[] args) {
        wishWrong();
        wishFree();
        wishSweeps();
        wishTriesFurther();
        wishNone();
        wishOfOneWhoStands();
        print();
        cancel();
        shorten();
        seatOf();
        CHECK.end();
    }

    private static void wishWrong() {
        SeatDesk x = new SeatDesk(3);
        x.coach(0, 4);
        CHECK.due("no ride", x.wish(0, 0), SeatDesk.WRONG);
        x.book(0, 2, 0);
        CHECK.due("ride -1", x.wish(-1, 0), SeatDesk.WRONG);
        CHECK.due("ride 1 of 1", x.wish(1, 0), SeatDesk.WRONG);
        CHECK.due("mask -1", x.wish(0, -1), SeatDesk.WRONG);
        CHECK.due("mask 256", x.wish(0, 256), SeatDesk.WRONG);
        CHECK.due("still movable", x.ride(0, 0), 1);
        CHECK.due("mask 0", x.wish(0, 0), 0);
        CHECK.due("wished already", x.wish(0, 0), SeatDesk.WRONG);
        x.book(0, 2, 0);
        x.print(1);
        CHECK.due("printed", x.wish(1, 0), SeatDesk.WRONG);
        x.bookSeat(0, 1, 0, 2);
        CHECK.due("a chosen seat", x.wish(2, 0), SeatDesk.WRONG);
        x.book(0, 2, 0);
        x.cancel(3);
        CHECK.due("cancelled", x.wish(3, 0), SeatDesk.WRONG);
        x.bookGroup(1, 2, 0, 2);
        CHECK.due("in a group", x.wish(4, 0), SeatDesk.WRONG);
    }

    private static void wishFree() {
        SeatDesk x = new SeatDesk(4);
        x.coach(1, 1);
        x.coach(0, 4);
        x.flags(0, 0, 255);
        x.flags(1, 1, 5);
        x.flags(1, 2, 7);
        x.flags(1, 3, 7);
        CHECK.due("a ride", x.book(0, 2, 0), 0);
        CHECK.due("another", x.book(0, 2, 0), 1);
        CHECK.dueSeats("before", x, 100, 101);
        CHECK.due("all flags of the mask, in its class", x.wish(0, 6), 102);
        CHECK.due("it sits there", x.seatOf(0, 1), 102);
        CHECK.due("fixed", x.ride(0, 0), 2);
        CHECK.due("its old seat is free", x.bookSeat(0, 3, 1, 0), 2);
        CHECK.due("its own seat is free for it", x.wish(1, 4), 101);
        CHECK.due("a third", x.book(0, 1, 0), 3);
        CHECK.due("sits", x.seatOf(3, 0), 103);
        CHECK.due("none has that", x.wish(3, 8), SeatDesk.NONE);
        CHECK.due("still movable", x.ride(3, 0), 1);
        CHECK.due("where it sat", x.seatOf(3, 0), 103);
        CHECK.due("nobody moved", x.moved(), 0);
        SeatDesk y = new SeatDesk(4);
        y.coach(0, 2);
        y.book(0, 3, 0);
        y.book(0, 1, 0);
        y.cancel(0);
        y.block(0, 0, 2, 3);
        CHECK.due("the lowest, not the best or its own", y.wish(1, 0), 0);
        CHECK.due("who wishes has not moved", y.moved(), 0);
    }

    private static void wishSweeps() {
        SeatDesk x = new SeatDesk(4);
        x.coach(0, 3);
        x.flags(0, 0, 1);
        x.book(0, 3, 0);
        x.book(1, 3, 0);
        CHECK.dueSeats("before", x, 0, 1);
        CHECK.due("who sits there gives way", x.wish(1, 1), 0);
        CHECK.dueSeats("behind", x, 1, 0);
        CHECK.due("ride 0 moved alone", x.moved(), 1);
        CHECK.due("ride 0 is movable", x.ride(0, 0), 1);
        CHECK.due("ride 1 is fixed", x.ride(1, 0), 2);
        CHECK.due("a seat is taken only once", x.free(0, 0), 2);
        CHECK.due("on stretch 1", x.free(1, 0), 1);
    }

    private static void wishTriesFurther() {
        SeatDesk x = new SeatDesk(4);
        x.coach(0, 4);
        x.flags(0, 0, 1);
        x.flags(0, 1, 1);
        x.flags(0, 2, 1);
        x.bookSeat(0, 1, 0, 0);
        x.block(0, 1, 0, 1);
        x.bookSeat(1, 2, 0, 3);
        x.book(0, 3, 0);
        x.book(0, 1, 0);
        CHECK.dueSeats("before", x, 0, 3, 2, 3);
        CHECK.due("seat 0 has a fixed ride, 1 a block, and from 2 nobody can go", x.wish(3, 1), SeatDesk.NONE);
        CHECK.dueSeats("nothing changed", x, 0, 3, 2, 3);
        CHECK.due("nobody moved", x.moved(), 0);
        CHECK.due("shorter", x.shorten(2, 0, 1), true);
        CHECK.due("now the other can go to seat 3", x.wish(3, 1), 2);
        CHECK.dueSeats("behind", x, 0, 3, 3, 2);
        CHECK.due("moved", x.moved(), 1);
        SeatDesk y = new SeatDesk(4);
        y.coach(0, 3);
        y.flags(0, 0, 1);
        y.flags(0, 1, 1);
        y.bookSeat(2, 3, 0, 1);
        y.bookSeat(1, 2, 0, 2);
        y.book(0, 3, 0);
        y.book(0, 1, 0);
        y.book(0, 1, 0);
        CHECK.dueSeats("before", y, 1, 2, 0, 2, 1);
        CHECK.due("from seat 0 nobody can go, from 1 one can", y.wish(3, 1), 1);
        CHECK.dueSeats("behind", y, 1, 2, 0, 1, 2);
        CHECK.due("moved", y.moved(), 1);
    }

    private static void wishNone() {
        SeatDesk x = new SeatDesk(3);
        x.coach(0, 2);
        x.flags(0, 0, 1);
        x.book(0, 2, 0);
        x.book(0, 2, 0);
        x.print(0);
        CHECK.due("a fixed ride gives no way", x.wish(1, 1), SeatDesk.NONE);
        CHECK.dueSeats("all sit as before", x, 0, 1);
        CHECK.due("movable still", x.ride(1, 0), 1);
        CHECK.due("free", x.free(0, 0), 0);
        SeatDesk y = new SeatDesk(3);
        y.coach(0, 1);
        y.coach(0, 1);
        y.flags(0, 0, 1);
        y.book(0, 2, 0);
        y.book(0, 2, 0);
        CHECK.due("they change places", y.wish(1, 1), 0);
        CHECK.dueSeats("behind", y, 100, 0);
        CHECK.due("one has moved", y.moved(), 1);
    }

    private static void wishOfOneWhoStands() {
        SeatDesk x = new SeatDesk(3);
        x.coach(0, 1);
        x.coach(0, 1);
        x.bookSeat(0, 2, 0, 0);
        x.bookSeat(0, 2, 1, 0);
        CHECK.due("one stands", x.removeCoach(1), 1);
        CHECK.due("no seat is free", x.wish(1, 0), SeatDesk.WRONG);
        CHECK.due("a wrong mask", x.wish(1, 256), SeatDesk.WRONG);
        CHECK.due("a seat is free", x.cancel(0), true);
        CHECK.due("it is living and not fixed, but not movable", x.wish(1, 0), SeatDesk.WRONG);
        CHECK.due("stands still", x.ride(1, 0), 3);
        CHECK.due("told among those who stand", x.standing(0), 1);
        CHECK.due("without a seat", x.seatOf(1, 0), SeatDesk.NONE);
        CHECK.due("the seat is free still", x.free(0, 0), 1);
        CHECK.due("nobody moved", x.moved(), 0);
        SeatDesk y = new SeatDesk(3);
        y.coach(0, 1);
        y.coach(0, 2);
        y.flags(1, 0, 1);
        y.bookSeat(0, 2, 0, 0);
        y.book(0, 2, 0);
        y.bookSeat(0, 2, 1, 1);
        CHECK.due("ride 0 stands", y.removeCoach(0), 1);
        CHECK.due("another one goes", y.cancel(2), true);
        CHECK.due("a sweep could make room", y.wish(0, 1), SeatDesk.WRONG);
        CHECK.due("ride 1 sits where it sat", y.seatOf(1, 0), 100);
        CHECK.due("it is movable and can wish", y.wish(1, 1), 100);
    }

    private static void print() {
        SeatDesk x = new SeatDesk(3);
        x.coach(0, 3);
        CHECK.due("no ride", x.print(0), false);
        x.book(0, 2, 0);
        CHECK.due("ride -1", x.print(-1), false);
        CHECK.due("a movable one", x.print(0), true);
        CHECK.due("fixed", x.ride(0, 0), 2);
        CHECK.due("printed already", x.print(0), false);
        x.bookSeat(0, 2, 0, 1);
        CHECK.due("a fixed one", x.print(1), true);
        CHECK.due("printed already, too", x.print(1), false);
        x.book(0, 2, 0);
        x.wish(2, 0);
        CHECK.due("a wished one", x.print(2), true);
        x.cancel(2);
        CHECK.due("cancelled", x.print(2), false);
        x.coach(1, 1);
        x.book(0, 2, 1);
        x.removeCoach(1);
        CHECK.due("stands", x.print(3), false);
        CHECK.due("stands still", x.ride(3, 0), 3);
    }

    private static void cancel() {
        SeatDesk x = new SeatDesk(3);
        x.coach(0, 1);
        x.coach(1, 1);
        CHECK.due("no ride", x.cancel(0), false);
        x.book(0, 2, 0);
        CHECK.due("ride -1", x.cancel(-1), false);
        CHECK.due("ride 1 of 1", x.cancel(1), false);
        x.print(0);
        CHECK.due("a printed one", x.cancel(0), true);
        CHECK.due("cancelled", x.ride(0, 0), 0);
        CHECK.due("only once", x.cancel(0), false);
        CHECK.due("no seat", x.seatOf(0, 0), SeatDesk.NONE);
        CHECK.due("no load", x.load(0, 0), 0);
        CHECK.due("free", x.free(1, 0), 1);
        CHECK.due("numbers go on", x.book(0, 2, 0), 1);
        CHECK.due("class 1", x.book(0, 1, 1), 2);
        CHECK.due("out", x.removeCoach(1), 1);
        CHECK.due("one that stands", x.cancel(2), true);
        CHECK.due("nobody stands", x.standing(0), SeatDesk.NONE);
    }

    private static void shorten() {
        SeatDesk x = new SeatDesk(6);
        x.coach(0, 1);
        CHECK.due("no ride", x.shorten(0, 0, 1), false);
        x.book(1, 5, 0);
        CHECK.due("begins earlier", x.shorten(0, 0, 3), false);
        CHECK.due("ends at none", x.shorten(0, 2, 6), false);
        CHECK.due("nowhere", x.shorten(0, 2, 2), false);
        CHECK.due("backwards", x.shorten(0, 3, 2), false);
        CHECK.due("the same way", x.shorten(0, 1, 5), true);
        CHECK.due("movable still", x.ride(0, 0), 1);
        CHECK.due("shorter", x.shorten(0, 2, 4), true);
        CHECK.due("from", x.ride(0, 1), 2);
        CHECK.due("to", x.ride(0, 2), 4);
        CHECK.due("before it", x.seatOf(0, 1), SeatDesk.NONE);
        CHECK.due("its seat", x.seatOf(0, 2), 0);
        CHECK.due("its seat", x.seatOf(0, 3), 0);
        CHECK.due("behind it", x.seatOf(0, 4), SeatDesk.NONE);
        CHECK.due("not longer again", x.shorten(0, 1, 4), false);
        CHECK.due("not later", x.shorten(0, 3, 5), false);
        CHECK.due("free before", x.book(0, 2, 0), 1);
        CHECK.due("free behind", x.bookSeat(4, 5, 0, 0), 2);
        CHECK.due("printed", x.print(0), true);
        CHECK.due("a printed one", x.shorten(0, 3, 4), true);
        CHECK.due("is printed still", x.print(0), false);
        x.cancel(1);
        CHECK.due("cancelled", x.shorten(1, 0, 1), false);
        x.removeCoach(0);
        CHECK.due("one that stands", x.shorten(0, 3, 4), false);
    }

    private static void seatOf() {
        SeatDesk x = new SeatDesk(5);
        x.coach(1, 1);
        x.coach(0, 1);
        CHECK.due("no ride", x.seatOf(0, 0), SeatDesk.NONE);
        x.book(1, 3, 0);
        CHECK.due("ride -1", x.seatOf(-1, 1), SeatDesk.NONE);
        CHECK.due("ride 1 of 1", x.seatOf(1, 1), SeatDesk.NONE);
        CHECK.due("stretch -1", x.seatOf(0, -1), SeatDesk.NONE);
        CHECK.due("before", x.seatOf(0, 0), SeatDesk.NONE);
        CHECK.due("first", x.seatOf(0, 1), 100);
        CHECK.due("last", x.seatOf(0, 2), 100);
        CHECK.due("behind", x.seatOf(0, 3), SeatDesk.NONE);
        CHECK.due("no stretch", x.seatOf(0, 4), SeatDesk.NONE);
        CHECK.due("far", x.seatOf(0, Integer.MAX_VALUE), SeatDesk.NONE);
        x.removeCoach(1);
        CHECK.due("stands", x.seatOf(0, 1), SeatDesk.NONE);
        x.cancel(0);
        CHECK.due("cancelled", x.seatOf(0, 1), SeatDesk.NONE);
    }
}
