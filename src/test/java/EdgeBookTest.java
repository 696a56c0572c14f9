/** Promises 5 to 8, a test for each sentence that names a boundary case: book, agencyBook, bookSeat, bookGroup. */
public final class EdgeBookTest {
    private static final int WRONG = SeatDesk.WRONG, FULL = SeatDesk.FULL, BROKEN = SeatDesk.BROKEN, OVER = SeatDesk.OVER, NONE = SeatDesk.NONE;
    private static final int MIN = Integer.MIN_VALUE, MAX = Integer.MAX_VALUE;
    private static final Due CHECK = new Due();

    public static void main(String[] args) {
        movableAndPlaced();
        wrongBeforeFull();
        whenAllNumbersWereGiven();
        agencyLikewise();
        overAfterWrong();
        overBeforeTheOthers();
        moreThanItsQuotaOnAStretch();
        fixedOnThisSeat();
        seatWrong();
        seatNotFree();
        groupSizes();
        groupInOneCoach();
        groupInTheLowestCoach();
        groupOnTheLowestSeats();
        groupNumbers();
        groupWrong();
        groupFull();
        CHECK.end();
    }

    private static void movableAndPlaced() {
        CHECK.sentence("A movable ride, placed: its number");
        SeatDesk x = new SeatDesk(4);
        x.coach(0, 1);
        CHECK.due("the only seat, first stretch", x.book(0, 1, 0), 0);
        CHECK.due("the last stretch", x.book(2, 3, 0), 1);
        CHECK.due("the one between", x.book(1, 2, 0), 2);
        for (int ride = 0; ride < 3; ride++) {
            CHECK.due("movable", x.ride(ride, 0), 1);
            CHECK.due("of no agency", x.ride(ride, 4), NONE);
            CHECK.due("no changes", x.ride(ride, 5), 0);
        }
        for (int stretch = 0; stretch < 3; stretch++) {
            CHECK.due("no seat is left on " + stretch, x.free(stretch, 0), 0);
            CHECK.due("nor for another", x.book(stretch, stretch + 1, 0), FULL);
        }
    }

    private static void wrongBeforeFull() {
        CHECK.sentence("WRONG (also when 150 were given), FULL, BROKEN");
        SeatDesk x = new SeatDesk(3);
        int[][] wrong = {{-1, 1, 0}, {0, 3, 0}, {1, 1, 0}, {2, 1, 0}, {0, 1, -1}, {0, 1, 2}};
        for (int[] w : wrong) {
            CHECK.due("no seat, but wrong", x.book(w[0], w[1], w[2]), WRONG);
        }
        CHECK.due("no seat", x.book(0, 1, 0), FULL);
        x.coach(0, 2);
        x.bookSeat(0, 1, 0, 0);
        x.bookSeat(1, 2, 0, 1);
        CHECK.due("broken space", x.book(0, 2, 0), BROKEN);
    }

    /** 149 of the 150 numbers are given; class 1 has one seat, free all the way. */
    private static SeatDesk oneNumberLeft() {
        SeatDesk x = new SeatDesk(30);
        x.coach(0, 20);
        x.coach(1, 1);
        for (int k = 0; k < 12; k++) {
            x.bookGroup(k, k + 1, 0, 12);
        }
        CHECK.due("149 were given", x.bookGroup(12, 13, 0, 5), 144);
        return x;
    }

    private static void whenAllNumbersWereGiven() {
        CHECK.sentence("also when 150 were given");
        SeatDesk x = oneNumberLeft();
        CHECK.due("the last number", x.book(0, 29, 1), 149);
        CHECK.due("a seat is free", x.book(20, 21, 0), WRONG);
        CHECK.due("none is", x.book(0, 29, 1), WRONG);
        CHECK.due("cancelled", x.cancel(149), true);
        CHECK.due("150 were given all the same", x.book(0, 29, 1), WRONG);
        SeatDesk y = oneNumberLeft();
        y.bookSeat(0, 1, 1, 0);
        CHECK.due("the last one is there", y.ride(149, 0), 2);
        y.quota(20, 0, 1);
        CHECK.due("agencyBook", y.agencyBook(0, 20, 21, 0), WRONG);
        CHECK.due("agencyBook over its quota", y.agencyBook(0, 21, 22, 0), WRONG);
        CHECK.due("bookSeat", y.bookSeat(20, 21, 0, 0), WRONG);
        CHECK.due("bookSeat on one that isn't free", y.bookSeat(0, 1, 1, 0), WRONG);
        CHECK.due("bookGroup", y.bookGroup(20, 21, 0, 2), WRONG);
        CHECK.due("bookGroup where no coach has room", y.bookGroup(0, 1, 1, 2), WRONG);
        CHECK.due("bookChanges", y.bookChanges(20, 21, 0), WRONG);
        CHECK.due("bookChanges where all are taken", y.bookChanges(0, 1, 1), WRONG);
        CHECK.due("offerChanges books nothing", y.offerChanges(20, 21, 0), 0);
        SeatDesk z = oneNumberLeft();
        z.quota(20, 0, 1);
        CHECK.due("the last number for an agency", z.agencyBook(0, 20, 21, 0), 149);
        SeatDesk w = oneNumberLeft();
        CHECK.due("the last number with changes", w.bookChanges(20, 21, 0), 149);
    }

    private static void agencyLikewise() {
        CHECK.sentence("Likewise for an agency");
        SeatDesk x = new SeatDesk(4);
        x.coach(0, 2);
        for (int stretch = 0; stretch < 3; stretch++) {
            x.quota(stretch, 3, 10);
        }
        x.bookSeat(0, 1, 0, 1);
        CHECK.due("placed", x.agencyBook(3, 1, 2, 0), 1);
        CHECK.due("its seat", x.seatOf(1, 1), 0);
        CHECK.due("its agency", x.ride(1, 4), 3);
        CHECK.due("movable", x.ride(1, 0), 1);
        CHECK.due("by a sweep", x.agencyBook(3, 0, 2, 0), 2);
        CHECK.dueSeats("behind", x, 1, 1, 0);
        CHECK.due("full", x.agencyBook(3, 0, 1, 0), FULL);
        x.bookSeat(2, 3, 0, 1);
        x.print(1);
        x.print(2);
        x.cancel(0);
        CHECK.due("full", x.agencyBook(3, 0, 3, 0), FULL);
        x.cancel(1);
        CHECK.due("broken", x.agencyBook(3, 0, 3, 0), BROKEN);
        CHECK.due("the next number", x.agencyBook(3, 0, 1, 0), 4);
    }

    private static void overAfterWrong() {
        CHECK.sentence("OVER, after WRONG");
        SeatDesk x = new SeatDesk(3);
        x.coach(0, 2);
        int[][] wrong = {{-1, 0, 1, 0}, {4, 0, 1, 0}, {MIN, 0, 1, 0}, {MAX, 0, 1, 0}, {0, -1, 1, 0}, {0, 0, 3, 0}, {0, 1, 1, 0},
            {0, 2, 1, 0}, {0, 0, 1, 2}, {0, 0, 1, -1}};
        for (int[] w : wrong) {
            CHECK.due("agency " + w[0] + " from " + w[1] + " to " + w[2] + " in " + w[3], x.agencyBook(w[0], w[1], w[2], w[3]), WRONG);
        }
        CHECK.due("not wrong", x.agencyBook(0, 0, 1, 0), OVER);
    }

    private static void overBeforeTheOthers() {
        CHECK.sentence("and before the others");
        SeatDesk x = new SeatDesk(3);
        CHECK.due("full, too", x.agencyBook(0, 0, 1, 0), OVER);
        x.coach(0, 2);
        x.bookSeat(0, 1, 0, 0);
        x.bookSeat(1, 2, 0, 1);
        CHECK.due("broken, too", x.agencyBook(0, 0, 2, 0), OVER);
        CHECK.due("room, but over", x.agencyBook(0, 0, 1, 0), OVER);
        x.quota(0, 0, 1);
        x.quota(1, 0, 1);
        CHECK.due("broken alone", x.agencyBook(0, 0, 2, 0), BROKEN);
        x.bookSeat(0, 1, 0, 1);
        CHECK.due("full alone", x.agencyBook(0, 0, 2, 0), FULL);
    }

    private static void moreThanItsQuotaOnAStretch() {
        CHECK.sentence("when it would have more than its quota on a stretch");
        for (int low = 0; low < 4; low++) {
            SeatDesk x = new SeatDesk(6);
            x.coach(0, 5);
            for (int stretch = 0; stretch < 5; stretch++) {
                x.quota(stretch, 1, stretch == low ? 1 : 3);
            }
            CHECK.due("one", x.agencyBook(1, 0, 5, 0), 0);
            CHECK.due("another would be over on stretch " + low, x.agencyBook(1, 0, 5, 0), OVER);
            CHECK.due("as its last stretch", x.agencyBook(1, 0, low + 1, 0), OVER);
            CHECK.due("as its first stretch", x.agencyBook(1, low, 5, 0), OVER);
            CHECK.due("behind it there is room", x.agencyBook(1, low + 1, 5, 0), 1);
            if (low > 0) {
                CHECK.due("before it, too", x.agencyBook(1, 0, low, 0), 2);
            }
        }
        SeatDesk y = new SeatDesk(3);
        y.coach(0, 5);
        y.quota(0, 1, 2);
        CHECK.due("first of two", y.agencyBook(1, 0, 1, 0), 0);
        CHECK.due("second of two: not more than its quota", y.agencyBook(1, 0, 1, 0), 1);
        CHECK.due("third of two", y.agencyBook(1, 0, 1, 0), OVER);
        CHECK.due("nobody's quota counts for others", y.book(0, 1, 0), 2);
    }

    private static void fixedOnThisSeat() {
        CHECK.sentence("A fixed ride on this seat, of its class: its number");
        SeatDesk x = new SeatDesk(4);
        x.coach(0, 2);
        x.coach(1, 2);
        CHECK.due("the first seat", x.bookSeat(0, 3, 0, 0), 0);
        CHECK.due("the last seat", x.bookSeat(2, 3, 1, 1), 1);
        CHECK.due("class 0", x.ride(0, 3), 0);
        CHECK.due("class 1", x.ride(1, 3), 1);
        CHECK.due("its load", x.load(2, 1), 1);
        for (int ride = 0; ride < 2; ride++) {
            CHECK.due("fixed", x.ride(ride, 0), 2);
            CHECK.due("of no agency", x.ride(ride, 4), NONE);
            CHECK.due("no changes", x.ride(ride, 5), 0);
        }
        CHECK.dueSeats("there", x, 0, 101);
        CHECK.due("on its last stretch", x.seatOf(0, 2), 0);
    }

    private static void seatWrong() {
        CHECK.sentence("its number; WRONG");
        SeatDesk x = new SeatDesk(4);
        x.coach(0, 2);
        x.coach(0, 2);
        x.bookSeat(0, 3, 0, 0);
        int[][] none = {{-1, 0}, {2, 0}, {8, 0}, {MIN, 0}, {MAX, 0}, {0, -1}, {0, 2}, {1, 2}, {0, 20}, {0, MIN}, {0, MAX}, {0, 100}};
        for (int[] seat : none) {
            CHECK.due("coach " + seat[0] + ", seat " + seat[1], x.bookSeat(0, 1, seat[0], seat[1]), WRONG);
        }
        int[][] ways = {{-1, 1}, {0, 4}, {3, 4}, {1, 1}, {2, 1}};
        for (int[] way : ways) {
            CHECK.due("before FULL: from " + way[0] + " to " + way[1], x.bookSeat(way[0], way[1], 0, 0), WRONG);
        }
        x.removeCoach(1);
        CHECK.due("a coach that is out", x.bookSeat(0, 1, 1, 0), WRONG);
    }

    private static void seatNotFree() {
        CHECK.sentence("FULL when the seat isn't free through it");
        SeatDesk x = new SeatDesk(6);
        x.coach(0, 3);
        x.bookSeat(2, 3, 0, 0);
        x.block(0, 1, 2, 3);
        for (int seat = 0; seat < 2; seat++) {
            CHECK.due("just this", x.bookSeat(2, 3, 0, seat), FULL);
            CHECK.due("as its first stretch", x.bookSeat(2, 5, 0, seat), FULL);
            CHECK.due("as its last stretch", x.bookSeat(0, 3, 0, seat), FULL);
            CHECK.due("in the midst", x.bookSeat(0, 5, 0, seat), FULL);
        }
        CHECK.due("up to the ride", x.bookSeat(0, 2, 0, 0), 1);
        CHECK.due("behind the ride", x.bookSeat(3, 5, 0, 0), 2);
        CHECK.due("up to the block", x.bookSeat(0, 2, 0, 1), 3);
        CHECK.due("behind the block", x.bookSeat(3, 5, 0, 1), 4);
        CHECK.due("a movable ride", x.book(1, 2, 0), 5);
        CHECK.due("on the third seat", x.seatOf(5, 1), 2);
        CHECK.due("does not give way", x.bookSeat(1, 2, 0, 2), FULL);
        CHECK.due("nobody moved", x.moved(), 0);
    }

    private static void groupSizes() {
        CHECK.sentence("n (2 .. 12) fixed rides in one coach");
        int[] none = {1, 13, 0, -1, -2, 14, 20, 150, 256 + 2, MIN, MAX};
        SeatDesk x = new SeatDesk(3);
        x.coach(0, 20);
        for (int n : none) {
            CHECK.due("n " + n, x.bookGroup(0, 1, 0, n), WRONG);
        }
        CHECK.due("nobody", x.load(0, 0), 0);
        for (int n = 2; n <= 12; n++) {
            SeatDesk y = new SeatDesk(3);
            y.coach(0, 20);
            CHECK.due("n " + n, y.bookGroup(0, 2, 0, n), 0);
            CHECK.due("so many go", y.load(1, 0), n);
            CHECK.due("so many seats are left", y.free(0, 0), 20 - n);
            CHECK.due("the last is fixed", y.ride(n - 1, 0), 2);
            CHECK.due("the next number", y.book(0, 1, 0), n);
        }
        CHECK.due("wrong before full", new SeatDesk(3).bookGroup(0, 1, 0, 1), WRONG);
        CHECK.due("full", new SeatDesk(3).bookGroup(0, 1, 0, 2), FULL);
    }

    private static void groupInOneCoach() {
        CHECK.sentence("in one coach");
        SeatDesk x = new SeatDesk(2);
        x.coach(0, 2);
        x.coach(0, 2);
        CHECK.due("three seats, but in two coaches", x.bookGroup(0, 1, 0, 3), FULL);
        CHECK.due("two", x.bookGroup(0, 1, 0, 2), 0);
        CHECK.dueSeats("in the first", x, 0, 1);
        x.bookSeat(0, 1, 1, 0);
        x.cancel(0);
        CHECK.due("one here, one there", x.bookGroup(0, 1, 0, 2), FULL);
    }

    private static void groupInTheLowestCoach() {
        CHECK.sentence("the lowest that has n seats free through the ride");
        SeatDesk x = new SeatDesk(4);
        x.coach(1, 9);
        x.coach(0, 9);
        x.coach(0, 2);
        x.coach(0, 3);
        x.coach(0, 4);
        x.coach(0, 9);
        CHECK.due("coach 1 is taken out", x.removeCoach(1), 0);
        x.block(4, 0, 1, 2);
        x.block(4, 1, 2, 3);
        CHECK.due("just three", x.bookGroup(1, 3, 0, 3), 0);
        CHECK.dueSeats("coach 2 has too few", x, 300, 301, 302);
        CHECK.due("three more: coach 4 has two on the whole way", x.bookGroup(1, 3, 0, 3), 3);
        CHECK.dueSeats("so they go on", x, 300, 301, 302, 500, 501, 502);
        CHECK.due("on stretch 2 it has three", x.bookGroup(2, 3, 0, 3), 6);
        CHECK.due("the first of them", x.seatOf(6, 2), 400);
        CHECK.due("the second", x.seatOf(7, 2), 402);
        CHECK.due("two", x.bookGroup(1, 3, 0, 2), 9);
        CHECK.due("are in coach 2", x.seatOf(10, 1), 201);
    }

    private static void groupOnTheLowestSeats() {
        CHECK.sentence("on the lowest of these");
        SeatDesk x = new SeatDesk(4);
        x.coach(0, 7);
        x.bookSeat(0, 1, 0, 0);
        x.block(0, 2, 1, 2);
        x.book(1, 2, 0);
        CHECK.due("a movable one", x.seatOf(1, 1), 0);
        x.bookSeat(2, 3, 0, 6);
        // Space behind does not count for a group: seat 6 would be the best of them.
        CHECK.due("a group", x.bookGroup(0, 2, 0, 3), 3);
        CHECK.dueSeats("on 1, 3 and 4", x, 0, 0, 6, 1, 3, 4);
        CHECK.due("to the end of their way", x.seatOf(5, 1), 4);
        CHECK.due("and no further", x.seatOf(5, 2), NONE);
    }

    private static void groupNumbers() {
        CHECK.sentence("the first one's number, the others follow");
        SeatDesk x = new SeatDesk(2);
        x.coach(1, 20);
        CHECK.due("one before", x.book(0, 1, 1), 0);
        CHECK.due("four", x.bookGroup(0, 1, 1, 4), 1);
        CHECK.due("one behind", x.book(0, 1, 1), 5);
        for (int ride = 1; ride <= 4; ride++) {
            CHECK.due("seat of " + ride, x.seatOf(ride, 0), ride);
            CHECK.due("class of " + ride, x.ride(ride, 3), 1);
            CHECK.due("agency of " + ride, x.ride(ride, 4), NONE);
            CHECK.due("state of " + ride, x.ride(ride, 0), 2);
        }
    }

    private static void groupWrong() {
        CHECK.sentence("the others follow. WRONG");
        SeatDesk x = new SeatDesk(4);
        x.coach(0, 1);
        int[][] wrong = {{-1, 1, 0, 2}, {0, 4, 0, 2}, {3, 4, 0, 2}, {1, 1, 0, 2}, {2, 1, 0, 2}, {0, 1, -1, 2}, {0, 1, 2, 2}, {0, 1, MIN, 2},
            {0, 1, MAX, 2}, {0, 1, 0, 1}, {0, 1, 0, 13}};
        for (int[] w : wrong) {
            CHECK.due("before FULL: from " + w[0] + " to " + w[1] + " in " + w[2] + ", n " + w[3], x.bookGroup(w[0], w[1], w[2], w[3]), WRONG);
        }
        CHECK.due("full", x.bookGroup(0, 1, 0, 2), FULL);
        CHECK.due("no number was given", x.book(0, 1, 0), 0);
    }

    private static void groupFull() {
        CHECK.sentence("FULL when no coach has");
        SeatDesk x = new SeatDesk(3);
        x.coach(0, 4);
        x.coach(1, 12);
        x.bookSeat(0, 1, 0, 2);
        CHECK.due("three of four on the whole way", x.bookGroup(0, 2, 0, 4), FULL);
        CHECK.due("four of four on the last stretch", x.bookGroup(1, 2, 0, 4), 1);
        CHECK.due("none is left there", x.bookGroup(1, 2, 0, 2), FULL);
        CHECK.due("three are on the other", x.bookGroup(0, 1, 0, 3), 5);
        CHECK.due("none any more", x.bookGroup(0, 1, 0, 2), FULL);
        CHECK.due("twelve in the other class", x.bookGroup(0, 2, 1, 12), 8);
        CHECK.due("a movable one could go, but a group moves nobody", x.moved(), 0);
        SeatDesk y = new SeatDesk(3);
        y.coach(0, 2);
        y.coach(0, 1);
        y.book(0, 1, 0);
        CHECK.due("ride 0 sits in coach 0", y.seatOf(0, 0), 0);
        CHECK.due("it could sit in coach 1, but nobody is moved", y.bookGroup(0, 1, 0, 2), FULL);
        CHECK.due("it sits there still", y.seatOf(0, 0), 0);
    }
}
