/** Promises 11 to 15, a test for each sentence that names a boundary case: wish, print, cancel, shorten, seatOf. */
public final class EdgeRideTest {
    private static final int WRONG = SeatDesk.WRONG, FULL = SeatDesk.FULL, NONE = SeatDesk.NONE;
    private static final int MIN = Integer.MIN_VALUE, MAX = Integer.MAX_VALUE;
    private static final Due CHECK = new Due();

    public static void main(String[] args) {
        wishGetsAllFlags();
        wishOfItsClass();
        wishIsFixed();
        wishLowestFree();
        wishFreeBeforeSweep();
        wishNoFixedRideThere();
        wishNoBlockThere();
        wishOthersCanBeSeated();
        wishSweepsAllOthers();
        wishNone();
        wishNoLivingRide();
        wishOfAFixedOne();
        wishOfOneThatStands();
        wishMaskNotAsSaid();
        printFixes();
        printNotLiving();
        printStands();
        printPrinted();
        cancelIsNoMore();
        cancelNotLiving();
        shortenKeepsSeats();
        shortenWithinItsWay();
        shortenToALaterOne();
        shortenStandsOrNotLiving();
        seatOnAStretch();
        seatWhereItDoesNotGo();
        seatOfOneThatStands();
        seatOfNoLivingRide();
        CHECK.end();
    }

    private static void wishGetsAllFlags() {
        CHECK.sentence("A movable ride gets a seat of its class that has all flags of the mask");
        SeatDesk x = new SeatDesk(2);
        x.coach(0, 6);
        int[] flags = {0, 1, 2, 3, 254, 255};
        for (int seat = 0; seat < 6; seat++) {
            x.flags(0, seat, flags[seat]);
        }
        int[] masks = {255, 254, 3, 2, 1, 0};
        for (int ride = 0; ride < 6; ride++) {
            x.book(0, 1, 0);
            CHECK.due("mask " + masks[ride], x.wish(ride, masks[ride]), 5 - ride);
            CHECK.due("it sits there", x.seatOf(ride, 0), 5 - ride);
        }
        CHECK.due("nobody had to move", x.moved(), 0);
        SeatDesk y = new SeatDesk(2);
        y.coach(0, 3);
        y.flags(0, 0, 5);
        y.flags(0, 1, 6);
        y.book(0, 1, 0);
        CHECK.due("no one seat has all of them", y.wish(0, 7), NONE);
        y.flags(0, 2, 15);
        CHECK.due("more than all", y.wish(0, 7), 2);
    }

    private static void wishOfItsClass() {
        CHECK.sentence("a seat of its class");
        SeatDesk x = new SeatDesk(2);
        x.coach(1, 2);
        x.coach(0, 1);
        x.coach(0, 1);
        x.flags(0, 0, 1);
        x.flags(1, 0, 1);
        x.book(0, 1, 0);
        x.book(0, 1, 1);
        CHECK.due("the coach with the other one is out", x.removeCoach(1), 0);
        CHECK.due("seated anew", x.seatOf(0, 0), 200);
        CHECK.due("none that is there, of its class", x.wish(0, 1), NONE);
        CHECK.due("the other class", x.wish(1, 1), 0);
        CHECK.due("any", x.wish(0, 0), 200);
    }

    private static void wishIsFixed() {
        CHECK.sentence("and is fixed");
        SeatDesk x = new SeatDesk(3);
        x.coach(0, 2);
        x.book(0, 2, 0);
        CHECK.due("its own seat", x.wish(0, 0), 0);
        CHECK.due("fixed", x.ride(0, 0), 2);
        CHECK.due("gives no way", x.block(0, 0, 0, 1), 0);
        CHECK.due("is not printed", x.print(0), true);
    }

    private static void wishLowestFree() {
        CHECK.sentence("the lowest that is free through it");
        SeatDesk x = new SeatDesk(6);
        x.coach(0, 2);
        x.coach(0, 5);
        int[][] flagged = {{0, 1}, {1, 0}, {1, 1}, {1, 2}, {1, 3}, {1, 4}};
        for (int[] seat : flagged) {
            x.flags(seat[0], seat[1], 1);
        }
        x.bookSeat(1, 2, 0, 1);
        x.bookSeat(3, 4, 1, 0);
        x.block(1, 1, 1, 2);
        x.block(1, 2, 3, 4);
        x.bookSeat(0, 1, 1, 3);
        x.bookSeat(4, 5, 1, 3);
        x.bookSeat(4, 5, 1, 4);
        x.book(1, 4, 0);
        CHECK.due("the best is without flags or higher", x.seatOf(5, 1), 103);
        CHECK.due("rides and blocks on its first and last stretch, none on 103", x.wish(5, 1), 103);
        SeatDesk y = new SeatDesk(4);
        y.coach(0, 3);
        y.block(0, 2, 1, 2);
        y.block(0, 1, 1, 2);
        y.book(0, 1, 0);
        CHECK.due("the best", y.seatOf(0, 0), 1);
        CHECK.due("the lowest, not the best", y.wish(0, 0), 0);
        SeatDesk z = new SeatDesk(2);
        z.coach(0, 2);
        z.coach(0, 2);
        z.flags(0, 1, 1);
        z.flags(1, 0, 1);
        z.book(0, 1, 0);
        CHECK.due("the lower coach before the lower seat", z.wish(0, 1), 1);
    }

    private static void wishFreeBeforeSweep() {
        CHECK.sentence("the lowest that is free through it; if none is");
        SeatDesk x = new SeatDesk(2);
        x.coach(0, 3);
        x.flags(0, 0, 1);
        x.flags(0, 2, 1);
        x.book(0, 1, 0);
        x.book(0, 1, 0);
        CHECK.dueSeats("before", x, 0, 1);
        CHECK.due("seat 0 could be swept free, but seat 2 is free", x.wish(1, 1), 2);
        CHECK.dueSeats("behind", x, 0, 2);
        CHECK.due("nobody moved", x.moved(), 0);
    }

    /** Ride 1 on (1, 3) sits on seat 1; on seat 0, which alone has the flag, ride 2 is fixed and ride 3 movable. */
    private static void fixedOn(int stretch, int answer) {
        SeatDesk x = new SeatDesk(5);
        x.coach(0, 3);
        x.bookSeat(0, 4, 0, 0);
        x.book(1, 3, 0);
        CHECK.due("who wishes", x.seatOf(1, 1), 1);
        x.cancel(0);
        x.bookSeat(stretch, stretch + 1, 0, 0);
        int sweepable = stretch == 1 ? 2 : 1;
        x.book(sweepable, sweepable + 1, 0);
        x.flags(0, 0, 1);
        CHECK.due("who may have to give way", x.seatOf(3, sweepable), 0);
        CHECK.due("a fixed ride on stretch " + stretch, x.wish(1, 1), answer);
        CHECK.due("moved", x.moved(), answer == NONE ? 0 : 1);
        CHECK.due("who wished sits", x.seatOf(1, 2), answer == NONE ? 1 : 0);
        CHECK.due("who gave way sits", x.seatOf(3, sweepable), answer == NONE ? 0 : 1);
        CHECK.due("the fixed one sits", x.seatOf(2, stretch), 0);
        CHECK.due("and has its seat for itself", x.bookSeat(stretch, stretch + 1, 0, 0), FULL);
    }

    private static void wishNoFixedRideThere() {
        CHECK.sentence("the lowest on which no fixed ride and no block is on its stretches");
        fixedOn(0, 0);
        fixedOn(1, NONE);
        fixedOn(2, NONE);
        fixedOn(3, 0);
    }

    /** Ride 1 on (1, 3) sits on seat 1; on seat 0, which alone has the flag, there are a block and ride 0, a movable one. */
    private static void blockOn(int stretch, int answer) {
        SeatDesk x = new SeatDesk(5);
        x.coach(0, 3);
        int other = stretch == 1 ? 2 : 1;
        x.book(other, other + 1, 0);
        x.book(1, 3, 0);
        CHECK.dueSeats("before", x, 0, 1);
        x.flags(0, 0, 1);
        CHECK.due("blocked", x.block(0, 0, stretch, stretch + 1), 1);
        CHECK.due("a block on stretch " + stretch, x.wish(1, 1), answer);
        CHECK.dueSeats("behind", x, answer == NONE ? 0 : 1, answer == NONE ? 1 : 0);
    }

    private static void wishNoBlockThere() {
        CHECK.sentence("and no block is on its stretches");
        blockOn(0, 0);
        blockOn(1, NONE);
        blockOn(2, NONE);
        blockOn(3, 0);
    }

    private static void wishOthersCanBeSeated() {
        CHECK.sentence("and with which the others can be seated by a sweep");
        SeatDesk x = new SeatDesk(4);
        x.coach(0, 3);
        x.flags(0, 0, 1);
        x.flags(0, 1, 1);
        x.bookSeat(2, 3, 0, 1);
        x.bookSeat(1, 2, 0, 2);
        x.book(0, 3, 0);
        x.book(0, 1, 0);
        x.book(0, 1, 0);
        CHECK.dueSeats("before", x, 1, 2, 0, 2, 1);
        CHECK.due("who has seat 0 finds no other one, who has seat 1 does", x.wish(3, 1), 1);
        CHECK.dueSeats("they are seated then", x, 1, 2, 0, 1, 2);
        CHECK.due("moved", x.moved(), 1);
        SeatDesk y = new SeatDesk(2);
        y.coach(0, 3);
        y.flags(0, 0, 1);
        y.flags(0, 1, 1);
        y.book(0, 1, 0);
        y.book(0, 1, 0);
        y.book(0, 1, 0);
        CHECK.due("of two that could be swept free the lowest", y.wish(2, 1), 0);
        CHECK.dueSeats("they are seated then", y, 1, 2, 0);
        CHECK.due("both moved", y.moved(), 2);
    }

    private static void wishSweepsAllOthers() {
        CHECK.sentence("by a sweep (they are then)");
        SeatDesk x = new SeatDesk(3);
        x.coach(0, 5);
        x.coach(1, 3);
        x.bookSeat(0, 2, 1, 0);
        x.book(0, 2, 1);
        x.cancel(0);
        for (int k = 0; k < 5; k++) {
            x.book(0, 2, 0);
        }
        x.print(6);
        x.cancel(3);
        x.cancel(4);
        x.flags(0, 0, 1);
        CHECK.dueSeats("before", x, NONE, 101, 0, NONE, NONE, 3, 4);
        x.book(1, 2, 0);
        CHECK.due("who wishes", x.seatOf(7, 1), 1);
        CHECK.due("seat 0", x.wish(7, 1), 0);
        // Ride 2 goes from 0 to 1, ride 5 from 3 to 2; the printed one and the other class stay.
        CHECK.dueSeats("behind", x, NONE, 101, 1, NONE, NONE, 2, 4, 0);
        CHECK.due("moved", x.moved(), 2);
    }

    private static void wishNone() {
        CHECK.sentence("The seat; NONE when there is none");
        SeatDesk x = new SeatDesk(3);
        x.coach(0, 2);
        x.book(0, 2, 0);
        x.book(0, 2, 0);
        CHECK.due("no seat has it", x.wish(0, 1), NONE);
        x.flags(0, 0, 1);
        x.print(0);
        CHECK.due("a fixed one has it", x.wish(1, 1), NONE);
        CHECK.due("movable still", x.ride(1, 0), 1);
        CHECK.dueSeats("all sit", x, 0, 1);
        x.cancel(0);
        x.block(0, 0, 1, 2);
        CHECK.due("a block has it", x.wish(1, 1), NONE);
        CHECK.due("sits", x.seatOf(1, 1), 1);
        CHECK.due("nobody else took its seat", x.free(0, 0), 1);
        x.unblock(0, 0, 1, 2);
        CHECK.due("now it can", x.wish(1, 1), 0);
        SeatDesk y = new SeatDesk(3);
        y.coach(0, 2);
        y.flags(0, 0, 1);
        y.book(0, 2, 0);
        y.book(1, 2, 0);
        y.bookSeat(0, 1, 0, 1);
        CHECK.due("who has it finds no other one", y.wish(1, 1), NONE);
        CHECK.dueSeats("all sit", y, 0, 1, 1);
        CHECK.due("nobody moved", y.moved(), 0);
        CHECK.due("movable still", y.ride(1, 0), 1);
        CHECK.due("no seat is free", y.free(0, 0) + y.free(1, 0), 0);
    }

    private static void wishNoLivingRide() {
        CHECK.sentence("WRONG: no living ride");
        SeatDesk x = new SeatDesk(2);
        x.coach(0, 2);
        CHECK.due("none was booked", x.wish(0, 0), WRONG);
        x.book(0, 1, 0);
        x.book(0, 1, 0);
        x.cancel(1);
        int[] none = {-1, 1, 2, 150, MIN, MAX};
        for (int ride : none) {
            CHECK.due("ride " + ride, x.wish(ride, 0), WRONG);
        }
        CHECK.due("a living one", x.wish(0, 0), 0);
    }

    private static void wishOfAFixedOne() {
        CHECK.sentence("it is fixed");
        SeatDesk x = new SeatDesk(2);
        x.coach(0, 9);
        x.book(0, 1, 0);
        x.wish(0, 0);
        x.book(0, 1, 0);
        x.print(1);
        x.bookSeat(0, 1, 0, 2);
        x.bookChanges(0, 1, 0);
        x.bookGroup(0, 1, 0, 2);
        for (int ride = 0; ride < 6; ride++) {
            CHECK.due("ride " + ride, x.wish(ride, 0), WRONG);
            CHECK.due("it sits", x.seatOf(ride, 0), ride);
        }
    }

    private static void wishOfOneThatStands() {
        CHECK.sentence("A movable ride gets a seat");
        SeatDesk x = new SeatDesk(2);
        x.coach(0, 1);
        x.book(0, 1, 0);
        CHECK.due("stands", x.removeCoach(0), 1);
        x.coach(0, 1);
        CHECK.due("a seat is free, but it is not movable", x.wish(0, 0), WRONG);
        CHECK.due("stands still", x.ride(0, 0), 3);
        CHECK.due("the seat is free still", x.free(0, 0), 1);
    }

    private static void wishMaskNotAsSaid() {
        CHECK.sentence("or the mask is not as said");
        SeatDesk x = new SeatDesk(2);
        x.coach(0, 1);
        x.flags(0, 0, 255);
        x.book(0, 1, 0);
        int[] none = {-1, 256, 257, 511, -256, MIN, MAX};
        for (int mask : none) {
            CHECK.due("mask " + mask, x.wish(0, mask), WRONG);
        }
        CHECK.due("movable still", x.ride(0, 0), 1);
        CHECK.due("mask 255", x.wish(0, 255), 0);
    }

    private static void printFixes() {
        CHECK.sentence("A ride is fixed now");
        SeatDesk x = new SeatDesk(2);
        x.coach(0, 9);
        x.book(0, 1, 0);
        x.bookSeat(0, 1, 0, 1);
        x.bookChanges(0, 1, 0);
        x.bookGroup(0, 1, 0, 2);
        x.book(0, 1, 0);
        x.wish(5, 0);
        for (int ride = 0; ride < 6; ride++) {
            CHECK.due("ride " + ride, x.print(ride), true);
            CHECK.due("fixed", x.ride(ride, 0), 2);
            CHECK.due("it sits", x.seatOf(ride, 0), ride);
            CHECK.due("gives no way", x.block(0, ride, 0, 1), 0);
        }
    }

    private static void printNotLiving() {
        CHECK.sentence("false when it isn't living");
        SeatDesk x = new SeatDesk(2);
        x.coach(0, 2);
        CHECK.due("none was booked", x.print(0), false);
        x.book(0, 1, 0);
        x.book(0, 1, 0);
        x.cancel(1);
        int[] none = {-1, 1, 2, 150, MIN, MAX};
        for (int ride : none) {
            CHECK.due("ride " + ride, x.print(ride), false);
        }
        CHECK.due("cancelled still", x.ride(1, 0), 0);
        CHECK.due("the other is movable", x.ride(0, 0), 1);
    }

    private static void printStands() {
        CHECK.sentence("or stands");
        SeatDesk x = new SeatDesk(2);
        x.coach(0, 2);
        x.book(0, 1, 0);
        x.book(0, 1, 0);
        x.print(1);
        CHECK.due("both stand", x.removeCoach(0), 2);
        for (int ride = 0; ride < 2; ride++) {
            CHECK.due("ride " + ride, x.print(ride), false);
            CHECK.due("stands still", x.ride(ride, 0), 3);
        }
    }

    private static void printPrinted() {
        CHECK.sentence("or was printed");
        SeatDesk x = new SeatDesk(4);
        x.coach(0, 2);
        x.book(0, 3, 0);
        x.bookSeat(0, 3, 0, 1);
        for (int ride = 0; ride < 2; ride++) {
            CHECK.due("ride " + ride, x.print(ride), true);
            CHECK.due("again", x.print(ride), false);
            CHECK.due("shorter", x.shorten(ride, 1, 2), true);
            CHECK.due("is printed all the same", x.print(ride), false);
            CHECK.due("fixed", x.ride(ride, 0), 2);
        }
    }

    private static void cancelIsNoMore() {
        CHECK.sentence("A ride is no more");
        SeatDesk x = new SeatDesk(4);
        x.coach(0, 6);
        x.coach(1, 1);
        x.book(0, 3, 0);
        x.book(0, 3, 0);
        x.print(1);
        x.book(0, 3, 0);
        x.wish(2, 0);
        x.bookGroup(0, 3, 0, 2);
        x.bookChanges(0, 3, 0);
        x.book(0, 3, 1);
        CHECK.due("ride 6 stands", x.removeCoach(1), 1);
        for (int ride = 0; ride < 7; ride++) {
            CHECK.due("ride " + ride, x.cancel(ride), true);
            CHECK.due("cancelled", x.ride(ride, 0), 0);
            CHECK.due("no seat on its first stretch", x.seatOf(ride, 0), NONE);
            CHECK.due("none on its last", x.seatOf(ride, 2), NONE);
            CHECK.due("its seat is free", x.free(2, 0), Math.min(6, ride + 1));
            CHECK.due("its load is gone", x.load(1, 0), Math.max(0, 5 - ride));
        }
        CHECK.due("none stands", x.standing(0), NONE);
        CHECK.due("no load", x.load(0, 1), 0);
        CHECK.due("none boards", x.manifest(0, 0), NONE);
        CHECK.due("none leaves", x.manifest(3, 0), NONE);
    }

    private static void cancelNotLiving() {
        CHECK.sentence("false when it isn't living");
        SeatDesk x = new SeatDesk(2);
        x.coach(0, 2);
        CHECK.due("none was booked", x.cancel(0), false);
        x.book(0, 1, 0);
        x.book(0, 1, 0);
        CHECK.due("the last one", x.cancel(1), true);
        int[] none = {-1, 1, 2, 150, MIN, MAX};
        for (int ride : none) {
            CHECK.due("ride " + ride, x.cancel(ride), false);
        }
        CHECK.due("another one has its seat", x.bookSeat(0, 1, 0, 1), 2);
        CHECK.due("once more", x.cancel(1), false);
        CHECK.due("it takes nobody's seat away", x.free(0, 0), 0);
        CHECK.due("the first one", x.cancel(0), true);
    }

    private static void shortenKeepsSeats() {
        CHECK.sentence("goes from a station to a later one, both within its way, keeping its seats there");
        SeatDesk x = new SeatDesk(6);
        x.coach(0, 2);
        x.bookSeat(0, 2, 0, 1);
        x.bookSeat(2, 4, 0, 0);
        x.bookSeat(4, 5, 0, 1);
        CHECK.due("with changes", x.bookChanges(0, 5, 0), 3);
        CHECK.due("two of them", x.ride(3, 5), 2);
        CHECK.due("a stretch less at its end", x.shorten(3, 0, 4), true);
        CHECK.due("one change", x.ride(3, 5), 1);
        CHECK.due("a stretch less at its beginning", x.shorten(3, 1, 4), true);
        int[] seats = {NONE, 0, 1, 1, NONE};
        for (int stretch = 0; stretch < 5; stretch++) {
            CHECK.due("on stretch " + stretch, x.seatOf(3, stretch), seats[stretch]);
            CHECK.due("free on stretch " + stretch, x.free(stretch, 0), seats[stretch] == NONE ? 1 : 0);
            CHECK.due("load on stretch " + stretch, x.load(stretch, 0), seats[stretch] == NONE ? 1 : 2);
        }
        CHECK.due("from", x.ride(3, 1), 1);
        CHECK.due("to", x.ride(3, 2), 4);
        CHECK.due("fixed still", x.ride(3, 0), 2);
        CHECK.due("one stretch is left", x.shorten(3, 3, 4), true);
        CHECK.due("no change", x.ride(3, 5), 0);
        CHECK.due("its seat", x.seatOf(3, 3), 1);
        CHECK.due("fixed still", x.ride(3, 0), 2);
        SeatDesk y = new SeatDesk(4);
        y.coach(0, 2);
        y.bookSeat(0, 3, 0, 0);
        y.book(0, 3, 0);
        y.cancel(0);
        CHECK.due("a movable one", y.shorten(1, 0, 1), true);
        CHECK.due("keeps its seat, though another is lower", y.seatOf(1, 0), 1);
        CHECK.due("movable still", y.ride(1, 0), 1);
        CHECK.due("nobody moved", y.moved(), 0);
    }

    private static void shortenWithinItsWay() {
        CHECK.sentence("both within its way, keeping its seats there; false otherwise");
        SeatDesk x = new SeatDesk(8);
        x.coach(0, 1);
        x.book(2, 6, 0);
        int[][] none = {{1, 6}, {2, 7}, {1, 7}, {0, 2}, {6, 7}, {1, 3}, {5, 7}, {-1, 6}, {2, 8}, {MIN, 6}, {2, MAX}, {MIN, MAX}};
        for (int[] way : none) {
            CHECK.due("from " + way[0] + " to " + way[1], x.shorten(0, way[0], way[1]), false);
        }
        CHECK.due("load before", x.load(1, 0), 0);
        CHECK.due("load behind", x.load(6, 0), 0);
        CHECK.due("its whole way", x.shorten(0, 2, 6), true);
        CHECK.due("its first stretches", x.shorten(0, 2, 5), true);
        CHECK.due("not those behind any more", x.shorten(0, 2, 6), false);
        CHECK.due("its last stretches", x.shorten(0, 3, 5), true);
        CHECK.due("not those before any more", x.shorten(0, 2, 5), false);
        CHECK.due("one stretch", x.shorten(0, 4, 5), true);
        CHECK.due("from", x.ride(0, 1), 4);
        CHECK.due("to", x.ride(0, 2), 5);
    }

    private static void shortenToALaterOne() {
        CHECK.sentence("from a station to a later one");
        SeatDesk x = new SeatDesk(5);
        x.coach(0, 1);
        x.book(1, 4, 0);
        int[][] none = {{1, 1}, {2, 2}, {4, 4}, {2, 1}, {4, 1}, {3, 2}, {MAX, MIN}};
        for (int[] way : none) {
            CHECK.due("from " + way[0] + " to " + way[1], x.shorten(0, way[0], way[1]), false);
        }
        for (int stretch = 1; stretch < 4; stretch++) {
            CHECK.due("it goes on stretch " + stretch, x.seatOf(0, stretch), 0);
        }
    }

    private static void shortenStandsOrNotLiving() {
        CHECK.sentence("A ride that doesn't stand");
        SeatDesk x = new SeatDesk(4);
        x.coach(0, 1);
        CHECK.due("none was booked", x.shorten(0, 0, 1), false);
        x.book(0, 3, 0);
        int[] none = {-1, 1, 150, MIN, MAX};
        for (int ride : none) {
            CHECK.due("ride " + ride, x.shorten(ride, 0, 1), false);
        }
        CHECK.due("stands", x.removeCoach(0), 1);
        CHECK.due("one that stands", x.shorten(0, 0, 1), false);
        CHECK.due("its whole way", x.shorten(0, 0, 3), false);
        CHECK.due("its way", x.ride(0, 2), 3);
        CHECK.due("its load", x.load(2, 0), 1);
        CHECK.due("cancelled", x.cancel(0), true);
        CHECK.due("one that is cancelled", x.shorten(0, 0, 1), false);
        CHECK.due("its way", x.ride(0, 2), 3);
    }

    private static void seatOnAStretch() {
        CHECK.sentence("The ride's seat on a stretch");
        SeatDesk x = new SeatDesk(30);
        x.coach(1, 1);
        x.coach(0, 1);
        x.book(0, 29, 0);
        for (int stretch = 0; stretch < 29; stretch++) {
            CHECK.due("stretch " + stretch, x.seatOf(0, stretch), 100);
        }
    }

    private static void seatWhereItDoesNotGo() {
        CHECK.sentence("NONE when it doesn't go there");
        SeatDesk x = new SeatDesk(6);
        x.coach(0, 1);
        x.book(2, 4, 0);
        int[] seats = {NONE, NONE, 0, 0, NONE};
        for (int stretch = 0; stretch < 5; stretch++) {
            CHECK.due("stretch " + stretch, x.seatOf(0, stretch), seats[stretch]);
        }
        int[] none = {-1, 5, 6, 29, 30, 34, -30, MIN, MAX};
        for (int stretch : none) {
            CHECK.due("no stretch: " + stretch, x.seatOf(0, stretch), NONE);
        }
    }

    private static void seatOfOneThatStands() {
        CHECK.sentence("stands, or is not living");
        SeatDesk x = new SeatDesk(3);
        x.coach(0, 1);
        x.book(0, 2, 0);
        CHECK.due("stands", x.removeCoach(0), 1);
        CHECK.due("on its first stretch", x.seatOf(0, 0), NONE);
        CHECK.due("on its last stretch", x.seatOf(0, 1), NONE);
    }

    private static void seatOfNoLivingRide() {
        CHECK.sentence("or is not living");
        SeatDesk x = new SeatDesk(2);
        x.coach(0, 2);
        CHECK.due("none was booked", x.seatOf(0, 0), NONE);
        x.book(0, 1, 0);
        x.book(0, 1, 0);
        x.cancel(1);
        int[] none = {-1, 1, 2, 150, MIN, MAX};
        for (int ride : none) {
            CHECK.due("ride " + ride, x.seatOf(ride, 0), NONE);
        }
        CHECK.due("refused ones have none", x.bookSeat(0, 1, 0, 0), FULL);
        CHECK.due("ride 2", x.seatOf(2, 0), NONE);
        CHECK.due("a living one", x.seatOf(0, 0), 0);
    }
}
