/** Promises 16 to 19, a test for each sentence that names a boundary case: block, unblock, removeCoach, standing. */
public final class EdgeSeatTest {
    private static final int WRONG = SeatDesk.WRONG, FULL = SeatDesk.FULL, BROKEN = SeatDesk.BROKEN, NONE = SeatDesk.NONE;
    private static final int MIN = Integer.MIN_VALUE, MAX = Integer.MAX_VALUE;
    private static final Due CHECK = new Due();

    public static void main(String[] args) {
        blockKeeps();
        blockAsOftenAsTold();
        blockOnAFixedRide();
        blockOnFixedAndMovable();
        blockOnMovableOnes();
        blockNotAllPlaced();
        blockWrong();
        blockWhereNoRideIs();
        unblockJustThese();
        unblockOne();
        unblockNone();
        coachNotThere();
        norItsBlocks();
        allTheirSeats();
        nobodyElse();
        printedNoMore();
        inTheOrderOfNumbers();
        becomesMovable();
        thoseBehindInNoSweep();
        thoseBeforeInTheSweep();
        placedByASweep();
        stands();
        howManyOfThese();
        removeWrong();
        standingByNumber();
        standingNone();
        CHECK.end();
    }

    private static void blockKeeps() {
        CHECK.sentence("Stretches from a station to a later one of a seat are kept from rides");
        int[][] ways = {{0, 1}, {28, 29}, {0, 29}, {13, 16}};
        for (int[] way : ways) {
            SeatDesk x = new SeatDesk(30);
            x.coach(1, 2);
            x.coach(0, 1);
            CHECK.due("from " + way[0] + " to " + way[1], x.block(0, 1, way[0], way[1]), 1);
            for (int stretch = 0; stretch < 29; stretch++) {
                boolean kept = stretch >= way[0] && stretch < way[1];
                CHECK.due("free on stretch " + stretch, x.free(stretch, 1), kept ? 1 : 2);
                CHECK.due("free in the other class", x.free(stretch, 0), 1);
                CHECK.due("nobody goes there", x.load(stretch, 1), 0);
            }
            CHECK.due("its first stretch", x.bookSeat(way[0], way[0] + 1, 0, 1), FULL);
            CHECK.due("its last stretch", x.bookSeat(way[1] - 1, way[1], 0, 1), FULL);
            CHECK.due("the seat before it", x.bookSeat(way[0], way[1], 0, 0), 0);
        }
    }

    private static void blockAsOftenAsTold() {
        CHECK.sentence("(as often as it is told): 1");
        SeatDesk x = new SeatDesk(5);
        x.coach(0, 1);
        CHECK.due("once", x.block(0, 0, 1, 3), 1);
        CHECK.due("the same again", x.block(0, 0, 1, 3), 1);
        CHECK.due("more", x.block(0, 0, 0, 4), 1);
        CHECK.due("less", x.block(0, 0, 2, 3), 1);
        CHECK.due("over an end", x.block(0, 0, 2, 4), 1);
        int[][] all = {{0, 4}, {1, 3}, {2, 4}, {2, 3}, {1, 3}};
        int[] free = {1, 1, 2, 2, 4};
        for (int k = 0; k < 5; k++) {
            CHECK.due("taken away", x.unblock(0, 0, all[k][0], all[k][1]), true);
            CHECK.due("free stretches then", x.free(0, 0) + x.free(1, 0) + x.free(2, 0) + x.free(3, 0), free[k]);
        }
    }

    private static void blockOnAFixedRide() {
        CHECK.sentence("0 when a fixed ride is there");
        SeatDesk x = new SeatDesk(6);
        x.coach(0, 2);
        x.bookSeat(2, 3, 0, 0);
        int[][] on = {{2, 3}, {0, 3}, {2, 5}, {0, 5}, {1, 4}};
        for (int[] way : on) {
            CHECK.due("from " + way[0] + " to " + way[1], x.block(0, 0, way[0], way[1]), 0);
            CHECK.due("no block was made", x.unblock(0, 0, way[0], way[1]), false);
        }
        CHECK.due("up to it", x.block(0, 0, 0, 2), 1);
        CHECK.due("behind it", x.block(0, 0, 3, 5), 1);
        CHECK.due("another seat", x.block(0, 1, 0, 5), 1);
        SeatDesk y = new SeatDesk(4);
        y.coach(0, 2);
        y.bookSeat(0, 1, 0, 1);
        y.bookSeat(1, 3, 0, 0);
        CHECK.due("with changes", y.bookChanges(0, 3, 0), 2);
        CHECK.due("where it is", y.block(0, 0, 0, 1), 0);
        CHECK.due("where it is then", y.block(0, 1, 2, 3), 0);
    }

    private static void blockOnFixedAndMovable() {
        CHECK.sentence("0 when a fixed ride is there, or movable ones");
        SeatDesk x = new SeatDesk(4);
        x.coach(0, 3);
        x.bookSeat(1, 2, 0, 0);
        x.book(0, 1, 0);
        x.book(2, 3, 0);
        CHECK.dueSeats("before", x, 0, 0, 0);
        CHECK.due("all three", x.block(0, 0, 0, 3), 0);
        CHECK.due("the first two", x.block(0, 0, 0, 2), 0);
        CHECK.due("the last two", x.block(0, 0, 1, 3), 0);
        CHECK.dueSeats("nobody moves", x, 0, 0, 0);
        CHECK.due("moved", x.moved(), 0);
        CHECK.due("the first alone", x.block(0, 0, 0, 1), 1);
        CHECK.dueSeats("it moves", x, 0, 1, 0);
        CHECK.due("the last alone", x.block(0, 0, 2, 3), 1);
        CHECK.dueSeats("it moves", x, 0, 1, 1);
        CHECK.due("moved", x.moved(), 2);
    }

    private static void blockOnMovableOnes() {
        CHECK.sentence("the sweep (each ride of the class that is movable, none being new)");
        SeatDesk x = new SeatDesk(5);
        x.coach(0, 4);
        x.coach(1, 2);
        x.bookSeat(0, 4, 1, 0);
        x.book(0, 4, 1);
        x.cancel(0);
        for (int k = 0; k < 4; k++) {
            x.book(0, 3, 0);
        }
        x.cancel(2);
        x.print(5);
        CHECK.dueSeats("before", x, NONE, 101, NONE, 1, 2, 3);
        CHECK.due("on its last stretch", x.block(0, 2, 2, 4), 1);
        CHECK.dueSeats("all movable rides of the class took the best", x, NONE, 101, NONE, 0, 1, 3);
        CHECK.due("each that moved counts", x.moved(), 2);
        CHECK.due("movable still", x.ride(4, 0), 1);
        CHECK.due("another: both need a seat, and seat 1 alone is left", x.block(0, 0, 0, 1), 0);
        CHECK.due("seat 2 is free there, but not on their last stretch", x.free(0, 0), 1);
    }

    private static void blockNotAllPlaced() {
        CHECK.sentence("doesn't place them all");
        SeatDesk x = new SeatDesk(4);
        x.coach(0, 3);
        x.bookSeat(0, 3, 0, 0);
        x.book(0, 3, 0);
        x.cancel(0);
        x.book(0, 3, 0);
        x.cancel(2);
        x.bookSeat(1, 2, 0, 2);
        x.book(0, 1, 0);
        CHECK.dueSeats("before", x, NONE, 1, NONE, 2, 2);
        x.bookSeat(2, 3, 0, 0);
        // Ride 1 has seat 1 alone: seat 0 has a fixed ride on its last stretch, seat 2 in the midst.
        CHECK.due("who is there finds no other one", x.block(0, 1, 1, 2), 0);
        CHECK.dueSeats("nobody moves", x, NONE, 1, NONE, 2, 2, 0);
        CHECK.due("moved", x.moved(), 0);
        CHECK.due("no block was made", x.unblock(0, 1, 1, 2), false);
        CHECK.due("free on stretch 1", x.free(1, 0), 1);
        x.cancel(5);
        CHECK.due("seat 0 is free now", x.block(0, 1, 1, 2), 1);
        CHECK.due("ride 1 moves", x.seatOf(1, 1), 0);
        SeatDesk y = new SeatDesk(3);
        y.coach(0, 2);
        y.book(0, 2, 0);
        y.book(0, 2, 0);
        CHECK.due("another finds none", y.block(0, 0, 0, 1), 0);
        CHECK.dueSeats("nobody moves", y, 0, 1);
    }

    private static void blockWrong() {
        CHECK.sentence("doesn't place them all; WRONG");
        SeatDesk x = new SeatDesk(4);
        x.coach(0, 2);
        x.coach(1, 3);
        x.bookSeat(0, 3, 0, 0);
        int[][] none = {{-1, 0, 0, 1}, {2, 0, 0, 1}, {8, 0, 0, 1}, {MIN, 0, 0, 1}, {MAX, 0, 0, 1}, {0, -1, 0, 1}, {0, 2, 0, 1}, {1, 3, 0, 1},
            {0, MIN, 0, 1}, {0, MAX, 0, 1}, {0, 0, -1, 1}, {0, 0, 0, 4}, {0, 0, 3, 4}, {0, 0, 1, 1}, {0, 0, 2, 1}, {0, 0, MIN, MAX}};
        for (int[] b : none) {
            CHECK.due("coach " + b[0] + ", seat " + b[1] + " from " + b[2] + " to " + b[3], x.block(b[0], b[1], b[2], b[3]), WRONG);
        }
        CHECK.due("the last seat", x.block(1, 2, 2, 3), 1);
        x.removeCoach(1);
        CHECK.due("a coach that is out", x.block(1, 2, 0, 1), WRONG);
    }

    private static void blockWhereNoRideIs() {
        CHECK.sentence("When no ride is there, nobody moves");
        SeatDesk x = new SeatDesk(4);
        x.coach(0, 3);
        x.bookSeat(1, 2, 0, 0);
        x.book(1, 2, 0);
        x.cancel(0);
        CHECK.dueSeats("before", x, NONE, 1);
        CHECK.due("before it", x.block(0, 1, 0, 1), 1);
        CHECK.due("behind it", x.block(0, 1, 2, 3), 1);
        CHECK.due("another seat", x.block(0, 2, 0, 3), 1);
        CHECK.due("a sweep would bring it to another seat", x.seatOf(1, 1), 1);
        CHECK.due("moved", x.moved(), 0);
        CHECK.due("where it is", x.block(0, 1, 1, 2), 1);
        CHECK.due("now it moves", x.seatOf(1, 1), 0);
        CHECK.due("moved", x.moved(), 1);
    }

    private static void unblockJustThese() {
        CHECK.sentence("One block with just these stretches is taken away");
        SeatDesk x = new SeatDesk(6);
        x.coach(0, 2);
        x.coach(0, 2);
        x.block(0, 1, 1, 4);
        int[][] others = {{0, 1, 1, 3}, {0, 1, 2, 4}, {0, 1, 1, 5}, {0, 1, 0, 4}, {0, 1, 2, 3}, {0, 0, 1, 4}, {1, 1, 1, 4}, {1, 0, 1, 4}};
        for (int[] b : others) {
            CHECK.due("coach " + b[0] + ", seat " + b[1] + " from " + b[2] + " to " + b[3], x.unblock(b[0], b[1], b[2], b[3]), false);
        }
        int[] free = {4, 3, 3, 3, 4};
        for (int stretch = 0; stretch < 5; stretch++) {
            CHECK.due("free on stretch " + stretch, x.free(stretch, 0), free[stretch]);
        }
        CHECK.due("just these", x.unblock(0, 1, 1, 4), true);
        for (int stretch = 0; stretch < 5; stretch++) {
            CHECK.due("free on stretch " + stretch, x.free(stretch, 0), 4);
        }
        x.block(0, 1, 1, 2);
        x.block(0, 1, 2, 4);
        CHECK.due("two that make it up together", x.unblock(0, 1, 1, 4), false);
        CHECK.due("the first of them", x.unblock(0, 1, 1, 2), true);
        CHECK.due("the second", x.unblock(0, 1, 2, 4), true);
    }

    private static void unblockOne() {
        CHECK.sentence("One block");
        SeatDesk x = new SeatDesk(3);
        x.coach(0, 1);
        for (int k = 0; k < 3; k++) {
            x.block(0, 0, 0, 2);
        }
        x.block(0, 0, 1, 2);
        for (int k = 0; k < 3; k++) {
            CHECK.due("kept " + k, x.free(0, 0), 0);
            CHECK.due("one of three", x.unblock(0, 0, 0, 2), true);
        }
        CHECK.due("free now", x.free(0, 0), 1);
        CHECK.due("kept by the other", x.free(1, 0), 0);
        CHECK.due("no more", x.unblock(0, 0, 0, 2), false);
        CHECK.due("the other", x.unblock(0, 0, 1, 2), true);
        CHECK.due("all is free", x.bookSeat(0, 2, 0, 0), 0);
    }

    private static void unblockNone() {
        CHECK.sentence("false when there is none");
        SeatDesk x = new SeatDesk(4);
        CHECK.due("no coach", x.unblock(0, 0, 0, 1), false);
        x.coach(0, 2);
        CHECK.due("no block", x.unblock(0, 0, 0, 1), false);
        x.block(0, 0, 0, 3);
        int[][] none = {{-1, 0, 0, 3}, {1, 0, 0, 3}, {MIN, 0, 0, 3}, {MAX, 0, 0, 3}, {0, -1, 0, 3}, {0, 2, 0, 3}, {0, MIN, 0, 3}, {0, MAX, 0, 3},
            {0, 0, -1, 3}, {0, 0, 0, 4}, {0, 0, 0, 0}, {0, 0, 3, 0}, {0, 0, 32, 35}, {0, 0, MIN, MAX}};
        for (int[] b : none) {
            CHECK.due("coach " + b[0] + ", seat " + b[1] + " from " + b[2] + " to " + b[3], x.unblock(b[0], b[1], b[2], b[3]), false);
        }
        CHECK.due("the one", x.unblock(0, 0, 0, 3), true);
        CHECK.due("only once", x.unblock(0, 0, 0, 3), false);
        x.book(0, 3, 0);
        CHECK.due("a ride is no block", x.unblock(0, 0, 0, 3), false);
        CHECK.due("it sits", x.seatOf(0, 0), 0);
    }

    private static void coachNotThere() {
        CHECK.sentence("A coach is not there any more");
        SeatDesk x = new SeatDesk(3);
        x.coach(0, 2);
        x.coach(0, 3);
        x.coach(0, 2);
        CHECK.due("the one between", x.removeCoach(1), 0);
        CHECK.due("free", x.free(0, 0), 4);
        CHECK.due("bookSeat", x.bookSeat(0, 1, 1, 0), WRONG);
        CHECK.due("flags", x.flags(1, 0, 1), false);
        CHECK.due("block", x.block(1, 0, 0, 1), WRONG);
        CHECK.due("unblock", x.unblock(1, 0, 0, 1), false);
        CHECK.due("a group of three", x.bookGroup(0, 1, 0, 3), FULL);
        int[] seats = {0, 1, 200, 201};
        for (int ride = 0; ride < 4; ride++) {
            CHECK.due("ride " + ride, x.seatOf(x.book(0, 1, 0), 0), seats[ride]);
        }
        CHECK.due("no more", x.book(0, 1, 0), FULL);
        CHECK.due("the others are told as before", x.bookSeat(1, 2, 2, 1), 4);
        CHECK.due("the next coach", x.coach(0, 1), 3);
        CHECK.due("has the next number", x.seatOf(x.book(0, 1, 0), 0), 300);
    }

    private static void norItsBlocks() {
        CHECK.sentence("nor are its blocks");
        SeatDesk x = new SeatDesk(3);
        x.coach(0, 2);
        x.coach(0, 2);
        x.coach(0, 2);
        for (int coach = 0; coach < 3; coach++) {
            x.block(coach, 0, 0, 1);
            x.block(coach, 1, 0, 1);
            x.block(coach, 1, 0, 1);
        }
        CHECK.due("out", x.removeCoach(1), 0);
        CHECK.due("its first seat's", x.unblock(1, 0, 0, 1), false);
        CHECK.due("its last seat's", x.unblock(1, 1, 0, 1), false);
        CHECK.due("free", x.free(0, 0), 0);
        for (int coach = 0; coach < 3; coach += 2) {
            CHECK.due("coach " + coach + " has its own", x.unblock(coach, 0, 0, 1), true);
            CHECK.due("for its last seat, too", x.unblock(coach, 1, 0, 1), true);
            CHECK.due("both of them", x.unblock(coach, 1, 0, 1), true);
            CHECK.due("no more", x.unblock(coach, 1, 0, 1), false);
        }
        CHECK.due("free", x.free(0, 0), 4);
        SeatDesk y = new SeatDesk(3);
        y.coach(0, 1);
        y.coach(0, 1);
        for (int k = 0; k < 500; k++) {
            y.block(0, 0, 0, 2);
        }
        y.block(1, 0, 1, 2);
        CHECK.due("a coach with 500 of them", y.removeCoach(0), 0);
        CHECK.due("the other's is kept", y.free(1, 0), 0);
        CHECK.due("and can be taken away", y.unblock(1, 0, 1, 2), true);
        CHECK.due("free", y.free(1, 0), 1);
    }

    /** A ride with a seat in coach 0 on one of three stretches, else in coach 1; then coach 0 is taken out. */
    private static void seatInItOn(int stretch) {
        SeatDesk x = new SeatDesk(4);
        x.coach(0, 1);
        x.coach(0, 1);
        for (int s = 0; s < 3; s++) {
            x.bookSeat(s, s + 1, s == stretch ? 1 : 0, 0);
        }
        CHECK.due("with changes", x.bookChanges(0, 3, 0), 3);
        for (int s = 0; s < 3; s++) {
            CHECK.due("on stretch " + s, x.seatOf(3, s), s == stretch ? 0 : 100);
        }
        // The other two of coach 0 come first by number, and sit where the ride with changes sat.
        CHECK.due("out", x.removeCoach(0), 1);
        CHECK.due("it stands", x.ride(3, 0), 3);
        for (int s = 0; s < 3; s++) {
            CHECK.due("no seat on stretch " + s, x.seatOf(3, s), NONE);
            CHECK.due("a seat of the other there", x.seatOf(s, s), 100);
        }
        CHECK.due("no changes", x.ride(3, 5), 0);
    }

    private static void allTheirSeats() {
        CHECK.sentence("All rides that have a seat in it on some stretch lose all their seats");
        seatInItOn(0);
        seatInItOn(1);
        seatInItOn(2);
        SeatDesk x = new SeatDesk(4);
        x.coach(0, 2);
        x.coach(0, 2);
        x.bookSeat(0, 1, 0, 0);
        x.bookSeat(2, 3, 0, 1);
        CHECK.due("rides on its first and last seat", x.removeCoach(0), 0);
        CHECK.dueSeats("sit in the other", x, 100, 100);
    }

    private static void nobodyElse() {
        CHECK.sentence("All rides that have a seat in it");
        SeatDesk x = new SeatDesk(4);
        x.coach(0, 1);
        x.coach(0, 1);
        x.coach(0, 1);
        x.book(0, 3, 0);
        x.book(0, 2, 0);
        x.bookSeat(0, 3, 2, 0);
        x.print(2);
        x.cancel(0);
        CHECK.due("a cancelled one was in it", x.removeCoach(0), 0);
        CHECK.dueSeats("the others sit", x, NONE, 100, 200);
        CHECK.due("cancelled still", x.ride(0, 0), 0);
        CHECK.due("printed still", x.print(2), false);
        SeatDesk y = new SeatDesk(4);
        y.coach(0, 1);
        y.coach(0, 1);
        y.book(0, 3, 0);
        y.shorten(0, 1, 2);
        y.bookSeat(0, 1, 0, 0);
        y.bookSeat(0, 1, 1, 0);
        CHECK.due("ride 1 alone can't", y.removeCoach(0), 1);
        CHECK.dueSeats("the shortened one can", y, 100, NONE, 100);
    }

    private static void printedNoMore() {
        CHECK.sentence("what was printed of them counts no more");
        SeatDesk x = new SeatDesk(2);
        x.coach(0, 2);
        x.coach(0, 4);
        x.bookSeat(0, 1, 0, 0);
        x.book(0, 1, 0);
        x.bookSeat(0, 1, 1, 3);
        for (int ride = 0; ride < 3; ride++) {
            CHECK.due("printed", x.print(ride), true);
        }
        CHECK.due("out", x.removeCoach(0), 0);
        CHECK.dueSeats("behind", x, 100, 101, 103);
        for (int ride = 0; ride < 2; ride++) {
            CHECK.due("movable: ride " + ride, x.ride(ride, 0), 1);
            CHECK.due("can be printed: ride " + ride, x.print(ride), true);
            CHECK.due("only once: ride " + ride, x.print(ride), false);
        }
        CHECK.due("who was not in it is printed", x.print(2), false);
    }

    private static void inTheOrderOfNumbers() {
        CHECK.sentence("in the order of their numbers");
        SeatDesk x = new SeatDesk(4);
        x.coach(0, 3);
        x.coach(0, 1);
        x.bookSeat(2, 3, 0, 2);
        x.bookSeat(0, 3, 0, 1);
        x.bookSeat(0, 2, 0, 0);
        // Neither by station nor by seat: ride 0 first, then ride 1 finds none, then ride 2 does.
        CHECK.due("one stands", x.removeCoach(0), 1);
        CHECK.dueSeats("behind", x, 100, NONE, 100);
        CHECK.due("ride 1", x.standing(0), 1);
    }

    private static void becomesMovable() {
        CHECK.sentence("each becomes movable and is placed");
        SeatDesk x = new SeatDesk(4);
        x.coach(0, 12);
        x.coach(0, 12);
        x.book(0, 3, 0);
        x.bookSeat(0, 3, 0, 1);
        x.book(0, 3, 0);
        x.wish(2, 0);
        x.bookChanges(0, 3, 0);
        x.book(0, 3, 0);
        x.print(4);
        x.bookGroup(0, 3, 0, 2);
        CHECK.due("out", x.removeCoach(0), 0);
        CHECK.dueSeats("on the best seats", x, 100, 101, 102, 103, 104, 105, 106);
        for (int ride = 0; ride < 7; ride++) {
            CHECK.due("movable: ride " + ride, x.ride(ride, 0), 1);
        }
        CHECK.due("placed without a sweep", x.moved(), 0);
        CHECK.due("gives way", x.block(1, 1, 0, 1), 1);
        CHECK.due("a wish", x.wish(6, 0), 107);
        SeatDesk y = new SeatDesk(4);
        y.coach(0, 1);
        y.coach(0, 2);
        y.bookSeat(0, 1, 0, 0);
        y.bookSeat(1, 2, 1, 1);
        CHECK.due("out", y.removeCoach(0), 0);
        CHECK.due("on the best: no space is behind", y.seatOf(0, 0), 101);
    }

    private static void thoseBehindInNoSweep() {
        CHECK.sentence("(those behind it are in no sweep yet)");
        SeatDesk x = new SeatDesk(4);
        x.coach(0, 2);
        x.coach(0, 2);
        x.bookSeat(0, 2, 0, 0);
        x.bookSeat(0, 2, 0, 1);
        x.bookSeat(0, 1, 1, 1);
        x.book(1, 2, 0);
        CHECK.dueSeats("before", x, 0, 1, 101, 100);
        CHECK.due("one stands", x.removeCoach(0), 1);
        // With ride 1 in it the sweep for ride 0 would fail, and ride 0 would stand.
        CHECK.dueSeats("the sweep for ride 0 was without ride 1", x, 100, NONE, 101, 101);
        CHECK.due("ride 3 moved", x.moved(), 1);
    }

    private static void thoseBeforeInTheSweep() {
        CHECK.sentence("those behind it are in no sweep yet");
        SeatDesk x = new SeatDesk(4);
        x.coach(0, 2);
        x.coach(0, 2);
        x.bookSeat(1, 2, 0, 0);
        x.bookSeat(0, 2, 0, 1);
        x.bookSeat(0, 1, 1, 1);
        CHECK.due("ride 0 is placed on 100, and gives way to ride 1", x.removeCoach(0), 0);
        CHECK.dueSeats("behind", x, 101, 100, 101);
        CHECK.due("by a sweep, in which it moved", x.moved(), 1);
    }

    private static void placedByASweep() {
        CHECK.sentence("and is placed");
        SeatDesk x = new SeatDesk(4);
        x.coach(0, 1);
        x.coach(0, 2);
        x.bookSeat(0, 2, 0, 0);
        x.bookSeat(0, 1, 1, 1);
        x.book(1, 2, 0);
        x.coach(1, 1);
        x.book(0, 3, 1);
        CHECK.dueSeats("before", x, 0, 101, 100, 200);
        CHECK.due("nobody stands", x.removeCoach(0), 0);
        CHECK.dueSeats("behind", x, 100, 101, 101, 200);
        CHECK.due("the one that is placed has not moved", x.moved(), 1);
    }

    private static void stands() {
        CHECK.sentence("one that can't be STANDS");
        SeatDesk x = new SeatDesk(3);
        x.coach(0, 1);
        x.coach(1, 1);
        x.book(0, 2, 0);
        CHECK.due("no seat of its class is there", x.removeCoach(0), 1);
        CHECK.due("stands", x.ride(0, 0), 3);
        CHECK.due("its way", x.ride(0, 2), 2);
        CHECK.due("its class", x.ride(0, 3), 0);
        CHECK.due("its load", x.load(1, 0), 1);
        CHECK.due("no seat", x.seatOf(0, 0), NONE);
        x.coach(0, 2);
        CHECK.due("a coach more does not seat it", x.ride(0, 0), 3);
        CHECK.due("another one sits", x.seatOf(x.book(0, 2, 0), 0), 200);
        CHECK.due("a block there", x.block(2, 0, 0, 1), 1);
        CHECK.due("no sweep seats it", x.ride(0, 0), 3);
        CHECK.due("the other moved", x.seatOf(1, 0), 201);
        CHECK.due("two seats, two rides, of which one stands", x.book(0, 1, 0), FULL);
        CHECK.due("cancelled", x.cancel(0), true);
        CHECK.due("two seats, one ride", x.book(0, 1, 0), BROKEN);
    }

    private static void howManyOfThese() {
        CHECK.sentence("How many stand of these");
        SeatDesk x = new SeatDesk(3);
        x.coach(0, 3);
        x.coach(0, 2);
        x.coach(0, 1);
        for (int k = 0; k < 6; k++) {
            x.book(0, 2, 0);
        }
        CHECK.due("all of it", x.removeCoach(0), 3);
        CHECK.due("all of this, not of those", x.removeCoach(1), 2);
        x.cancel(5);
        CHECK.due("nobody", x.removeCoach(2), 0);
        CHECK.due("they stand still", x.standing(4), 4);
        CHECK.due("no more", x.standing(5), NONE);
        SeatDesk y = new SeatDesk(3);
        y.coach(0, 20);
        y.coach(0, 19);
        y.bookGroup(0, 2, 0, 12);
        y.bookGroup(0, 2, 0, 8);
        CHECK.due("one of twenty", y.removeCoach(0), 1);
        CHECK.due("the last", y.standing(0), 19);
    }

    private static void removeWrong() {
        CHECK.sentence("How many stand of these; WRONG");
        SeatDesk x = new SeatDesk(3);
        CHECK.due("no coach", x.removeCoach(0), WRONG);
        x.coach(0, 1);
        x.coach(0, 1);
        int[] none = {-1, 2, 7, 8, 9, 100, MIN, MAX};
        for (int coach : none) {
            CHECK.due("coach " + coach, x.removeCoach(coach), WRONG);
        }
        CHECK.due("free", x.free(0, 0), 2);
        CHECK.due("the last", x.removeCoach(1), 0);
        CHECK.due("again", x.removeCoach(1), WRONG);
        CHECK.due("free", x.free(0, 0), 1);
        SeatDesk y = new SeatDesk(3);
        for (int coach = 0; coach < 8; coach++) {
            y.coach(0, 1);
        }
        CHECK.due("the last of eight", y.removeCoach(7), 0);
        CHECK.due("the first of eight", y.removeCoach(0), 0);
        CHECK.due("behind it", y.removeCoach(8), WRONG);
    }

    private static void standingByNumber() {
        CHECK.sentence("The i-th living ride that stands (by number)");
        SeatDesk x = new SeatDesk(2);
        x.coach(0, 3);
        x.coach(0, 2);
        x.bookSeat(0, 1, 1, 0);
        x.bookSeat(0, 1, 0, 2);
        x.bookSeat(0, 1, 0, 0);
        x.bookSeat(0, 1, 1, 1);
        x.bookSeat(0, 1, 0, 1);
        CHECK.due("three stand", x.removeCoach(0), 3);
        CHECK.due("the first", x.standing(0), 1);
        CHECK.due("the second", x.standing(1), 2);
        CHECK.due("the third", x.standing(2), 4);
        CHECK.due("two more", x.removeCoach(1), 2);
        for (int ride = 0; ride < 5; ride++) {
            CHECK.due("by number, not by when they lost their seats", x.standing(ride), ride);
        }
        x.cancel(0);
        x.cancel(4);
        CHECK.due("living ones alone: the first", x.standing(0), 1);
        CHECK.due("the last", x.standing(2), 3);
        CHECK.due("no more", x.standing(3), NONE);
    }

    private static void standingNone() {
        CHECK.sentence("NONE when there is none");
        SeatDesk x = new SeatDesk(2);
        CHECK.due("no ride", x.standing(0), NONE);
        x.coach(0, 2);
        x.book(0, 1, 0);
        x.book(0, 1, 0);
        CHECK.due("all sit", x.standing(0), NONE);
        x.removeCoach(0);
        int[] none = {-1, 2, 3, 150, -150, MIN, MIN + 1, MIN + 2, MAX};
        for (int i : none) {
            CHECK.due("i " + i, x.standing(i), NONE);
        }
        CHECK.due("i 1", x.standing(1), 1);
    }
}
