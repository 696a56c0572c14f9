import java.util.NoSuchElementException;

/** Promises 20 to 24, a test for each sentence that names a boundary case: load, free, moved, manifest, ride. */
public final class EdgeTellTest {
    private static final int WRONG = SeatDesk.WRONG, NONE = SeatDesk.NONE;
    private static final int MIN = Integer.MIN_VALUE, MAX = Integer.MAX_VALUE;
    private static final Due CHECK = new Due();

    public static void main(String[] args) {
        loadOfAClass();
        loadOfThoseThatStand();
        loadWrong();
        freeThere();
        freeWrong();
        movedSoFar();
        movedByNothingElse();
        leaveByNumber();
        thenBoard();
        manifestOfTheLiving();
        manifestNone();
        manifestNoSuchStation();
        rideState();
        rideFromTo();
        rideClass();
        rideAgency();
        rideChanges();
        rideNoSuchRide();
        rideNoSuchWhat();
        CHECK.end();
    }

    private static void loadOfAClass() {
        CHECK.sentence("How many rides of a class go on a stretch");
        SeatDesk x = new SeatDesk(4);
        for (int stretch = 0; stretch < 3; stretch++) {
            CHECK.due("nobody", x.load(stretch, 0) + x.load(stretch, 1), 0);
        }
        x.coach(0, 5);
        x.coach(1, 5);
        x.quota(0, 0, 1);
        x.book(0, 1, 0);
        x.agencyBook(0, 0, 1, 0);
        x.bookSeat(1, 3, 0, 4);
        x.bookGroup(2, 3, 0, 2);
        x.bookChanges(1, 2, 0);
        x.book(1, 3, 1);
        int[][] load = {{2, 2, 3}, {0, 1, 1}};
        for (int type = 0; type < 2; type++) {
            for (int stretch = 0; stretch < 3; stretch++) {
                CHECK.due("stretch " + stretch + ", class " + type, x.load(stretch, type), load[type][stretch]);
            }
        }
        x.block(0, 0, 2, 3);
        CHECK.due("a block is no ride", x.load(2, 0), 3);
        x.shorten(2, 1, 2);
        CHECK.due("a shorter one", x.load(2, 0), 2);
        x.cancel(0);
        CHECK.due("a cancelled one", x.load(0, 0), 1);
    }

    private static void loadOfThoseThatStand() {
        CHECK.sentence("those that stand, too");
        SeatDesk x = new SeatDesk(4);
        x.coach(0, 2);
        x.bookSeat(0, 2, 0, 0);
        x.bookSeat(1, 3, 0, 1);
        CHECK.due("both stand", x.removeCoach(0), 2);
        CHECK.due("stretch 0", x.load(0, 0), 1);
        CHECK.due("stretch 1", x.load(1, 0), 2);
        CHECK.due("stretch 2", x.load(2, 0), 1);
        x.cancel(0);
        CHECK.due("a cancelled one that stood", x.load(0, 0), 0);
        CHECK.due("the other", x.load(1, 0), 1);
    }

    private static void loadWrong() {
        CHECK.sentence("How many rides of a class go on a stretch, those that stand, too; WRONG");
        SeatDesk x = new SeatDesk(4);
        x.coach(0, 2);
        x.book(0, 3, 0);
        int[][] none = {{-1, 0}, {3, 0}, {4, 0}, {32, 0}, {MIN, 0}, {MAX, 0}, {0, -1}, {0, 2}, {0, MIN}, {0, MAX}, {-1, -1}, {3, 2}};
        for (int[] n : none) {
            CHECK.due("stretch " + n[0] + ", class " + n[1], x.load(n[0], n[1]), WRONG);
        }
        CHECK.due("the first stretch", x.load(0, 0), 1);
        CHECK.due("the last stretch", x.load(2, 0), 1);
    }

    private static void freeThere() {
        CHECK.sentence("How many seats of a class are free there");
        SeatDesk x = new SeatDesk(4);
        CHECK.due("no coaches", x.free(0, 0), 0);
        x.coach(0, 2);
        x.coach(1, 1);
        x.coach(0, 2);
        x.bookSeat(0, 1, 0, 0);
        x.book(2, 3, 0);
        x.block(2, 0, 1, 3);
        x.block(2, 0, 2, 3);
        int[] free = {3, 3, 2};
        for (int stretch = 0; stretch < 3; stretch++) {
            CHECK.due("stretch " + stretch, x.free(stretch, 0), free[stretch]);
            CHECK.due("the other class", x.free(stretch, 1), 1);
        }
        x.book(0, 3, 1);
        CHECK.due("all are taken", x.free(1, 1), 0);
        CHECK.due("one stands", x.removeCoach(1), 1);
        CHECK.due("none is there", x.free(1, 1), 0);
        CHECK.due("a coach with a block is out", x.removeCoach(2), 0);
        CHECK.due("two are left", x.free(1, 0), 2);
        SeatDesk y = new SeatDesk(2);
        for (int k = 0; k < 4; k++) {
            y.coach(1, 20);
        }
        CHECK.due("as many as there can be", y.free(0, 1), 80);
    }

    private static void freeWrong() {
        CHECK.sentence("How many seats of a class are free there; WRONG");
        SeatDesk x = new SeatDesk(4);
        x.coach(0, 2);
        x.coach(1, 2);
        int[][] none = {{-1, 0}, {3, 0}, {4, 0}, {32, 0}, {MIN, 0}, {MAX, 0}, {0, -1}, {0, 2}, {0, MIN}, {0, MAX}, {-1, -1}, {3, 2}};
        for (int[] n : none) {
            CHECK.due("stretch " + n[0] + ", class " + n[1], x.free(n[0], n[1]), WRONG);
        }
        CHECK.due("the first stretch", x.free(0, 0), 2);
        CHECK.due("the last stretch", x.free(2, 1), 2);
    }

    private static void movedSoFar() {
        CHECK.sentence("How often rides moved so far");
        SeatDesk x = new SeatDesk(2);
        CHECK.due("nobody", x.moved(), 0);
        x.coach(0, 4);
        x.flags(0, 0, 1);
        x.book(0, 1, 0);
        x.book(0, 1, 0);
        CHECK.due("a block", x.block(0, 0, 0, 1), 1);
        CHECK.dueSeats("both moved", x, 1, 2);
        CHECK.due("two", x.moved(), 2);
        x.unblock(0, 0, 0, 1);
        CHECK.due("a block", x.block(0, 1, 0, 1), 1);
        CHECK.dueSeats("ride 0 moved again", x, 0, 2);
        CHECK.due("three", x.moved(), 3);
        CHECK.due("a wish", x.wish(1, 1), 0);
        CHECK.dueSeats("ride 0 moved again", x, 2, 0);
        CHECK.due("four", x.moved(), 4);
        x.cancel(0);
        CHECK.due("still four", x.moved(), 4);
    }

    private static void movedByNothingElse() {
        CHECK.sentence("MOVED once");
        SeatDesk x = new SeatDesk(3);
        x.coach(0, 3);
        x.coach(0, 3);
        x.book(0, 2, 0);
        x.book(0, 2, 0);
        x.cancel(0);
        CHECK.due("a wish of a free seat", x.wish(1, 0), 0);
        CHECK.due("who wishes changes its seat, but has not moved", x.moved(), 0);
        x.bookChanges(0, 2, 0);
        x.shorten(2, 0, 1);
        CHECK.due("out", x.removeCoach(0), 0);
        CHECK.dueSeats("they sit elsewhere", x, NONE, 100, 101);
        CHECK.due("but have been placed, not moved", x.moved(), 0);
    }

    private static void leaveByNumber() {
        CHECK.sentence("The i-th of those who leave at a station (by number)");
        SeatDesk x = new SeatDesk(4);
        x.coach(0, 9);
        x.coach(1, 9);
        x.book(1, 3, 0);
        x.book(2, 3, 1);
        x.bookSeat(0, 3, 0, 8);
        x.book(0, 2, 0);
        x.book(0, 3, 0);
        int[] last = {0, 1, 2, 4};
        for (int i = 0; i < 4; i++) {
            CHECK.due("the last station, i " + i, x.manifest(3, i), last[i]);
        }
        CHECK.due("one more", x.manifest(3, 4), NONE);
        CHECK.due("nobody leaves at the first station, three board", x.manifest(0, 0), 2);
    }

    private static void thenBoard() {
        CHECK.sentence("and then of those who board there: the ride");
        SeatDesk x = new SeatDesk(4);
        x.coach(0, 9);
        x.book(1, 2, 0);
        x.book(0, 1, 0);
        x.book(1, 3, 0);
        x.book(0, 1, 0);
        x.book(0, 3, 0);
        int[] one = {1, 3, 0, 2, NONE};
        for (int i = 0; i < 5; i++) {
            CHECK.due("station 1, i " + i, x.manifest(1, i), one[i]);
        }
        int[] first = {1, 3, 4, NONE};
        for (int i = 0; i < 4; i++) {
            CHECK.due("station 0, i " + i, x.manifest(0, i), first[i]);
        }
        int[] two = {0, NONE};
        for (int i = 0; i < 2; i++) {
            CHECK.due("station 2, i " + i, x.manifest(2, i), two[i]);
        }
        x.shorten(4, 1, 2);
        CHECK.due("who is shortened boards there", x.manifest(1, 4), 4);
        CHECK.due("and leaves there", x.manifest(2, 1), 4);
        CHECK.due("no more at the first", x.manifest(0, 2), NONE);
    }

    private static void manifestOfTheLiving() {
        CHECK.sentence("those who leave at a station");
        SeatDesk x = new SeatDesk(3);
        x.coach(0, 3);
        x.book(0, 1, 0);
        x.book(1, 2, 0);
        x.book(0, 1, 0);
        x.cancel(0);
        CHECK.due("a cancelled one leaves nowhere", x.manifest(1, 0), 2);
        CHECK.due("who boards is next", x.manifest(1, 1), 1);
        CHECK.due("all stand", x.removeCoach(0), 2);
        CHECK.due("one that stands leaves, too", x.manifest(1, 0), 2);
        CHECK.due("and boards", x.manifest(1, 1), 1);
        x.cancel(1);
        CHECK.due("a cancelled one boards nowhere", x.manifest(1, 1), NONE);
    }

    private static void manifestNone() {
        CHECK.sentence("NONE when there is none");
        SeatDesk x = new SeatDesk(4);
        CHECK.due("no ride", x.manifest(0, 0), NONE);
        x.coach(0, 3);
        x.book(0, 1, 0);
        x.book(1, 2, 0);
        int[] none = {-1, 2, 3, 150, -150, MIN, MIN + 1, MIN + 2, MAX};
        for (int i : none) {
            CHECK.due("i " + i, x.manifest(1, i), NONE);
        }
        CHECK.due("i 0", x.manifest(1, 0), 0);
        CHECK.due("i 1", x.manifest(1, 1), 1);
        CHECK.due("nobody is at the last station", x.manifest(3, 0), NONE);
    }

    private static void manifestNoSuchStation() {
        CHECK.sentence("or no such station");
        SeatDesk x = new SeatDesk(4);
        x.coach(0, 3);
        x.book(0, 3, 0);
        int[] none = {-1, 4, 5, 30, 32, -32, MIN, MAX};
        for (int station : none) {
            CHECK.due("station " + station, x.manifest(station, 0), NONE);
        }
        CHECK.due("the first", x.manifest(0, 0), 0);
        CHECK.due("the last", x.manifest(3, 0), 0);
    }

    private static void rideState() {
        CHECK.sentence("what 0 its state (0 cancelled, 1 movable, 2 fixed, 3 stands)");
        SeatDesk x = new SeatDesk(2);
        x.coach(0, 4);
        x.coach(1, 1);
        for (int k = 0; k < 4; k++) {
            x.book(0, 1, 0);
        }
        x.book(0, 1, 1);
        x.cancel(0);
        x.print(2);
        x.wish(3, 0);
        x.removeCoach(1);
        int[] states = {0, 1, 2, 2, 3};
        for (int ride = 0; ride < 5; ride++) {
            CHECK.due("ride " + ride, x.ride(ride, 0), states[ride]);
        }
        for (int ride = 1; ride < 5; ride++) {
            x.cancel(ride);
            CHECK.due("cancelled: ride " + ride, x.ride(ride, 0), 0);
        }
    }

    private static void rideFromTo() {
        CHECK.sentence("1 from, 2 to");
        SeatDesk x = new SeatDesk(30);
        x.coach(0, 2);
        x.book(0, 29, 0);
        x.book(28, 29, 0);
        x.book(0, 1, 0);
        int[][] ways = {{0, 29}, {28, 29}, {0, 1}};
        for (int ride = 0; ride < 3; ride++) {
            CHECK.due("from of " + ride, x.ride(ride, 1), ways[ride][0]);
            CHECK.due("to of " + ride, x.ride(ride, 2), ways[ride][1]);
        }
        x.shorten(0, 3, 7);
        CHECK.due("from of a shorter one", x.ride(0, 1), 3);
        CHECK.due("to of a shorter one", x.ride(0, 2), 7);
        x.removeCoach(0);
        CHECK.due("from of one that stands", x.ride(0, 1), 3);
        CHECK.due("to of one that stands", x.ride(0, 2), 7);
    }

    private static void rideClass() {
        CHECK.sentence("3 class");
        SeatDesk x = new SeatDesk(2);
        x.coach(1, 9);
        x.coach(0, 9);
        x.book(0, 1, 0);
        x.book(0, 1, 1);
        x.bookSeat(0, 1, 0, 8);
        x.bookSeat(0, 1, 1, 8);
        x.bookChanges(0, 1, 1);
        x.bookChanges(0, 1, 0);
        x.bookGroup(0, 1, 1, 2);
        int[] classes = {0, 1, 1, 0, 1, 0, 1, 1};
        for (int ride = 0; ride < 8; ride++) {
            CHECK.due("ride " + ride, x.ride(ride, 3), classes[ride]);
        }
    }

    private static void rideAgency() {
        CHECK.sentence("4 agency (NONE)");
        SeatDesk x = new SeatDesk(2);
        x.coach(0, 9);
        x.quota(0, 0, 1);
        x.quota(0, 3, 1);
        x.agencyBook(0, 0, 1, 0);
        x.agencyBook(3, 0, 1, 0);
        x.book(0, 1, 0);
        x.bookSeat(0, 1, 0, 8);
        x.bookChanges(0, 1, 0);
        x.bookGroup(0, 1, 0, 2);
        int[] agencies = {0, 3, NONE, NONE, NONE, NONE, NONE};
        for (int ride = 0; ride < 7; ride++) {
            CHECK.due("ride " + ride, x.ride(ride, 4), agencies[ride]);
        }
        x.print(1);
        CHECK.due("printed", x.ride(1, 4), 3);
        x.removeCoach(0);
        CHECK.due("stands", x.ride(1, 4), 3);
    }

    private static void rideChanges() {
        CHECK.sentence("5 changes of seat on its way");
        SeatDesk x = new SeatDesk(5);
        x.coach(0, 1);
        x.coach(0, 1);
        x.bookSeat(1, 2, 0, 0);
        x.bookSeat(0, 1, 1, 0);
        x.bookSeat(2, 3, 1, 0);
        x.bookSeat(3, 4, 0, 0);
        x.bookChanges(0, 4, 0);
        CHECK.due("one seat", x.ride(0, 5), 0);
        CHECK.due("a change at each station", x.ride(4, 5), 3);
        x.shorten(4, 0, 3);
        CHECK.due("two are left", x.ride(4, 5), 2);
        x.shorten(4, 2, 3);
        CHECK.due("none is left", x.ride(4, 5), 0);
        CHECK.due("fixed still", x.ride(4, 0), 2);
    }

    private static boolean isRefused(SeatDesk x, int ride, int what) {
        try {
            x.ride(ride, what);
            return false;
        } catch (NoSuchElementException e) {
            return true;
        }
    }

    private static void rideNoSuchRide() {
        CHECK.sentence("NoSuchElementException: there is no such ride");
        SeatDesk x = new SeatDesk(2);
        x.coach(0, 2);
        CHECK.due("none was booked", isRefused(x, 0, 0), true);
        x.book(0, 1, 0);
        x.bookSeat(0, 1, 0, 0);
        int[] none = {-1, 1, 2, 149, 150, 151, MIN, MAX};
        for (int ride : none) {
            for (int what = 0; what < 6; what++) {
                CHECK.due("ride " + ride + ", what " + what, isRefused(x, ride, what), true);
            }
        }
        CHECK.due("ride 0", isRefused(x, 0, 0), false);
        x.cancel(0);
        CHECK.due("a cancelled one is told of", isRefused(x, 0, 0), false);
        SeatDesk y = new SeatDesk(30);
        y.coach(0, 20);
        for (int k = 0; k < 12; k++) {
            y.bookGroup(k, k + 1, 0, 12);
        }
        y.bookGroup(12, 13, 0, 6);
        CHECK.due("the last of 150", isRefused(y, 149, 0), false);
        CHECK.due("behind it", isRefused(y, 150, 0), true);
    }

    private static void rideNoSuchWhat() {
        CHECK.sentence("there is no such ride or what");
        SeatDesk x = new SeatDesk(2);
        x.coach(0, 1);
        x.book(0, 1, 0);
        int[] none = {-1, 6, 7, 100, MIN, MAX};
        for (int what : none) {
            CHECK.due("what " + what, isRefused(x, 0, what), true);
        }
        for (int what = 0; what < 6; what++) {
            CHECK.due("what " + what, isRefused(x, 0, what), false);
        }
        x.cancel(0);
        CHECK.due("of a cancelled one", isRefused(x, 0, 6), true);
    }
}
