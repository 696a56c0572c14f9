/** Promises 1 to 4, a test for each sentence that names a boundary case: a new object, coach, flags, quota. */
public final class EdgeTrainTest {
    private static final int WRONG = SeatDesk.WRONG, FULL = SeatDesk.FULL, OVER = SeatDesk.OVER, NONE = SeatDesk.NONE;
    private static final int MIN = Integer.MIN_VALUE, MAX = Integer.MAX_VALUE;
    private static final Due CHECK = new Due();

    public static void main(String[] args) {
        asManyStationsAsTold();
        otherwiseTen();
        noCoaches();
        coachSizes();
        coachNumber();
        tooManyCoaches();
        tooManySeats();
        flagsOfASeat();
        flagsOfNoSeat();
        flagsNotAsSaid();
        quotaOfRides();
        quotaNotAsSaid();
        thoseItHasStay();
        CHECK.end();
    }

    private static void hasStations(int told, int due) {
        SeatDesk x = new SeatDesk(told);
        x.coach(0, 2);
        String of = ", SeatDesk(" + told + ")";
        CHECK.due("to the last station" + of, x.book(0, due - 1, 0), 0);
        CHECK.due("its last stretch" + of, x.seatOf(0, due - 2), 0);
        CHECK.due("who leaves there" + of, x.manifest(due - 1, 0), 0);
        CHECK.due("to one behind it" + of, x.book(0, due, 0), WRONG);
        CHECK.due("load of the last stretch" + of, x.load(due - 2, 0), 1);
        CHECK.due("load behind it" + of, x.load(due - 1, 0), WRONG);
        CHECK.due("free on the last stretch" + of, x.free(due - 2, 0), 1);
        CHECK.due("free behind it" + of, x.free(due - 1, 0), WRONG);
        CHECK.due("quota of the last stretch" + of, x.quota(due - 2, 0, 1), true);
        CHECK.due("quota behind it" + of, x.quota(due - 1, 0, 1), false);
    }

    private static void asManyStationsAsTold() {
        CHECK.sentence("So many stations, if that is 2 .. 30");
        for (int told = 2; told <= 30; told++) {
            hasStations(told, told);
        }
    }

    private static void otherwiseTen() {
        CHECK.sentence("otherwise 10");
        int[] others = {1, 31, 0, -1, -2, -30, 32, 33, 100, 256 + 5, 65536 + 5, MIN, MIN + 1, MAX - 1, MAX};
        for (int told : others) {
            hasStations(told, 10);
        }
    }

    private static void noCoaches() {
        CHECK.sentence("no coaches");
        SeatDesk x = new SeatDesk(5);
        for (int type = 0; type < 2; type++) {
            CHECK.due("free", x.free(0, type), 0);
            CHECK.due("book", x.book(0, 4, type), FULL);
            CHECK.due("bookGroup", x.bookGroup(0, 4, type, 2), FULL);
            CHECK.due("offerChanges", x.offerChanges(0, 4, type), NONE);
            CHECK.due("bookChanges", x.bookChanges(0, 4, type), FULL);
            CHECK.due("load", x.load(0, type), 0);
        }
        CHECK.due("bookSeat", x.bookSeat(0, 4, 0, 0), WRONG);
        CHECK.due("flags", x.flags(0, 0, 0), false);
        CHECK.due("block", x.block(0, 0, 0, 4), WRONG);
        CHECK.due("unblock", x.unblock(0, 0, 0, 4), false);
        CHECK.due("removeCoach", x.removeCoach(0), WRONG);
        CHECK.due("moved", x.moved(), 0);
        CHECK.due("standing", x.standing(0), NONE);
        CHECK.due("manifest", x.manifest(0, 0), NONE);
    }

    private static void coachSizes() {
        CHECK.sentence("A coach more, with 1 .. 20 seats");
        int[] none = {0, 21, -1, 22, 80, 81, 100, MIN, MAX};
        for (int size : none) {
            SeatDesk x = new SeatDesk(2);
            CHECK.due(size + " seats", x.coach(0, size), WRONG);
            CHECK.due("free", x.free(0, 0), 0);
        }
        for (int size = 1; size <= 20; size++) {
            SeatDesk x = new SeatDesk(2);
            CHECK.due(size + " seats", x.coach(1, size), 0);
            CHECK.due("free of " + size, x.free(0, 1), size);
            CHECK.due("free in the other class", x.free(0, 0), 0);
            CHECK.due("the last seat of " + size, x.bookSeat(0, 1, 0, size - 1), 0);
            CHECK.due("a seat behind it", x.bookSeat(0, 1, 0, size), WRONG);
        }
    }

    private static void coachNumber() {
        CHECK.sentence("its number; WRONG");
        SeatDesk x = new SeatDesk(2);
        CHECK.due("the first", x.coach(0, 1), 0);
        CHECK.due("no seats", x.coach(0, 0), WRONG);
        CHECK.due("no class", x.coach(2, 1), WRONG);
        CHECK.due("the second: a refused one gets no number", x.coach(0, 1), 1);
        CHECK.due("the second is taken out", x.removeCoach(1), 0);
        CHECK.due("the third: its number is not given again", x.coach(0, 1), 2);
    }

    private static void tooManyCoaches() {
        CHECK.sentence("also when there would be too many coaches");
        SeatDesk x = new SeatDesk(2);
        for (int k = 0; k < 8; k++) {
            CHECK.due("coach " + k, x.coach(0, 10 - k), k);
        }
        CHECK.due("a ninth, though 28 seats may come", x.coach(0, 1), WRONG);
        CHECK.due("free", x.free(0, 0), 52);
    }

    private static void tooManySeats() {
        CHECK.sentence("too many coaches or seats");
        SeatDesk x = new SeatDesk(2);
        for (int k = 0; k < 6; k++) {
            x.coach(0, 13);
        }
        CHECK.due("78 + 3", x.coach(1, 3), WRONG);
        CHECK.due("78 + 2", x.coach(1, 2), 6);
        CHECK.due("80 + 1, though an eighth coach may come", x.coach(1, 1), WRONG);
        CHECK.due("free in class 0", x.free(0, 0), 78);
        CHECK.due("free in class 1", x.free(0, 1), 2);
    }

    private static void flagsOfASeat() {
        CHECK.sentence("A seat's flags");
        SeatDesk x = new SeatDesk(2);
        x.coach(0, 3);
        x.coach(0, 3);
        CHECK.due("the first seat", x.flags(0, 0, 1), true);
        CHECK.due("the last seat", x.flags(1, 2, 2), true);
        x.bookGroup(0, 1, 0, 3);
        x.book(0, 1, 0);
        CHECK.due("of no other seat", x.wish(3, 2), 102);
        x.book(0, 1, 0);
        CHECK.due("once more, and those before are gone", x.flags(1, 1, 4), true);
        CHECK.due("others", x.flags(1, 1, 8), true);
        CHECK.due("the former ones", x.wish(4, 4), NONE);
        CHECK.due("both", x.wish(4, 12), NONE);
        CHECK.due("the latter ones", x.wish(4, 8), 101);
        x.book(0, 1, 0);
        x.flags(1, 0, 16);
        CHECK.due("none any more", x.flags(1, 0, 0), true);
        CHECK.due("mask 16", x.wish(5, 16), NONE);
        CHECK.due("mask 0", x.wish(5, 0), 100);
    }

    private static void flagsOfNoSeat() {
        CHECK.sentence("false when it isn't there");
        SeatDesk x = new SeatDesk(2);
        x.coach(0, 2);
        x.coach(1, 3);
        int[][] none = {{-1, 0}, {2, 0}, {0, -1}, {0, 2}, {1, 3}, {0, 20}, {0, 100}, {MIN, 0}, {MAX, 0}, {0, MIN}, {0, MAX}, {7, 0}, {8, 0}};
        for (int[] seat : none) {
            CHECK.due("coach " + seat[0] + ", seat " + seat[1], x.flags(seat[0], seat[1], 1), false);
        }
        CHECK.due("the last seat", x.flags(1, 2, 1), true);
        CHECK.due("its coach is taken out", x.removeCoach(1), 0);
        CHECK.due("it isn't there any more", x.flags(1, 2, 1), false);
        CHECK.due("the other coach's is", x.flags(0, 1, 1), true);
    }

    private static void flagsNotAsSaid() {
        CHECK.sentence("or the mask is not as said");
        SeatDesk x = new SeatDesk(2);
        x.coach(0, 2);
        x.book(0, 1, 0);
        int[] none = {-1, 256, 257, 511, -255, -256, MIN, MAX};
        for (int mask : none) {
            CHECK.due("mask " + mask, x.flags(0, 1, mask), false);
        }
        CHECK.due("it has no flags", x.wish(0, 1), NONE);
        for (int mask = 0; mask <= 255; mask++) {
            CHECK.due("mask " + mask, x.flags(0, 1, mask), true);
        }
        CHECK.due("mask 255 was the last", x.wish(0, 255), 1);
    }

    private static void quotaOfRides() {
        CHECK.sentence("An agency may have n rides (0 .. 150) on a stretch");
        SeatDesk x = new SeatDesk(2);
        for (int k = 0; k < 4; k++) {
            x.coach(0, 20);
        }
        CHECK.due("0", x.quota(0, 0, 0), true);
        CHECK.due("none", x.agencyBook(0, 0, 1, 0), OVER);
        CHECK.due("1", x.quota(0, 0, 1), true);
        CHECK.due("one", x.agencyBook(0, 0, 1, 0), 0);
        CHECK.due("two", x.agencyBook(0, 0, 1, 0), OVER);
        CHECK.due("150", x.quota(0, 0, 150), true);
        for (int k = 1; k < 80; k++) {
            CHECK.due("ride " + k, x.agencyBook(0, 0, 1, 0), k);
        }
        CHECK.due("not over, but full", x.agencyBook(0, 0, 1, 0), FULL);
        CHECK.due("80", x.quota(0, 0, 80), true);
        CHECK.due("over", x.agencyBook(0, 0, 1, 0), OVER);
        CHECK.due("81", x.quota(0, 0, 81), true);
        CHECK.due("full", x.agencyBook(0, 0, 1, 0), FULL);
    }

    private static void quotaNotAsSaid() {
        CHECK.sentence("false when something is not as said");
        SeatDesk x = new SeatDesk(4);
        x.coach(0, 3);
        for (int stretch = 0; stretch < 3; stretch++) {
            x.quota(stretch, 1, 1);
        }
        int[][] none = {{-1, 1, 2}, {3, 1, 2}, {MIN, 1, 2}, {MAX, 1, 2}, {0, -1, 2}, {0, 4, 2}, {0, MIN, 2}, {0, MAX, 2},
            {0, 1, -1}, {0, 1, 151}, {0, 1, MIN}, {0, 1, MAX}, {-1, -1, -1}, {3, 4, 151}};
        for (int[] q : none) {
            CHECK.due("stretch " + q[0] + ", agency " + q[1] + ", n " + q[2], x.quota(q[0], q[1], q[2]), false);
        }
        CHECK.due("one on each stretch still", x.agencyBook(1, 0, 3, 0), 0);
        for (int stretch = 0; stretch < 3; stretch++) {
            CHECK.due("no more on stretch " + stretch, x.agencyBook(1, stretch, stretch + 1, 0), OVER);
            CHECK.due("nor for agency 0", x.agencyBook(0, stretch, stretch + 1, 0), OVER);
            CHECK.due("nor for agency 3", x.agencyBook(3, stretch, stretch + 1, 0), OVER);
        }
    }

    private static void thoseItHasStay() {
        CHECK.sentence("those that it has already stay");
        SeatDesk x = new SeatDesk(2);
        x.coach(0, 4);
        x.quota(0, 0, 3);
        for (int k = 0; k < 3; k++) {
            x.agencyBook(0, 0, 1, 0);
        }
        CHECK.due("fewer than it has", x.quota(0, 0, 1), true);
        CHECK.dueSeats("they sit", x, 0, 1, 2);
        CHECK.due("and go", x.load(0, 0), 3);
        CHECK.due("no more", x.agencyBook(0, 0, 1, 0), OVER);
        x.cancel(0);
        x.cancel(1);
        CHECK.due("one of one is left", x.agencyBook(0, 0, 1, 0), OVER);
        x.cancel(2);
        CHECK.due("none of one is", x.agencyBook(0, 0, 1, 0), 3);
    }
}
