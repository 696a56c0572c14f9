import java.util.NoSuchElementException;

/** Promises 20 to 24: load, free, moved, manifest, ride. */
public final class TellTest {
    private static final Due CHECK = new Due();

    public static void main(String[] args) {
        load();
        free();
        moved();
        manifest();
        ride();
        noSuchRide();
        CHECK.end();
    }

    private static void load() {
        SeatDesk x = new SeatDesk(4);
        x.coach(0, 3);
        x.coach(1, 2);
        x.book(0, 2, 0);
        x.book(1, 3, 0);
        x.book(1, 3, 1);
        x.bookSeat(1, 2, 0, 2);
        CHECK.due("stretch 0", x.load(0, 0), 1);
        CHECK.due("stretch 1", x.load(1, 0), 3);
        CHECK.due("stretch 2", x.load(2, 0), 1);
        CHECK.due("class 1", x.load(1, 1), 1);
        CHECK.due("nobody", x.load(0, 1), 0);
        CHECK.due("stretch -1", x.load(-1, 0), SeatDesk.WRONG);
        CHECK.due("stretch 3 of 3", x.load(3, 0), SeatDesk.WRONG);
        CHECK.due("class 2", x.load(0, 2), SeatDesk.WRONG);
        CHECK.due("class -1", x.load(0, -1), SeatDesk.WRONG);
        x.removeCoach(1);
        CHECK.due("who stands, too", x.load(1, 1), 1);
        x.cancel(2);
        CHECK.due("who is cancelled doesn't", x.load(1, 1), 0);
    }

    private static void free() {
        SeatDesk x = new SeatDesk(4);
        CHECK.due("no coach", x.free(0, 0), 0);
        x.coach(0, 3);
        x.coach(0, 2);
        x.coach(1, 1);
        CHECK.due("of both coaches", x.free(0, 0), 5);
        CHECK.due("class 1", x.free(0, 1), 1);
        x.book(0, 2, 0);
        x.block(1, 1, 1, 3);
        x.block(1, 1, 1, 3);
        CHECK.due("stretch 0", x.free(0, 0), 4);
        CHECK.due("stretch 1", x.free(1, 0), 3);
        CHECK.due("stretch 2", x.free(2, 0), 4);
        CHECK.due("stretch -1", x.free(-1, 0), SeatDesk.WRONG);
        CHECK.due("stretch 3 of 3", x.free(3, 0), SeatDesk.WRONG);
        CHECK.due("class 2", x.free(0, 2), SeatDesk.WRONG);
        CHECK.due("class -1", x.free(0, -1), SeatDesk.WRONG);
        x.removeCoach(1);
        CHECK.due("a coach fewer", x.free(2, 0), 3);
    }

    private static void moved() {
        SeatDesk x = new SeatDesk(4);
        CHECK.due("at first", x.moved(), 0);
        x.coach(0, 2);
        x.flags(0, 1, 1);
        x.book(0, 1, 0);
        x.book(1, 3, 0);
        x.book(1, 3, 0);
        x.cancel(1);
        x.book(0, 3, 0);
        CHECK.due("by a booking", x.moved(), 1);
        x.cancel(2);
        CHECK.due("a block", x.block(0, 0, 0, 1), 0);
        CHECK.due("that is refused", x.moved(), 1);
        CHECK.due("a wish", x.wish(0, 1), 1);
        CHECK.due("by a wish", x.moved(), 2);
        x.coach(0, 2);
        CHECK.due("a block", x.block(0, 0, 2, 3), 1);
        CHECK.due("by a block", x.moved(), 3);
    }

    private static void manifest() {
        SeatDesk x = new SeatDesk(4);
        x.coach(0, 5);
        x.coach(1, 1);
        x.book(2, 3, 0);
        x.book(0, 2, 0);
        x.book(1, 2, 1);
        x.book(2, 3, 0);
        x.book(0, 3, 0);
        int[] two = {1, 2, 0, 3};
        for (int i = 0; i < two.length; i++) {
            CHECK.due("manifest(2, " + i + ")", x.manifest(2, i), two[i]);
        }
        CHECK.due("none is left", x.manifest(2, 4), SeatDesk.NONE);
        CHECK.due("i -1", x.manifest(2, -1), SeatDesk.NONE);
        CHECK.due("station -1", x.manifest(-1, 0), SeatDesk.NONE);
        CHECK.due("station 4 of 4", x.manifest(4, 0), SeatDesk.NONE);
        CHECK.due("the first station", x.manifest(0, 1), 4);
        CHECK.due("the last station", x.manifest(3, 2), 4);
        CHECK.due("nobody more", x.manifest(3, 3), SeatDesk.NONE);
        x.removeCoach(1);
        CHECK.due("who stands goes, too", x.manifest(2, 1), 2);
        x.cancel(1);
        CHECK.due("who is cancelled doesn't", x.manifest(2, 0), 2);
        x.shorten(4, 1, 2);
        CHECK.due("shorter", x.manifest(2, 1), 4);
        CHECK.due("boards later", x.manifest(0, 0), SeatDesk.NONE);
    }

    private static void ride() {
        SeatDesk x = new SeatDesk(6);
        x.coach(1, 2);
        for (int s = 0; s < 5; s++) {
            x.quota(s, 3, 1);
        }
        x.agencyBook(3, 1, 4, 1);
        int[] first = {1, 1, 4, 1, 3, 0};
        for (int what = 0; what < 6; what++) {
            CHECK.due("ride(0, " + what + ")", x.ride(0, what), first[what]);
        }
        x.bookSeat(4, 5, 0, 1);
        x.bookChanges(0, 5, 1);
        CHECK.due("nothing is broken", x.ride(2, 5), 1);
        CHECK.due("fixed", x.ride(2, 0), 2);
        CHECK.due("the class of a chosen seat", x.ride(1, 3), 1);
        CHECK.due("no agency", x.ride(1, 4), SeatDesk.NONE);
        x.removeCoach(0);
        CHECK.due("stands", x.ride(2, 0), 3);
        CHECK.due("no seats, no changes", x.ride(2, 5), 0);
        CHECK.due("its way", x.ride(2, 2), 5);
        x.cancel(0);
        int[] gone = {0, 1, 4, 1, 3, 0};
        for (int what = 0; what < 6; what++) {
            CHECK.due("cancelled: ride(0, " + what + ")", x.ride(0, what), gone[what]);
        }
    }

    private static boolean refuses(SeatDesk x, int ride, int what) {
        try {
            x.ride(ride, what);
            return false;
        } catch (NoSuchElementException e) {
            return true;
        }
    }

    private static void noSuchRide() {
        SeatDesk x = new SeatDesk(3);
        x.coach(0, 1);
        CHECK.due("no ride", refuses(x, 0, 0), true);
        x.book(0, 1, 0);
        CHECK.due("ride 0", refuses(x, 0, 0), false);
        CHECK.due("ride -1", refuses(x, -1, 0), true);
        CHECK.due("ride 1 of 1", refuses(x, 1, 0), true);
        CHECK.due("what -1", refuses(x, 0, -1), true);
        CHECK.due("what 5", refuses(x, 0, 5), false);
        CHECK.due("what 6", refuses(x, 0, 6), true);
        CHECK.due("far", refuses(x, Integer.MAX_VALUE, Integer.MIN_VALUE), true);
        CHECK.due("a refused one got no number", x.book(0, 1, 0), SeatDesk.FULL);
        CHECK.due("there is none", refuses(x, 1, 0), true);
        x.cancel(0);
        CHECK.due("a cancelled one is told of", refuses(x, 0, 0), false);
    }
}
