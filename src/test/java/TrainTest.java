/** Promises 1 to 4: a new object, coach, flags, quota. */
public final class TrainTest {
    private static final Due CHECK = new Due();

    public static void main(String[] args) {
        newObject();
        coach();
        coachLimits();
        flags();
        quota();
        CHECK.end();
    }

    private static void stations(int told, int due) {
        SeatDesk x = new SeatDesk(told);
        String at = "SeatDesk(" + told + "), ";
        CHECK.due(at + "free on the last stretch", x.free(due - 2, 0), 0);
        CHECK.due(at + "free behind it", x.free(due - 1, 0), SeatDesk.WRONG);
        x.coach(0, 1);
        CHECK.due(at + "the whole way", x.book(0, due - 1, 0), 0);
        CHECK.due(at + "further", x.book(0, due, 0), SeatDesk.WRONG);
    }

    private static void newObject() {
        stations(2, 2);
        stations(3, 3);
        stations(30, 30);
        stations(1, 10);
        stations(31, 10);
        stations(0, 10);
        stations(-5, 10);
        stations(Integer.MAX_VALUE, 10);
        stations(Integer.MIN_VALUE, 10);
        SeatDesk x = new SeatDesk(5);
        CHECK.due("no coach: book", x.book(0, 1, 0), SeatDesk.FULL);
        CHECK.due("no coach: removeCoach", x.removeCoach(0), SeatDesk.WRONG);
        CHECK.due("no coach: moved", x.moved(), 0);
        CHECK.due("no ride: standing", x.standing(0), SeatDesk.NONE);
        CHECK.due("no ride: manifest", x.manifest(0, 0), SeatDesk.NONE);
        SeatDesk y = new SeatDesk(5);
        x.coach(0, 3);
        CHECK.due("two objects share nothing", y.free(0, 0), 0);
    }

    private static void coach() {
        SeatDesk x = new SeatDesk(3);
        CHECK.due("type -1", x.coach(-1, 5), SeatDesk.WRONG);
        CHECK.due("type 2", x.coach(2, 5), SeatDesk.WRONG);
        CHECK.due("0 seats", x.coach(0, 0), SeatDesk.WRONG);
        CHECK.due("21 seats", x.coach(0, 21), SeatDesk.WRONG);
        CHECK.due("very many seats", x.coach(0, Integer.MAX_VALUE), SeatDesk.WRONG);
        CHECK.due("fewer than no seats", x.coach(0, Integer.MIN_VALUE), SeatDesk.WRONG);
        CHECK.due("1 seat", x.coach(1, 1), 0);
        CHECK.due("20 seats", x.coach(0, 20), 1);
        CHECK.due("free in class 1", x.free(0, 1), 1);
        CHECK.due("free in class 0", x.free(1, 0), 20);
        CHECK.due("told as 100 * coach + seat", x.seatOf(x.bookSeat(0, 1, 1, 19), 0), 119);
    }

    private static void coachLimits() {
        SeatDesk x = new SeatDesk(3);
        for (int k = 0; k < 8; k++) {
            CHECK.due("coach " + k, x.coach(0, 1), k);
        }
        CHECK.due("a ninth coach", x.coach(0, 1), SeatDesk.WRONG);
        CHECK.due("one taken out", x.removeCoach(3), 0);
        CHECK.due("eight coaches ever", x.coach(0, 1), SeatDesk.WRONG);
        SeatDesk y = new SeatDesk(3);
        for (int k = 0; k < 3; k++) {
            CHECK.due("coach of 20", y.coach(0, 20), k);
        }
        CHECK.due("61 seats", y.coach(1, 1), 3);
        CHECK.due("81 seats", y.coach(1, 20), SeatDesk.WRONG);
        CHECK.due("80 seats", y.coach(1, 19), 4);
        CHECK.due("81 seats", y.coach(1, 1), SeatDesk.WRONG);
        CHECK.due("the last seat", y.seatOf(y.bookSeat(0, 2, 4, 18), 1), 418);
    }

    private static void flags() {
        SeatDesk x = new SeatDesk(3);
        CHECK.due("no coach", x.flags(0, 0, 1), false);
        x.coach(0, 2);
        x.coach(0, 3);
        CHECK.due("mask 0", x.flags(0, 0, 0), true);
        CHECK.due("mask 255", x.flags(0, 1, 255), true);
        CHECK.due("mask 256", x.flags(0, 0, 256), false);
        CHECK.due("mask -1", x.flags(0, 0, -1), false);
        CHECK.due("seat -1", x.flags(0, -1, 1), false);
        CHECK.due("seat 2 of 2", x.flags(0, 2, 1), false);
        CHECK.due("seat 2 of 3", x.flags(1, 2, 4), true);
        CHECK.due("coach -1", x.flags(-1, 0, 1), false);
        CHECK.due("coach 2 of 2", x.flags(2, 0, 1), false);
        CHECK.due("set anew", x.flags(0, 1, 2), true);
        CHECK.due("a ride", x.book(0, 2, 0), 0);
        CHECK.due("flags that went", x.wish(0, 1), SeatDesk.NONE);
        CHECK.due("flags of one seat alone", x.wish(0, 4), 102);
        CHECK.due("out", x.removeCoach(1), 0);
        CHECK.due("a seat that is not there any more", x.flags(1, 2, 1), false);
    }

    private static void quota() {
        SeatDesk x = new SeatDesk(3);
        x.coach(0, 5);
        CHECK.due("stretch -1", x.quota(-1, 0, 1), false);
        CHECK.due("stretch 2 of 2", x.quota(2, 0, 1), false);
        CHECK.due("agency -1", x.quota(0, -1, 1), false);
        CHECK.due("agency 4", x.quota(0, 4, 1), false);
        CHECK.due("n -1", x.quota(0, 0, -1), false);
        CHECK.due("n 151", x.quota(0, 0, 151), false);
        CHECK.due("nothing of these counts", x.agencyBook(0, 0, 1, 0), SeatDesk.OVER);
        CHECK.due("n 150", x.quota(0, 3, 150), true);
        CHECK.due("the other stretch has 0", x.agencyBook(3, 0, 2, 0), SeatDesk.OVER);
        CHECK.due("the other agency has 0", x.agencyBook(2, 0, 1, 0), SeatDesk.OVER);
        CHECK.due("the last stretch", x.quota(1, 3, 1), true);
        CHECK.due("both", x.agencyBook(3, 0, 2, 0), 0);
        CHECK.due("n 0", x.quota(0, 3, 0), true);
        CHECK.due("what it has stays", x.ride(0, 0), 1);
        CHECK.due("no more", x.agencyBook(3, 0, 1, 0), SeatDesk.OVER);
    }
}
