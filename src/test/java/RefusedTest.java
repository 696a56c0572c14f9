import java.util.ArrayList;
import java.util.List;
import java.util.NoSuchElementException;
import java.util.function.Consumer;
import java.util.function.ToIntFunction;

/**
 * "Numbers that are not as said are WRONG; refused calls change nothing": each refused call is made on one of two
 * trains with the same history, and then both are asked all that can be asked, and must answer alike.
 */
public final class RefusedTest {
    private static final int WRONG = SeatDesk.WRONG, FULL = SeatDesk.FULL, BROKEN = SeatDesk.BROKEN, OVER = SeatDesk.OVER, NONE = SeatDesk.NONE;
    private static final int THROWS = -99;
    private static final int RIDES = 12, STATIONS = 4, SEATS = 5;
    private static final Due CHECK = new Due();

    private record Refusal(String name, ToIntFunction<SeatDesk> call, int answer) {
    }

    public static void main(String[] args) {
        CHECK.sentence("refused calls change nothing");
        changesNothing("a train of all kinds of rides", RefusedTest::allKinds, ofAllKinds());
        changesNothing("broken space", RefusedTest::brokenSpace, ofBrokenSpace());
        changesNothing("a sweep that fails late", RefusedTest::lateFailure, ofLateFailure());
        changesNothing("no coach", x -> { }, ofNoCoach());
        changesNothing("150 rides", RefusedTest::allNumbers, ofAllNumbers());
        CHECK.end();
    }

    private static void changesNothing(String train, Consumer<SeatDesk> history, List<Refusal> refusals) {
        SeatDesk untouched = new SeatDesk(STATIONS);
        history.accept(untouched);
        List<Integer> due = allThatCanBeAsked(untouched);
        CHECK.due(train + " has something to tell", due.size() > 200, true);
        SeatDesk all = new SeatDesk(STATIONS);
        history.accept(all);
        for (Refusal refusal : refusals) {
            SeatDesk x = new SeatDesk(STATIONS);
            history.accept(x);
            CHECK.due(train + ": " + refusal.name, refusal.call.applyAsInt(x), refusal.answer);
            CHECK.due(train + ": differs behind " + refusal.name, difference(allThatCanBeAsked(x), due), NONE);
            CHECK.due(train + ": among all others " + refusal.name, refusal.call.applyAsInt(all), refusal.answer);
        }
        CHECK.due(train + ": differs behind all of them", difference(allThatCanBeAsked(all), due), NONE);
    }

    /** Where two lists of answers differ first. */
    private static int difference(List<Integer> got, List<Integer> due) {
        for (int k = 0; k < due.size(); k++) {
            if (!got.get(k).equals(due.get(k))) {
                return k;
            }
        }
        return NONE;
    }

    private static int of(boolean answer) {
        return answer ? 1 : 0;
    }

    private static int ride(SeatDesk x, int ride, int what) {
        try {
            return x.ride(ride, what);
        } catch (NoSuchElementException e) {
            return THROWS;
        }
    }

    private static List<Integer> allThatCanBeAsked(SeatDesk x) {
        List<Integer> told = new ArrayList<>();
        told.add(x.moved());
        for (int ride = 0; ride < RIDES; ride++) {
            for (int what = 0; what < 6; what++) {
                told.add(ride(x, ride, what));
            }
            for (int stretch = 0; stretch < STATIONS - 1; stretch++) {
                told.add(x.seatOf(ride, stretch));
            }
        }
        for (int type = 0; type < 2; type++) {
            for (int stretch = 0; stretch < STATIONS - 1; stretch++) {
                told.add(x.load(stretch, type));
                told.add(x.free(stretch, type));
            }
            told.add(x.offerChanges(0, STATIONS - 1, type));
        }
        for (int station = 0; station < STATIONS; station++) {
            for (int i = 0; i < 5; i++) {
                told.add(x.manifest(station, i));
            }
        }
        told.add(x.standing(0));
        told.add(x.standing(1));
        addWhatOnlyChangesTell(x, told);
        return told;
    }

    /** Blocks, printed tickets, flags, quotas and the next numbers, which only calls that change something tell. */
    private static void addWhatOnlyChangesTell(SeatDesk x, List<Integer> told) {
        for (int seat = 0; seat < SEATS; seat++) {
            for (int from = 0; from < STATIONS - 1; from++) {
                for (int to = from + 1; to < STATIONS; to++) {
                    told.add(of(x.unblock(0, seat, from, to)));
                    told.add(of(x.unblock(0, seat, from, to)));
                }
            }
        }
        for (int ride = 0; ride < RIDES; ride++) {
            told.add(of(x.print(ride)));
        }
        for (int ride = 0; ride < RIDES; ride++) {
            x.cancel(ride);
        }
        for (int agency = 0; agency < 4; agency++) {
            for (int stretch = 0; stretch < STATIONS - 1; stretch++) {
                told.add(x.agencyBook(agency, stretch, stretch + 1, 0));
                told.add(x.agencyBook(agency, stretch, stretch + 1, 0));
            }
        }
        for (int mask = 1; mask <= 16; mask *= 2) {
            int wisher = x.book(0, 1, 0);
            told.add(wisher);
            told.add(x.wish(wisher, mask));
        }
        told.add(x.coach(0, 1));
    }

    /** Rides that are movable, fixed, printed, with changes, cancelled, standing; blocks, flags, quotas; coach 2 is out. */
    private static void allKinds(SeatDesk x) {
        x.coach(0, 3);
        x.coach(1, 2);
        x.coach(0, 1);
        x.flags(0, 1, 5);
        x.flags(1, 0, 3);
        x.quota(0, 1, 2);
        x.quota(1, 1, 1);
        x.quota(0, 3, 1);
        x.bookSeat(0, 1, 0, 0);
        x.bookSeat(2, 3, 0, 1);
        x.bookSeat(1, 2, 0, 2);
        x.agencyBook(1, 0, 1, 0);
        x.bookSeat(0, 3, 2, 0);
        x.book(0, 2, 1);
        x.book(1, 3, 1);
        x.bookChanges(0, 3, 0);
        CHECK.due("ride 4 stands", x.removeCoach(2), 1);
        x.book(1, 2, 0);
        x.print(0);
        x.block(0, 2, 2, 3);
        x.block(0, 2, 2, 3);
        x.bookSeat(0, 1, 1, 1);
        x.cancel(9);
        CHECK.dueSeats("all kinds", x, 0, 1, 2, 2, NONE, 100, 101, 1, 0, NONE);
    }

    private static List<Refusal> ofAllKinds() {
        List<Refusal> r = new ArrayList<>();
        r.add(new Refusal("coach of class 2", x -> x.coach(2, 1), WRONG));
        r.add(new Refusal("coach of 21 seats", x -> x.coach(0, 21), WRONG));
        r.add(new Refusal("coach of no seats", x -> x.coach(1, 0), WRONG));
        r.add(new Refusal("flags of a coach that is out", x -> of(x.flags(2, 0, 8)), 0));
        r.add(new Refusal("flags 256", x -> of(x.flags(0, 0, 256)), 0));
        r.add(new Refusal("flags -1", x -> of(x.flags(0, 1, -1)), 0));
        r.add(new Refusal("quota 151", x -> of(x.quota(0, 1, 151)), 0));
        r.add(new Refusal("quota -1", x -> of(x.quota(0, 1, -1)), 0));
        r.add(new Refusal("quota of agency 4", x -> of(x.quota(0, 4, 1)), 0));
        r.add(new Refusal("quota of stretch 3", x -> of(x.quota(3, 0, 1)), 0));
        r.add(new Refusal("book of class 2", x -> x.book(0, 1, 2), WRONG));
        r.add(new Refusal("book to station 4", x -> x.book(0, 4, 0), WRONG));
        r.add(new Refusal("book, full", x -> x.book(0, 3, 0), FULL));
        r.add(new Refusal("book in class 1, full", x -> x.book(0, 3, 1), FULL));
        r.add(new Refusal("agencyBook of agency -1", x -> x.agencyBook(-1, 0, 1, 0), WRONG));
        r.add(new Refusal("agencyBook, over", x -> x.agencyBook(1, 0, 3, 1), OVER));
        r.add(new Refusal("agencyBook in class 1, full", x -> x.agencyBook(1, 0, 2, 1), FULL));
        r.add(new Refusal("agencyBook, full", x -> x.agencyBook(3, 0, 1, 0), FULL));
        r.add(new Refusal("bookSeat in a coach that is out", x -> x.bookSeat(0, 1, 2, 0), WRONG));
        r.add(new Refusal("bookSeat on a ride's", x -> x.bookSeat(0, 1, 0, 2), FULL));
        r.add(new Refusal("bookSeat on a block's", x -> x.bookSeat(2, 3, 0, 2), FULL));
        r.add(new Refusal("bookGroup of 1", x -> x.bookGroup(0, 1, 1, 1), WRONG));
        r.add(new Refusal("bookGroup of 13", x -> x.bookGroup(0, 1, 1, 13), WRONG));
        r.add(new Refusal("bookGroup, full", x -> x.bookGroup(0, 1, 1, 2), FULL));
        r.add(new Refusal("offerChanges, wrong", x -> x.offerChanges(1, 1, 0), WRONG));
        r.add(new Refusal("offerChanges, none", x -> x.offerChanges(0, 3, 0), NONE));
        r.add(new Refusal("bookChanges, wrong", x -> x.bookChanges(-1, 2, 1), WRONG));
        r.add(new Refusal("bookChanges, full on its second stretch", x -> x.bookChanges(0, 3, 1), FULL));
        addOfRides(r);
        addOfSeats(r);
        return r;
    }

    private static void addOfRides(List<Refusal> r) {
        r.add(new Refusal("wish, mask 256", x -> x.wish(3, 256), WRONG));
        r.add(new Refusal("wish of a fixed one", x -> x.wish(2, 0), WRONG));
        r.add(new Refusal("wish of a printed one", x -> x.wish(0, 0), WRONG));
        r.add(new Refusal("wish of one that stands", x -> x.wish(4, 0), WRONG));
        r.add(new Refusal("wish of a cancelled one", x -> x.wish(9, 0), WRONG));
        r.add(new Refusal("wish of no ride", x -> x.wish(10, 0), WRONG));
        r.add(new Refusal("wish, none", x -> x.wish(3, 4), NONE));
        r.add(new Refusal("wish, no seat has the flags", x -> x.wish(6, 4), NONE));
        r.add(new Refusal("print of a printed one", x -> of(x.print(0)), 0));
        r.add(new Refusal("print of one that stands", x -> of(x.print(4)), 0));
        r.add(new Refusal("print of a cancelled one", x -> of(x.print(9)), 0));
        r.add(new Refusal("print of no ride", x -> of(x.print(10)), 0));
        r.add(new Refusal("cancel of a cancelled one", x -> of(x.cancel(9)), 0));
        r.add(new Refusal("cancel of no ride", x -> of(x.cancel(-1)), 0));
        r.add(new Refusal("shorten of one that stands", x -> of(x.shorten(4, 1, 2)), 0));
        r.add(new Refusal("shorten of a cancelled one", x -> of(x.shorten(9, 0, 1)), 0));
        r.add(new Refusal("shorten beyond the end", x -> of(x.shorten(5, 1, 3)), 0));
        r.add(new Refusal("shorten before the beginning", x -> of(x.shorten(6, 0, 2)), 0));
        r.add(new Refusal("shorten to nothing", x -> of(x.shorten(7, 1, 1)), 0));
        r.add(new Refusal("shorten backwards", x -> of(x.shorten(7, 2, 1)), 0));
        r.add(new Refusal("seatOf on stretch 3", x -> x.seatOf(7, 3), NONE));
        r.add(new Refusal("ride 10", x -> ride(x, 10, 0), THROWS));
        r.add(new Refusal("what 6", x -> ride(x, 0, 6), THROWS));
    }

    private static void addOfSeats(List<Refusal> r) {
        r.add(new Refusal("block on a fixed ride", x -> x.block(0, 1, 2, 3), 0));
        r.add(new Refusal("block on a fixed and a movable ride", x -> x.block(0, 0, 0, 2), 0));
        r.add(new Refusal("block on a movable ride", x -> x.block(0, 2, 0, 1), 0));
        r.add(new Refusal("block on another movable ride", x -> x.block(1, 0, 1, 2), 0));
        r.add(new Refusal("block in a coach that is out", x -> x.block(2, 0, 0, 1), WRONG));
        r.add(new Refusal("block of no stretch", x -> x.block(0, 2, 2, 2), WRONG));
        r.add(new Refusal("unblock of a part", x -> of(x.unblock(0, 2, 1, 3)), 0));
        r.add(new Refusal("unblock of another seat", x -> of(x.unblock(1, 1, 2, 3)), 0));
        r.add(new Refusal("unblock in a coach that is out", x -> of(x.unblock(2, 0, 2, 3)), 0));
        r.add(new Refusal("removeCoach of one that is out", x -> x.removeCoach(2), WRONG));
        r.add(new Refusal("removeCoach of none", x -> x.removeCoach(3), WRONG));
        r.add(new Refusal("removeCoach -1", x -> x.removeCoach(-1), WRONG));
        r.add(new Refusal("standing, none", x -> x.standing(1), NONE));
        r.add(new Refusal("load of stretch 3", x -> x.load(3, 0), WRONG));
        r.add(new Refusal("free of class 2", x -> x.free(0, 2), WRONG));
        r.add(new Refusal("manifest of station 4", x -> x.manifest(4, 0), NONE));
    }

    /** A sweep brings ride 1 from seat 1 to seat 0, and then finds no seat for one who goes all the way. */
    private static void brokenSpace(SeatDesk x) {
        x.coach(0, 2);
        for (int stretch = 0; stretch < STATIONS - 1; stretch++) {
            x.quota(stretch, 0, 2);
        }
        x.bookSeat(0, 1, 0, 0);
        x.book(0, 1, 0);
        x.cancel(0);
        x.bookSeat(1, 2, 0, 0);
        x.bookSeat(2, 3, 0, 1);
        CHECK.dueSeats("broken space", x, NONE, 1, 0, 1);
    }

    private static List<Refusal> ofBrokenSpace() {
        List<Refusal> r = new ArrayList<>();
        r.add(new Refusal("book, broken", x -> x.book(0, 3, 0), BROKEN));
        r.add(new Refusal("agencyBook, broken", x -> x.agencyBook(0, 0, 3, 0), BROKEN));
        r.add(new Refusal("bookGroup, full", x -> x.bookGroup(1, 3, 0, 2), FULL));
        return r;
    }

    /** A sweep brings ride 8 to another seat, and then finds no seat for ride 3 or ride 4. */
    private static void lateFailure(SeatDesk x) {
        x.coach(0, 4);
        x.flags(0, 0, 1);
        x.bookSeat(2, 3, 0, 1);
        x.bookSeat(1, 2, 0, 2);
        x.bookSeat(1, 2, 0, 3);
        x.book(1, 3, 0);
        x.book(1, 2, 0);
        x.bookSeat(0, 1, 0, 0);
        x.bookSeat(0, 1, 0, 1);
        x.bookSeat(0, 1, 0, 2);
        x.book(0, 1, 0);
        x.cancel(5);
        x.cancel(6);
        x.cancel(7);
        CHECK.dueSeats("late failure", x, 1, 2, 3, 0, 1, NONE, NONE, NONE, 3);
    }

    private static List<Refusal> ofLateFailure() {
        List<Refusal> r = new ArrayList<>();
        r.add(new Refusal("book, full", x -> x.book(0, 2, 0), FULL));
        r.add(new Refusal("wish, none", x -> x.wish(4, 1), NONE));
        r.add(new Refusal("block", x -> x.block(0, 0, 1, 2), 0));
        r.add(new Refusal("block of more", x -> x.block(0, 0, 0, 3), 0));
        return r;
    }

    private static List<Refusal> ofNoCoach() {
        List<Refusal> r = new ArrayList<>();
        r.add(new Refusal("book", x -> x.book(0, 3, 0), FULL));
        r.add(new Refusal("agencyBook", x -> x.agencyBook(0, 0, 3, 0), OVER));
        r.add(new Refusal("bookSeat", x -> x.bookSeat(0, 3, 0, 0), WRONG));
        r.add(new Refusal("bookGroup", x -> x.bookGroup(0, 3, 0, 2), FULL));
        r.add(new Refusal("bookChanges", x -> x.bookChanges(0, 3, 0), FULL));
        r.add(new Refusal("block", x -> x.block(0, 0, 0, 3), WRONG));
        r.add(new Refusal("removeCoach", x -> x.removeCoach(0), WRONG));
        return r;
    }

    /** 150 rides, all of which are cancelled but for three. */
    private static void allNumbers(SeatDesk x) {
        x.coach(0, 20);
        x.quota(2, 0, 1);
        for (int k = 0; k < 12; k++) {
            x.bookGroup(0, 2, 0, 12);
            for (int ride = 12 * k + 3; ride < 12 * k + 12; ride++) {
                x.cancel(ride);
            }
            if (k > 0) {
                x.cancel(12 * k);
                x.cancel(12 * k + 1);
                x.cancel(12 * k + 2);
            }
        }
        x.bookGroup(1, 3, 0, 6);
        CHECK.due("the last ride", x.ride(149, 0), 2);
    }

    private static List<Refusal> ofAllNumbers() {
        List<Refusal> r = new ArrayList<>();
        r.add(new Refusal("book", x -> x.book(0, 1, 0), WRONG));
        r.add(new Refusal("agencyBook", x -> x.agencyBook(0, 2, 3, 0), WRONG));
        r.add(new Refusal("bookSeat", x -> x.bookSeat(0, 1, 0, 19), WRONG));
        r.add(new Refusal("bookGroup", x -> x.bookGroup(0, 1, 0, 2), WRONG));
        r.add(new Refusal("bookChanges", x -> x.bookChanges(0, 1, 0), WRONG));
        return r;
    }
}
