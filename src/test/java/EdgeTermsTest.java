/** The boundary cases that "Terms" names, a test for each sentence: the train, its rides, how they are placed. */
public final class EdgeTermsTest {
    private static final int WRONG = SeatDesk.WRONG, FULL = SeatDesk.FULL, BROKEN = SeatDesk.BROKEN, OVER = SeatDesk.OVER, NONE = SeatDesk.NONE;
    private static final int MIN = Integer.MIN_VALUE, MAX = Integer.MAX_VALUE;
    private static final Due CHECK = new Due();

    public static void main(String[] args) {
        stations();
        stretches();
        coachNumbersAndClasses();
        eightCoachesEver();
        eightySeatsInAll();
        allOfThemTaken();
        flags();
        toldSeats();
        toALaterOne();
        numbersInOrder();
        oneHundredAndFiftyEver();
        oneSeatForAllStretches();
        movableOrFixed();
        blockKeepsFromAll();
        freeThrough();
        freeThroughIsOfItsClassAndThere();
        noOtherRide();
        spaceBehind();
        spaceToTheLastStation();
        best();
        asAllSitNow();
        sweepOfTheClassAlone();
        sweepByStation();
        sweepByNumber();
        bestThen();
        oneFindsNone();
        brokenOrFull();
        thoseThatStandCount();
        seatsThatAreThere();
        movedOnce();
        quotasAtFirst();
        agencies();
        bothClassesTogether();
        untilCancelled();
        numbersNotAsSaid();
        ownMemory();
        callNumber512();
        CHECK.end();
    }

    /** Coach 0 of class 0 with 20 seats, ride 0 on the whole way on seat 0, and agency 0 may book. */
    private static SeatDesk train(int stations) {
        SeatDesk x = new SeatDesk(stations);
        x.coach(0, 20);
        for (int stretch = 0; stretch < stations - 1; stretch++) {
            x.quota(stretch, 0, 150);
        }
        x.book(0, stations - 1, 0);
        return x;
    }

    private static void refusedWay(int stations, int from, int to) {
        SeatDesk x = train(stations);
        String way = " of " + stations + " stations, from " + from + " to " + to;
        CHECK.due("book" + way, x.book(from, to, 0), WRONG);
        CHECK.due("agencyBook" + way, x.agencyBook(0, from, to, 0), WRONG);
        CHECK.due("bookSeat" + way, x.bookSeat(from, to, 0, 19), WRONG);
        CHECK.due("bookGroup" + way, x.bookGroup(from, to, 0, 2), WRONG);
        CHECK.due("offerChanges" + way, x.offerChanges(from, to, 0), WRONG);
        CHECK.due("bookChanges" + way, x.bookChanges(from, to, 0), WRONG);
        CHECK.due("block" + way, x.block(0, 18, from, to), WRONG);
        CHECK.due("unblock" + way, x.unblock(0, 18, from, to), false);
        CHECK.due("shorten" + way, x.shorten(0, from, to), false);
    }

    private static void goodWay(int stations, int from, int to) {
        SeatDesk x = train(stations);
        String way = " of " + stations + " stations, from " + from + " to " + to;
        CHECK.due("book" + way, x.book(from, to, 0), 1);
        CHECK.due("agencyBook" + way, x.agencyBook(0, from, to, 0), 2);
        CHECK.due("bookSeat" + way, x.bookSeat(from, to, 0, 19), 3);
        CHECK.due("bookGroup" + way, x.bookGroup(from, to, 0, 2), 4);
        CHECK.due("offerChanges" + way, x.offerChanges(from, to, 0), 0);
        CHECK.due("bookChanges" + way, x.bookChanges(from, to, 0), 6);
        CHECK.due("block" + way, x.block(0, 18, from, to), 1);
        CHECK.due("unblock" + way, x.unblock(0, 18, from, to), true);
        CHECK.due("shorten" + way, x.shorten(0, from, to), true);
        for (int ride = 0; ride <= 6; ride++) {
            CHECK.due("from of ride " + ride + way, x.ride(ride, 1), from);
            CHECK.due("to of ride " + ride + way, x.ride(ride, 2), to);
            CHECK.due("first stretch of ride " + ride + way, x.seatOf(ride, from) != NONE, true);
            CHECK.due("last stretch of ride " + ride + way, x.seatOf(ride, to - 1) != NONE, true);
        }
        CHECK.due("seven rides on the last stretch" + way, x.load(to - 1, 0), 7);
        CHECK.due("seven seats on the first stretch" + way, x.free(from, 0), 13);
    }

    private static void stations() {
        CHECK.sentence("A train has STATIONS 0 .. S - 1");
        int[] trains = {2, 3, 4, 10, 29, 30};
        for (int s : trains) {
            goodWay(s, 0, 1);
            goodWay(s, s - 2, s - 1);
            goodWay(s, 0, s - 1);
            refusedWay(s, -1, 0);
            refusedWay(s, -1, s - 1);
            refusedWay(s, 0, s);
            refusedWay(s, s - 1, s);
            refusedWay(s, s, s + 1);
            refusedWay(s, MIN, 0);
            refusedWay(s, MIN, MAX);
            refusedWay(s, 0, MAX);
        }
        // Numbers that would be good ones again if a shift wrapped around.
        refusedWay(30, 0, 32);
        refusedWay(30, 32, 33);
        refusedWay(30, -32, 1);
        SeatDesk x = train(4);
        CHECK.due("who boards at station 0", x.manifest(0, 0), 0);
        CHECK.due("who leaves at station S - 1", x.manifest(3, 0), 0);
    }

    private static void stretches() {
        CHECK.sentence("STRETCHES 0 .. S - 2 between them");
        int[] trains = {2, 3, 10, 30};
        for (int s : trains) {
            SeatDesk x = train(s);
            int[] good = {0, s - 2};
            for (int stretch : good) {
                CHECK.due("quota on stretch " + stretch + " of " + s, x.quota(stretch, 1, 1), true);
                CHECK.due("load on stretch " + stretch + " of " + s, x.load(stretch, 0), 1);
                CHECK.due("free on stretch " + stretch + " of " + s, x.free(stretch, 0), 19);
                CHECK.due("seatOf on stretch " + stretch + " of " + s, x.seatOf(0, stretch), 0);
            }
            int[] none = {-1, s - 1, s, 32, -32, MIN, MAX};
            for (int stretch : none) {
                CHECK.due("quota on stretch " + stretch + " of " + s, x.quota(stretch, 1, 1), false);
                CHECK.due("load on stretch " + stretch + " of " + s, x.load(stretch, 0), WRONG);
                CHECK.due("free on stretch " + stretch + " of " + s, x.free(stretch, 0), WRONG);
                CHECK.due("seatOf on stretch " + stretch + " of " + s, x.seatOf(0, stretch), NONE);
            }
        }
    }

    private static void coachNumbersAndClasses() {
        CHECK.sentence("COACHES, numbered from 0, have a class 0 or 1 and SEATS from 0");
        SeatDesk x = new SeatDesk(3);
        CHECK.due("the first coach, of class 1", x.coach(1, 2), 0);
        CHECK.due("the second, of class 0", x.coach(0, 2), 1);
        CHECK.due("its first seat", x.bookSeat(0, 1, 1, 0), 0);
        CHECK.due("its last seat", x.bookSeat(0, 1, 1, 1), 1);
        CHECK.due("seats before the first", x.bookSeat(0, 1, 1, -1), WRONG);
        CHECK.due("seats behind the last", x.bookSeat(0, 1, 1, 2), WRONG);
        CHECK.due("class 0", x.ride(0, 3), 0);
        CHECK.due("a seat of class 1", x.ride(x.bookSeat(0, 1, 0, 0), 3), 1);
        x.quota(0, 0, 150);
        int[] none = {-1, 2, MIN, MAX};
        for (int type : none) {
            CHECK.due("coach of class " + type, x.coach(type, 2), WRONG);
            CHECK.due("book in class " + type, x.book(0, 1, type), WRONG);
            CHECK.due("agencyBook in class " + type, x.agencyBook(0, 0, 1, type), WRONG);
            CHECK.due("bookGroup in class " + type, x.bookGroup(0, 1, type, 2), WRONG);
            CHECK.due("offerChanges in class " + type, x.offerChanges(0, 1, type), WRONG);
            CHECK.due("bookChanges in class " + type, x.bookChanges(0, 1, type), WRONG);
            CHECK.due("load of class " + type, x.load(0, type), WRONG);
            CHECK.due("free of class " + type, x.free(0, type), WRONG);
        }
    }

    private static void eightCoachesEver() {
        CHECK.sentence("at most 8 coaches ever");
        SeatDesk x = new SeatDesk(2);
        for (int k = 0; k < 8; k++) {
            CHECK.due("coach " + k, x.coach(k % 2, 1), k);
        }
        CHECK.due("a ninth", x.coach(0, 1), WRONG);
        CHECK.due("the eighth can be booked", x.bookSeat(0, 1, 7, 0), 0);
        CHECK.due("a ninth can't", x.bookSeat(0, 1, 8, 0), WRONG);
        CHECK.due("the first is taken out", x.removeCoach(0), 0);
        CHECK.due("that makes no room for another", x.coach(0, 1), WRONG);
        SeatDesk y = new SeatDesk(2);
        for (int k = 0; k < 8; k++) {
            CHECK.due("coach " + k, y.coach(0, 1), k);
            CHECK.due("is taken out", y.removeCoach(k), 0);
        }
        CHECK.due("none is there, but eight there were", y.coach(0, 1), WRONG);
    }

    private static void eightySeatsInAll() {
        CHECK.sentence("80 seats in all");
        SeatDesk x = new SeatDesk(2);
        for (int k = 0; k < 4; k++) {
            CHECK.due("20 seats more", x.coach(k % 2, 20), k);
        }
        CHECK.due("of both classes together 80", x.free(0, 0) + x.free(0, 1), 80);
        CHECK.due("81", x.coach(0, 1), WRONG);
        SeatDesk y = new SeatDesk(2);
        for (int k = 0; k < 3; k++) {
            y.coach(0, 20);
        }
        CHECK.due("79", y.coach(0, 19), 3);
        CHECK.due("81", y.coach(0, 2), WRONG);
        CHECK.due("99", y.coach(0, 20), WRONG);
        CHECK.due("80", y.coach(0, 1), 4);
        CHECK.due("81", y.coach(0, 1), WRONG);
        CHECK.due("free", y.free(0, 0), 80);
    }

    private static void allOfThemTaken() {
        CHECK.sentence("at most 8 coaches ever, 80 seats in all");
        SeatDesk x = new SeatDesk(30);
        for (int k = 0; k < 8; k++) {
            x.coach(0, 10);
        }
        x.quota(28, 0, 150);
        for (int k = 0; k < 80; k++) {
            CHECK.due("ride " + k, x.seatOf(x.book(0, 29, 0), 28), 100 * (k / 10) + k % 10);
        }
        CHECK.due("book", x.book(28, 29, 0), FULL);
        CHECK.due("agencyBook", x.agencyBook(0, 28, 29, 0), FULL);
        CHECK.due("bookSeat", x.bookSeat(28, 29, 7, 9), FULL);
        CHECK.due("bookGroup", x.bookGroup(28, 29, 0, 2), FULL);
        CHECK.due("offerChanges", x.offerChanges(28, 29, 0), NONE);
        CHECK.due("bookChanges", x.bookChanges(28, 29, 0), FULL);
        CHECK.due("wish", x.wish(79, 1), NONE);
        CHECK.due("block", x.block(7, 9, 28, 29), 0);
        CHECK.due("free", x.free(28, 0), 0);
        CHECK.due("of the other class there is none", x.book(28, 29, 1), FULL);
        CHECK.due("the last seat gets a flag", x.flags(7, 9, 1), true);
        CHECK.due("the first ride wishes it", x.wish(0, 1), 709);
        CHECK.due("all others have moved down by one", x.moved(), 79);
        CHECK.due("the last one is on the last seat but one", x.seatOf(79, 0), 708);
        CHECK.due("the last coach is taken out", x.removeCoach(7), 10);
        CHECK.due("load", x.load(28, 0), 80);
        CHECK.due("the first one that stands", x.standing(0), 0);
        CHECK.due("the last one", x.standing(9), 79);
    }

    private static void flags() {
        CHECK.sentence("A seat has FLAGS (a mask 0 .. 255)");
        SeatDesk x = new SeatDesk(2);
        x.coach(0, 2);
        x.book(0, 1, 0);
        for (int bit = 1; bit <= 128; bit *= 2) {
            CHECK.due("no flags at first: " + bit, x.wish(0, bit), NONE);
        }
        CHECK.due("mask 255", x.flags(0, 1, 255), true);
        CHECK.due("mask 256", x.flags(0, 1, 256), false);
        CHECK.due("mask -1", x.flags(0, 1, -1), false);
        CHECK.due("far up", x.flags(0, 1, MAX), false);
        CHECK.due("far down", x.flags(0, 1, MIN), false);
        CHECK.due("wish of 256", x.wish(0, 256), WRONG);
        CHECK.due("wish of -1", x.wish(0, -1), WRONG);
        CHECK.due("wish of far up", x.wish(0, MAX), WRONG);
        CHECK.due("wish of far down", x.wish(0, MIN), WRONG);
        CHECK.due("wish of 255", x.wish(0, 255), 1);
        SeatDesk y = new SeatDesk(2);
        y.coach(0, 2);
        y.flags(0, 1, 128);
        y.book(0, 1, 0);
        CHECK.due("all but the one that it has", y.wish(0, 127), NONE);
        CHECK.due("the highest", y.wish(0, 128), 1);
    }

    private static void toldSeats() {
        CHECK.sentence("Seats are told as 100 * coach + seat");
        SeatDesk x = new SeatDesk(2);
        for (int k = 0; k < 7; k++) {
            x.coach(0, 8);
        }
        x.coach(1, 20);
        CHECK.due("the first seat", x.seatOf(x.bookSeat(0, 1, 0, 0), 0), 0);
        CHECK.due("the last seat of the first coach", x.seatOf(x.bookSeat(0, 1, 0, 7), 0), 7);
        CHECK.due("the first seat of the last coach", x.seatOf(x.bookSeat(0, 1, 7, 0), 0), 700);
        CHECK.due("the last seat of the last coach", x.seatOf(x.bookSeat(0, 1, 7, 19), 0), 719);
        x.flags(7, 18, 1);
        x.book(0, 1, 1);
        CHECK.due("a wish tells it so, too", x.wish(4, 1), 718);
    }

    private static void toALaterOne() {
        CHECK.sentence("A RIDE goes from a station to a later one");
        for (int s = 0; s < 4; s++) {
            refusedWay(4, s, s);
        }
        refusedWay(4, 1, 0);
        refusedWay(4, 3, 2);
        refusedWay(4, 3, 0);
        refusedWay(4, MAX, MIN);
    }

    private static void numbersInOrder() {
        CHECK.sentence("numbers are given in the order of booking");
        SeatDesk x = new SeatDesk(3);
        x.coach(0, 3);
        CHECK.due("the first", x.bookSeat(0, 1, 0, 0), 0);
        CHECK.due("wrong", x.book(0, 0, 0), WRONG);
        CHECK.due("full", x.bookSeat(0, 1, 0, 0), FULL);
        CHECK.due("the next", x.bookSeat(1, 2, 0, 1), 1);
        CHECK.due("full", x.bookGroup(0, 2, 0, 2), FULL);
        CHECK.due("a group", x.bookGroup(0, 1, 0, 2), 2);
        CHECK.due("full", x.book(0, 1, 0), FULL);
        CHECK.due("full", x.bookChanges(0, 1, 0), FULL);
        CHECK.due("over", x.agencyBook(0, 1, 2, 0), OVER);
        CHECK.due("behind the group", x.book(1, 2, 0), 4);
        CHECK.due("a cancelled one", x.cancel(4), true);
        CHECK.due("keeps its number", x.bookChanges(1, 2, 0), 5);
        x.quota(1, 0, 1);
        CHECK.due("an agency", x.agencyBook(0, 1, 2, 0), 6);
        CHECK.due("over", x.agencyBook(0, 1, 2, 0), OVER);
        CHECK.due("the first seat", x.seatOf(6, 1), 2);
        SeatDesk y = new SeatDesk(3);
        y.coach(0, 2);
        y.block(0, 0, 0, 1);
        y.block(0, 1, 1, 2);
        CHECK.due("broken", y.book(0, 2, 0), BROKEN);
        CHECK.due("the first all the same", y.book(0, 1, 0), 0);
    }

    /** 143 numbers are given; stretches 20 and later are free, and agency 0 may book. */
    private static SeatDesk nearlyAllNumbers() {
        SeatDesk x = train(30);
        x.cancel(0);
        for (int s = 0; s < 11; s++) {
            CHECK.due("a group on stretch " + s, x.bookGroup(s, s + 1, 0, 12), 1 + 12 * s);
        }
        CHECK.due("ten more", x.bookGroup(11, 12, 0, 10), 133);
        return x;
    }

    private static void oneHundredAndFiftyEver() {
        CHECK.sentence("at most 150 ever");
        SeatDesk x = nearlyAllNumbers();
        CHECK.due("155 they would be", x.bookGroup(20, 21, 0, 12), WRONG);
        CHECK.due("151 they would be", x.bookGroup(20, 21, 0, 8), WRONG);
        CHECK.due("150 they are", x.bookGroup(20, 21, 0, 7), 143);
        noMore(x);
        CHECK.due("a cancelled one counts", x.cancel(1), true);
        noMore(x);
        SeatDesk y = nearlyAllNumbers();
        y.bookGroup(20, 21, 0, 6);
        CHECK.due("149 were given: no group", y.bookGroup(21, 22, 0, 2), WRONG);
        CHECK.due("the last number is 149", y.book(21, 22, 0), 149);
        noMore(y);
    }

    private static void noMore(SeatDesk x) {
        CHECK.due("book", x.book(22, 23, 0), WRONG);
        CHECK.due("agencyBook", x.agencyBook(0, 22, 23, 0), WRONG);
        CHECK.due("bookSeat", x.bookSeat(22, 23, 0, 0), WRONG);
        CHECK.due("bookGroup", x.bookGroup(22, 23, 0, 2), WRONG);
        CHECK.due("bookChanges", x.bookChanges(22, 23, 0), WRONG);
        CHECK.due("nobody goes there", x.load(22, 0), 0);
    }

    private static void oneSeatForAllStretches() {
        CHECK.sentence("a seat for each of its stretches (one seat, but for rides with changes)");
        SeatDesk x = new SeatDesk(4);
        x.coach(0, 2);
        x.bookSeat(0, 1, 0, 0);
        x.bookSeat(2, 3, 0, 1);
        CHECK.due("no seat is free on all", x.book(0, 3, 0), BROKEN);
        CHECK.due("with a change there is one on each", x.bookChanges(0, 3, 0), 2);
        int[] seats = {1, 1, 0};
        for (int s = 0; s < 3; s++) {
            CHECK.due("on stretch " + s, x.seatOf(2, s), seats[s]);
        }
    }

    private static void movableOrFixed() {
        CHECK.sentence("It is MOVABLE, or FIXED: printed, wished, in a group, with a chosen seat, or with changes");
        SeatDesk x = new SeatDesk(3);
        x.coach(0, 20);
        x.quota(0, 0, 1);
        x.quota(1, 0, 1);
        x.book(0, 2, 0);
        x.agencyBook(0, 0, 2, 0);
        CHECK.due("a booked one", x.ride(0, 0), 1);
        CHECK.due("an agency's", x.ride(1, 0), 1);
        x.book(0, 2, 0);
        x.print(2);
        x.book(0, 2, 0);
        x.wish(3, 0);
        x.bookGroup(0, 2, 0, 2);
        x.bookSeat(0, 2, 0, 6);
        x.bookChanges(0, 2, 0);
        for (int ride = 2; ride <= 7; ride++) {
            CHECK.due("fixed: ride " + ride, x.ride(ride, 0), 2);
            CHECK.due("it has one seat: ride " + ride, x.seatOf(ride, 0), ride);
            CHECK.due("gives no way: ride " + ride, x.block(0, ride, 1, 2), 0);
            CHECK.due("has no wish more: ride " + ride, x.wish(ride, 0), WRONG);
        }
        for (int ride = 0; ride < 2; ride++) {
            CHECK.due("gives way: ride " + ride, x.block(0, ride, 1, 2), 1);
            CHECK.due("movable still: ride " + ride, x.ride(ride, 0), 1);
        }
    }

    private static void blockKeepsFromAll() {
        CHECK.sentence("A BLOCK keeps a seat from all rides on some stretches");
        SeatDesk x = new SeatDesk(5);
        x.coach(0, 2);
        x.quota(1, 0, 1);
        x.quota(2, 0, 1);
        x.block(0, 0, 1, 3);
        x.block(0, 1, 1, 3);
        for (int s = 1; s < 3; s++) {
            CHECK.due("book on " + s, x.book(s, s + 1, 0), BROKEN);
            CHECK.due("agencyBook on " + s, x.agencyBook(0, s, s + 1, 0), BROKEN);
            CHECK.due("bookSeat on " + s, x.bookSeat(s, s + 1, 0, 0), FULL);
            CHECK.due("bookGroup on " + s, x.bookGroup(s, s + 1, 0, 2), FULL);
            CHECK.due("offerChanges on " + s, x.offerChanges(s, s + 1, 0), NONE);
            CHECK.due("bookChanges on " + s, x.bookChanges(s, s + 1, 0), FULL);
        }
        CHECK.due("before", x.bookSeat(0, 1, 0, 0), 0);
        CHECK.due("behind", x.bookSeat(3, 4, 0, 0), 1);
    }

    /** A train of one seat, on which another ride or a block has one stretch of four; may (1, 3) be booked? */
    private static void besideOne(boolean block, int stretch, int answer) {
        SeatDesk x = new SeatDesk(5);
        x.coach(0, 1);
        if (block) {
            x.block(0, 0, stretch, stretch + 1);
        } else {
            x.bookSeat(stretch, stretch + 1, 0, 0);
        }
        String there = (block ? "a block" : "a ride") + " on stretch " + stretch;
        boolean free = answer >= 0;
        CHECK.due(there + ": offerChanges", x.offerChanges(1, 3, 0), free ? 0 : NONE);
        CHECK.due(there + ": book", x.book(1, 3, 0), answer);
        if (free) {
            x.cancel(answer);
            CHECK.due(there + ": bookSeat", x.bookSeat(1, 3, 0, 0), answer + 1);
        } else {
            CHECK.due(there + ": bookSeat", x.bookSeat(1, 3, 0, 0), FULL);
        }
    }

    private static void freeThrough() {
        CHECK.sentence("no other ride has and no block keeps on any of its stretches");
        besideOne(false, 0, 1);
        besideOne(false, 1, FULL);
        besideOne(false, 2, FULL);
        besideOne(false, 3, 1);
        besideOne(true, 0, 0);
        besideOne(true, 1, BROKEN);
        besideOne(true, 2, BROKEN);
        besideOne(true, 3, 0);
    }

    private static void freeThroughIsOfItsClassAndThere() {
        CHECK.sentence("FREE THROUGH a ride is a seat (of a coach that is there, of its class)");
        SeatDesk x = new SeatDesk(3);
        x.coach(1, 3);
        x.coach(0, 3);
        x.coach(0, 1);
        CHECK.due("a coach is taken out", x.removeCoach(1), 0);
        CHECK.due("book", x.seatOf(x.book(0, 1, 0), 0), 200);
        CHECK.due("one more", x.book(0, 1, 0), FULL);
        CHECK.due("bookGroup", x.bookGroup(0, 1, 0, 2), FULL);
        CHECK.due("offerChanges", x.offerChanges(0, 1, 0), NONE);
        CHECK.due("bookChanges", x.bookChanges(0, 1, 0), FULL);
        CHECK.due("free", x.free(0, 0), 0);
        x.flags(0, 0, 1);
        CHECK.due("wish", x.wish(0, 1), NONE);
        CHECK.due("the other class", x.seatOf(x.book(0, 1, 1), 0), 0);
    }

    private static void noOtherRide() {
        CHECK.sentence("that no other ride has");
        SeatDesk x = new SeatDesk(3);
        x.coach(0, 1);
        x.book(0, 2, 0);
        CHECK.due("its own seat is free through it", x.wish(0, 0), 0);
    }

    /** The seat that a ride (0, 2) takes of the given seats' rides and blocks behind it: {seat, from, to, 1 for a block}. */
    private static void behind(String what, int seat, int[]... there) {
        SeatDesk x = new SeatDesk(6);
        x.coach(0, 2);
        for (int[] t : there) {
            if (t[3] == 1) {
                x.block(0, t[0], t[1], t[2]);
            } else {
                x.bookSeat(t[1], t[2], 0, t[0]);
            }
        }
        CHECK.due(what, x.seatOf(x.book(0, 2, 0), 0), seat);
    }

    private static void spaceBehind() {
        CHECK.sentence("The SPACE BEHIND is how many stretches from the ride's end on are free of rides and blocks, up to the first that isn't");
        behind("a ride begins where it ends", 1, new int[] {1, 2, 3, 0});
        behind("a block begins where it ends", 1, new int[] {1, 2, 3, 1});
        behind("a stretch later", 1, new int[] {1, 3, 4, 0}, new int[] {0, 4, 5, 0});
        behind("a block a stretch later", 1, new int[] {1, 3, 4, 1}, new int[] {0, 4, 5, 1});
        behind("none and one", 1, new int[] {0, 3, 4, 0}, new int[] {1, 2, 3, 1});
        behind("what is free behind the first that isn't does not count", 0, new int[] {0, 3, 4, 0}, new int[] {1, 3, 5, 0});
        behind("nor behind a block", 0, new int[] {0, 2, 3, 1}, new int[] {1, 2, 5, 0});
        SeatDesk x = new SeatDesk(6);
        x.coach(0, 2);
        x.bookSeat(3, 5, 0, 0);
        x.book(3, 5, 0);
        x.cancel(0);
        CHECK.due("a movable ride ends the space, too", x.seatOf(x.book(0, 3, 0), 0), 1);
    }

    private static void spaceToTheLastStation() {
        CHECK.sentence("or to the last station");
        behind("to the end, and a stretch less", 1, new int[] {1, 4, 5, 0});
        int[] trains = {2, 3, 30};
        for (int s : trains) {
            SeatDesk x = new SeatDesk(s);
            x.coach(0, 3);
            CHECK.due("nothing is behind the last station, of " + s, x.seatOf(x.book(s - 2, s - 1, 0), s - 2), 0);
            CHECK.due("nor for the next, of " + s, x.seatOf(x.book(s - 2, s - 1, 0), s - 2), 1);
        }
        SeatDesk y = new SeatDesk(30);
        y.coach(0, 2);
        y.bookSeat(28, 29, 0, 1);
        CHECK.due("one stretch is left on seat 0, none on seat 1", y.seatOf(y.book(27, 28, 0), 27), 1);
        CHECK.due("28 on seat 0, 26 on seat 1", y.seatOf(y.book(0, 1, 0), 0), 1);
    }

    private static void best() {
        CHECK.sentence("The BEST of some seats is the one with the least space behind, of several the one with the lower coach, then the lower seat");
        SeatDesk x = new SeatDesk(4);
        x.coach(0, 3);
        x.coach(0, 3);
        x.coach(0, 3);
        x.block(2, 2, 1, 2);
        x.block(1, 2, 1, 2);
        x.block(1, 1, 1, 2);
        int[] seats = {101, 102, 202, 0, 1, 2, 100, 200, 201};
        for (int k = 0; k < seats.length; k++) {
            CHECK.due("ride " + k, x.seatOf(x.book(0, 1, 0), 0), seats[k]);
        }
        CHECK.due("one more", x.book(0, 1, 0), FULL);
    }

    private static void asAllSitNow() {
        CHECK.sentence("on the best of the seats that are free through it, as all sit now");
        SeatDesk x = new SeatDesk(4);
        x.coach(0, 2);
        x.book(0, 1, 0);
        x.book(1, 3, 0);
        x.book(1, 3, 0);
        x.cancel(1);
        CHECK.dueSeats("before", x, 0, NONE, 1);
        CHECK.due("seat 1 is free", x.book(0, 1, 0), 3);
        // A sweep would bring ride 2 to seat 0.
        CHECK.dueSeats("nobody moves, since a seat is free", x, 0, NONE, 1, 1);
        CHECK.due("moved", x.moved(), 0);
    }

    private static void sweepOfTheClassAlone() {
        CHECK.sentence("all movable rides of the class (this one, too) give up their seats");
        SeatDesk x = new SeatDesk(4);
        x.coach(0, 2);
        x.coach(1, 2);
        x.bookSeat(0, 3, 1, 0);
        x.book(1, 2, 1);
        x.cancel(0);
        x.bookSeat(0, 1, 0, 1);
        x.book(1, 2, 0);
        CHECK.dueSeats("before", x, NONE, 101, 1, 0);
        CHECK.due("a sweep", x.book(0, 2, 0), 4);
        CHECK.dueSeats("the other class and the fixed one sit", x, NONE, 101, 1, 1, 0);
        CHECK.due("moved", x.moved(), 1);
    }

    private static void sweepByStation() {
        CHECK.sentence("in the order of the station where they begin");
        SeatDesk x = new SeatDesk(4);
        x.coach(0, 2);
        x.bookSeat(0, 1, 0, 1);
        x.book(1, 2, 0);
        CHECK.dueSeats("before", x, 1, 0);
        // By number ride 1 would take seat 0 first, and ride 2 would find none.
        CHECK.due("the last by number is the first by station", x.book(0, 2, 0), 2);
        CHECK.dueSeats("behind", x, 1, 1, 0);
        SeatDesk y = new SeatDesk(4);
        y.coach(0, 4);
        y.book(1, 2, 0);
        y.book(0, 2, 0);
        y.book(0, 3, 0);
        CHECK.dueSeats("before", y, 0, 1, 2);
        CHECK.due("a block", y.block(0, 2, 0, 1), 1);
        CHECK.dueSeats("behind", y, 2, 0, 1);
        CHECK.due("moved", y.moved(), 3);
    }

    private static void sweepByNumber() {
        CHECK.sentence("then of their numbers");
        SeatDesk x = new SeatDesk(4);
        x.coach(0, 2);
        x.bookSeat(2, 3, 0, 1);
        x.bookSeat(1, 2, 0, 1);
        x.book(1, 2, 0);
        x.bookSeat(0, 1, 0, 0);
        x.book(0, 1, 0);
        x.cancel(1);
        x.cancel(3);
        CHECK.dueSeats("before", x, 1, NONE, 0, NONE, 1);
        // Ride 5 would take seat 1 if it came before ride 4.
        CHECK.due("the new one is the last of its station", x.book(0, 2, 0), 5);
        CHECK.dueSeats("behind", x, 1, NONE, 1, NONE, 1, 0);
        CHECK.due("moved", x.moved(), 1);
    }

    private static void bestThen() {
        CHECK.sentence("each takes the best of the seats that are free through it then");
        SeatDesk x = new SeatDesk(5);
        x.coach(0, 3);
        x.book(0, 2, 0);
        x.book(0, 2, 0);
        x.book(2, 4, 0);
        CHECK.dueSeats("before", x, 0, 1, 0);
        x.bookSeat(2, 3, 0, 1);
        CHECK.due("a block on seat 0, behind which both others have space", x.block(0, 0, 3, 4), 1);
        // Ride 0: seat 0 has one stretch behind, seat 1 none. Ride 1: seat 0 one, seat 2 two. Ride 2: seat 2 alone.
        CHECK.dueSeats("behind", x, 1, 0, 2, 1);
        CHECK.due("all have moved", x.moved(), 3);
    }

    private static void oneFindsNone() {
        CHECK.sentence("If one finds none, all keep what they had, and the ride is not placed");
        SeatDesk x = new SeatDesk(4);
        x.coach(0, 2);
        x.bookSeat(0, 1, 0, 0);
        x.book(0, 1, 0);
        x.cancel(0);
        x.bookSeat(1, 2, 0, 0);
        x.bookSeat(2, 3, 0, 1);
        CHECK.dueSeats("before", x, NONE, 1, 0, 1);
        // In the sweep ride 1 would take seat 0, behind which there is no space.
        CHECK.due("the new one finds none", x.book(0, 3, 0), BROKEN);
        CHECK.dueSeats("behind", x, NONE, 1, 0, 1);
        CHECK.due("nobody moved", x.moved(), 0);
        CHECK.due("seat 0 is free where it was", x.bookSeat(0, 1, 0, 0), 4);
        SeatDesk y = new SeatDesk(4);
        y.coach(0, 2);
        y.bookSeat(0, 1, 0, 1);
        y.bookSeat(2, 3, 0, 1);
        y.book(1, 3, 0);
        CHECK.dueSeats("before", y, 1, 1, 0);
        // In the sweep the new one takes seat 0, and then ride 2 finds none.
        CHECK.due("another one finds none", y.book(0, 2, 0), BROKEN);
        CHECK.dueSeats("behind", y, 1, 1, 0);
        CHECK.due("nobody moved", y.moved(), 0);
        CHECK.due("seat 0 is free where it was", y.bookSeat(0, 1, 0, 0), 3);
        CHECK.due("seat 1, too", y.bookSeat(1, 2, 0, 1), 4);
    }

    private static void brokenOrFull() {
        CHECK.sentence("BROKEN, if on each of its stretches fewer rides of its class (without it; those that stand count) go"
            + " than seats of the class are there, else FULL");
        SeatDesk x = new SeatDesk(6);
        x.coach(0, 2);
        x.coach(1, 3);
        x.bookSeat(0, 1, 0, 0);
        x.bookSeat(1, 2, 0, 0);
        x.bookSeat(2, 3, 0, 1);
        x.bookSeat(4, 5, 0, 0);
        x.bookSeat(4, 5, 0, 1);
        CHECK.due("one of two on some stretches, full is only what is behind", x.book(1, 4, 0), BROKEN);
        CHECK.due("the last stretch is full", x.book(1, 5, 0), FULL);
        x.bookSeat(0, 1, 0, 1);
        CHECK.due("full is only what is before", x.book(1, 3, 0), BROKEN);
        CHECK.due("the first stretch is full", x.book(0, 3, 0), FULL);
        x.bookSeat(2, 3, 1, 0);
        x.bookSeat(2, 3, 1, 1);
        CHECK.due("the other class does not count", x.book(1, 4, 0), BROKEN);
        x.bookSeat(2, 3, 0, 0);
        CHECK.due("a stretch in the middle is full", x.book(1, 4, 0), FULL);
        SeatDesk y = new SeatDesk(2);
        CHECK.due("no seats, no rides", y.book(0, 1, 0), FULL);
        y.coach(1, 1);
        CHECK.due("no seats of the class", y.book(0, 1, 0), FULL);
    }

    private static void thoseThatStandCount() {
        CHECK.sentence("those that stand count");
        SeatDesk x = new SeatDesk(3);
        x.coach(0, 2);
        x.coach(0, 1);
        x.bookSeat(0, 1, 0, 0);
        x.bookSeat(1, 2, 0, 1);
        x.bookSeat(0, 2, 1, 0);
        CHECK.due("one stands", x.removeCoach(1), 1);
        CHECK.due("two of two with it", x.book(0, 2, 0), FULL);
        CHECK.due("it is cancelled", x.cancel(2), true);
        CHECK.due("one of two", x.book(0, 2, 0), BROKEN);
    }

    private static void seatsThatAreThere() {
        CHECK.sentence("than seats of the class are there");
        SeatDesk x = new SeatDesk(2);
        x.coach(0, 1);
        x.coach(0, 1);
        x.block(0, 0, 0, 1);
        x.block(1, 0, 0, 1);
        CHECK.due("blocked seats are there", x.book(0, 1, 0), BROKEN);
        CHECK.due("a coach is taken out", x.removeCoach(0), 0);
        CHECK.due("one is there still", x.book(0, 1, 0), BROKEN);
        CHECK.due("the other, too", x.removeCoach(1), 0);
        CHECK.due("none is there", x.book(0, 1, 0), FULL);
        SeatDesk y = new SeatDesk(2);
        y.coach(0, 2);
        y.coach(0, 2);
        y.removeCoach(0);
        y.bookSeat(0, 1, 1, 0);
        y.bookSeat(0, 1, 1, 1);
        CHECK.due("two rides on two seats, and two that are out", y.book(0, 1, 0), FULL);
    }

    private static void movedOnce() {
        CHECK.sentence("Each ride but this one whose seat is another one behind a sweep has MOVED once");
        SeatDesk x = new SeatDesk(4);
        x.coach(0, 3);
        x.bookSeat(0, 1, 0, 2);
        x.book(0, 3, 0);
        x.book(1, 3, 0);
        CHECK.dueSeats("before", x, 2, 0, 1);
        CHECK.due("a sweep", x.book(0, 3, 0), 3);
        CHECK.dueSeats("ride 1 keeps its seat, ride 2 has two stretches on another", x, 2, 0, 2, 1);
        CHECK.due("once", x.moved(), 1);
        x.cancel(3);
        x.cancel(1);
        x.bookSeat(1, 2, 0, 0);
        CHECK.due("another sweep", x.block(0, 2, 2, 3), 1);
        CHECK.dueSeats("ride 2 again", x, 2, NONE, 1, NONE, 0);
        CHECK.due("twice now", x.moved(), 2);
        CHECK.due("cancelled", x.cancel(2), true);
        CHECK.due("what moved has moved", x.moved(), 2);
    }

    private static void quotasAtFirst() {
        CHECK.sentence("0 at first");
        SeatDesk x = new SeatDesk(30);
        x.coach(0, 4);
        for (int agency = 0; agency < 4; agency++) {
            CHECK.due("agency " + agency + " on the first stretch", x.agencyBook(agency, 0, 1, 0), OVER);
            CHECK.due("agency " + agency + " on the last stretch", x.agencyBook(agency, 28, 29, 0), OVER);
        }
    }

    private static void agencies() {
        CHECK.sentence("an AGENCY 0 .. 3");
        SeatDesk x = new SeatDesk(2);
        x.coach(0, 4);
        for (int agency = 0; agency < 4; agency++) {
            CHECK.due("quota of agency " + agency, x.quota(0, agency, 1), true);
        }
        for (int agency = 0; agency < 4; agency++) {
            CHECK.due("agency " + agency, x.agencyBook(agency, 0, 1, 0), agency);
            CHECK.due("its ride", x.ride(agency, 4), agency);
            CHECK.due("agency " + agency + " once more", x.agencyBook(agency, 0, 1, 0), OVER);
        }
        int[] none = {-1, 4, MIN, MAX};
        for (int agency : none) {
            CHECK.due("quota of agency " + agency, x.quota(0, agency, 1), false);
            CHECK.due("agency " + agency, x.agencyBook(agency, 0, 1, 0), WRONG);
        }
    }

    private static void bothClassesTogether() {
        CHECK.sentence("may have so many rides on a stretch, of both classes together");
        SeatDesk x = new SeatDesk(3);
        x.coach(0, 3);
        x.coach(1, 3);
        x.quota(0, 0, 2);
        x.quota(1, 0, 3);
        CHECK.due("one in class 0", x.agencyBook(0, 0, 1, 0), 0);
        CHECK.due("one in class 1", x.agencyBook(0, 0, 2, 1), 1);
        CHECK.due("a third in class 0", x.agencyBook(0, 0, 1, 0), OVER);
        CHECK.due("a third in class 1", x.agencyBook(0, 0, 1, 1), OVER);
        CHECK.due("on the next stretch there may be three", x.agencyBook(0, 1, 2, 0), 2);
        CHECK.due("the third there", x.agencyBook(0, 1, 2, 1), 3);
        CHECK.due("a fourth", x.agencyBook(0, 1, 2, 1), OVER);
    }

    private static void untilCancelled() {
        CHECK.sentence("Rides that it booked count until they are cancelled, on the stretches they have");
        SeatDesk x = new SeatDesk(4);
        x.coach(0, 1);
        x.coach(0, 4);
        for (int s = 0; s < 3; s++) {
            x.quota(s, 2, 1);
        }
        CHECK.due("all three stretches", x.agencyBook(2, 0, 3, 0), 0);
        CHECK.due("one stretch", x.agencyBook(2, 2, 3, 0), OVER);
        CHECK.due("printed", x.print(0), true);
        CHECK.due("it counts", x.agencyBook(2, 2, 3, 0), OVER);
        CHECK.due("shorter", x.shorten(0, 1, 2), true);
        CHECK.due("it doesn't have the last one any more", x.agencyBook(2, 2, 3, 0), 1);
        CHECK.due("nor the first", x.agencyBook(2, 0, 1, 0), 2);
        CHECK.due("it has the one between", x.agencyBook(2, 1, 2, 0), OVER);
        CHECK.due("all are seated anew", x.removeCoach(0), 0);
        CHECK.due("they count", x.agencyBook(2, 1, 2, 0), OVER);
        CHECK.due("all stand", x.removeCoach(1), 3);
        x.coach(0, 1);
        CHECK.due("they count still", x.agencyBook(2, 1, 2, 0), OVER);
        CHECK.due("cancelled", x.cancel(0), true);
        CHECK.due("it counts no more", x.agencyBook(2, 1, 2, 0), 3);
        CHECK.due("cancelled", x.cancel(3), true);
        CHECK.due("nor does this one", x.agencyBook(2, 1, 2, 0), 4);
    }

    private interface Call {
        int on(SeatDesk x, int[] with);
    }

    /** A good call answers something else; with any one number that is not as said it is refused. */
    private static void refuses(String name, int refusal, Call call, int[] good, int[]... notAsSaid) {
        CHECK.due(name + " with good numbers", call.on(numbered(), good) != refusal, true);
        for (int k = 0; k < good.length; k++) {
            for (int number : notAsSaid[k]) {
                int[] with = good.clone();
                with[k] = number;
                CHECK.due(name + java.util.Arrays.toString(with), call.on(numbered(), with), refusal);
            }
        }
    }

    /** Stations 0 to 4, coaches 0 and 1 with seats 0 to 2, of class 0; ride 0 on (1, 4) on seat 0; a block on seat 101. */
    private static SeatDesk numbered() {
        SeatDesk x = new SeatDesk(5);
        x.coach(0, 3);
        x.coach(0, 3);
        for (int stretch = 0; stretch < 4; stretch++) {
            x.quota(stretch, 2, 9);
        }
        x.book(1, 4, 0);
        x.block(1, 1, 1, 4);
        return x;
    }

    private static void numbersNotAsSaid() {
        CHECK.sentence("Numbers that are not as said are WRONG");
        int[] from = {-1, 4, 5, MIN, MAX};
        int[] to = {-1, 0, 1, 5, MIN, MAX};
        int[] stretch = {-1, 4, MIN, MAX};
        int[] type = {-1, 2, MIN, MAX};
        int[] coach = {-1, 2, 8, MIN, MAX};
        int[] seat = {-1, 3, 20, MIN, MAX};
        int[] agency = {-1, 4, MIN, MAX};
        int[] mask = {-1, 256, MIN, MAX};
        int[] ride = {-1, 1, 150, MIN, MAX};
        refuses("coach", WRONG, (x, w) -> x.coach(w[0], w[1]), new int[] {1, 20}, type, new int[] {0, 21, -1, MIN, MAX});
        refuses("flags", 0, (x, w) -> x.flags(w[0], w[1], w[2]) ? 1 : 0, new int[] {1, 2, 255}, coach, seat, mask);
        refuses("quota", 0, (x, w) -> x.quota(w[0], w[1], w[2]) ? 1 : 0, new int[] {3, 3, 150}, stretch, agency, new int[] {-1, 151, MIN, MAX});
        refuses("book", WRONG, (x, w) -> x.book(w[0], w[1], w[2]), new int[] {1, 4, 0}, from, to, type);
        refuses("agencyBook", WRONG, (x, w) -> x.agencyBook(w[0], w[1], w[2], w[3]), new int[] {2, 1, 4, 0}, agency, from, to, type);
        refuses("bookSeat", WRONG, (x, w) -> x.bookSeat(w[0], w[1], w[2], w[3]), new int[] {1, 4, 1, 2}, from, to, coach, seat);
        refuses("bookGroup", WRONG, (x, w) -> x.bookGroup(w[0], w[1], w[2], w[3]), new int[] {1, 4, 0, 2}, from, to, type, new int[] {-1, 0, 1, 13, MIN, MAX});
        refuses("offerChanges", WRONG, (x, w) -> x.offerChanges(w[0], w[1], w[2]), new int[] {1, 4, 0}, from, to, type);
        refuses("bookChanges", WRONG, (x, w) -> x.bookChanges(w[0], w[1], w[2]), new int[] {1, 4, 0}, from, to, type);
        refuses("wish", WRONG, (x, w) -> x.wish(w[0], w[1]), new int[] {0, 0}, ride, mask);
        refuses("print", 0, (x, w) -> x.print(w[0]) ? 1 : 0, new int[] {0}, ride);
        refuses("cancel", 0, (x, w) -> x.cancel(w[0]) ? 1 : 0, new int[] {0}, ride);
        refuses("shorten", 0, (x, w) -> x.shorten(w[0], w[1], w[2]) ? 1 : 0, new int[] {0, 1, 4}, ride, new int[] {-1, 0, 4, MIN, MAX}, to);
        refuses("seatOf", NONE, (x, w) -> x.seatOf(w[0], w[1]), new int[] {0, 3}, ride, new int[] {-1, 0, 4, MIN, MAX});
        refuses("block", WRONG, (x, w) -> x.block(w[0], w[1], w[2], w[3]), new int[] {1, 2, 1, 4}, coach, seat, from, to);
        refuses("unblock", 0, (x, w) -> x.unblock(w[0], w[1], w[2], w[3]) ? 1 : 0, new int[] {1, 1, 1, 4}, coach, seat, from, to);
        refuses("removeCoach", WRONG, (x, w) -> x.removeCoach(w[0]), new int[] {1}, coach);
        refuses("load", WRONG, (x, w) -> x.load(w[0], w[1]), new int[] {3, 1}, stretch, type);
        refuses("free", WRONG, (x, w) -> x.free(w[0], w[1]), new int[] {3, 1}, stretch, type);
        refuses("manifest", NONE, (x, w) -> x.manifest(w[0], w[1]), new int[] {4, 0}, new int[] {-1, 5, MIN, MAX}, new int[] {-1, 1, MIN, MAX});
    }

    private static void ownMemory() {
        CHECK.sentence("All memory is the class's own");
        SeatDesk x = new SeatDesk(3);
        SeatDesk y = new SeatDesk(4);
        x.coach(0, 1);
        x.quota(0, 0, 1);
        CHECK.due("a ride of x", x.agencyBook(0, 0, 1, 0), 0);
        CHECK.due("y has no coach", y.bookSeat(0, 1, 0, 0), WRONG);
        y.coach(0, 1);
        CHECK.due("y has no quota", y.agencyBook(0, 0, 1, 0), OVER);
        CHECK.due("y has no ride", y.load(0, 0), 0);
        CHECK.due("nor one to be cancelled", y.cancel(0), false);
        CHECK.due("y has a station more", y.book(2, 3, 0), 0);
        CHECK.due("x has none", x.book(2, 3, 0), WRONG);
        y.block(0, 0, 0, 1);
        CHECK.due("x has no block", x.unblock(0, 0, 0, 1), false);
    }

    private static void callNumber512() {
        CHECK.sentence("An object is used for at most 512 calls after it has been made");
        SeatDesk x = new SeatDesk(3);
        x.coach(0, 1);
        for (int call = 2; call <= 512; call++) {
            CHECK.due("call " + call, x.block(0, 0, 0, 2), 1);
        }
        SeatDesk y = new SeatDesk(3);
        y.coach(0, 1);
        for (int call = 2; call <= 510; call++) {
            y.block(0, 0, 0, 2);
        }
        CHECK.due("call 511", y.unblock(0, 0, 0, 2), true);
        CHECK.due("call 512", y.free(1, 0), 0);
    }
}
