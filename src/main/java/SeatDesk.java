import java.util.Arrays;
import java.util.NoSuchElementException;

/** Seats of a train, stretch by stretch; ../shared/DOC.md says what each call promises. */
public final class SeatDesk {
    public static final int NONE = -1;
    public static final int WRONG = -2, FULL = -3, BROKEN = -4, OVER = -5;

    private static final int MIN_STATIONS = 2, MAX_STATIONS = 30, USUAL_STATIONS = 10;
    private static final int CLASSES = 2, MAX_COACHES = 8, MAX_SEATS = 80, MAX_SEATS_IN_COACH = 20;
    private static final int COACH_STEP = 100;
    private static final int MAX_MASK = 255;
    private static final int AGENCIES = 4;
    private static final int MAX_RIDES = 150, MIN_GROUP = 2, MAX_GROUP = 12;
    // An object is promised for 512 calls, and a call makes one block at most.
    private static final int MAX_BLOCKS = 512;

    private static final int CANCELLED = 0, MOVABLE = 1, FIXED = 2, STANDS = 3;
    // Only inside removeCoach: has lost its seats and waits for its turn, so that no sweep takes it.
    private static final int WAITS = 4;

    private final int lastStation;
    private final Seats seats;
    private final Blocks blocks;
    private final Ride[] rides;
    private int rideCount;
    private final int[][] quotas;
    private int moves;

    // What a sweep works with, made once and used again by each.
    private final Ride[] queue;
    private final int[] found;
    private final int[] takenBefore;

    public SeatDesk(int stations) {
        boolean asSaid = stations >= MIN_STATIONS && stations <= MAX_STATIONS;
        lastStation = (asSaid ? stations : USUAL_STATIONS) - 1;
        seats = new Seats(lastStation);
        blocks = new Blocks();
        rides = new Ride[MAX_RIDES];
        quotas = new int[AGENCIES][lastStation];
        queue = new Ride[MAX_RIDES];
        found = new int[MAX_RIDES];
        takenBefore = new int[MAX_SEATS];
    }

    public int coach(int type, int seats) {
        if (!isClass(type) || seats < 1 || seats > MAX_SEATS_IN_COACH || !this.seats.hasRoomFor(seats)) {
            return WRONG;
        }
        return this.seats.addCoach(type, seats);
    }

    public boolean flags(int coach, int seat, int mask) {
        int place = seats.find(coach, seat);
        if (place == NONE || !isMask(mask)) {
            return false;
        }
        seats.marks[place] = mask;
        return true;
    }

    public boolean quota(int stretch, int agency, int n) {
        if (!isStretch(stretch) || !isAgency(agency) || n < 0 || n > MAX_RIDES) {
            return false;
        }
        quotas[agency][stretch] = n;
        return true;
    }

    public int book(int from, int to, int type) {
        if (!canBook(from, to, 1) || !isClass(type)) {
            return WRONG;
        }
        return bookMovable(from, to, type, NONE);
    }

    public int agencyBook(int agency, int from, int to, int type) {
        if (!isAgency(agency) || !canBook(from, to, 1) || !isClass(type)) {
            return WRONG;
        }
        if (isOverQuota(agency, from, to)) {
            return OVER;
        }
        return bookMovable(from, to, type, agency);
    }

    public int bookSeat(int from, int to, int coach, int seat) {
        int place = seats.find(coach, seat);
        if (place == NONE || !canBook(from, to, 1)) {
            return WRONG;
        }
        if (!seats.isFree(place, way(from, to))) {
            return FULL;
        }
        return bookFixed(from, to, place);
    }

    public int bookGroup(int from, int to, int type, int n) {
        if (n < MIN_GROUP || n > MAX_GROUP || !canBook(from, to, n) || !isClass(type)) {
            return WRONG;
        }
        int coach = seats.coachWithFree(type, way(from, to), n);
        if (coach == NONE) {
            return FULL;
        }
        int first = rideCount;
        int seated = 0;
        for (int place = seats.firstOf(coach); place < seats.endOf(coach) && seated < n; place++) {
            if (seats.isFree(place, way(from, to))) {
                bookFixed(from, to, place);
                seated++;
            }
        }
        return first;
    }

    public int offerChanges(int from, int to, int type) {
        if (!isWay(from, to) || !isClass(type)) {
            return WRONG;
        }
        return fewestChanges(from, to, type);
    }

    public int bookChanges(int from, int to, int type) {
        if (!canBook(from, to, 1) || !isClass(type)) {
            return WRONG;
        }
        if (fewestChanges(from, to, type) == NONE) {
            return FULL;
        }
        Ride booked = enter(from, to, type, NONE);
        booked.state = FIXED;
        int place = NONE;
        for (int stretch = from; stretch < to; stretch++) {
            if (place == NONE || !seats.isFree(place, way(stretch, stretch + 1))) {
                place = seats.longestFree(stretch, type);
            }
            sit(booked, place, stretch, stretch + 1);
        }
        return booked.number;
    }

    public int wish(int ride, int mask) {
        // One that stands is living and not fixed, but only a movable ride can wish.
        if (!isLiving(ride) || rides[ride].state != MOVABLE || !isMask(mask)) {
            return WRONG;
        }
        Ride wishing = rides[ride];
        int before = wishing.oneSeat();
        leave(wishing, wishing.from, wishing.to);
        int place = seats.lowestFree(wishing, mask);
        if (place == NONE) {
            place = clearForWish(wishing, mask);
        }
        if (place == NONE) {
            sit(wishing, before, wishing.from, wishing.to);
            return NONE;
        }
        sit(wishing, place, wishing.from, wishing.to);
        wishing.state = FIXED;
        return seats.told[place];
    }

    public boolean print(int ride) {
        if (!isLiving(ride) || rides[ride].state == STANDS || rides[ride].printed) {
            return false;
        }
        rides[ride].state = FIXED;
        rides[ride].printed = true;
        return true;
    }

    public boolean cancel(int ride) {
        if (!isLiving(ride)) {
            return false;
        }
        leave(rides[ride], rides[ride].from, rides[ride].to);
        rides[ride].state = CANCELLED;
        return true;
    }

    public boolean shorten(int ride, int from, int to) {
        if (!isLiving(ride) || rides[ride].state == STANDS) {
            return false;
        }
        Ride shorter = rides[ride];
        if (from < shorter.from || to > shorter.to || from >= to) {
            return false;
        }
        leave(shorter, shorter.from, from);
        leave(shorter, to, shorter.to);
        shorter.from = from;
        shorter.to = to;
        return true;
    }

    public int seatOf(int ride, int stretch) {
        if (!isLiving(ride) || !rides[ride].goesOn(stretch)) {
            return NONE;
        }
        int place = rides[ride].places[stretch];
        return place == NONE ? NONE : seats.told[place];
    }

    public int block(int coach, int seat, int from, int to) {
        int place = seats.find(coach, seat);
        if (place == NONE || !isWay(from, to)) {
            return WRONG;
        }
        if (blocks.isFull() || isFixedRideOn(place, from, to)) {
            return 0;
        }
        boolean nobodyThere = (seats.taken[place] & way(from, to)) == 0;
        blocks.add(place, way(from, to));
        seats.kept[place] = blocks.keptOf(place);
        if (nobodyThere || sweep(seats.type[place], null)) {
            return 1;
        }
        blocks.remove(place, way(from, to));
        seats.kept[place] = blocks.keptOf(place);
        return 0;
    }

    public boolean unblock(int coach, int seat, int from, int to) {
        int place = seats.find(coach, seat);
        if (place == NONE || !isWay(from, to) || !blocks.remove(place, way(from, to))) {
            return false;
        }
        seats.kept[place] = blocks.keptOf(place);
        return true;
    }

    public int removeCoach(int n) {
        if (!seats.isThere(n)) {
            return WRONG;
        }
        for (int i = 0; i < rideCount; i++) {
            if (hasSeatIn(rides[i], n)) {
                leave(rides[i], rides[i].from, rides[i].to);
                rides[i].printed = false;
                rides[i].state = WAITS;
            }
        }
        blocks.removeAll(seats.firstOf(n), seats.endOf(n));
        seats.dropCoach(n);
        return seatAnew();
    }

    public int standing(int i) {
        int left = i;
        for (int k = 0; k < rideCount; k++) {
            if (rides[k].state == STANDS) {
                if (left == 0) {
                    return k;
                }
                left--;
            }
        }
        return NONE;
    }

    public int load(int stretch, int type) {
        if (!isStretch(stretch) || !isClass(type)) {
            return WRONG;
        }
        return ridesOn(stretch, type);
    }

    public int free(int stretch, int type) {
        if (!isStretch(stretch) || !isClass(type)) {
            return WRONG;
        }
        return seats.countFree(way(stretch, stretch + 1), type);
    }

    public int moved() {
        return moves;
    }

    public int manifest(int station, int i) {
        int left = i;
        for (int pass = 0; pass < 2; pass++) {
            for (int k = 0; k < rideCount; k++) {
                int at = pass == 0 ? rides[k].to : rides[k].from;
                if (at == station && rides[k].isAlive()) {
                    if (left == 0) {
                        return k;
                    }
                    left--;
                }
            }
        }
        return NONE;
    }

    public int ride(int ride, int what) throws NoSuchElementException {
        if (ride < 0 || ride >= rideCount) {
            throw new NoSuchElementException("no such ride");
        }
        switch (what) {
            case 0:
                return rides[ride].state;
            case 1:
                return rides[ride].from;
            case 2:
                return rides[ride].to;
            case 3:
                return rides[ride].type;
            case 4:
                return rides[ride].agency;
            case 5:
                return rides[ride].changes();
            default:
                throw new NoSuchElementException("no such what");
        }
    }

    private boolean isStretch(int stretch) {
        return stretch >= 0 && stretch < lastStation;
    }

    private boolean isWay(int from, int to) {
        return from >= 0 && from < to && to <= lastStation;
    }

    private static boolean isClass(int type) {
        return type >= 0 && type < CLASSES;
    }

    private static boolean isMask(int mask) {
        return mask >= 0 && mask <= MAX_MASK;
    }

    private static boolean isAgency(int agency) {
        return agency >= 0 && agency < AGENCIES;
    }

    private boolean isLiving(int ride) {
        return ride >= 0 && ride < rideCount && rides[ride].isAlive();
    }

    private boolean canBook(int from, int to, int n) {
        return isWay(from, to) && rideCount + n <= MAX_RIDES;
    }

    /** The stretches between two stations as bits; there are 29 at most, so that an int holds them. */
    private static int way(int from, int to) {
        return (1 << to) - (1 << from);
    }

    private int bookMovable(int from, int to, int type, int agency) {
        Ride booked = enter(from, to, type, agency);
        if (place(booked)) {
            return booked.number;
        }
        // The refused ride gives its number back first: the loads below are without it.
        rideCount--;
        return hasRoomByLoad(from, to, type) ? BROKEN : FULL;
    }

    private int bookFixed(int from, int to, int place) {
        Ride booked = enter(from, to, seats.type[place], NONE);
        booked.state = FIXED;
        sit(booked, place, from, to);
        return booked.number;
    }

    /** The next ride, movable and without a seat; its object is used again if it is refused. */
    private Ride enter(int from, int to, int type, int agency) {
        if (rides[rideCount] == null) {
            rides[rideCount] = new Ride(rideCount, lastStation);
        }
        Ride entered = rides[rideCount];
        entered.begin(from, to, type, agency);
        rideCount++;
        return entered;
    }

    private void sit(Ride sitting, int place, int from, int to) {
        sitting.setPlaces(place, from, to);
        if (place != NONE) {
            seats.taken[place] |= way(from, to);
        }
    }

    private void leave(Ride leaving, int from, int to) {
        for (int stretch = from; stretch < to; stretch++) {
            int place = leaving.places[stretch];
            if (place != NONE) {
                seats.taken[place] &= ~way(stretch, stretch + 1);
            }
        }
        leaving.setPlaces(NONE, from, to);
    }

    private boolean place(Ride coming) {
        int best = seats.best(coming);
        if (best == NONE) {
            return sweep(coming.type, coming);
        }
        sit(coming, best, coming.from, coming.to);
        return true;
    }

    /** Seats all movable rides of a class anew, or changes nothing; the coming ride, if any, does not count as moved. */
    private boolean sweep(int type, Ride coming) {
        int n = lineUp(type, null);
        System.arraycopy(seats.taken, 0, takenBefore, 0, MAX_SEATS);
        standUp(n);
        if (!findSeats(n)) {
            System.arraycopy(takenBefore, 0, seats.taken, 0, MAX_SEATS);
            return false;
        }
        settle(n, coming);
        return true;
    }

    /** The lowest seat with the flags from which others can be swept away, and sweeps them; NONE changes nothing. */
    private int clearForWish(Ride wishing, int mask) {
        int n = lineUp(wishing.type, wishing);
        System.arraycopy(seats.taken, 0, takenBefore, 0, MAX_SEATS);
        for (int place = 0; place < seats.count; place++) {
            if (seats.suits(place, wishing.type, mask)) {
                standUp(n);
                // Movable rides have given up their seats: what is taken still is taken by fixed ones.
                if (seats.isFree(place, wishing.way())) {
                    seats.taken[place] |= wishing.way();
                    if (findSeats(n)) {
                        settle(n, wishing);
                        return place;
                    }
                }
                System.arraycopy(takenBefore, 0, seats.taken, 0, MAX_SEATS);
            }
        }
        return NONE;
    }

    /** Puts the movable rides of a class, but for one, into the queue in the order of a sweep: how many. */
    private int lineUp(int type, Ride but) {
        int n = 0;
        for (int station = 0; station < lastStation; station++) {
            for (int i = 0; i < rideCount; i++) {
                Ride next = rides[i];
                if (next.from == station && next.state == MOVABLE && next.type == type && next != but) {
                    queue[n] = next;
                    n++;
                }
            }
        }
        return n;
    }

    /** Frees the seats of the queue, which the rides themselves still remember. */
    private void standUp(int n) {
        for (int k = 0; k < n; k++) {
            int place = queue[k].oneSeat();
            if (place != NONE) {
                seats.taken[place] &= ~queue[k].way();
            }
        }
    }

    private boolean findSeats(int n) {
        for (int k = 0; k < n; k++) {
            int best = seats.best(queue[k]);
            if (best == NONE) {
                return false;
            }
            found[k] = best;
            seats.taken[best] |= queue[k].way();
        }
        return true;
    }

    private void settle(int n, Ride coming) {
        for (int k = 0; k < n; k++) {
            Ride settled = queue[k];
            if (settled != coming && settled.oneSeat() != found[k]) {
                moves++;
            }
            settled.setPlaces(found[k], settled.from, settled.to);
        }
    }

    /** Places all that wait, by number: how many stand now. */
    private int seatAnew() {
        int stand = 0;
        for (int i = 0; i < rideCount; i++) {
            if (rides[i].state == WAITS) {
                rides[i].state = MOVABLE;
                if (!place(rides[i])) {
                    rides[i].state = STANDS;
                    stand++;
                }
            }
        }
        return stand;
    }

    private boolean hasSeatIn(Ride asked, int coach) {
        for (int stretch = asked.from; stretch < asked.to; stretch++) {
            int place = asked.places[stretch];
            if (place != NONE && place >= seats.firstOf(coach) && place < seats.endOf(coach)) {
                return true;
            }
        }
        return false;
    }

    private boolean isFixedRideOn(int place, int from, int to) {
        for (int i = 0; i < rideCount; i++) {
            if (rides[i].state == FIXED) {
                for (int stretch = from; stretch < to; stretch++) {
                    if (rides[i].places[stretch] == place) {
                        return true;
                    }
                }
            }
        }
        return false;
    }

    private int fewestChanges(int from, int to, int type) {
        int changes = NONE;
        int reached = from;
        // Each round reaches a station more at least, so that this many rounds are enough.
        for (int round = from; round < to && reached < to; round++) {
            int place = seats.longestFree(reached, type);
            if (place == NONE) {
                return NONE;
            }
            reached += seats.spaceFrom(reached, place);
            changes++;
        }
        return changes;
    }

    private int ridesOn(int stretch, int type) {
        int n = 0;
        for (int i = 0; i < rideCount; i++) {
            if (rides[i].isAlive() && rides[i].type == type && rides[i].goesOn(stretch)) {
                n++;
            }
        }
        return n;
    }

    private boolean hasRoomByLoad(int from, int to, int type) {
        int there = seats.countOf(type);
        for (int stretch = from; stretch < to; stretch++) {
            if (ridesOn(stretch, type) >= there) {
                return false;
            }
        }
        return true;
    }

    private boolean isOverQuota(int agency, int from, int to) {
        for (int stretch = from; stretch < to; stretch++) {
            int n = 1;
            for (int i = 0; i < rideCount; i++) {
                if (rides[i].isAlive() && rides[i].agency == agency && rides[i].goesOn(stretch)) {
                    n++;
                }
            }
            if (n > quotas[agency][stretch]) {
                return true;
            }
        }
        return false;
    }

    /** One ride, with its place (an index into Seats) on each stretch of the train. */
    private static final class Ride {
        final int number;
        final int[] places;
        int from;
        int to;
        int type;
        int agency;
        int state;
        boolean printed;

        Ride(int number, int stretches) {
            this.number = number;
            places = new int[stretches];
        }

        void begin(int from, int to, int type, int agency) {
            this.from = from;
            this.to = to;
            this.type = type;
            this.agency = agency;
            state = MOVABLE;
            printed = false;
            Arrays.fill(places, NONE);
        }

        boolean isAlive() {
            return state != CANCELLED;
        }

        boolean goesOn(int stretch) {
            return stretch >= from && stretch < to;
        }

        int way() {
            return SeatDesk.way(from, to);
        }

        /** The place of a ride without changes; NONE if it has none. */
        int oneSeat() {
            return places[from];
        }

        void setPlaces(int place, int first, int end) {
            for (int stretch = first; stretch < end; stretch++) {
                places[stretch] = place;
            }
        }

        int changes() {
            int n = 0;
            for (int stretch = from + 1; stretch < to; stretch++) {
                if (places[stretch] != places[stretch - 1]) {
                    n++;
                }
            }
            return n;
        }
    }

    /** All seats ever made, in the order of coach and seat, so that the lowest place is the lowest seat. */
    private static final class Seats {
        final int lastStation;
        int count;
        // The class of a place, NONE once its coach is gone.
        final int[] type = new int[MAX_SEATS];
        final int[] told = new int[MAX_SEATS];
        final int[] marks = new int[MAX_SEATS];
        // Stretches as bits: what rides take, and what blocks keep.
        final int[] taken = new int[MAX_SEATS];
        final int[] kept = new int[MAX_SEATS];
        private int coaches;
        private final boolean[] there = new boolean[MAX_COACHES];
        private final int[] first = new int[MAX_COACHES + 1];

        Seats(int lastStation) {
            this.lastStation = lastStation;
        }

        boolean hasRoomFor(int more) {
            return coaches < MAX_COACHES && count + more <= MAX_SEATS;
        }

        int addCoach(int coachType, int size) {
            int added = coaches;
            for (int seat = 0; seat < size; seat++) {
                type[count] = coachType;
                told[count] = COACH_STEP * added + seat;
                count++;
            }
            there[added] = true;
            coaches++;
            first[coaches] = count;
            return added;
        }

        boolean isThere(int coach) {
            return coach >= 0 && coach < coaches && there[coach];
        }

        int firstOf(int coach) {
            return first[coach];
        }

        int endOf(int coach) {
            return first[coach + 1];
        }

        void dropCoach(int coach) {
            there[coach] = false;
            for (int place = first[coach]; place < first[coach + 1]; place++) {
                type[place] = NONE;
            }
        }

        int find(int coach, int seat) {
            if (!isThere(coach) || seat < 0 || seat >= endOf(coach) - firstOf(coach)) {
                return NONE;
            }
            return first[coach] + seat;
        }

        boolean isFree(int place, int way) {
            return ((taken[place] | kept[place]) & way) == 0;
        }

        boolean suits(int place, int wanted, int mask) {
            return type[place] == wanted && (marks[place] & mask) == mask;
        }

        /** How many stretches from a station on are free, up to the first that isn't, or to the last station. */
        int spaceFrom(int station, int place) {
            // The bit of the last station stands for a stretch that is never free, so that there is a lowest bit.
            int used = (taken[place] | kept[place] | 1 << lastStation) >>> station;
            return Integer.bitCount((used & -used) - 1);
        }

        int best(Ride ride) {
            int best = NONE;
            int least = 0;
            int way = ride.way();
            for (int place = 0; place < count; place++) {
                if (type[place] == ride.type && isFree(place, way)) {
                    int space = spaceFrom(ride.to, place);
                    if (best == NONE || space < least) {
                        best = place;
                        least = space;
                    }
                }
            }
            return best;
        }

        int longestFree(int stretch, int wanted) {
            int longest = NONE;
            int most = 0;
            for (int place = 0; place < count; place++) {
                int space = type[place] == wanted ? spaceFrom(stretch, place) : 0;
                if (space > most) {
                    longest = place;
                    most = space;
                }
            }
            return longest;
        }

        int lowestFree(Ride ride, int mask) {
            int way = ride.way();
            for (int place = 0; place < count; place++) {
                if (suits(place, ride.type, mask) && isFree(place, way)) {
                    return place;
                }
            }
            return NONE;
        }

        int coachWithFree(int wanted, int way, int n) {
            for (int coach = 0; coach < coaches; coach++) {
                int free = 0;
                for (int place = first[coach]; place < first[coach + 1]; place++) {
                    if (type[place] == wanted && isFree(place, way)) {
                        free++;
                    }
                }
                if (free >= n) {
                    return coach;
                }
            }
            return NONE;
        }

        int countFree(int way, int wanted) {
            int n = 0;
            for (int place = 0; place < count; place++) {
                if (type[place] == wanted && isFree(place, way)) {
                    n++;
                }
            }
            return n;
        }

        int countOf(int wanted) {
            return countFree(0, wanted);
        }
    }

    /** The blocks in force, in no order: a place and the stretches kept there, as bits. */
    private static final class Blocks {
        private final int[] places = new int[MAX_BLOCKS];
        private final int[] ways = new int[MAX_BLOCKS];
        private int count;

        boolean isFull() {
            return count >= MAX_BLOCKS;
        }

        void add(int place, int way) {
            places[count] = place;
            ways[count] = way;
            count++;
        }

        boolean remove(int place, int way) {
            for (int i = 0; i < count; i++) {
                if (places[i] == place && ways[i] == way) {
                    removeAt(i);
                    return true;
                }
            }
            return false;
        }

        void removeAll(int first, int end) {
            // From the back, since the last block takes the place of one that goes.
            for (int i = count - 1; i >= 0; i--) {
                if (places[i] >= first && places[i] < end) {
                    removeAt(i);
                }
            }
        }

        int keptOf(int place) {
            int kept = 0;
            for (int i = 0; i < count; i++) {
                if (places[i] == place) {
                    kept |= ways[i];
                }
            }
            return kept;
        }

        private void removeAt(int i) {
            count--;
            places[i] = places[count];
            ways[i] = ways[count];
        }
    }
}
