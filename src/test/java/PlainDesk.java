import java.util.ArrayList;
import java.util.Comparator;
import java.util.List;

/**
 * The document once more, written as plainly as can be and without regard to speed: no tables of what is taken,
 * every question is answered by going through all rides and blocks. ModelTest compares SeatDesk with it.
 */
final class PlainDesk {
    static final int NONE = -1, WRONG = -2, FULL = -3, BROKEN = -4, OVER = -5;

    static final class Person {
        int number, from, to, type, agency = NONE;
        boolean cancelled, fixed, stands, printed, unplaced;
        int[] seat = new int[40];

        Person() {
            clear();
        }

        void clear() {
            for (int s = 0; s < seat.length; s++) {
                seat[s] = NONE;
            }
        }

        void take(int told) {
            clear();
            for (int s = from; s < to; s++) {
                seat[s] = told;
            }
        }

        boolean on(int stretch) {
            return !cancelled && stretch >= from && stretch < to;
        }
    }

    final int stations;
    final List<int[]> coaches = new ArrayList<>();
    final List<Boolean> gone = new ArrayList<>();
    final int[][] flags = new int[8][20];
    final int[][] quota = new int[4][40];
    final List<Person> people = new ArrayList<>();
    final List<int[]> blocks = new ArrayList<>();
    int moved;
    /** What happened how often, so that the test can tell that it reached the rare cases. */
    int sweptBookings, sweptWishes, refusedWishSeats, sweptBlocks, refusedBlocks, sweptRemovals, standingWishes;

    PlainDesk(int stations) {
        this.stations = stations >= 2 && stations <= 30 ? stations : 10;
    }

    int coach(int type, int seats) {
        int all = 0;
        for (int[] c : coaches) {
            all += c[1];
        }
        if (type < 0 || type > 1 || seats < 1 || seats > 20 || coaches.size() == 8 || all + seats > 80) {
            return WRONG;
        }
        coaches.add(new int[] {type, seats});
        gone.add(false);
        return coaches.size() - 1;
    }

    boolean seatThere(int coach, int seat) {
        return coach >= 0 && coach < coaches.size() && !gone.get(coach) && seat >= 0 && seat < coaches.get(coach)[1];
    }

    List<Integer> seatsOfClass(int type) {
        List<Integer> all = new ArrayList<>();
        for (int c = 0; c < coaches.size(); c++) {
            for (int s = 0; s < coaches.get(c)[1]; s++) {
                if (seatThere(c, s) && coaches.get(c)[0] == type) {
                    all.add(100 * c + s);
                }
            }
        }
        return all;
    }

    boolean flags(int coach, int seat, int mask) {
        if (!seatThere(coach, seat) || mask < 0 || mask > 255) {
            return false;
        }
        flags[coach][seat] = mask;
        return true;
    }

    boolean quota(int stretch, int agency, int n) {
        if (stretch < 0 || stretch > stations - 2 || agency < 0 || agency > 3 || n < 0 || n > 150) {
            return false;
        }
        quota[agency][stretch] = n;
        return true;
    }

    boolean goodWay(int from, int to) {
        return from >= 0 && to > from && to <= stations - 1;
    }

    boolean blocked(int told, int stretch) {
        for (int[] b : blocks) {
            if (b[0] == told && stretch >= b[1] && stretch < b[2]) {
                return true;
            }
        }
        return false;
    }

    boolean freeOn(int told, int stretch, Person but) {
        for (Person p : people) {
            if (p != but && p.on(stretch) && p.seat[stretch] == told) {
                return false;
            }
        }
        return !blocked(told, stretch);
    }

    boolean freeThrough(int told, int from, int to, Person but) {
        for (int s = from; s < to; s++) {
            if (!freeOn(told, s, but)) {
                return false;
            }
        }
        return true;
    }

    int run(int told, int station) {
        int n = 0;
        while (station + n <= stations - 2 && freeOn(told, station + n, null)) {
            n++;
        }
        return n;
    }

    int best(Person p) {
        int best = NONE;
        for (int told : seatsOfClass(p.type)) {
            if (freeThrough(told, p.from, p.to, p) && (best == NONE || run(told, p.to) < run(best, p.to))) {
                best = told;
            }
        }
        return best;
    }

    /** All but one who are movable, of the class; the coming one is not counted as moved. */
    boolean sweep(int type, Person coming, Person but) {
        List<Person> movable = new ArrayList<>();
        for (Person p : people) {
            if (!p.cancelled && !p.fixed && !p.stands && !p.unplaced && p.type == type && p != but) {
                movable.add(p);
            }
        }
        movable.sort(Comparator.<Person>comparingInt(p -> p.from).thenComparingInt(p -> p.number));
        List<int[]> had = new ArrayList<>();
        for (Person p : movable) {
            had.add(p.seat.clone());
            p.clear();
        }
        for (Person p : movable) {
            int best = best(p);
            if (best == NONE) {
                for (int k = 0; k < movable.size(); k++) {
                    movable.get(k).seat = had.get(k);
                }
                return false;
            }
            p.take(best);
        }
        for (int k = 0; k < movable.size(); k++) {
            Person p = movable.get(k);
            if (p != coming && p.seat[p.from] != had.get(k)[p.from]) {
                moved++;
            }
        }
        return true;
    }

    boolean place(Person p) {
        int best = best(p);
        if (best != NONE) {
            p.take(best);
            return true;
        }
        return sweep(p.type, p, null);
    }

    Person newPerson(int from, int to, int type) {
        Person p = new Person();
        p.number = people.size();
        p.from = from;
        p.to = to;
        p.type = type;
        people.add(p);
        return p;
    }

    int bookFor(int agency, int from, int to, int type) {
        Person p = newPerson(from, to, type);
        p.agency = agency;
        boolean direct = best(p) != NONE;
        if (place(p)) {
            sweptBookings += direct ? 0 : 1;
            return p.number;
        }
        people.remove(p);
        for (int s = from; s < to; s++) {
            if (load(s, type) >= seatsOfClass(type).size()) {
                return FULL;
            }
        }
        return BROKEN;
    }

    int book(int from, int to, int type) {
        if (!goodWay(from, to) || type < 0 || type > 1 || people.size() == 150) {
            return WRONG;
        }
        return bookFor(NONE, from, to, type);
    }

    int agencyBook(int agency, int from, int to, int type) {
        if (agency < 0 || agency > 3 || !goodWay(from, to) || type < 0 || type > 1 || people.size() == 150) {
            return WRONG;
        }
        for (int s = from; s < to; s++) {
            int has = 0;
            for (Person p : people) {
                has += p.on(s) && p.agency == agency ? 1 : 0;
            }
            if (has + 1 > quota[agency][s]) {
                return OVER;
            }
        }
        return bookFor(agency, from, to, type);
    }

    int bookSeat(int from, int to, int coach, int seat) {
        if (!goodWay(from, to) || !seatThere(coach, seat) || people.size() == 150) {
            return WRONG;
        }
        if (!freeThrough(100 * coach + seat, from, to, null)) {
            return FULL;
        }
        Person p = newPerson(from, to, coaches.get(coach)[0]);
        p.fixed = true;
        p.take(100 * coach + seat);
        return p.number;
    }

    int bookGroup(int from, int to, int type, int n) {
        if (!goodWay(from, to) || type < 0 || type > 1 || n < 2 || n > 12 || people.size() + n > 150) {
            return WRONG;
        }
        for (int c = 0; c < coaches.size(); c++) {
            List<Integer> free = new ArrayList<>();
            for (int told : seatsOfClass(type)) {
                if (told / 100 == c && freeThrough(told, from, to, null)) {
                    free.add(told);
                }
            }
            if (free.size() >= n) {
                int first = people.size();
                for (int k = 0; k < n; k++) {
                    Person p = newPerson(from, to, type);
                    p.fixed = true;
                    p.take(free.get(k));
                }
                return first;
            }
        }
        return FULL;
    }

    /** By stations reached with so many changes, not by taking the longest: a way of its own to the fewest. */
    int offerChanges(int from, int to, int type) {
        if (!goodWay(from, to) || type < 0 || type > 1) {
            return WRONG;
        }
        int[] fewest = new int[stations];
        for (int t = from + 1; t <= to; t++) {
            fewest[t] = Integer.MAX_VALUE;
        }
        fewest[from] = -1;
        for (int t = from + 1; t <= to; t++) {
            for (int f = from; f < t; f++) {
                for (int told : seatsOfClass(type)) {
                    if (fewest[f] != Integer.MAX_VALUE && freeThrough(told, f, t, null)) {
                        fewest[t] = Math.min(fewest[t], fewest[f] + 1);
                    }
                }
            }
        }
        return fewest[to] == Integer.MAX_VALUE ? NONE : fewest[to];
    }

    int bookChanges(int from, int to, int type) {
        int offered = offerChanges(from, to, type);
        if (offered == WRONG || people.size() == 150) {
            return WRONG;
        }
        if (offered == NONE) {
            return FULL;
        }
        int[] seat = new Person().seat;
        int at = from;
        while (at < to) {
            int longest = NONE;
            for (int told : seatsOfClass(type)) {
                if (longest == NONE || run(told, at) > run(longest, at)) {
                    longest = told;
                }
            }
            int end = at + run(longest, at);
            while (at < end && at < to) {
                seat[at++] = longest;
            }
        }
        Person p = newPerson(from, to, type);
        p.fixed = true;
        p.seat = seat;
        return p.number;
    }

    boolean living(int ride) {
        return ride >= 0 && ride < people.size() && !people.get(ride).cancelled;
    }

    boolean hasFlags(int told, int mask) {
        return (flags[told / 100][told % 100] & mask) == mask;
    }

    int wish(int ride, int mask) {
        if (!living(ride) || people.get(ride).fixed || mask < 0 || mask > 255) {
            return WRONG;
        }
        if (people.get(ride).stands) {
            standingWishes++;
            return WRONG;
        }
        Person p = people.get(ride);
        for (int told : seatsOfClass(p.type)) {
            if (hasFlags(told, mask) && freeThrough(told, p.from, p.to, p)) {
                return fixWish(p, told);
            }
        }
        for (int told : seatsOfClass(p.type)) {
            if (hasFlags(told, mask) && !fixedOrBlocked(told, p.from, p.to)) {
                int[] had = p.seat.clone();
                // Already fixed there, while the others look for seats: who sits there still gives it up in the sweep.
                p.take(told);
                if (sweep(p.type, p, p)) {
                    sweptWishes++;
                    return fixWish(p, told);
                }
                refusedWishSeats++;
                p.seat = had;
            }
        }
        return NONE;
    }

    int fixWish(Person p, int told) {
        p.take(told);
        p.fixed = true;
        return told;
    }

    boolean fixedOn(int told, int from, int to) {
        for (Person p : people) {
            for (int s = from; s < to; s++) {
                if (p.fixed && p.on(s) && p.seat[s] == told) {
                    return true;
                }
            }
        }
        return false;
    }

    boolean fixedOrBlocked(int told, int from, int to) {
        for (int s = from; s < to; s++) {
            if (blocked(told, s)) {
                return true;
            }
        }
        return fixedOn(told, from, to);
    }

    boolean print(int ride) {
        if (!living(ride) || people.get(ride).stands || people.get(ride).printed) {
            return false;
        }
        people.get(ride).printed = true;
        people.get(ride).fixed = true;
        return true;
    }

    boolean cancel(int ride) {
        if (!living(ride)) {
            return false;
        }
        people.get(ride).cancelled = true;
        people.get(ride).clear();
        return true;
    }

    boolean shorten(int ride, int from, int to) {
        if (!living(ride) || people.get(ride).stands) {
            return false;
        }
        Person p = people.get(ride);
        if (from < p.from || to > p.to || to <= from) {
            return false;
        }
        p.from = from;
        p.to = to;
        for (int s = 0; s < p.seat.length; s++) {
            if (!p.on(s)) {
                p.seat[s] = NONE;
            }
        }
        return true;
    }

    int seatOf(int ride, int stretch) {
        return living(ride) && people.get(ride).on(stretch) ? people.get(ride).seat[stretch] : NONE;
    }

    int block(int coach, int seat, int from, int to) {
        if (!seatThere(coach, seat) || !goodWay(from, to)) {
            return WRONG;
        }
        int told = 100 * coach + seat;
        if (fixedOn(told, from, to)) {
            return 0;
        }
        boolean somebody = false;
        for (Person p : people) {
            for (int s = from; s < to; s++) {
                somebody |= p.on(s) && p.seat[s] == told;
            }
        }
        int[] block = {told, from, to};
        blocks.add(block);
        if (somebody && !sweep(coaches.get(coach)[0], null, null)) {
            blocks.remove(block);
            refusedBlocks++;
            return 0;
        }
        sweptBlocks += somebody ? 1 : 0;
        return 1;
    }

    boolean unblock(int coach, int seat, int from, int to) {
        for (int[] b : blocks) {
            if (b[0] == 100 * coach + seat && b[1] == from && b[2] == to && seatThere(coach, seat)) {
                blocks.remove(b);
                return true;
            }
        }
        return false;
    }

    int removeCoach(int n) {
        if (!seatThere(n, 0)) {
            return WRONG;
        }
        gone.set(n, true);
        blocks.removeIf(b -> b[0] / 100 == n);
        List<Person> out = new ArrayList<>();
        for (Person p : people) {
            for (int s = p.from; s < p.to; s++) {
                if (p.on(s) && p.seat[s] != NONE && p.seat[s] / 100 == n && !out.contains(p)) {
                    out.add(p);
                }
            }
        }
        for (Person p : out) {
            p.clear();
            p.unplaced = true;
            p.printed = false;
            p.fixed = false;
        }
        int stand = 0;
        for (Person p : out) {
            p.unplaced = false;
            boolean direct = best(p) != NONE;
            if (!place(p)) {
                p.stands = true;
                stand++;
            } else if (!direct) {
                sweptRemovals++;
            }
        }
        return stand;
    }

    int standing(int i) {
        List<Integer> all = new ArrayList<>();
        for (Person p : people) {
            if (!p.cancelled && p.stands) {
                all.add(p.number);
            }
        }
        return i >= 0 && i < all.size() ? all.get(i) : NONE;
    }

    int load(int stretch, int type) {
        if (stretch < 0 || stretch > stations - 2 || type < 0 || type > 1) {
            return WRONG;
        }
        int n = 0;
        for (Person p : people) {
            n += p.on(stretch) && p.type == type ? 1 : 0;
        }
        return n;
    }

    int free(int stretch, int type) {
        if (stretch < 0 || stretch > stations - 2 || type < 0 || type > 1) {
            return WRONG;
        }
        int n = 0;
        for (int told : seatsOfClass(type)) {
            n += freeOn(told, stretch, null) ? 1 : 0;
        }
        return n;
    }

    int moved() {
        return moved;
    }

    int manifest(int station, int i) {
        List<Integer> all = new ArrayList<>();
        for (Person p : people) {
            if (!p.cancelled && p.to == station) {
                all.add(p.number);
            }
        }
        for (Person p : people) {
            if (!p.cancelled && p.from == station) {
                all.add(p.number);
            }
        }
        return i >= 0 && i < all.size() ? all.get(i) : NONE;
    }

    /** Integer.MIN_VALUE stands for the exception. */
    int ride(int ride, int what) {
        if (ride < 0 || ride >= people.size() || what < 0 || what > 5) {
            return Integer.MIN_VALUE;
        }
        Person p = people.get(ride);
        int changes = 0;
        for (int s = p.from + 1; s < p.to; s++) {
            changes += p.seat[s] != p.seat[s - 1] ? 1 : 0;
        }
        int state = p.cancelled ? 0 : p.stands ? 3 : p.fixed ? 2 : 1;
        return new int[] {state, p.from, p.to, p.type, p.agency, changes}[what];
    }
}
