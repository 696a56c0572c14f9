import java.util.NoSuchElementException;
import java.util.Random;

/** Long runs of calls, always the same ones, on SeatDesk and on PlainDesk: all answers must agree (promises 1 to 24). */
public final class ModelTest {
    private static final int RUNS = 3000, CALLS = 512;
    private static final Due CHECK = new Due();
    /** Kinds of calls that leave a train with many holes: mostly book and cancel, some bookSeat, changes, coaches out. */
    private static final int[] HOLES = {0, 0, 0, 0, 0, 130, 130, 130, 92, 99, 99, 172};
    private static final int[] REACHED = new int[7];
    private static final java.util.Map<String, Integer> ANSWERS = new java.util.TreeMap<>();

    public static void main(String[] args) {
        for (int run = 0; run < RUNS; run++) {
            new Run(run).go();
        }
        String[] names = {"booking by a sweep", "wish by a sweep", "seat refused to a wish", "block by a sweep",
            "block refused by a sweep", "ride of a removed coach placed by a sweep", "wish of a ride that stands"};
        for (int k = 0; k < names.length; k++) {
            CHECK.due("reached often enough: " + names[k] + ", " + REACHED[k] + " times", REACHED[k] >= 50, true);
        }
        for (String rare : new String[] {"book -4", "book -3", "agencyBook -5", "bookSeat -3", "bookGroup -3",
            "bookChanges -3", "offerChanges -1", "offerChanges 2", "wish -1", "block 0", "removeCoach 2"}) {
            CHECK.due("reached often enough: " + rare, ANSWERS.getOrDefault(rare, 0) >= 20, true);
        }
        CHECK.end();
    }

    private static final class Run {
        final int run;
        final Random random;
        final SeatDesk desk;
        final PlainDesk plain;
        final int stations;
        final int coachSize;
        final int longest;
        int call;

        Run(int run) {
            this.run = run;
            random = new Random(run);
            stations = run % 50 == 0 ? 30 : run % 10 == 0 ? random.nextInt(36) - 3 : 2 + random.nextInt(7);
            coachSize = run % 25 == 0 ? 20 : 1 + random.nextInt(5);
            longest = run % 3 == 0 ? 30 : 3;
            desk = new SeatDesk(stations);
            plain = new PlainDesk(stations);
        }

        void go() {
            int coaches = 1 + random.nextInt(4);
            for (int k = 0; k < coaches; k++) {
                addCoach();
            }
            while (call < CALLS - 40) {
                step();
            }
            for (int ride = 0; ride < 40; ride++) {
                int stretch = random.nextInt(plain.stations);
                same("seatOf", desk.seatOf(ride, stretch), plain.seatOf(ride, stretch), ride, stretch);
            }
            int[] here = {plain.sweptBookings, plain.sweptWishes, plain.refusedWishSeats, plain.sweptBlocks,
                plain.refusedBlocks, plain.sweptRemovals, plain.standingWishes};
            for (int k = 0; k < here.length; k++) {
                REACHED[k] += here[k];
            }
        }

        void same(String name, int got, int want, int... with) {
            call++;
            ANSWERS.merge(name + " " + want, 1, Integer::sum);
            if (got != want) {
                CHECK.due("run " + run + ", call " + call + ": " + name + java.util.Arrays.toString(with), got, want);
            } else {
                CHECK.due(name, 0, 0);
            }
        }

        void same(String name, boolean got, boolean want, int... with) {
            same(name, got ? 1 : 0, want ? 1 : 0, with);
        }

        /** Now and then a number just outside what is said. */
        int near(int end) {
            return random.nextInt(40) == 0 ? (random.nextBoolean() ? -1 : end) : random.nextInt(Math.max(1, end));
        }

        int type() {
            return random.nextInt(60) == 0 ? 2 : random.nextInt(8) == 0 ? 1 : 0;
        }

        int someRide() {
            return near(plain.people.size());
        }

        int someCoach() {
            return near(plain.coaches.size());
        }

        int someSeat() {
            return near(coachSize);
        }

        void addCoach() {
            int type = type();
            int size = random.nextInt(20) == 0 ? random.nextInt(23) : coachSize;
            same("coach", desk.coach(type, size), plain.coach(type, size), type, size);
            for (int seat = 0; seat < size; seat += 2) {
                int coach = plain.coaches.size() - 1;
                int mask = random.nextInt(4);
                same("flags", desk.flags(coach, seat, mask), plain.flags(coach, seat, mask), coach, seat, mask);
            }
        }

        void step() {
            int from = near(plain.stations);
            int to = random.nextInt(30) == 0 ? from : from + 1 + random.nextInt(Math.max(1, Math.min(longest, plain.stations - 1 - from)));
            int kind = run % 4 == 1 ? HOLES[random.nextInt(HOLES.length)] : random.nextInt(200);
            if (kind < 70) {
                int type = type();
                same("book", desk.book(from, to, type), plain.book(from, to, type), from, to, type);
            } else if (kind < 110) {
                otherBooking(kind, from, to);
            } else if (kind < 150) {
                ofARide(kind);
            } else if (kind < 175) {
                ofASeat(kind, from, to);
            } else {
                question(kind);
            }
            same("moved", desk.moved(), plain.moved());
        }

        void otherBooking(int kind, int from, int to) {
            int type = type();
            if (kind < 76) {
                int agency = near(4);
                int n = random.nextInt(4) == 0 ? near(151) : random.nextInt(6);
                for (int k = 0; k < 3; k++) {
                    int stretch = near(plain.stations - 1);
                    same("quota", desk.quota(stretch, agency, n), plain.quota(stretch, agency, n), stretch, agency, n);
                }
            } else if (kind < 90) {
                int agency = near(4);
                same("agencyBook", desk.agencyBook(agency, from, to, type), plain.agencyBook(agency, from, to, type), agency, from, to, type);
            } else if (kind < 96) {
                int coach = someCoach();
                int seat = someSeat();
                same("bookSeat", desk.bookSeat(from, to, coach, seat), plain.bookSeat(from, to, coach, seat), from, to, coach, seat);
            } else if (kind < 99) {
                int n = random.nextInt(10) == 0 ? random.nextInt(15) : 2 + random.nextInt(2);
                same("bookGroup", desk.bookGroup(from, to, type, n), plain.bookGroup(from, to, type, n), from, to, type, n);
            } else {
                same("offerChanges", desk.offerChanges(from, to, type), plain.offerChanges(from, to, type), from, to, type);
                if (random.nextInt(3) == 0) {
                    same("bookChanges", desk.bookChanges(from, to, type), plain.bookChanges(from, to, type), from, to, type);
                }
            }
        }

        void ofARide(int kind) {
            int ride = someRide();
            if (kind < 122) {
                int mask = random.nextInt(50) == 0 ? 256 : random.nextInt(4);
                same("wish", desk.wish(ride, mask), plain.wish(ride, mask), ride, mask);
            } else if (kind < 126) {
                same("print", desk.print(ride), plain.print(ride), ride);
            } else if (kind < 142) {
                same("cancel", desk.cancel(ride), plain.cancel(ride), ride);
            } else {
                int from = near(plain.stations);
                int to = near(plain.stations);
                if (random.nextBoolean() && plain.living(ride)) {
                    from = plain.people.get(ride).from + random.nextInt(2);
                    to = plain.people.get(ride).to - random.nextInt(2);
                }
                same("shorten", desk.shorten(ride, from, to), plain.shorten(ride, from, to), ride, from, to);
            }
        }

        void ofASeat(int kind, int from, int to) {
            int coach = someCoach();
            int seat = someSeat();
            if (kind < 162) {
                same("block", desk.block(coach, seat, from, to), plain.block(coach, seat, from, to), coach, seat, from, to);
            } else if (kind < 172) {
                if (!plain.blocks.isEmpty() && random.nextInt(4) != 0) {
                    int[] b = plain.blocks.get(random.nextInt(plain.blocks.size()));
                    coach = b[0] / 100;
                    seat = b[0] % 100;
                    from = b[1];
                    to = b[2];
                }
                same("unblock", desk.unblock(coach, seat, from, to), plain.unblock(coach, seat, from, to), coach, seat, from, to);
            } else if (random.nextInt(run % 2 == 0 ? 2 : 6) == 0) {
                same("removeCoach", desk.removeCoach(coach), plain.removeCoach(coach), coach);
                addCoach();
            }
        }

        void question(int kind) {
            int station = near(plain.stations);
            int i = near(6);
            int ride = someRide();
            int type = type();
            if (kind < 178) {
                same("standing", desk.standing(i), plain.standing(i), i);
            } else if (kind < 181) {
                same("load", desk.load(station, type), plain.load(station, type), station, type);
            } else if (kind < 184) {
                same("free", desk.free(station, type), plain.free(station, type), station, type);
            } else if (kind < 188) {
                same("manifest", desk.manifest(station, i), plain.manifest(station, i), station, i);
            } else if (kind < 193) {
                same("seatOf", desk.seatOf(ride, station), plain.seatOf(ride, station), ride, station);
            } else {
                int what = near(6);
                int got;
                try {
                    got = desk.ride(ride, what);
                } catch (NoSuchElementException e) {
                    got = Integer.MIN_VALUE;
                }
                same("ride", got, plain.ride(ride, what), ride, what);
            }
        }
    }
}
