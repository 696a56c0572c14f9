import java.util.NoSuchElementException;
import java.util.Random;

/** No call throws but ride, whatever it is given and however many went before (LANGUAGE.md, rules 6 and 7). */
public final class AnyCallTest {
    private static final int[] ODD = {Integer.MIN_VALUE, Integer.MIN_VALUE + 1, -101, -3, -2, -1, 0, 1, 2, 3, 4, 5, 8, 12,
        19, 20, 21, 28, 29, 30, 31, 32, 33, 63, 64, 79, 80, 99, 100, 149, 150, 151, 255, 256, 1000, Integer.MAX_VALUE - 1,
        Integer.MAX_VALUE};

    public static void main(String[] args) {
        Due check = new Due();
        for (int run = 0; run < 200; run++) {
            check.due("run " + run + " throws nothing else", throwsNothingElse(run), true);
        }
        check.due("blocks without end", manyBlocks(), true);
        check.end();
    }

    private static boolean throwsNothingElse(int run) {
        Random random = new Random(run);
        SeatDesk x = new SeatDesk(run % 3 == 0 ? odd(random) : 30);
        for (int k = 0; k < 8 && run % 2 == 0; k++) {
            x.coach(random.nextInt(2), 1 + random.nextInt(20));
        }
        try {
            for (int k = 0; k < 3000; k++) {
                anyCall(x, random);
            }
            return true;
        } catch (RuntimeException e) {
            e.printStackTrace(System.out);
            return false;
        }
    }

    private static int odd(Random random) {
        return random.nextInt(3) == 0 ? ODD[random.nextInt(ODD.length)] : random.nextInt(12);
    }

    private static void anyCall(SeatDesk x, Random random) {
        int a = odd(random);
        int b = odd(random);
        int c = odd(random);
        int d = odd(random);
        switch (random.nextInt(24)) {
            case 0: x.coach(a, b); break;
            case 1: x.flags(a, b, c); break;
            case 2: x.quota(a, b, c); break;
            case 3: case 4: x.book(a, b, c); break;
            case 5: x.agencyBook(a, b, c, d); break;
            case 6: x.bookSeat(a, b, c, d); break;
            case 7: x.bookGroup(a, b, c, d); break;
            case 8: x.offerChanges(a, b, c); break;
            case 9: x.bookChanges(a, b, c); break;
            case 10: x.wish(a, b); break;
            case 11: x.print(a); break;
            case 12: x.cancel(a); break;
            case 13: x.shorten(a, b, c); break;
            case 14: x.seatOf(a, b); break;
            case 15: x.block(a, b, c, d); break;
            case 16: x.unblock(a, b, c, d); break;
            case 17: if (random.nextInt(20) == 0) x.removeCoach(a); break;
            case 18: x.standing(a); break;
            case 19: x.load(a, b); break;
            case 20: x.free(a, b); break;
            case 21: x.moved(); break;
            case 22: x.manifest(a, b); break;
            default: tell(x, a, b); break;
        }
    }

    private static void tell(SeatDesk x, int ride, int what) {
        try {
            x.ride(ride, what);
        } catch (NoSuchElementException e) {
            // The one exception that the document has.
        }
    }

    /** Beyond 512 calls any answer will do, but it must be an answer. */
    private static boolean manyBlocks() {
        SeatDesk x = new SeatDesk(3);
        x.coach(0, 1);
        boolean first = true;
        for (int k = 0; k < 2000; k++) {
            boolean made = x.block(0, 0, 0, 2) == 1;
            first &= made || k > 510;
        }
        return first && x.unblock(0, 0, 0, 2);
    }
}
