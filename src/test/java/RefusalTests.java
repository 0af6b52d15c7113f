import java.util.ArrayList;
import java.util.HashMap;
import java.util.List;
import java.util.Map;

/**
 * "Refused, and nothing changes: UNKNOWN (no such RACK, ACCOUNT, JOB, BOOKING), OUTSIDE (another
 * number is not as told), NOT (not now: as told), FULL: the first of these that fits." (Terms 3)
 * Each call is refused in each way that its promise names, just beside the least and the greatest
 * number, by numbers that would wrap around, and where two or more refusals fit. Then the object must
 * tell the same as one of which nothing was asked, at once and some ticks later.
 */
public final class RefusalTests {
    private static final int UNKNOWN = -2, OUTSIDE = -3, NOT = -4, FULL = -5;
    private static final int MIN = Integer.MIN_VALUE, MAX = Integer.MAX_VALUE;
    private static final int[] LATER = {0, 3, 40};
    private static final Map<String, String> UNASKED = new HashMap<>();
    private static int wrong = 0;

    private interface Call {
        int on(GreatMachine x);
    }

    private enum World { EMPTY, LIVELY, FILLED, LATE }

    public static void main(String[] args) {
        worldsAreAsMeant();
        racks();
        accounts();
        jobs();
        behind();
        cancel();
        book();
        unbook();
        ticks();
        asking();
        System.out.println(wrong == 0 ? "refused calls change nothing" : wrong + " refusals are wrong");
        if (wrong != 0) {
            System.exit(1);
        }
    }

    // ---- the worlds in which calls are refused

    private static GreatMachine make(World world) {
        GreatMachine x = new GreatMachine();
        switch (world) {
            case LIVELY: lively(x); break;
            case FILLED: filled(x); break;
            case LATE: late(x); break;
            default: break;
        }
        return x;
    }

    /** Jobs: 0 is DONE, 1 and 5 are RUNNING, 2 is GONE, 3 is BLOCKED, 4 waits behind 1. */
    private static void lively(GreatMachine x) {
        x.rack(8);
        x.rack(4);
        x.rack(3);
        x.drain(2, true);
        x.account(1);
        x.account(3);
        x.licences(12);
        x.half(7);
        x.job(0, 2, 1, 1, 1, 0);
        x.job(0, 6, 2, 20, 20, 3);
        x.job(1, 4, 0, 20, 9, 0);
        x.job(1, 9, 3, 5, 5, 0);
        x.job(0, 1, 0, 3, 3, 0);
        x.job(1, 1, 1, 50, 50, 0);
        x.behind(4, 1);
        x.ticks(1);
        x.cancel(2);
        x.ticks(4);
        x.book(2, 30, 40);
        x.book(1, 50, 60);
    }

    /** As many of each kind as there can be; at 47 the bookings fill all of ROOM. */
    private static void filled(GreatMachine x) {
        for (int rack = 0; rack < 4; rack++) {
            x.rack(4);
        }
        for (int account = 0; account < 6; account++) {
            x.account(1 + account);
        }
        for (int job = 0; job < 30; job++) {
            x.job(job % 6, 1 + job % 4, job % 3, 5 + job, 1 + job, job % 5);
        }
        for (int booking = 0; booking < 8; booking++) {
            x.book(2, 40 + booking, 50 + booking);
        }
        x.ticks(3);
    }

    private static void late(GreatMachine x) {
        x.rack(5);
        x.account(2);
        x.job(0, 3, 1, 9, 9, 0);
        x.book(1, 2990, 3000);
        for (int i = 0; i < 20; i++) {
            x.ticks(100);
        }
    }

    private static void worldsAreAsMeant() {
        int[] states = {2, 1, 3, 0, 0, 1};
        for (int job = 0; job < states.length; job++) {
            final int asked = job;
            allowed(World.LIVELY, "told(" + job + ", 0)", states[job], x -> x.told(asked, 0));
        }
        allowed(World.LIVELY, "blocked(0)", 3, x -> x.blocked(0));
        allowed(World.LIVELY, "blocked(1)", 20, x -> x.blocked(1));
        allowed(World.LIVELY, "count(6)", 5, x -> x.count(6));
        allowed(World.LIVELY, "count(5)", 2, x -> x.count(5));
        allowed(World.FILLED, "count(0)", 4, x -> x.count(0));
        allowed(World.FILLED, "count(1)", 6, x -> x.count(1));
        allowed(World.FILLED, "count(2)", 30, x -> x.count(2));
        allowed(World.FILLED, "count(5)", 8, x -> x.count(5));
        allowed(World.FILLED, "taken(0, 47)", 16, x -> x.taken(0, 47));
        allowed(World.LATE, "count(6)", 2000, x -> x.count(6));
    }

    // ---- all that an object tells

    private static String everything(GreatMachine x) {
        List<Integer> told = new ArrayList<>();
        for (int what = 0; what < 8; what++) {
            told.add(x.count(what));
        }
        int racks = told.get(0);
        for (int rack = 0; rack < racks; rack++) {
            told.add(x.free(rack));
        }
        for (int account = 0; account < told.get(1); account++) {
            told.add(x.used(account));
        }
        for (int job = 0; job < told.get(2); job++) {
            for (int what = 0; what < 6; what++) {
                told.add(x.told(job, what));
            }
            for (int rack = 0; rack < racks; rack++) {
                told.add(x.on(job, rack));
            }
            told.add(x.foreseen(job));
        }
        for (int way = 0; way < 2; way++) {
            told.add(x.blocked(way));
            for (int u : new int[] {0, 1, 2, 5, 9, 15, 25, 29, 36, 44, 47, 50, 60, 100, 300}) {
                told.add(x.taken(way, told.get(6) + u));
            }
        }
        for (int rack = 0; rack < racks; rack++) {
            told.add(x.drain(rack, false));
        }
        told.add(x.half(1));
        told.add(x.licences(0));
        return told.toString();
    }

    private static String unasked(World world, int later) {
        return UNASKED.computeIfAbsent(world + " " + later, key -> {
            GreatMachine x = make(world);
            if (later > 0) {
                x.ticks(later);
            }
            return everything(x);
        });
    }

    private static void refused(World world, String what, int want, Call call) {
        for (int later : LATER) {
            GreatMachine x = make(world);
            due(world, what, call.on(x), want);
            if (later > 0) {
                x.ticks(later);
            }
            if (!everything(x).equals(unasked(world, later))) {
                wrong++;
                System.out.println(world + ": " + what + " was refused, but changed what is told " + later + " ticks later");
            }
        }
    }

    /** A neighbour of what is refused: it must not be. */
    private static void allowed(World world, String what, int want, Call call) {
        due(world, what, call.on(make(world)), want);
    }

    private static void due(World world, String what, int got, int want) {
        if (got != want) {
            wrong++;
            System.out.println(world + ": " + what + " answered " + got + ", due is " + want);
        }
    }

    // ---- Promises 2 to 6

    private static void racks() {
        for (int n : new int[] {MIN, -1, 0, 17, MAX}) {
            refused(World.EMPTY, "rack(" + n + ")", OUTSIDE, x -> x.rack(n));
            refused(World.LIVELY, "rack(" + n + ")", OUTSIDE, x -> x.rack(n));
            refused(World.FILLED, "rack(" + n + "), OUTSIDE and FULL", OUTSIDE, x -> x.rack(n));
        }
        refused(World.FILLED, "rack(1)", FULL, x -> x.rack(1));
        refused(World.FILLED, "rack(16)", FULL, x -> x.rack(16));
        allowed(World.LIVELY, "rack(1)", 3, x -> x.rack(1));
        allowed(World.LIVELY, "rack(16)", 3, x -> x.rack(16));
        for (int rack : new int[] {MIN, -1, 3, 4, MAX}) {
            refused(World.LIVELY, "drain(" + rack + ", true)", UNKNOWN, x -> x.drain(rack, true));
            refused(World.LIVELY, "drain(" + rack + ", false)", UNKNOWN, x -> x.drain(rack, false));
            refused(World.LIVELY, "fail(" + rack + ")", UNKNOWN, x -> x.fail(rack));
        }
        refused(World.EMPTY, "drain(0, true)", UNKNOWN, x -> x.drain(0, true));
        refused(World.EMPTY, "fail(0)", UNKNOWN, x -> x.fail(0));
        refused(World.FILLED, "drain(4, true)", UNKNOWN, x -> x.drain(4, true));
        refused(World.FILLED, "fail(4)", UNKNOWN, x -> x.fail(4));
        allowed(World.LIVELY, "drain(0, true)", 0, x -> x.drain(0, true));
        allowed(World.LIVELY, "drain(2, true)", 1, x -> x.drain(2, true));
        allowed(World.LIVELY, "fail(0)", 2, x -> x.fail(0));
        allowed(World.LIVELY, "fail(2)", 0, x -> x.fail(2));
        for (int n : new int[] {MIN, -1, 101, MAX}) {
            refused(World.LIVELY, "licences(" + n + ")", OUTSIDE, x -> x.licences(n));
        }
        allowed(World.LIVELY, "licences(0)", 12, x -> x.licences(0));
        allowed(World.LIVELY, "licences(100)", 12, x -> x.licences(100));
        for (int n : new int[] {MIN, -1, 0, 1001, MAX}) {
            refused(World.LIVELY, "half(" + n + ")", OUTSIDE, x -> x.half(n));
        }
        allowed(World.LIVELY, "half(1)", 7, x -> x.half(1));
        allowed(World.LIVELY, "half(1000)", 7, x -> x.half(1000));
    }

    // ---- Promise 7

    private static void accounts() {
        for (int n : new int[] {MIN, -1, 0, 101, MAX}) {
            refused(World.EMPTY, "account(" + n + ")", OUTSIDE, x -> x.account(n));
            refused(World.LIVELY, "account(" + n + ")", OUTSIDE, x -> x.account(n));
            refused(World.FILLED, "account(" + n + "), OUTSIDE and FULL", OUTSIDE, x -> x.account(n));
        }
        refused(World.FILLED, "account(1)", FULL, x -> x.account(1));
        refused(World.FILLED, "account(100)", FULL, x -> x.account(100));
        allowed(World.LIVELY, "account(1)", 2, x -> x.account(1));
        allowed(World.LIVELY, "account(100)", 2, x -> x.account(100));
    }

    // ---- Promise 8

    private static void jobs() {
        for (int account : new int[] {MIN, -1, 2, 6, MAX}) {
            refused(World.LIVELY, "job of account " + account, UNKNOWN, x -> x.job(account, 1, 0, 1, 1, 0));
            refused(World.LIVELY, "job of account " + account + " of 0 nodes, UNKNOWN and OUTSIDE", UNKNOWN,
                    x -> x.job(account, 0, 0, 1, 1, 0));
        }
        refused(World.EMPTY, "job of account 0", UNKNOWN, x -> x.job(0, 1, 0, 1, 1, 0));
        refused(World.FILLED, "job, UNKNOWN and FULL", UNKNOWN, x -> x.job(6, 1, 0, 1, 1, 0));
        refused(World.FILLED, "job, UNKNOWN, OUTSIDE and FULL", UNKNOWN, x -> x.job(-1, 1, 0, 1, 2, 0));
        refused(World.FILLED, "job", FULL, x -> x.job(0, 1, 0, 1, 1, 0));
        refused(World.FILLED, "job of the greatest", FULL, x -> x.job(5, 64, 100, 50, 50, 50));
        int[][] outside = {
            {0, 0, 1, 1, 0}, {65, 0, 1, 1, 0}, {MIN, 0, 1, 1, 0}, {MAX, 0, 1, 1, 0},
            {1, -1, 1, 1, 0}, {1, 101, 1, 1, 0}, {1, MIN, 1, 1, 0}, {1, MAX, 1, 1, 0},
            {1, 0, 0, 1, 0}, {1, 0, 0, 0, 0}, {1, 0, 51, 1, 0}, {1, 0, 51, 51, 0}, {1, 0, MIN, MIN, 0}, {1, 0, MAX, MAX, 0},
            {1, 0, 7, 0, 0}, {1, 0, 7, 8, 0}, {1, 0, 7, MIN, 0}, {1, 0, 7, MAX, 0},
            {1, 0, 1, 1, -1}, {1, 0, 1, 1, 51}, {1, 0, 1, 1, MIN}, {1, 0, 1, 1, MAX},
        };
        for (int[] o : outside) {
            String what = "job(0, " + o[0] + ", " + o[1] + ", " + o[2] + ", " + o[3] + ", " + o[4] + ")";
            refused(World.LIVELY, what, OUTSIDE, x -> x.job(0, o[0], o[1], o[2], o[3], o[4]));
            refused(World.FILLED, what + ", OUTSIDE and FULL", OUTSIDE, x -> x.job(0, o[0], o[1], o[2], o[3], o[4]));
        }
        allowed(World.LIVELY, "job of the least", 6, x -> x.job(0, 1, 0, 1, 1, 0));
        allowed(World.LIVELY, "job of the greatest", 6, x -> x.job(1, 64, 100, 50, 50, 50));
        allowed(World.LIVELY, "job that truly needs its limit", 6, x -> x.job(1, 1, 0, 7, 7, 0));
    }

    // ---- Promise 9

    private static void behind() {
        for (int job : new int[] {MIN, -1, 6, 30, MAX}) {
            refused(World.LIVELY, "behind(" + job + ", -1)", UNKNOWN, x -> x.behind(job, -1));
            refused(World.LIVELY, "behind(" + job + ", 5), UNKNOWN and mostly OUTSIDE", UNKNOWN, x -> x.behind(job, 5));
            if (job != -1) {
                refused(World.LIVELY, "behind(3, " + job + ")", UNKNOWN, x -> x.behind(3, job));
                refused(World.LIVELY, "behind(1, " + job + "), UNKNOWN and NOT", UNKNOWN, x -> x.behind(1, job));
                refused(World.LIVELY, "behind(" + job + ", " + job + ")", UNKNOWN, x -> x.behind(job, job));
            }
        }
        refused(World.LIVELY, "behind(3, -2)", UNKNOWN, x -> x.behind(3, -2));
        refused(World.EMPTY, "behind(0, -1)", UNKNOWN, x -> x.behind(0, -1));
        refused(World.FILLED, "behind(29, 30)", UNKNOWN, x -> x.behind(29, 30));
        refused(World.LIVELY, "behind(3, 3)", OUTSIDE, x -> x.behind(3, 3));
        refused(World.LIVELY, "behind(3, 4)", OUTSIDE, x -> x.behind(3, 4));
        refused(World.LIVELY, "behind(3, 5)", OUTSIDE, x -> x.behind(3, 5));
        refused(World.LIVELY, "behind(4, 5)", OUTSIDE, x -> x.behind(4, 5));
        for (int job : new int[] {0, 1, 2, 5}) {
            refused(World.LIVELY, "behind(" + job + ", -1)", NOT, x -> x.behind(job, -1));
            refused(World.LIVELY, "behind(" + job + ", itself), OUTSIDE and NOT", OUTSIDE, x -> x.behind(job, job));
            refused(World.LIVELY, "behind(" + job + ", 9), UNKNOWN and NOT", UNKNOWN, x -> x.behind(job, 9));
        }
        refused(World.LIVELY, "behind(5, 4)", NOT, x -> x.behind(5, 4));
        refused(World.LIVELY, "behind(1, 2), OUTSIDE and NOT", OUTSIDE, x -> x.behind(1, 2));
        allowed(World.LIVELY, "behind(3, -1)", 1, x -> x.behind(3, -1));
        allowed(World.LIVELY, "behind(3, 2)", 1, x -> x.behind(3, 2));
        allowed(World.LIVELY, "behind(4, 0)", 1, x -> x.behind(4, 0));
    }

    // ---- Promise 10

    private static void cancel() {
        for (int job : new int[] {MIN, -1, 6, 30, MAX}) {
            refused(World.LIVELY, "cancel(" + job + ")", UNKNOWN, x -> x.cancel(job));
        }
        refused(World.EMPTY, "cancel(0)", UNKNOWN, x -> x.cancel(0));
        refused(World.FILLED, "cancel(30)", UNKNOWN, x -> x.cancel(30));
        refused(World.LIVELY, "cancel(0), which is DONE", NOT, x -> x.cancel(0));
        refused(World.LIVELY, "cancel(2), which is GONE", NOT, x -> x.cancel(2));
        allowed(World.LIVELY, "cancel(1)", 1, x -> x.cancel(1));
        allowed(World.LIVELY, "cancel(3)", 1, x -> x.cancel(3));
        allowed(World.LIVELY, "cancel(4)", 1, x -> x.cancel(4));
        allowed(World.LIVELY, "cancel(5)", 1, x -> x.cancel(5));
    }

    // ---- Promise 11

    private static void book() {
        int[][] outside = {
            {0, 90, 91}, {65, 90, 91}, {-1, 90, 91}, {MIN, 90, 91}, {MAX, 90, 91},
            {1, 2, 91}, {1, -1, 91}, {1, MIN, 91}, {1, MIN, MAX}, {1, 90, 90}, {1, 90, 89}, {1, 90, MIN}, {1, MAX, MIN},
            {1, 90, 3001}, {1, 2999, 3001}, {1, 3000, 3000}, {1, 3000, 3001}, {1, MAX, MAX}, {1, MAX - 1, MAX}, {1, 90, MAX},
        };
        for (int[] o : outside) {
            String what = "book(" + o[0] + ", " + o[1] + ", " + o[2] + ")";
            refused(World.LIVELY, what, OUTSIDE, x -> x.book(o[0], o[1], o[2]));
            refused(World.FILLED, what + ", OUTSIDE and FULL", OUTSIDE, x -> x.book(o[0], o[1], o[2]));
        }
        refused(World.EMPTY, "book(1, 0, 1), without ROOM", NOT, x -> x.book(1, 0, 1));
        refused(World.EMPTY, "book(65, 0, 1), OUTSIDE and NOT", OUTSIDE, x -> x.book(65, 0, 1));
        refused(World.LIVELY, "book(13, 90, 91), above ROOM", NOT, x -> x.book(13, 90, 91));
        refused(World.LIVELY, "book(6, 5, 6), with 7 that run", NOT, x -> x.book(6, 5, 6));
        refused(World.LIVELY, "book(10, 1, 60), OUTSIDE and NOT", OUTSIDE, x -> x.book(10, 1, 60));
        refused(World.LIVELY, "book(10, 25, 31), with 3 at its last time", NOT, x -> x.book(10, 25, 31));
        refused(World.LIVELY, "book(10, 39, 45), with 3 at its first time", NOT, x -> x.book(10, 39, 45));
        refused(World.LIVELY, "book(10, 25, 45), with 3 at times within", NOT, x -> x.book(10, 25, 45));
        allowed(World.LIVELY, "book(5, 5, 6)", 2, x -> x.book(5, 5, 6));
        allowed(World.LIVELY, "book(9, 25, 31)", 2, x -> x.book(9, 25, 31));
        allowed(World.LIVELY, "book(10, 25, 30)", 2, x -> x.book(10, 25, 30));
        allowed(World.LIVELY, "book(11, 40, 45)", 2, x -> x.book(11, 40, 45));
        allowed(World.LIVELY, "book(12, 90, 3000)", 2, x -> x.book(12, 90, 3000));
        refused(World.FILLED, "book(1, 47, 48), NOT and FULL", NOT, x -> x.book(1, 47, 48));
        refused(World.FILLED, "book(17, 90, 91), NOT and FULL", NOT, x -> x.book(17, 90, 91));
        refused(World.FILLED, "book(0, 47, 48), OUTSIDE, NOT and FULL", OUTSIDE, x -> x.book(0, 47, 48));
        refused(World.FILLED, "book(1, 47, 47), OUTSIDE and FULL", OUTSIDE, x -> x.book(1, 47, 47));
        refused(World.FILLED, "book(1, 90, 91)", FULL, x -> x.book(1, 90, 91));
        refused(World.FILLED, "book(16, 2999, 3000)", FULL, x -> x.book(16, 2999, 3000));
        refused(World.LATE, "book(1, 1999, 2005)", OUTSIDE, x -> x.book(1, 1999, 2005));
        refused(World.LATE, "book(5, 2985, 2991)", NOT, x -> x.book(5, 2985, 2991));
        allowed(World.LATE, "book(5, 2000, 2990)", 1, x -> x.book(5, 2000, 2990));
    }

    // ---- Promise 12

    private static void unbook() {
        for (int booking : new int[] {MIN, -1, 2, 8, MAX}) {
            refused(World.LIVELY, "unbook(" + booking + ")", UNKNOWN, x -> x.unbook(booking));
        }
        refused(World.EMPTY, "unbook(0)", UNKNOWN, x -> x.unbook(0));
        refused(World.FILLED, "unbook(8)", UNKNOWN, x -> x.unbook(8));
        refused(World.FILLED, "unbook(9)", UNKNOWN, x -> x.unbook(9));
        allowed(World.LIVELY, "unbook(0)", 1, x -> x.unbook(0));
        allowed(World.LIVELY, "unbook(1)", 1, x -> x.unbook(1));
        allowed(World.FILLED, "unbook(7)", 1, x -> x.unbook(7));
    }

    // ---- Promise 13

    private static void ticks() {
        for (int n : new int[] {MIN, -1, 0, 101, MAX, MAX - 4}) {
            refused(World.LIVELY, "ticks(" + n + ")", OUTSIDE, x -> x.ticks(n));
        }
        for (int n : new int[] {MIN, 0, 1, 2, 100, 101, MAX}) {
            refused(World.LATE, "ticks(" + n + ")", OUTSIDE, x -> x.ticks(n));
        }
        allowed(World.LIVELY, "ticks(1)", 6, x -> x.ticks(1));
        allowed(World.LIVELY, "ticks(100)", 105, x -> x.ticks(100));
    }

    // ---- Promises 14 to 21

    private static void asking() {
        for (int job : new int[] {MIN, -1, 6, 30, MAX}) {
            refused(World.LIVELY, "told(" + job + ", 0)", UNKNOWN, x -> x.told(job, 0));
            refused(World.LIVELY, "told(" + job + ", 6), UNKNOWN and OUTSIDE", UNKNOWN, x -> x.told(job, 6));
            refused(World.LIVELY, "told(" + job + ", -1), UNKNOWN and OUTSIDE", UNKNOWN, x -> x.told(job, -1));
            refused(World.LIVELY, "on(" + job + ", 0)", UNKNOWN, x -> x.on(job, 0));
            refused(World.LIVELY, "on(" + job + ", 3), both UNKNOWN", UNKNOWN, x -> x.on(job, 3));
            refused(World.LIVELY, "foreseen(" + job + ")", UNKNOWN, x -> x.foreseen(job));
        }
        for (int rack : new int[] {MIN, -1, 3, 4, MAX}) {
            refused(World.LIVELY, "on(1, " + rack + ")", UNKNOWN, x -> x.on(1, rack));
            refused(World.LIVELY, "free(" + rack + ")", UNKNOWN, x -> x.free(rack));
        }
        for (int account : new int[] {MIN, -1, 2, 6, MAX}) {
            refused(World.LIVELY, "used(" + account + ")", UNKNOWN, x -> x.used(account));
        }
        for (int what : new int[] {MIN, -1, 6, MAX}) {
            refused(World.LIVELY, "told(1, " + what + ")", OUTSIDE, x -> x.told(1, what));
        }
        for (int way : new int[] {MIN, -1, 2, MAX}) {
            refused(World.LIVELY, "blocked(" + way + ")", OUTSIDE, x -> x.blocked(way));
            refused(World.LIVELY, "taken(" + way + ", 5)", OUTSIDE, x -> x.taken(way, 5));
        }
        for (int u : new int[] {MIN, -1, 4, 306, MAX}) {
            refused(World.LIVELY, "taken(0, " + u + ")", OUTSIDE, x -> x.taken(0, u));
            refused(World.LIVELY, "taken(1, " + u + ")", OUTSIDE, x -> x.taken(1, u));
        }
        for (int what : new int[] {MIN, -1, 8, MAX}) {
            refused(World.LIVELY, "count(" + what + ")", OUTSIDE, x -> x.count(what));
        }
        allowed(World.LIVELY, "taken(0, 5)", 7, x -> x.taken(0, 5));
        allowed(World.LIVELY, "taken(0, 305)", 0, x -> x.taken(0, 305));
        allowed(World.LIVELY, "taken(1, 5)", 3, x -> x.taken(1, 5));
        allowed(World.LIVELY, "told(1, 5)", 1, x -> x.told(1, 5));
        allowed(World.LIVELY, "on(5, 2)", 0, x -> x.on(5, 2));
        allowed(World.LIVELY, "free(2)", 3, x -> x.free(2));
        allowed(World.LIVELY, "used(1)", 4 + 4, x -> x.used(1));
        allowed(World.LIVELY, "count(7)", 12, x -> x.count(7));
    }
}
