import java.util.ArrayList;
import java.util.LinkedHashMap;
import java.util.List;
import java.util.Map;

/**
 * "Nothing is promised beyond the answers and state changes described above": each call that is not
 * refused changes what its promise names and nothing else. All that an object tells is taken down
 * without the call and with it, and what differs is compared with what is due, told by hand. What is
 * not told at once (what jobs TRULY need, what they SAVE, SHARES) shows in how it goes on: calls on
 * which nothing later hangs are made, and then all must go on as without them.
 */
public final class EffectTests {
    private static final int FIRST_TIME = 5, LAST_TIME = 330;
    private static int wrong = 0;

    private interface Call {
        int on(GreatMachine x);
    }

    public static void main(String[] args) {
        worldIsAsMeant();
        effectsOnRacks();
        effectsOfFailing();
        effectsOnNumbers();
        effectsOnJobs();
        effectsOnBookings();
        effectsOfTicks();
        askingHasNone();
        busyWorldIsAsMeant();
        laterTheSame();
        askingHasNoneLater();
        System.out.println(wrong == 0 ? "each call changes what it names" : wrong + " calls change something else");
        if (wrong != 0) {
            System.exit(1);
        }
    }

    /**
     * At 5: jobs 1 (6 nodes, up to 20) and 5 (1 node, up to 51) run on rack 0, 0 is DONE, 2 is GONE,
     * 3 is BLOCKED and KEPT for 20, 4 waits behind 1. Rack 2 is DRAINED.
     */
    private static GreatMachine world() {
        GreatMachine x = new GreatMachine();
        x.rack(8);
        x.rack(4);
        x.rack(3);
        x.drain(2, true);
        x.account(1);
        x.account(3);
        x.licences(12);
        x.half(7);
        x.job(0, 2, 1, 1, 1, 0);
        x.job(0, 6, 2, 20, 20, 3);
        x.job(1, 4, 0, 20, 9, 0);
        x.job(1, 9, 3, 5, 5, 0);
        x.job(0, 1, 0, 3, 3, 0);
        x.job(1, 1, 1, 50, 50, 0);
        x.behind(4, 1);
        x.ticks(1);
        x.cancel(2);
        x.ticks(4);
        x.book(2, 30, 40);
        x.book(1, 50, 60);
        return x;
    }

    // ---- all that an object tells

    /** Several objects are asked, as one is used for at most 512 calls. */
    private static Map<String, Integer> everything(Call call) {
        Map<String, Integer> told = new LinkedHashMap<>();
        GreatMachine x = after(call);
        for (int what = 0; what < 8; what++) {
            told.put("count(" + what + ")", x.count(what));
        }
        for (int rack = 0; rack < 4; rack++) {
            told.put("free(" + rack + ")", x.free(rack));
        }
        for (int account = 0; account < 4; account++) {
            told.put("used(" + account + ")", x.used(account));
        }
        jobs(told, x);
        told.put("blocked(0)", x.blocked(0));
        told.put("blocked(1)", x.blocked(1));
        for (int way = 0; way < 2; way++) {
            GreatMachine y = after(call);
            for (int u = FIRST_TIME; u <= LAST_TIME; u++) {
                told.put("taken(" + way + ", " + u + ")", y.taken(way, u));
            }
        }
        told.put("licences", x.licences(10));
        told.put("half", x.half(100));
        for (int rack = 0; rack < 4; rack++) {
            told.put("drained(" + rack + ")", x.drain(rack, false));
        }
        return told;
    }

    private static GreatMachine after(Call call) {
        GreatMachine x = world();
        call.on(x);
        return x;
    }

    private static void jobs(Map<String, Integer> told, GreatMachine x) {
        for (int job = 0; job < 12; job++) {
            for (int what = 0; what < 6; what++) {
                told.put("told(" + job + ", " + what + ")", x.told(job, what));
            }
            for (int rack = 0; rack < 4; rack++) {
                told.put("on(" + job + ", " + rack + ")", x.on(job, rack));
            }
            told.put("foreseen(" + job + ")", x.foreseen(job));
        }
    }

    private static List<String> differences(Map<String, Integer> without, Map<String, Integer> with) {
        List<String> found = new ArrayList<>();
        for (String asked : without.keySet()) {
            if (!asked.startsWith("taken") && !without.get(asked).equals(with.get(asked))) {
                found.add(asked + ": " + without.get(asked) + " -> " + with.get(asked));
            }
        }
        for (int way = 0; way < 2; way++) {
            takenDifferences(found, way, without, with);
        }
        return found;
    }

    /** Times that follow one another and change alike are told together. */
    private static void takenDifferences(List<String> found, int way, Map<String, Integer> without,
            Map<String, Integer> with) {
        String change = null;
        int from = FIRST_TIME;
        for (int u = FIRST_TIME; u <= LAST_TIME + 1; u++) {
            String asked = "taken(" + way + ", " + u + ")";
            String here = u > LAST_TIME || without.get(asked).equals(with.get(asked)) ? null
                    : without.get(asked) + " -> " + with.get(asked);
            if (change != null && !change.equals(here)) {
                found.add("taken(" + way + ", " + from + (u - 1 > from ? " .. " + (u - 1) : "") + "): " + change);
            }
            if (here == null || !here.equals(change)) {
                from = u;
            }
            change = here;
        }
    }

    private static void changes(String what, int answer, Call call, String... due) {
        int got = call.on(world());
        if (got != answer) {
            wrong++;
            System.out.println(what + ": answered " + got + ", due is " + answer);
        }
        List<String> found = differences(everything(x -> 0), everything(call));
        for (String one : due) {
            if (!found.remove(one)) {
                wrong++;
                System.out.println(what + ": should change " + one);
            }
        }
        for (String one : found) {
            wrong++;
            System.out.println(what + ": should not change " + one);
        }
    }

    // ---- what changes

    private static void worldIsAsMeant() {
        Map<String, Integer> told = everything(x -> 0);
        int[] counts = {3, 2, 6, 2, 1, 2, 5, 12};
        for (int what = 0; what < 8; what++) {
            is(told, "count(" + what + ")", counts[what]);
        }
        int[][] jobs = {{2, 0, 1, 0, 0, 0}, {1, 0, -1, 0, 5, 1}, {3, 0, -1, 0, 0, 0}, {0, -1, -1, 0, 0, 0},
                {0, -1, -1, 0, 0, 0}, {1, 1, -1, 0, 4, 1}};
        int[] onTheFirst = {0, 6, 0, 0, 0, 1};
        int[] foreseen = {-1, 0, -1, 20, 20, 1};
        for (int job = 0; job < 6; job++) {
            for (int what = 0; what < 6; what++) {
                is(told, "told(" + job + ", " + what + ")", jobs[job][what]);
            }
            is(told, "on(" + job + ", 0)", onTheFirst[job]);
            is(told, "on(" + job + ", 1)", 0);
            is(told, "on(" + job + ", 2)", 0);
            is(told, "foreseen(" + job + ")", foreseen[job]);
        }
        is(told, "licences", 12);
        is(told, "half", 7);
        is(told, "drained(0)", 0);
        is(told, "drained(1)", 0);
        is(told, "drained(2)", 1);
        is(told, "free(0)", 1);
        is(told, "free(1)", 4);
        is(told, "free(2)", 3);
        is(told, "used(0)", 8 + 4 * 6);
        is(told, "used(1)", 4 + 4 * 1);
        is(told, "blocked(0)", 3);
        is(told, "blocked(1)", 20);
        int[] ends = {20, 30, 40, 50, 51, 60, 306, 331};
        int[] nodes = {7, 1, 3, 1, 2, 1, 0, -3};
        int[] licences = {3, 1, 1, 1, 1, 0, 0, -3};
        int u = FIRST_TIME;
        for (int part = 0; part < ends.length; part++) {
            for (; u < ends[part]; u++) {
                is(told, "taken(0, " + u + ")", nodes[part]);
                is(told, "taken(1, " + u + ")", licences[part]);
            }
        }
    }

    private static void is(Map<String, Integer> told, String asked, int due) {
        if (told.get(asked) != due) {
            wrong++;
            System.out.println(asked + " of the world: answered " + told.get(asked) + ", due is " + due);
        }
    }

    private static void effectsOnRacks() {
        changes("rack(5)", 3, x -> x.rack(5), "count(0): 3 -> 4", "count(7): 12 -> 17", "free(3): -2 -> 5",
                "on(0, 3): -2 -> 0", "on(1, 3): -2 -> 0", "on(2, 3): -2 -> 0", "on(3, 3): -2 -> 0",
                "on(4, 3): -2 -> 0", "on(5, 3): -2 -> 0", "drained(3): -2 -> 0", "foreseen(3): 20 -> 5");
        changes("drain(0, true)", 0, x -> x.drain(0, true), "drained(0): 0 -> 1", "count(7): 12 -> 4",
                "foreseen(3): 20 -> -1", "taken(0, 5 .. 19): 7 -> 0", "taken(0, 20 .. 29): 1 -> 0",
                "taken(0, 30 .. 39): 3 -> 2", "taken(0, 40 .. 49): 1 -> 0", "taken(0, 50): 2 -> 1");
        changes("drain(1, true)", 0, x -> x.drain(1, true), "drained(1): 0 -> 1", "count(7): 12 -> 8",
                "foreseen(3): 20 -> -1");
        changes("drain(2, false)", 1, x -> x.drain(2, false), "drained(2): 1 -> 0", "count(7): 12 -> 15");
        changes("drain(2, true)", 1, x -> x.drain(2, true));
        changes("drain(1, false)", 0, x -> x.drain(1, false));
    }

    private static void effectsOfFailing() {
        changes("fail(0)", 2, x -> x.fail(0), "count(3): 2 -> 0", "free(0): 1 -> 8",
                "told(1, 0): 1 -> 0", "told(1, 3): 0 -> 3", "told(1, 4): 5 -> 0", "told(1, 5): 1 -> 0",
                "on(1, 0): 6 -> 0", "told(5, 0): 1 -> 0", "told(5, 4): 4 -> 0", "told(5, 5): 1 -> 0",
                "on(5, 0): 1 -> 0", "foreseen(3): 20 -> 5", "foreseen(5): 1 -> 5", "foreseen(1): 0 -> 10",
                "foreseen(4): 20 -> 27", "taken(0, 5 .. 19): 7 -> 0", "taken(0, 20 .. 29): 1 -> 0",
                "taken(0, 30 .. 39): 3 -> 2", "taken(0, 40 .. 49): 1 -> 0", "taken(0, 50): 2 -> 1",
                "taken(1, 5 .. 19): 3 -> 0", "taken(1, 20 .. 50): 1 -> 0");
        changes("fail(1)", 0, x -> x.fail(1));
        changes("fail(2)", 0, x -> x.fail(2));
    }

    private static void effectsOnNumbers() {
        changes("licences(11)", 12, x -> x.licences(11), "licences: 12 -> 11");
        changes("licences(3)", 12, x -> x.licences(3), "licences: 12 -> 3", "foreseen(3): 20 -> 51");
        changes("licences(0)", 12, x -> x.licences(0), "licences: 12 -> 0", "foreseen(3): 20 -> -1",
                "foreseen(4): 20 -> 51");
        changes("half(9)", 7, x -> x.half(9), "half: 7 -> 9");
        changes("half(5)", 7, x -> x.half(5), "half: 7 -> 5");
        changes("account(100)", 2, x -> x.account(100), "count(1): 2 -> 3", "used(2): -2 -> 0");
    }

    private static void effectsOnJobs() {
        changes("job(0, 2, 0, 4, 4, 0)", 6, x -> x.job(0, 2, 0, 4, 4, 0), "count(2): 6 -> 7",
                "told(6, 0): -2 -> 0", "told(6, 1): -2 -> -1", "told(6, 2): -2 -> -1", "told(6, 3): -2 -> 0",
                "told(6, 4): -2 -> 0", "told(6, 5): -2 -> 0", "on(6, 0): -2 -> 0", "on(6, 1): -2 -> 0",
                "on(6, 2): -2 -> 0", "foreseen(6): -2 -> 5");
        changes("behind(3, 1)", 1, x -> x.behind(3, 1));
        changes("behind(3, 2)", 1, x -> x.behind(3, 2), "foreseen(3): 20 -> -1");
        changes("behind(4, -1)", 1, x -> x.behind(4, -1), "foreseen(4): 20 -> 5");
        changes("behind(4, 0)", 1, x -> x.behind(4, 0), "foreseen(4): 20 -> 5");
        changes("behind(4, 3)", 1, x -> x.behind(4, 3), "foreseen(4): 20 -> 25");
        changes("cancel(1)", 1, x -> x.cancel(1), "count(3): 2 -> 1", "free(0): 1 -> 7", "told(1, 0): 1 -> 3",
                "told(1, 4): 5 -> 0", "told(1, 5): 1 -> 0", "on(1, 0): 6 -> 0", "foreseen(1): 0 -> -1",
                "foreseen(3): 20 -> 5", "foreseen(4): 20 -> -1", "taken(0, 5 .. 19): 7 -> 1",
                "taken(1, 5 .. 19): 3 -> 1");
        changes("cancel(3)", 1, x -> x.cancel(3), "told(3, 0): 0 -> 3", "foreseen(3): 20 -> -1");
        changes("cancel(4)", 1, x -> x.cancel(4), "told(4, 0): 0 -> 3", "foreseen(4): 20 -> -1");
    }

    private static void effectsOnBookings() {
        changes("book(3, 22, 23)", 2, x -> x.book(3, 22, 23), "count(5): 2 -> 3", "foreseen(3): 20 -> 23",
                "taken(0, 22): 1 -> 4");
        changes("book(5, 5, 20)", 2, x -> x.book(5, 5, 20), "count(5): 2 -> 3", "taken(0, 5 .. 19): 7 -> 12");
        changes("book(1, 2000, 3000)", 2, x -> x.book(1, 2000, 3000), "count(5): 2 -> 3");
        changes("unbook(0)", 1, x -> x.unbook(0), "count(5): 2 -> 1", "taken(0, 30 .. 39): 3 -> 1");
        changes("unbook(1)", 1, x -> x.unbook(1), "count(5): 2 -> 1", "taken(0, 50): 2 -> 1",
                "taken(0, 51 .. 59): 1 -> 0");
    }

    private static void effectsOfTicks() {
        changes("ticks(1)", 6, x -> x.ticks(1), "count(6): 5 -> 6", "used(0): 32 -> 38", "used(1): 8 -> 9",
                "told(1, 4): 5 -> 6", "told(5, 4): 4 -> 5", "taken(0, 5): 7 -> -3", "taken(0, 306): -3 -> 0",
                "taken(1, 5): 3 -> -3", "taken(1, 306): -3 -> 0");
        changes("ticks(2)", 7, x -> x.ticks(2), "count(6): 5 -> 7", "used(0): 32 -> 22", "used(1): 8 -> 5",
                "told(1, 4): 5 -> 7", "told(5, 4): 4 -> 6", "taken(0, 5 .. 6): 7 -> -3",
                "taken(0, 306 .. 307): -3 -> 0", "taken(1, 5 .. 6): 3 -> -3", "taken(1, 306 .. 307): -3 -> 0");
        changes("ticks(15)", 20, x -> x.ticks(15), "count(3): 2 -> 1", "count(4): 1 -> 2", "count(6): 5 -> 20",
                "free(0): 1 -> 7", "used(0): 32 -> 68", "used(1): 8 -> 12", "told(1, 0): 1 -> 2",
                "told(1, 2): -1 -> 20", "told(1, 4): 5 -> 0", "told(1, 5): 1 -> 0", "on(1, 0): 6 -> 0",
                "told(5, 4): 4 -> 19", "foreseen(1): 0 -> -1", "taken(0, 5 .. 19): 7 -> -3",
                "taken(0, 306 .. 320): -3 -> 0", "taken(1, 5 .. 19): 3 -> -3", "taken(1, 306 .. 320): -3 -> 0");
    }

    private static void askingHasNone() {
        changes("told(1, 4)", 5, x -> x.told(1, 4));
        changes("told(3, 0)", 0, x -> x.told(3, 0));
        changes("on(1, 0)", 6, x -> x.on(1, 0));
        changes("free(0)", 1, x -> x.free(0));
        changes("used(0)", 32, x -> x.used(0));
        changes("blocked(0)", 3, x -> x.blocked(0));
        changes("blocked(1)", 20, x -> x.blocked(1));
        changes("taken(0, 30)", 3, x -> x.taken(0, 30));
        changes("taken(1, 30)", 1, x -> x.taken(1, 30));
        changes("foreseen(1)", 0, x -> x.foreseen(1));
        changes("foreseen(3)", 20, x -> x.foreseen(3));
        changes("foreseen(4)", 20, x -> x.foreseen(4));
        changes("foreseen(2)", -1, x -> x.foreseen(2));
        for (int what = 0; what < 8; what++) {
            final int asked = what;
            changes("count(" + what + ")", world().count(what), x -> x.count(asked));
        }
    }

    // ---- how it goes on

    /**
     * At 8: rack 2 is DRAINED and idle, both bookings are past, job 3 is GONE and 7 behind it, 0 and 1
     * have SAVED, and those that run or wait differ in all that they need. When 4 is DONE, 9 and 10 wait
     * for the same nodes, and which is first hangs on the SHARES.
     */
    private static GreatMachine busyWorld() {
        GreatMachine x = new GreatMachine();
        x.rack(8);
        x.rack(6);
        x.rack(4);
        x.drain(2, true);
        x.account(1);
        x.account(40);
        x.account(2);
        x.licences(11);
        x.half(6);
        x.job(0, 5, 3, 12, 9, 2);
        x.job(1, 6, 2, 20, 14, 2);
        x.job(2, 3, 1, 8, 5, 0);
        x.job(0, 4, 2, 9, 4, 1);
        x.book(2, 3, 5);
        x.book(1, 4, 6);
        x.ticks(3);
        x.fail(0);
        x.fail(1);
        x.cancel(3);
        x.job(1, 9, 4, 10, 7, 3);
        x.job(2, 2, 1, 16, 6, 0);
        x.job(0, 1, 1, 30, 22, 5);
        x.job(1, 1, 0, 5, 2, 0);
        x.job(2, 2, 1, 7, 3, 2);
        x.job(1, 12, 0, 3, 2, 0);
        x.job(2, 12, 0, 3, 3, 0);
        x.behind(7, 3);
        x.behind(8, 4);
        x.behind(9, 4);
        x.behind(10, 4);
        x.ticks(5);
        return x;
    }

    private static final int STAGES = 7;

    private static void goOn(GreatMachine x, int stages) {
        for (int stage = 1; stage <= stages; stage++) {
            switch (stage) {
                case 1: x.ticks(1); break;
                case 2: x.ticks(3); x.fail(1); x.ticks(1); break;
                case 3: x.fail(0); x.ticks(4); break;
                case 4: x.drain(2, false); x.ticks(6); break;
                case 5: x.fail(2); x.fail(0); x.ticks(3); break;
                case 6: x.ticks(20); break;
                default: x.ticks(60); break;
            }
        }
    }

    private static Map<String, Integer> look(Call call, int stages) {
        Map<String, Integer> told = new LinkedHashMap<>();
        GreatMachine x = busyWorld();
        call.on(x);
        goOn(x, stages);
        for (int what = 0; what < 8; what++) {
            told.put("count(" + what + ")", x.count(what));
        }
        for (int number = 0; number < 4; number++) {
            told.put("free(" + number + ")", x.free(number));
            told.put("used(" + number + ")", x.used(number));
        }
        jobs(told, x);
        int now = x.count(6);
        for (int u = now; u < now + 50; u++) {
            told.put("taken(0, " + u + ")", x.taken(0, u));
            told.put("taken(1, " + u + ")", x.taken(1, u));
        }
        told.put("blocked(0)", x.blocked(0));
        told.put("blocked(1)", x.blocked(1));
        told.put("licences", x.licences(10));
        told.put("half", x.half(100));
        for (int rack = 0; rack < 4; rack++) {
            told.put("drained(" + rack + ")", x.drain(rack, false));
        }
        return told;
    }

    /** All goes on as without the call but for what begins with one of these. */
    private static void leaves(String what, int answer, Call call, String... but) {
        int got = call.on(busyWorld());
        if (got != answer) {
            wrong++;
            System.out.println(what + " when busy: answered " + got + ", due is " + answer);
        }
        for (int stages = 0; stages <= STAGES; stages++) {
            Map<String, Integer> without = look(x -> 0, stages);
            Map<String, Integer> with = look(call, stages);
            for (String one : but) {
                without.keySet().removeIf(asked -> asked.startsWith(one));
                with.keySet().removeIf(asked -> asked.startsWith(one));
            }
            if (!with.equals(without)) {
                wrong++;
                System.out.println(what + " changes how it goes on at stage " + stages + ": without it " + without
                        + "\n    with it " + with);
                return;
            }
        }
    }

    private static void busyWorldIsAsMeant() {
        Map<String, Integer> told = look(x -> 0, 0);
        int[] states = {0, 1, 2, 3, 0, 1, 1, 0, 0, 0, 0};
        int[] saved = {2, 2, 0, 0, 0, 0, 0, 0, 0, 0, 0};
        for (int job = 0; job < states.length; job++) {
            is(told, "told(" + job + ", 0)", states[job]);
            is(told, "told(" + job + ", 3)", saved[job]);
        }
        is(told, "count(6)", 8);
        is(told, "count(5)", 2);
        is(told, "blocked(0)", 4);
        is(told, "blocked(1)", 21);
        is(told, "foreseen(7)", -1);
        is(told, "free(2)", 4);
        is(told, "drained(2)", 1);
        is(look(x -> 0, STAGES), "count(4)", 9);
    }

    private static void laterTheSame() {
        leaves("a drained rack", 0, x -> x.drain(x.rack(5), true), "count(0)", "free(3)", "on(0, 3)", "on(1, 3)",
                "on(2, 3)", "on(3, 3)", "on(4, 3)", "on(5, 3)", "on(6, 3)", "on(7, 3)", "on(8, 3)", "on(9, 3)",
                "on(10, 3)", "drained(3)");
        leaves("drain(2, true)", 1, x -> x.drain(2, true));
        leaves("drain(0, false)", 0, x -> x.drain(0, false));
        leaves("drained for no tick", 1, x -> x.drain(1, true) + x.drain(1, false));
        leaves("fail(2)", 0, x -> x.fail(2));
        leaves("licences(11)", 11, x -> x.licences(11));
        leaves("half(6)", 6, x -> x.half(6));
        leaves("account(100)", 3, x -> x.account(100), "count(1)", "used(3)");
        leaves("a job that never begins", 1, x -> x.behind(x.job(1, 64, 100, 50, 1, 1), 3), "count(2)", "told(11",
                "on(11", "foreseen(11)");
        leaves("behind(8, 4)", 1, x -> x.behind(8, 4));
        leaves("behind(7, 3)", 1, x -> x.behind(7, 3));
        leaves("cancel(7)", 1, x -> x.cancel(7), "told(7, 0)");
        leaves("book(1, 2999, 3000)", 2, x -> x.book(1, 2999, 3000), "count(5)");
        leaves("unbook(0)", 1, x -> x.unbook(0), "count(5)");
        leaves("another booking for one of the past", 1, x -> {
            x.unbook(0);
            return x.book(1, 2000, 2001);
        });
    }

    private static void askingHasNoneLater() {
        GreatMachine y = busyWorld();
        for (int job = 0; job < 11; job++) {
            final int asked = job;
            leaves("foreseen(" + job + ")", y.foreseen(job), x -> x.foreseen(asked));
            leaves("on(" + job + ", 0)", y.on(job, 0), x -> x.on(asked, 0));
            for (int kind = 0; kind < 6; kind++) {
                final int what = kind;
                leaves("told(" + job + ", " + what + ")", y.told(job, what), x -> x.told(asked, what));
            }
        }
        for (int number = 0; number < 8; number++) {
            final int asked = number;
            leaves("count(" + number + ")", y.count(number), x -> x.count(asked));
            leaves("free(" + number + ")", y.free(number), x -> x.free(asked));
            leaves("used(" + number + ")", y.used(number), x -> x.used(asked));
            leaves("blocked(" + number + ")", y.blocked(number), x -> x.blocked(asked));
            leaves("taken(0, " + (8 + number) + ")", y.taken(0, 8 + number), x -> x.taken(0, 8 + asked));
            leaves("taken(1, " + (8 + number) + ")", y.taken(1, 8 + number), x -> x.taken(1, 8 + asked));
        }
    }
}
