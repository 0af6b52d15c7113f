import java.lang.reflect.Constructor;
import java.lang.reflect.Field;
import java.lang.reflect.Method;
import java.lang.reflect.Modifier;
import java.util.ArrayList;
import java.util.Arrays;
import java.util.List;

/** Each promise of the document by hand: ordinary calls, the edges that it names, and wrong inputs. */
public final class PromiseTests {
    private static final int NONE = -1, UNKNOWN = -2, OUTSIDE = -3, NOT = -4, FULL = -5;
    private static final int MIN = Integer.MIN_VALUE, MAX = Integer.MAX_VALUE;
    private static int wrong = 0;

    private static void due(String what, int got, int want) {
        if (got != want) {
            wrong++;
            System.out.println(what + ": answered " + got + ", due is " + want);
        }
    }

    public static void main(String[] args) {
        face();
        newObject();
        racks();
        drains();
        drainedWork();
        fails();
        failsThatSave();
        licences();
        halves();
        halvedUse();
        accounts();
        jobs();
        jobsInOrderOfRefusal();
        behind();
        behindChains();
        cancels();
        books();
        booksAgainstTaken();
        unbooks();
        ticks();
        queueByFractions();
        queueKeepsPlace();
        queueKeepsLicences();
        keptAhead();
        keptBesideAllBookings();
        keptBehindManyEnds();
        nodesGoToFewestRacks();
        nodesGoAsManyAsFree();
        told();
        on();
        free();
        used();
        blocked();
        taken();
        foreseen();
        foreseenAhead();
        foreseenChangesNothing();
        counts();
        System.out.println(wrong == 0 ? "all promises hold" : wrong + " answers are wrong");
        if (wrong != 0) {
            System.exit(1);
        }
    }

    /** A machine with racks of these sizes and one account. */
    private static GreatMachine with(int... nodes) {
        GreatMachine x = new GreatMachine();
        for (int i = 0; i < nodes.length; i++) {
            due("rack", x.rack(nodes[i]), i);
        }
        due("account", x.account(1), 0);
        return x;
    }

    /** A job of account 0 that truly needs its limit and saves nothing. */
    private static int plain(GreatMachine x, int nodes, int limit) {
        return x.job(0, nodes, 0, limit, limit, 0);
    }

    private static void face() {
        List<String> members = new ArrayList<>();
        for (Constructor<?> c : GreatMachine.class.getDeclaredConstructors()) {
            if (!Modifier.isPrivate(c.getModifiers())) {
                members.add("new" + Arrays.toString(c.getParameterTypes()));
            }
        }
        for (Method m : GreatMachine.class.getDeclaredMethods()) {
            if (!Modifier.isPrivate(m.getModifiers()) && !m.isSynthetic()) {
                members.add(m.getReturnType() + " " + m.getName() + Arrays.toString(m.getParameterTypes()));
            }
        }
        for (Field f : GreatMachine.class.getDeclaredFields()) {
            if (!Modifier.isPrivate(f.getModifiers()) && !f.isSynthetic()) {
                members.add(Modifier.toString(f.getModifiers()) + " " + f.getType() + " " + f.getName());
            }
        }
        List<String> want = new ArrayList<>(List.of("new[]", "int drain[int, boolean]",
                "int job[int, int, int, int, int, int]", "int book[int, int, int]",
                "int behind[int, int]", "int told[int, int]", "int on[int, int]", "int taken[int, int]"));
        for (String name : "rack fail licences half account cancel unbook ticks free used blocked foreseen count".split(" ")) {
            want.add("int " + name + "[int]");
        }
        for (String name : "NONE UNKNOWN OUTSIDE NOT FULL".split(" ")) {
            want.add("public static final int " + name);
        }
        members.sort(null);
        want.sort(null);
        if (!members.equals(want) || !Modifier.isFinal(GreatMachine.class.getModifiers())) {
            wrong++;
            System.out.println("the face is " + members + ", due is " + want);
        }
        due("NONE", GreatMachine.NONE, NONE);
        due("UNKNOWN", GreatMachine.UNKNOWN, UNKNOWN);
        due("OUTSIDE", GreatMachine.OUTSIDE, OUTSIDE);
        due("NOT", GreatMachine.NOT, NOT);
        due("FULL", GreatMachine.FULL, FULL);
    }

    // Promise 1
    private static void newObject() {
        GreatMachine x = new GreatMachine();
        for (int what = 0; what < 8; what++) {
            due("new count " + what, x.count(what), 0);
        }
        due("new free", x.free(0), UNKNOWN);
        due("new used", x.used(0), UNKNOWN);
        due("new told", x.told(0, 0), UNKNOWN);
        due("new unbook", x.unbook(0), UNKNOWN);
        due("new taken", x.taken(0, 0), 0);
        due("new taken licences", x.taken(1, 300), 0);
        due("new blocked", x.blocked(0), NONE);
        due("new kept", x.blocked(1), NONE);
        due("new licences", x.licences(0), 10);
        due("new half", x.half(1), 100);
        due("new book", x.book(1, 0, 1), NOT);
        GreatMachine other = with(3);
        due("another object", x.count(0), 0);
        due("another object has its own", other.count(0), 1);
    }

    // Promise 2
    private static void racks() {
        GreatMachine x = new GreatMachine();
        for (int n : new int[] {0, 17, -1, MIN, MAX}) {
            due("rack " + n, x.rack(n), OUTSIDE);
        }
        due("no rack yet", x.count(0), 0);
        due("rack 1", x.rack(1), 0);
        due("rack 16", x.rack(16), 1);
        due("rack 2", x.rack(2), 2);
        due("rack 15", x.rack(15), 3);
        due("a fifth rack", x.rack(1), FULL);
        due("a fifth rack of none", x.rack(0), OUTSIDE);
        due("a fifth rack of 17", x.rack(17), OUTSIDE);
        due("racks", x.count(0), 4);
        due("room", x.count(7), 34);
        due("free 0", x.free(0), 1);
        due("free 3", x.free(3), 15);
        due("free 4", x.free(4), UNKNOWN);
    }

    // Promise 3
    private static void drains() {
        GreatMachine x = with(4, 6);
        due("drain 2", x.drain(2, true), UNKNOWN);
        due("drain -1", x.drain(-1, true), UNKNOWN);
        due("drain min", x.drain(MIN, false), UNKNOWN);
        due("drain max", x.drain(MAX, false), UNKNOWN);
        due("room", x.count(7), 10);
        due("undrain", x.drain(0, false), 0);
        due("drain", x.drain(0, true), 0);
        due("drain again", x.drain(0, true), 1);
        due("room without it", x.count(7), 6);
        due("the other", x.drain(1, true), 0);
        due("no room", x.count(7), 0);
        due("undrain again", x.drain(0, false), 1);
        due("undrained", x.drain(0, false), 0);
        due("room again", x.count(7), 4);
        due("it is free", x.free(1), 6);
    }

    private static void drainedWork() {
        GreatMachine x = with(4, 6);
        plain(x, 8, 10);
        plain(x, 2, 5);
        due("tick", x.ticks(1), 1);
        due("on 0", x.on(0, 0), 4);
        due("on 1", x.on(0, 1), 4);
        due("the second fills", x.on(1, 1), 2);
        due("drain", x.drain(1, true), 0);
        due("what runs there does not count", x.taken(0, 1), 4);
        due("its licences would", x.taken(1, 1), 0);
        due("it runs on", x.ticks(1), 2);
        due("running", x.count(3), 2);
        due("undrain", x.drain(1, false), 1);
        due("it counts again", x.taken(0, 2), 10);
        due("drain the first", x.drain(0, true), 0);
        due("half of it counts", x.taken(0, 2), 6);
        due("behind the second's end", x.taken(0, 5), 4);
        due("behind the first's end", x.taken(0, 10), 0);
        plain(x, 4, 1);
        due("till the second ends", x.ticks(3), 5);
        due("nothing begins without room", x.told(2, 0), 0);
        due("blocked", x.blocked(0), 2);
        due("kept when the first ends, as the drained rack stays so", x.blocked(1), 10);
        due("free on the drained rack", x.free(0), 0);
        due("free on the other", x.free(1), 2);
        plain(x, 2, 2);
        due("a small one", x.ticks(1), 6);
        due("begins on the other", x.on(3, 1), 2);
        GreatMachine y = with(4, 6);
        y.drain(0, true);
        plain(y, 3, 2);
        y.ticks(1);
        due("nothing begins on a drained rack", y.on(0, 0), 0);
        due("it begins on the other", y.on(0, 1), 3);
        GreatMachine z = with(3);
        z.job(0, 2, 7, 9, 9, 0);
        z.ticks(1);
        z.drain(0, true);
        due("nodes drained", z.taken(0, 1), 0);
        due("licences count, drained or not", z.taken(1, 1), 7);
    }

    // Promise 4
    private static void fails() {
        GreatMachine x = with(4, 6);
        due("fail 2", x.fail(2), UNKNOWN);
        due("fail -1", x.fail(-1), UNKNOWN);
        due("fail max", x.fail(MAX), UNKNOWN);
        due("fail min", x.fail(MIN), UNKNOWN);
        due("fail without work", x.fail(0), 0);
        plain(x, 8, 10);
        plain(x, 2, 5);
        plain(x, 1, 5);
        x.ticks(2);
        due("fail the first rack", x.fail(0), 1);
        due("waits again", x.told(0, 0), 0);
        due("the other runs on", x.told(1, 0), 1);
        due("its nodes are free there", x.free(0), 4);
        due("and on the other rack", x.free(1), 4);
        due("began last", x.told(0, 1), 0);
        due("not done", x.told(0, 2), NONE);
        due("nothing saved", x.told(0, 3), 0);
        due("ran", x.told(0, 4), 0);
        due("on no rack", x.told(0, 5), 0);
        due("used stays", x.used(0), 20);
        due("a rack that failed is not drained", x.drain(0, false), 0);
        due("it begins again", x.ticks(1), 3);
        due("when", x.told(0, 1), 2);
        due("fail the second: two", x.fail(1), 2);
        due("again: none", x.fail(1), 0);
        due("nothing runs", x.count(3), 0);
        GreatMachine y = with(4);
        plain(y, 4, 9);
        y.ticks(1);
        y.drain(0, true);
        due("a drained rack fails, too", y.fail(0), 1);
        due("nothing on it", y.free(0), 4);
        due("the rack is still drained", y.drain(0, true), 1);
    }

    private static void failsThatSave() {
        GreatMachine x = with(4);
        x.job(0, 1, 0, 20, 12, 3);
        x.job(0, 1, 0, 20, 12, 0);
        x.job(0, 1, 0, 20, 12, 50);
        x.job(0, 1, 0, 20, 12, 1);
        x.ticks(5);
        due("four fail", x.fail(0), 4);
        due("saves every 3", x.told(0, 3), 3);
        due("saves nothing", x.told(1, 3), 0);
        due("saves every 50", x.told(2, 3), 0);
        due("saves every 1", x.told(3, 3), 5);
        x.ticks(4);
        due("all four", x.taken(0, 5 + 14), 4);
        due("LEFT is less by SAVED", x.taken(0, 5 + 15), 3);
        due("the first's last time", x.taken(0, 5 + 16), 3);
        due("the first's LEFT", x.taken(0, 5 + 17), 2);
        due("the last time", x.taken(0, 5 + 19), 2);
        due("without SAVED all its LIMIT", x.taken(0, 5 + 20), 0);
        due("fail once more", x.fail(0), 4);
        due("3 and 4, cut", x.told(0, 3), 6);
        due("none", x.told(1, 3), 0);
        due("5 and 4", x.told(3, 3), 9);
        due("time", x.ticks(2), 11);
        due("not yet", x.told(3, 0), 1);
        due("time", x.ticks(1), 12);
        due("done when it ran what was left", x.told(3, 2), 12);
        due("SAVED stays", x.told(3, 3), 9);
        due("time", x.ticks(3), 15);
        due("done by 12 less 6", x.told(0, 2), 15);
        due("time", x.ticks(6), 21);
        due("done by 12", x.told(1, 2), 21);
        due("done by 12, too", x.told(2, 2), 21);
        due("used: all that was run", x.used(0), 4 * 5 + 4 * 4 + 3 + 6 + 12 + 12);
        GreatMachine y = with(2);
        y.job(0, 2, 0, 10, 8, 4);
        y.ticks(4);
        y.fail(0);
        due("a whole step is saved", y.told(0, 3), 4);
        y.ticks(3);
        y.fail(0);
        due("less than a step adds nothing", y.told(0, 3), 4);
    }

    // Promise 5
    private static void licences() {
        GreatMachine x = with(8);
        for (int n : new int[] {-1, 101, MIN, MAX}) {
            due("licences " + n, x.licences(n), OUTSIDE);
        }
        due("licences 100", x.licences(100), 10);
        due("licences 0", x.licences(0), 100);
        due("licences 5", x.licences(5), 0);
        x.job(0, 1, 5, 9, 9, 0);
        x.job(0, 1, 1, 9, 9, 0);
        x.ticks(1);
        due("as many as there are", x.told(0, 0), 1);
        due("one too many", x.told(1, 0), 0);
        due("kept when they are given back", x.blocked(1), 9);
        due("fewer", x.licences(4), 5);
        due("jobs that run go on", x.ticks(1), 2);
        due("it runs", x.told(0, 0), 1);
        due("taken above what there is", x.taken(1, 2), 5);
        due("one more", x.licences(6), 4);
        x.ticks(1);
        due("now it begins", x.told(1, 1), 2);
    }

    // Promise 6
    private static void halves() {
        GreatMachine x = new GreatMachine();
        for (int n : new int[] {0, 1001, -1, MIN, MAX}) {
            due("half " + n, x.half(n), OUTSIDE);
        }
        due("half 1", x.half(1), 100);
        due("half 1000", x.half(1000), 1);
        due("half 7", x.half(7), 1000);
        due("half is 7", x.half(7), 7);
    }

    private static void halvedUse() {
        GreatMachine x = with(8);
        x.account(1);
        x.job(0, 3, 0, 50, 50, 0);
        x.job(1, 5, 0, 50, 50, 0);
        x.half(3);
        x.ticks(2);
        due("used", x.used(0), 6);
        x.ticks(1);
        due("halved and cut", x.used(0), 4);
        due("all accounts", x.used(1), 7);
        x.ticks(3);
        due("halved again", x.used(0), 6);
        due("cut again", x.used(1), 11);
        x.half(4);
        x.ticks(1);
        due("no multiple", x.used(0), 9);
        x.ticks(1);
        due("8 is one", x.used(0), 6);
        GreatMachine y = with(1);
        plain(y, 1, 50);
        plain(y, 1, 50);
        y.ticks(99);
        due("not ahead of 100", y.used(0), 99);
        y.ticks(1);
        due("at 100", y.used(0), 50);
    }

    // Promise 7
    private static void accounts() {
        GreatMachine x = new GreatMachine();
        for (int n : new int[] {0, 101, -1, MIN, MAX}) {
            due("account " + n, x.account(n), OUTSIDE);
        }
        due("no account", x.count(1), 0);
        due("account 1", x.account(1), 0);
        due("account 100", x.account(100), 1);
        for (int i = 2; i < 6; i++) {
            due("account", x.account(i), i);
            due("used", x.used(i), 0);
        }
        due("a seventh", x.account(1), FULL);
        due("a seventh of 0", x.account(0), OUTSIDE);
        due("a seventh of 101", x.account(101), OUTSIDE);
        due("accounts", x.count(1), 6);
        due("used of none", x.used(6), UNKNOWN);
    }

    // Promise 8
    private static void jobs() {
        GreatMachine x = with(2);
        int[][] outside = {
            {0, 0, 1, 1, 0}, {65, 0, 1, 1, 0}, {MIN, 0, 1, 1, 0}, {MAX, 0, 1, 1, 0},
            {1, -1, 1, 1, 0}, {1, 101, 1, 1, 0}, {1, MIN, 1, 1, 0}, {1, MAX, 1, 1, 0},
            {1, 0, 0, 0, 0}, {1, 0, 0, 1, 0}, {1, 0, 51, 1, 0}, {1, 0, 51, 51, 0}, {1, 0, MIN, 1, 0}, {1, 0, MAX, 1, 0},
            {1, 0, 5, 0, 0}, {1, 0, 5, 6, 0}, {1, 0, 5, -1, 0}, {1, 0, 5, MIN, 0}, {1, 0, 50, MAX, 0},
            {1, 0, 1, 1, -1}, {1, 0, 1, 1, 51}, {1, 0, 1, 1, MIN}, {1, 0, 1, 1, MAX},
        };
        for (int[] o : outside) {
            due("job " + Arrays.toString(o), x.job(0, o[0], o[1], o[2], o[3], o[4]), OUTSIDE);
        }
        due("no job", x.count(2), 0);
        due("the least", x.job(0, 1, 0, 1, 1, 0), 0);
        due("the greatest", x.job(0, 64, 100, 50, 50, 50), 1);
        due("truly less", x.job(0, 64, 100, 50, 1, 50), 2);
        for (int what = 0; what < 6; what++) {
            due("told " + what, x.told(1, what), what == 1 || what == 2 ? NONE : 0);
        }
        for (int i = 3; i < 30; i++) {
            due("job", x.job(0, 1, 0, 1, 1, 0), i);
        }
        due("one more", x.job(0, 1, 0, 1, 1, 0), FULL);
        due("jobs", x.count(2), 30);
        due("it is none", x.told(30, 0), UNKNOWN);
    }

    private static void jobsInOrderOfRefusal() {
        GreatMachine x = with(2);
        for (int account : new int[] {-1, 1, MIN, MAX}) {
            due("job of " + account, x.job(account, 1, 0, 1, 1, 0), UNKNOWN);
            due("job of none of 0 nodes", x.job(account, 0, 0, 1, 1, 0), UNKNOWN);
        }
        for (int i = 0; i < 30; i++) {
            x.job(0, 1, 0, 1, 1, 0);
        }
        due("unknown ahead of full", x.job(1, 1, 0, 1, 1, 0), UNKNOWN);
        due("outside ahead of full", x.job(0, 0, 0, 1, 1, 0), OUTSIDE);
        due("truly outside ahead of full", x.job(0, 1, 0, 1, 2, 0), OUTSIDE);
        due("full", x.job(0, 1, 0, 1, 1, 0), FULL);
    }

    // Promise 9
    private static void behind() {
        GreatMachine x = with(2);
        plain(x, 2, 2);
        plain(x, 2, 2);
        plain(x, 2, 2);
        due("behind an unknown one", x.behind(1, 3), UNKNOWN);
        due("behind -2", x.behind(1, -2), UNKNOWN);
        due("behind min", x.behind(1, MIN), UNKNOWN);
        due("behind max", x.behind(1, MAX), UNKNOWN);
        due("an unknown one", x.behind(3, 0), UNKNOWN);
        due("an unknown one behind none", x.behind(-1, -1), UNKNOWN);
        due("both unknown", x.behind(7, 8), UNKNOWN);
        due("itself", x.behind(1, 1), OUTSIDE);
        due("a greater one", x.behind(1, 2), OUTSIDE);
        due("the first behind none", x.behind(0, -1), 1);
        due("a lesser one", x.behind(2, 1), 1);
        due("another", x.behind(2, 0), 1);
        x.ticks(1);
        due("one that runs", x.behind(0, -1), NOT);
        due("one that runs, behind itself", x.behind(0, 0), OUTSIDE);
        due("one that runs, behind an unknown one", x.behind(0, 9), UNKNOWN);
        due("behind one that runs", x.behind(1, 0), 1);
        x.ticks(1);
        due("one that is done", x.behind(0, -1), NOT);
        x.cancel(1);
        due("one that is gone", x.behind(1, 0), NOT);
        due("behind one that is gone", x.behind(2, 1), 1);
        x.ticks(5);
        due("it waits for ever", x.told(2, 0), 0);
        due("it is not in the queue", x.blocked(0), NONE);
        due("behind one that is done", x.behind(2, 0), 1);
        x.ticks(1);
        due("begins", x.told(2, 1), 7);
    }

    private static void behindChains() {
        GreatMachine x = with(4);
        plain(x, 1, 2);
        plain(x, 1, 3);
        plain(x, 1, 1);
        x.behind(1, 0);
        x.behind(2, 1);
        x.ticks(10);
        due("the second when the first was done", x.told(1, 1), 2);
        due("the third when the second was done", x.told(2, 1), 5);
        due("done", x.told(2, 2), 6);
        GreatMachine y = with(4);
        plain(y, 1, 2);
        plain(y, 1, 2);
        y.behind(1, 0);
        y.behind(1, -1);
        y.ticks(1);
        due("behind none again", y.told(1, 0), 1);
    }

    // Promise 10
    private static void cancels() {
        GreatMachine x = with(4);
        due("cancel none", x.cancel(0), UNKNOWN);
        plain(x, 3, 5);
        plain(x, 2, 5);
        plain(x, 4, 1);
        due("cancel 3", x.cancel(3), UNKNOWN);
        due("cancel -1", x.cancel(-1), UNKNOWN);
        due("cancel max", x.cancel(MAX), UNKNOWN);
        due("cancel min", x.cancel(MIN), UNKNOWN);
        x.behind(2, 0);
        x.ticks(1);
        due("a running one", x.cancel(0), 1);
        due("gone", x.told(0, 0), 3);
        due("began", x.told(0, 1), 0);
        due("not done", x.told(0, 2), NONE);
        due("ran", x.told(0, 4), 0);
        due("on no rack", x.told(0, 5), 0);
        due("its nodes are free", x.free(0), 4);
        due("none taken", x.taken(0, 1), 0);
        due("running", x.count(3), 0);
        due("used stays", x.used(0), 3);
        due("again", x.cancel(0), NOT);
        due("a waiting one", x.cancel(1), 1);
        due("gone, too", x.told(1, 0), 3);
        due("who was blocked stays told", x.blocked(0), 1);
        x.ticks(50);
        due("behind one that is gone: for ever", x.told(2, 0), 0);
        due("none done", x.count(4), 0);
        plain(x, 1, 1);
        x.ticks(1);
        due("a done one", x.cancel(3), NOT);
        due("it stays done", x.told(3, 0), 2);
    }

    // Promise 11
    private static void books() {
        GreatMachine x = with(16, 16, 16, 16);
        int[][] outside = {
            {0, 0, 1}, {65, 0, 1}, {-1, 0, 1}, {MIN, 0, 1}, {MAX, 0, 1},
            {1, -1, 1}, {1, MIN, 1}, {1, 0, 0}, {1, 5, 5}, {1, 5, 4}, {1, 0, -1}, {1, 0, MIN},
            {1, 0, 3001}, {1, 3000, 3001}, {1, 3000, 3000}, {1, MAX, MAX}, {1, MAX, MIN}, {1, 0, MAX},
        };
        for (int[] o : outside) {
            due("book " + Arrays.toString(o), x.book(o[0], o[1], o[2]), OUTSIDE);
        }
        due("no booking", x.count(5), 0);
        due("book 1", x.book(1, 2999, 3000), 0);
        due("book 64", x.book(64, 0, 2999), 1);
        due("one more", x.book(1, 2998, 2999), NOT);
        due("64 at the last time", x.book(64, 2999, 3000), NOT);
        due("63 at the last time", x.book(63, 2999, 3000), 2);
        GreatMachine y = with(4);
        y.ticks(5);
        due("ahead of the time", y.book(1, 4, 9), OUTSIDE);
        due("from the time on", y.book(1, 5, 6), 0);
        for (int i = 1; i < 8; i++) {
            due("book", y.book(1, 10 + i, 11 + i), i);
        }
        due("a ninth", y.book(1, 50, 51), FULL);
        due("a ninth that has no room", y.book(5, 50, 51), NOT);
        due("a ninth that has no room then", y.book(4, 11, 12), NOT);
        due("a ninth of 0", y.book(0, 50, 51), OUTSIDE);
        due("bookings", y.count(5), 8);
        y.ticks(50);
        due("past ones are still bookings", y.count(5), 8);
        due("a ninth still", y.book(1, 70, 71), FULL);
    }

    private static void booksAgainstTaken() {
        GreatMachine x = with(6, 4);
        plain(x, 7, 5);
        due("ahead of any tick nothing runs", x.book(10, 0, 1), 0);
        x.unbook(0);
        x.ticks(1);
        due("behind a job that runs", x.book(4, 4, 6), NOT);
        due("as many as are left", x.book(3, 4, 6), 0);
        due("from its end on", x.book(7, 5, 6), 1);
        due("at a time within", x.book(1, 2, 9), NOT);
        due("up to that time", x.book(3, 2, 4), 2);
        due("behind that time", x.book(10, 6, 9), 3);
        x.drain(0, true);
        due("less room, less taken", x.book(3, 1, 2), 4);
        due("too many for the room", x.book(1, 1, 2), NOT);
        due("bookings", x.count(5), 5);
        GreatMachine y = with(5);
        y.job(0, 3, 9, 4, 4, 0);
        y.ticks(1);
        y.licences(0);
        due("licences do not matter", y.book(2, 1, 4), 0);
        plain(y, 5, 2);
        y.ticks(1);
        due("kept", y.blocked(1), 4);
        due("what is kept is not taken", y.book(5, 4, 8), 1);
        y.ticks(1);
        due("and gives way", y.blocked(1), 8);
        GreatMachine z = with(4);
        z.book(2, 10, 20);
        z.book(2, 14, 16);
        due("over the edge at the begin", z.book(1, 5, 15), NOT);
        due("over the edge at the end", z.book(1, 15, 25), NOT);
        due("around it", z.book(1, 5, 25), NOT);
        due("inside it", z.book(1, 14, 15), NOT);
        due("ahead of it", z.book(2, 5, 14), 2);
        due("behind it", z.book(2, 16, 25), 3);
    }

    // Promise 12
    private static void unbooks() {
        GreatMachine x = with(4);
        due("unbook none", x.unbook(0), UNKNOWN);
        x.book(1, 0, 10);
        x.book(2, 5, 10);
        x.book(1, 5, 8);
        due("unbook 3", x.unbook(3), UNKNOWN);
        due("unbook -1", x.unbook(-1), UNKNOWN);
        due("unbook max", x.unbook(MAX), UNKNOWN);
        due("unbook min", x.unbook(MIN), UNKNOWN);
        due("taken", x.taken(0, 5), 4);
        due("unbook the first", x.unbook(0), 1);
        due("bookings", x.count(5), 2);
        due("taken at 0", x.taken(0, 0), 0);
        due("taken at 5", x.taken(0, 5), 3);
        due("the second has number 0 now", x.unbook(0), 1);
        due("taken then", x.taken(0, 5), 1);
        due("there is no number 1", x.unbook(1), UNKNOWN);
        due("a new one comes behind", x.book(1, 0, 1), 1);
        due("unbook the last", x.unbook(1), 1);
        due("taken at 0", x.taken(0, 0), 0);
        due("and the other", x.unbook(0), 1);
        due("none", x.count(5), 0);
        due("nothing taken", x.taken(0, 5), 0);
        for (int i = 0; i < 8; i++) {
            x.book(1, i, i + 1);
        }
        x.unbook(3);
        due("room for one more", x.book(1, 3, 4), 7);
    }

    // Promise 13
    private static void ticks() {
        GreatMachine x = new GreatMachine();
        for (int n : new int[] {0, 101, -1, MIN, MAX}) {
            due("ticks " + n, x.ticks(n), OUTSIDE);
        }
        due("no time went by", x.count(6), 0);
        due("ticks 1", x.ticks(1), 1);
        due("ticks 99", x.ticks(99), 100);
        for (int i = 2; i < 20; i++) {
            due("ticks 100", x.ticks(100), i * 100);
        }
        due("ticks 99", x.ticks(99), 1999);
        due("2001", x.ticks(2), OUTSIDE);
        due("2000", x.ticks(1), 2000);
        due("2001 by 1", x.ticks(1), OUTSIDE);
        due("the time", x.count(6), 2000);
        due("ahead of it", x.taken(0, 2300), 0);
        GreatMachine y = with(2);
        y.job(0, 2, 0, 4, 1, 0);
        y.job(0, 2, 0, 4, 3, 0);
        y.ticks(4);
        due("done behind one tick", y.told(0, 2), 1);
        due("the next begins then", y.told(1, 1), 1);
        due("done behind three", y.told(1, 2), 4);
        due("used", y.used(0), 8);
        due("all free", y.free(0), 2);
    }

    private static void queueByFractions() {
        GreatMachine x = new GreatMachine();
        x.rack(4);
        x.account(2);
        x.account(3);
        x.account(1);
        x.job(0, 4, 0, 3, 3, 0);
        x.job(1, 4, 0, 4, 4, 0);
        x.ticks(7);
        due("used 0", x.used(0), 12);
        due("used 1", x.used(1), 16);
        x.job(0, 3, 0, 2, 2, 0);
        x.job(1, 3, 0, 2, 2, 0);
        x.ticks(1);
        due("16 of 3 is less than 12 of 2", x.told(3, 0), 1);
        due("the other waits", x.told(2, 0), 0);
        x.job(2, 3, 0, 2, 2, 0);
        x.ticks(2);
        due("0 of 1 is the least", x.told(4, 1), 9);
        GreatMachine y = new GreatMachine();
        y.rack(6);
        y.account(1);
        y.account(3);
        y.job(1, 6, 0, 1, 1, 0);
        y.job(0, 2, 0, 1, 1, 0);
        y.ticks(2);
        due("6 of 3", y.used(1), 6);
        due("is 2 of 1", y.used(0), 2);
        y.job(1, 4, 0, 1, 1, 0);
        y.job(0, 4, 0, 1, 1, 0);
        y.ticks(1);
        due("of several by their numbers", y.told(2, 0), 2);
        due("the greater number later", y.told(3, 0), 0);
        due("blocked", y.blocked(0), 3);
        GreatMachine z = new GreatMachine();
        z.rack(2);
        z.account(1);
        z.account(1);
        z.job(0, 1, 0, 2, 2, 0);
        z.ticks(1);
        z.job(0, 2, 0, 2, 2, 0);
        z.job(1, 1, 0, 5, 5, 0);
        z.ticks(1);
        due("used is looked at, not numbers", z.told(2, 0), 1);
        due("the other is blocked", z.blocked(0), 1);
    }

    private static void queueKeepsPlace() {
        GreatMachine x = with(10);
        plain(x, 6, 10);
        plain(x, 8, 5);
        plain(x, 2, 10);
        plain(x, 2, 11);
        plain(x, 1, 30);
        plain(x, 1, 10);
        x.ticks(1);
        due("blocked", x.blocked(0), 1);
        due("kept", x.blocked(1), 10);
        due("ends in time", x.told(2, 0), 1);
        due("would end too late, but there are nodes beside", x.told(3, 0), 1);
        due("no more beside", x.told(4, 0), 0);
        due("none is free", x.told(5, 0), 0);
        x.ticks(10);
        due("it begins when it was kept for", x.told(1, 1), 10);
        due("the next is blocked", x.blocked(0), 4);
        due("until the one that runs beside it ends", x.blocked(1), 11);
        due("then it begins", x.ticks(1), 12);
        due("when", x.told(4, 1), 11);
    }

    private static void queueKeepsLicences() {
        GreatMachine x = with(10);
        x.job(0, 1, 8, 6, 6, 0);
        x.job(0, 1, 5, 4, 4, 0);
        x.job(0, 1, 2, 6, 6, 0);
        x.job(0, 1, 2, 7, 7, 0);
        x.job(0, 1, 0, 20, 20, 0);
        x.ticks(1);
        due("blocked for licences", x.blocked(0), 1);
        due("kept", x.blocked(1), 6);
        due("gives them back in time", x.told(2, 0), 1);
        due("none are left", x.told(3, 0), 0);
        due("without licences", x.told(4, 0), 1);
        x.cancel(2);
        due("a tick", x.ticks(1), 2);
        due("beside what is kept", x.told(3, 0), 1);
        GreatMachine y = with(10);
        y.job(0, 1, 8, 6, 6, 0);
        y.job(0, 1, 9, 4, 4, 0);
        y.job(0, 1, 2, 7, 7, 0);
        y.job(0, 1, 2, 6, 6, 0);
        y.ticks(1);
        due("would delay it", y.told(2, 0), 0);
        due("would not", y.told(3, 0), 1);
    }

    private static void keptAhead() {
        GreatMachine x = with(2);
        x.book(2, 0, 200);
        plain(x, 1, 5);
        x.ticks(1);
        due("blocked", x.blocked(0), 0);
        due("kept 200 later", x.blocked(1), 200);
        GreatMachine y = with(2);
        y.book(2, 0, 201);
        plain(y, 1, 5);
        y.ticks(1);
        due("blocked", y.blocked(0), 0);
        due("201 later: none", y.blocked(1), NONE);
        y.ticks(1);
        due("200 later", y.blocked(1), 201);
        GreatMachine z = with(2);
        z.book(2, 3, 5);
        z.book(1, 8, 9);
        z.book(2, 12, 14);
        plain(z, 2, 4);
        plain(z, 1, 3);
        plain(z, 1, 4);
        z.ticks(1);
        due("no gap is long enough", z.blocked(1), 14);
        due("behind it, up to the booking", z.told(1, 0), 1);
        due("one tick too long", z.told(2, 0), 0);
        GreatMachine w = with(2);
        plain(w, 3, 4);
        plain(w, 2, 50);
        w.ticks(1);
        due("more than there is", w.blocked(0), 0);
        due("nothing kept", w.blocked(1), NONE);
        due("nothing kept, so all that fit begin", w.told(1, 0), 1);
    }

    private static void keptBesideAllBookings() {
        GreatMachine x = with(4);
        for (int i = 0; i < 8; i++) {
            due("book", x.book(1, 20 + i, 21 + i), i);
        }
        plain(x, 3, 4);
        plain(x, 4, 5);
        plain(x, 1, 5);
        plain(x, 1, 4);
        x.ticks(1);
        due("blocked", x.blocked(0), 1);
        due("kept behind eight bookings", x.blocked(1), 4);
        due("would delay it", x.told(2, 0), 0);
        due("would not", x.told(3, 0), 1);
        due("still eight", x.count(5), 8);
        due("kept is not taken", x.taken(0, 4), 0);
    }

    private static void keptBehindManyEnds() {
        GreatMachine x = with(16, 16, 16, 16);
        for (int i = 1; i < 30; i++) {
            plain(x, 1, i);
        }
        for (int i = 0; i < 8; i++) {
            due("book", x.book(1, 30 + 2 * i, 31 + 2 * i), i);
        }
        plain(x, 64, 2);
        x.ticks(1);
        due("blocked", x.blocked(0), 29);
        due("kept behind 29 jobs and 8 bookings", x.blocked(1), 45);
        due("foreseen, too", x.foreseen(29), 45);
        x.ticks(45);
        due("it begins then", x.told(29, 1), 45);
    }

    private static void nodesGoToFewestRacks() {
        GreatMachine x = with(3, 5, 4, 8);
        plain(x, 8, 50);
        x.ticks(1);
        due("one rack alone", x.on(0, 3), 8);
        due("racks", x.told(0, 5), 1);
        plain(x, 4, 50);
        x.ticks(1);
        due("the least number of those alone", x.on(1, 1), 4);
        plain(x, 6, 50);
        x.ticks(1);
        due("0 and 2 as 0 and 1 have too few", x.on(2, 0), 3);
        due("the rest", x.on(2, 2), 3);
        due("racks", x.told(2, 5), 2);
        plain(x, 2, 50);
        x.ticks(1);
        due("what is left", x.on(3, 1), 1);
        due("and here", x.on(3, 2), 1);
        GreatMachine y = with(2, 4, 4, 2);
        plain(y, 6, 50);
        y.ticks(1);
        due("0 and 1: by bits 3", y.on(0, 0), 2);
        due("and", y.on(0, 1), 4);
        GreatMachine z = with(2, 4, 4, 4);
        z.drain(1, true);
        plain(z, 7, 50);
        z.ticks(1);
        due("not the drained one", z.on(0, 1), 0);
        due("2", z.on(0, 2), 4);
        due("3", z.on(0, 3), 3);
        GreatMachine w = with(1, 3, 3, 3);
        plain(w, 4, 50);
        w.ticks(1);
        due("1 and 3 of 0 and 1", w.on(0, 0), 1);
        due("3", w.on(0, 1), 3);
        plain(w, 6, 50);
        w.ticks(1);
        due("the two that are left", w.told(1, 5), 2);
    }

    private static void nodesGoAsManyAsFree() {
        GreatMachine x = with(16, 16, 16, 16);
        plain(x, 64, 2);
        x.ticks(1);
        for (int i = 0; i < 4; i++) {
            due("all", x.on(0, i), 16);
            due("none free", x.free(i), 0);
        }
        due("racks", x.told(0, 5), 4);
        x.ticks(1);
        due("done", x.told(0, 5), 0);
        due("on none", x.on(0, 0), 0);
        plain(x, 33, 2);
        x.ticks(1);
        due("as many as are free", x.on(1, 0), 16);
        due("by numbers", x.on(1, 1), 16);
        due("until it has enough", x.on(1, 2), 1);
        due("not here", x.on(1, 3), 0);
    }

    // Promise 14
    private static void told() {
        GreatMachine x = with(4);
        due("told of none", x.told(0, 0), UNKNOWN);
        x.job(0, 3, 0, 9, 4, 2);
        for (int job : new int[] {-1, 1, MIN, MAX}) {
            due("told of " + job, x.told(job, 0), UNKNOWN);
            due("told of none, of nothing", x.told(job, 9), UNKNOWN);
        }
        for (int what : new int[] {-1, 6, MIN, MAX}) {
            due("told " + what, x.told(0, what), OUTSIDE);
        }
        due("waiting", x.told(0, 0), 0);
        due("never began", x.told(0, 1), NONE);
        due("never done", x.told(0, 2), NONE);
        x.ticks(3);
        due("running", x.told(0, 0), 1);
        due("began", x.told(0, 1), 0);
        due("not done", x.told(0, 2), NONE);
        due("saved", x.told(0, 3), 0);
        due("ran", x.told(0, 4), 3);
        due("racks", x.told(0, 5), 1);
        x.fail(0);
        x.ticks(1);
        due("began last", x.told(0, 1), 3);
        due("saved", x.told(0, 3), 2);
        due("ran since", x.told(0, 4), 1);
        x.ticks(1);
        due("done", x.told(0, 0), 2);
        due("when", x.told(0, 2), 5);
        due("it began", x.told(0, 1), 3);
        due("ran", x.told(0, 4), 0);
        due("racks", x.told(0, 5), 0);
    }

    // Promise 15
    private static void on() {
        GreatMachine x = with(2, 3);
        plain(x, 4, 2);
        due("on a waiting one", x.on(0, 0), 0);
        for (int i : new int[] {-1, 2, 4, MIN, MAX}) {
            due("on rack " + i, x.on(0, i), UNKNOWN);
            due("on of job " + i, x.on(i, 0), UNKNOWN);
            due("on of both " + i, x.on(i, i), UNKNOWN);
        }
        due("job 1", x.on(1, 0), UNKNOWN);
        x.ticks(1);
        due("on 0", x.on(0, 0), 2);
        due("on 1", x.on(0, 1), 2);
        x.drain(0, true);
        due("on a drained rack", x.on(0, 0), 2);
        x.ticks(1);
        due("done", x.on(0, 0), 0);
        due("done", x.on(0, 1), 0);
    }

    // Promise 16
    private static void free() {
        GreatMachine x = with(5, 2);
        for (int i : new int[] {-1, 2, 4, MIN, MAX}) {
            due("free " + i, x.free(i), UNKNOWN);
        }
        plain(x, 3, 4);
        x.ticks(1);
        due("free", x.free(0), 2);
        due("the other", x.free(1), 2);
        x.drain(0, true);
        due("drained or not", x.free(0), 2);
        x.book(2, 1, 9);
        due("bookings run nothing", x.free(1), 2);
        x.cancel(0);
        due("free again", x.free(0), 5);
    }

    // Promise 17
    private static void used() {
        GreatMachine x = with(9);
        for (int i : new int[] {-1, 1, 6, MIN, MAX}) {
            due("used " + i, x.used(i), UNKNOWN);
        }
        x.account(50);
        x.job(0, 2, 0, 3, 3, 0);
        x.job(1, 4, 0, 2, 1, 0);
        x.job(0, 3, 0, 9, 9, 0);
        due("nothing yet", x.used(0), 0);
        x.ticks(1);
        due("of all its jobs", x.used(0), 5);
        due("of the other", x.used(1), 4);
        x.ticks(3);
        due("used", x.used(0), 6 + 12);
        due("no more", x.used(1), 4);
    }

    // Promise 18
    private static void blocked() {
        GreatMachine x = with(3);
        for (int way : new int[] {-1, 2, MIN, MAX}) {
            due("blocked " + way, x.blocked(way), OUTSIDE);
        }
        plain(x, 2, 2);
        plain(x, 2, 2);
        plain(x, 2, 2);
        due("no tick yet", x.blocked(0), NONE);
        x.ticks(1);
        due("the first that does not fit", x.blocked(0), 1);
        due("kept", x.blocked(1), 2);
        x.ticks(1);
        due("still", x.blocked(0), 1);
        due("still", x.blocked(1), 2);
        x.ticks(1);
        due("the next", x.blocked(0), 2);
        due("kept", x.blocked(1), 4);
        x.ticks(2);
        due("none", x.blocked(0), NONE);
        due("none", x.blocked(1), NONE);
        GreatMachine y = with(3);
        plain(y, 2, 2);
        plain(y, 2, 3);
        y.ticks(2);
        y.fail(0);
        due("of the latest tick, whatever is told then", y.blocked(0), 1);
    }

    // Promise 19
    private static void taken() {
        GreatMachine x = with(9);
        x.job(0, 2, 3, 5, 2, 0);
        x.job(0, 3, 4, 2, 2, 0);
        x.book(4, 3, 8);
        due("nothing runs yet", x.taken(0, 0), 0);
        due("a booking", x.taken(0, 3), 4);
        due("ahead of its end", x.taken(0, 7), 4);
        due("its end", x.taken(0, 8), 0);
        x.ticks(1);
        due("both", x.taken(0, 1), 5);
        due("the second's LIMIT is over", x.taken(0, 2), 2);
        due("with the booking", x.taken(0, 4), 6);
        due("the booking alone", x.taken(0, 5), 4);
        due("licences of both", x.taken(1, 1), 7);
        due("of the first", x.taken(1, 4), 3);
        due("of none", x.taken(1, 5), 0);
        for (int way : new int[] {-1, 2, MIN, MAX}) {
            due("taken " + way, x.taken(way, 1), OUTSIDE);
        }
        for (int way = 0; way < 2; way++) {
            due("301", x.taken(way, 301), 0);
            for (int u : new int[] {0, 302, -1, MIN, MAX}) {
                due("taken at " + u, x.taken(way, u), OUTSIDE);
            }
        }
        x.ticks(1);
        due("both done: the LIMIT matters no more", x.taken(0, 2), 0);
        plain(x, 9, 5);
        x.ticks(1);
        due("kept is not taken", x.taken(0, 8), 0);
        due("kept", x.blocked(1), 8);
    }

    // Promise 20
    private static void foreseen() {
        GreatMachine x = with(4);
        due("foreseen of none", x.foreseen(0), UNKNOWN);
        x.job(0, 4, 0, 10, 2, 0);
        x.job(0, 4, 0, 7, 2, 0);
        x.job(0, 4, 0, 5, 5, 0);
        x.job(0, 1, 0, 5, 5, 0);
        for (int job : new int[] {-1, 4, 30, MIN, MAX}) {
            due("foreseen of " + job, x.foreseen(job), UNKNOWN);
        }
        x.behind(3, 1);
        due("now", x.foreseen(0), 0);
        due("when the first has run its LIMIT", x.foreseen(1), 10);
        due("then the second its own", x.foreseen(2), 17);
        due("behind the second", x.foreseen(3), 22);
        x.ticks(1);
        due("runs: when it began", x.foreseen(0), 0);
        due("as it was", x.foreseen(1), 10);
        x.ticks(2);
        due("done", x.foreseen(0), NONE);
        due("began earlier than foreseen", x.foreseen(1), 2);
        due("foreseen anew", x.foreseen(2), 9);
        x.cancel(1);
        due("gone", x.foreseen(1), NONE);
        due("now", x.foreseen(2), 3);
        due("behind one that is gone", x.foreseen(3), NONE);
        GreatMachine y = with(4);
        y.job(0, 4, 0, 10, 10, 2);
        y.job(0, 4, 0, 3, 3, 0);
        y.ticks(5);
        y.fail(0);
        due("LEFT is less what was saved", y.foreseen(1), 11);
        due("waits again: foreseen again", y.foreseen(0), 5);
    }

    private static void foreseenAhead() {
        GreatMachine x = with(2);
        x.book(2, 0, 299);
        x.book(1, 300, 301);
        plain(x, 2, 1);
        due("in the last of 300 ticks", x.foreseen(0), 299);
        due("then not", x.unbook(0), 1);
        x.book(2, 0, 300);
        due("no more than 300 ticks", x.foreseen(0), NONE);
        x.ticks(1);
        due("one tick later 301 is too far", x.foreseen(0), NONE);
        x.ticks(1);
        due("two ticks later it is near enough", x.foreseen(0), 301);
        GreatMachine y = with(2);
        for (int i = 0; i < 20; i++) {
            y.ticks(100);
        }
        plain(y, 2, 4);
        plain(y, 2, 4);
        due("behind the last time, too", y.foreseen(1), 2004);
        due("though no tick goes by", y.ticks(1), OUTSIDE);
        GreatMachine z = new GreatMachine();
        z.rack(2);
        z.account(1);
        z.account(1);
        z.half(5);
        z.job(0, 2, 0, 5, 5, 0);
        z.job(1, 2, 0, 3, 3, 0);
        z.job(0, 2, 0, 3, 3, 0);
        z.job(1, 2, 0, 3, 3, 0);
        due("used halves there, too", z.foreseen(2), 8);
        due("the last", z.foreseen(3), 11);
        due("used stays", z.used(0), 0);
    }

    private static void foreseenChangesNothing() {
        GreatMachine x = with(4);
        plain(x, 3, 9);
        plain(x, 3, 9);
        x.book(1, 3, 5);
        x.ticks(2);
        due("foreseen", x.foreseen(1), 9);
        due("the time", x.count(6), 2);
        due("state", x.told(1, 0), 0);
        due("free", x.free(0), 1);
        due("used", x.used(0), 6);
        due("blocked", x.blocked(0), 1);
        due("kept", x.blocked(1), 9);
        due("foreseen again", x.foreseen(1), 9);
        due("taken", x.taken(0, 3), 4);
        x.drain(0, true);
        due("without room", x.foreseen(1), NONE);
        x.drain(0, false);
        due("with room", x.foreseen(1), 9);
    }

    // Promise 21
    private static void counts() {
        GreatMachine x = with(4, 5);
        x.account(1);
        x.account(1);
        for (int what : new int[] {-1, 8, MIN, MAX}) {
            due("count " + what, x.count(what), OUTSIDE);
        }
        plain(x, 1, 1);
        plain(x, 1, 4);
        plain(x, 1, 4);
        plain(x, 60, 4);
        plain(x, 60, 4);
        plain(x, 60, 4);
        x.book(1, 50, 51);
        x.book(1, 50, 51);
        x.book(1, 50, 51);
        x.book(1, 50, 51);
        x.ticks(3);
        x.cancel(5);
        due("racks", x.count(0), 2);
        due("accounts", x.count(1), 3);
        due("jobs, the gone one, too", x.count(2), 6);
        due("running", x.count(3), 2);
        due("done", x.count(4), 1);
        due("bookings", x.count(5), 4);
        due("time", x.count(6), 3);
        due("room", x.count(7), 9);
    }
}
