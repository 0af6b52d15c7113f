import java.io.IOException;
import java.nio.file.Files;
import java.nio.file.Path;
import java.util.ArrayList;
import java.util.List;

/**
 * Each sentence of the document's terms and promises with a test of its own, that goes to the edges
 * which the sentence names. A test begins with the words of its sentence. At the end it is looked at
 * whether these words stand in ../shared/DOC.md and whether none of its sentences is left out.
 */
public final class SentenceTests {
    private static final int NONE = -1, UNKNOWN = -2, OUTSIDE = -3, NOT = -4, FULL = -5;
    private static final int WAITING = 0, RUNNING = 1, DONE = 2, GONE = 3;
    private static final int MIN = Integer.MIN_VALUE, MAX = Integer.MAX_VALUE;
    private static final Path DOCUMENT = Path.of("..", "shared", "DOC.md");
    private static final List<String> SAID = new ArrayList<>();
    private static int wrong = 0;

    public static void main(String[] args) throws IOException {
        terms1Racks();
        terms1Drained();
        terms1Room();
        terms1Licences();
        terms1Accounts();
        terms1Jobs();
        terms1States();
        terms1Saved();
        terms1Bookings();
        terms2Time();
        terms2Tick();
        terms2TakenByJobs();
        terms2TakenButNotOnDrained();
        terms2TakenByBookings();
        terms2Fits();
        terms2FitsLeftTimes();
        terms2FitsAboveWhatThereIs();
        terms2QueueBehind();
        terms2QueueByFractions();
        terms2QueueByNumbers();
        terms2Blocked();
        terms2Kept();
        terms2KeptWithThoseThatBegan();
        terms2BehindWhatIsKept();
        terms2KeptBesideBookings();
        terms2KeptForLeftTimes();
        terms2OneIsKept();
        terms2RanATick();
        terms2Done();
        terms2Halved();
        terms2FewestRacks();
        terms2LeastSet();
        terms2AsManyAsFree();
        terms2Fails();
        terms2FailsAndSaves();
        terms3Foreseen();
        terms3ForeseenQueue();
        terms3ForeseenAsTold();
        terms3ForeseenTicks();
        terms3ForeseenRunning();
        terms3Refused();
        promise1NewObject();
        promise2Rack();
        promise3Drain();
        promise4Fail();
        promise5Licences();
        promise5JobsGoOn();
        promise6Half();
        promise7Account();
        promise8Job();
        promise8JobBounds();
        promise9Behind();
        promise9BehindRefused();
        promise10Cancel();
        promise10ForEver();
        promise11Book();
        promise11BookNot();
        promise12Unbook();
        promise13Ticks();
        promise14Told();
        promise15On();
        promise16Free();
        promise17Used();
        promise18Blocked();
        promise19Taken();
        promise20Foreseen();
        promise21Count();
        everySentenceHasATest();
        System.out.println(wrong == 0 ? "every sentence holds" : wrong + " answers are wrong");
        if (wrong != 0) {
            System.exit(1);
        }
    }

    private static void says(String sentence) {
        SAID.add(sentence);
    }

    private static void due(String what, int got, int want) {
        if (got != want) {
            wrong++;
            System.out.println("\"" + SAID.get(SAID.size() - 1) + "\"\n    " + what
                    + ": answered " + got + ", due is " + want);
        }
    }

    /** A machine with racks of these sizes and account 0 of one share. */
    private static GreatMachine with(int... nodes) {
        GreatMachine x = new GreatMachine();
        for (int n : nodes) {
            x.rack(n);
        }
        x.account(1);
        return x;
    }

    /** A job of account 0 that truly needs its limit, wants no licences and saves nothing. */
    private static int plain(GreatMachine x, int nodes, int limit) {
        return x.job(0, nodes, 0, limit, limit, 0);
    }

    private static void pass(GreatMachine x, int ticks) {
        for (int rest = ticks; rest > 0; rest -= 100) {
            x.ticks(Math.min(rest, 100));
        }
    }

    // ---- Terms 1

    private static void terms1Racks() {
        says("RACKS are numbered from 0, 4 at most, of 1 .. 16 NODES each.");
        GreatMachine x = new GreatMachine();
        due("there is no rack 0 yet", x.free(0), UNKNOWN);
        due("a rack of 0", x.rack(0), OUTSIDE);
        due("a rack of 17", x.rack(17), OUTSIDE);
        due("none was made", x.count(0), 0);
        due("a rack of 1", x.rack(1), 0);
        due("a rack of 16", x.rack(16), 1);
        due("the third", x.rack(16), 2);
        due("the fourth", x.rack(1), 3);
        due("a fifth of 1", x.rack(1), FULL);
        due("a fifth of 16", x.rack(16), FULL);
        due("racks", x.count(0), 4);
        due("nodes of the least", x.free(0), 1);
        due("nodes of the greatest", x.free(1), 16);
        due("the last of them", x.free(3), 1);
        due("there is no rack 4", x.free(4), UNKNOWN);
    }

    private static void terms1Drained() {
        says("A RACK may be DRAINED (none is at first): nothing begins on it then.");
        GreatMachine x = with(1, 16, 3, 4);
        for (int rack = 0; rack < 4; rack++) {
            due("rack " + rack + " at first", x.drain(rack, false), 0);
        }
        GreatMachine y = with(4, 4);
        y.drain(0, true);
        plain(y, 4, 9);
        plain(y, 1, 9);
        y.ticks(1);
        due("as many as the other has: nothing on the drained one", y.on(0, 0), 0);
        due("all on the other", y.on(0, 1), 4);
        due("one more does not begin", y.told(1, 0), WAITING);
        due("though these are free", y.free(0), 4);
        y.drain(0, false);
        y.ticks(1);
        due("no longer drained: it begins there", y.on(1, 0), 1);
        for (int nodes = 1; nodes <= 5; nodes++) {
            GreatMachine w = with(16, 4, 2);
            w.drain(0, true);
            w.drain(2, true);
            plain(w, nodes, 9);
            w.ticks(1);
            due(nodes + " nodes: none on the first rack", w.on(0, 0), 0);
            due(nodes + " nodes: on the one that is not drained", w.on(0, 1), nodes <= 4 ? nodes : 0);
            due(nodes + " nodes: none on the last rack", w.on(0, 2), 0);
        }
        GreatMachine z = with(2);
        plain(z, 2, 3);
        z.ticks(1);
        z.drain(0, true);
        z.ticks(1);
        due("what runs goes on", z.told(0, 4), 2);
        plain(z, 1, 1);
        z.ticks(50);
        due("every rack is drained: nothing begins", z.told(1, 1), NONE);
        due("it is blocked", z.blocked(0), 1);
        due("and nothing kept", z.blocked(1), NONE);
    }

    private static void terms1Room() {
        says("ROOM are all NODES of RACKS that are not DRAINED.");
        GreatMachine x = new GreatMachine();
        due("without racks", x.count(7), 0);
        x.rack(1);
        due("of one node", x.count(7), 1);
        GreatMachine y = with(16, 16, 16, 16);
        due("as many as there can be", y.count(7), 64);
        for (int rack = 0; rack < 4; rack++) {
            y.drain(rack, true);
            due("without rack " + rack, y.count(7), 48 - 16 * rack);
        }
        y.drain(2, false);
        due("one of four", y.count(7), 16);
        GreatMachine z = with(3, 5);
        plain(z, 7, 9);
        z.book(8, 20, 30);
        z.ticks(1);
        due("all nodes, not the free ones alone", z.count(7), 8);
        z.drain(0, true);
        due("those of the other rack, whatever runs", z.count(7), 5);
    }

    private static void terms1Licences() {
        says("LICENCES (0 .. 100; 10 at first) are there for all.");
        GreatMachine x = with(9);
        x.account(1);
        due("-1", x.licences(-1), OUTSIDE);
        due("101", x.licences(101), OUTSIDE);
        x.job(0, 1, 6, 9, 9, 0);
        x.job(1, 1, 5, 9, 9, 0);
        x.job(1, 1, 4, 9, 9, 0);
        x.ticks(1);
        due("6 of 10", x.told(0, 0), RUNNING);
        due("5 more, of another account: 11", x.told(1, 0), WAITING);
        x.cancel(1);
        x.ticks(1);
        due("4 more: 10", x.told(2, 0), RUNNING);
        due("there were 10 at first", x.licences(100), 10);
        due("100", x.licences(0), 100);
        due("0", x.licences(0), 0);
        GreatMachine y = with(9);
        y.licences(0);
        y.job(0, 1, 0, 9, 9, 0);
        y.job(0, 1, 1, 9, 9, 0);
        y.ticks(1);
        due("none there, none wanted", y.told(0, 0), RUNNING);
        due("none there, one wanted", y.told(1, 0), WAITING);
        y.licences(1);
        y.ticks(1);
        due("one there", y.told(1, 0), RUNNING);
        GreatMachine z = with(9);
        z.licences(99);
        z.job(0, 1, 100, 9, 9, 0);
        z.ticks(1);
        due("99 there, 100 wanted", z.told(0, 0), WAITING);
        z.licences(100);
        z.ticks(1);
        due("100 there", z.told(0, 0), RUNNING);
    }

    private static void terms1Accounts() {
        says("ACCOUNTS are numbered from 0, 6 at most, with SHARES (1 .. 100); USED of each is 0 at first.");
        GreatMachine x = new GreatMachine();
        due("there is no account 0 yet", x.used(0), UNKNOWN);
        due("of 0 shares", x.account(0), OUTSIDE);
        due("of 101 shares", x.account(101), OUTSIDE);
        due("none was made", x.count(1), 0);
        due("of 1 share", x.account(1), 0);
        due("of 100 shares", x.account(100), 1);
        for (int account = 2; account < 6; account++) {
            due("account", x.account(50), account);
        }
        for (int account = 0; account < 6; account++) {
            due("used of " + account, x.used(account), 0);
        }
        due("a seventh of 1", x.account(1), FULL);
        due("a seventh of 100", x.account(100), FULL);
        due("accounts", x.count(1), 6);
        due("there is no account 6", x.used(6), UNKNOWN);
        GreatMachine y = with(4);
        plain(y, 4, 9);
        y.ticks(3);
        due("that of one that is there", y.used(0), 12);
        due("another, when time went by", y.account(1), 1);
        due("0 at first, whatever others used", y.used(1), 0);
        due("and theirs stays", y.used(0), 12);
    }

    private static void terms1Jobs() {
        says("JOBS are numbered from 0, 30 at most: of an ACCOUNT, wanting NODES (1 .. 64) and LICENCES (0 .. 100), with"
                + " a LIMIT (1 .. 50 ticks) and what they TRULY need (1 .. LIMIT), what they SAVE (every so many ticks,"
                + " 0 .. 50; 0: nothing), behind another JOB or none (-1).");
        GreatMachine x = with(16, 16, 16, 16);
        for (int account = 1; account < 6; account++) {
            x.account(1);
        }
        due("there is no job 0 yet", x.told(0, 0), UNKNOWN);
        due("of account -1", x.job(-1, 1, 0, 1, 1, 0), UNKNOWN);
        due("of account 6", x.job(6, 1, 0, 1, 1, 0), UNKNOWN);
        due("0 nodes", x.job(0, 0, 0, 1, 1, 0), OUTSIDE);
        due("65 nodes", x.job(0, 65, 0, 1, 1, 0), OUTSIDE);
        due("-1 licences", x.job(0, 1, -1, 1, 1, 0), OUTSIDE);
        due("101 licences", x.job(0, 1, 101, 1, 1, 0), OUTSIDE);
        due("limit 0", x.job(0, 1, 0, 0, 1, 0), OUTSIDE);
        due("limit 51", x.job(0, 1, 0, 51, 1, 0), OUTSIDE);
        due("truly 0", x.job(0, 1, 0, 1, 0, 0), OUTSIDE);
        due("truly 2 of 1", x.job(0, 1, 0, 1, 2, 0), OUTSIDE);
        due("truly 51 of 50", x.job(0, 1, 0, 50, 51, 0), OUTSIDE);
        due("save -1", x.job(0, 1, 0, 1, 1, -1), OUTSIDE);
        due("save 51", x.job(0, 1, 0, 1, 1, 51), OUTSIDE);
        due("none was made", x.count(2), 0);
        due("the least of each", x.job(0, 1, 0, 1, 1, 0), 0);
        due("the greatest of each", x.job(5, 64, 100, 50, 50, 50), 1);
        due("truly the least of a great limit", x.job(5, 64, 100, 50, 1, 50), 2);
        due("save above the limit", x.job(0, 1, 0, 1, 1, 50), 3);
        due("save the least that saves", x.job(0, 1, 0, 50, 50, 1), 4);
        due("behind none", x.behind(0, -1), 1);
        due("behind another", x.behind(1, 0), 1);
        for (int job = 5; job < 30; job++) {
            due("job", x.job(0, 1, 0, 1, 1, 0), job);
        }
        due("a 31st", x.job(0, 1, 0, 1, 1, 0), FULL);
        due("jobs", x.count(2), 30);
        due("the last of them", x.told(29, 0), WAITING);
        due("there is no job 30", x.told(30, 0), UNKNOWN);
        x.ticks(1);
        due("a job of one tick and one node is done", x.told(0, 2), 1);
        x.licences(100);
        x.fail(0);
        for (int job = 0; job < 30; job++) {
            if (job != 1) {
                x.cancel(job);
            }
        }
        x.ticks(50);
        due("64 nodes and 100 licences began", x.told(1, 1), 1);
        due("50 ticks went by", x.told(1, 2), 51);
        due("64 nodes 50 times", x.used(5), 64 * 50);
    }

    private static void terms1States() {
        says("A JOB is WAITING (0), RUNNING (1), DONE (2) or GONE (3).");
        GreatMachine x = with(2);
        plain(x, 1, 2);
        plain(x, 1, 2);
        due("told", x.told(0, 0), 0);
        x.ticks(1);
        due("begun", x.told(0, 0), 1);
        x.cancel(1);
        due("cancelled", x.told(1, 0), 3);
        x.fail(0);
        due("failed", x.told(0, 0), 0);
        x.ticks(1);
        due("begun again", x.told(0, 0), 1);
        x.ticks(1);
        due("ran what it needs", x.told(0, 0), 2);
        x.ticks(1);
        due("done for ever", x.told(0, 0), 2);
        due("gone for ever", x.told(1, 0), 3);
    }

    private static void terms1Saved() {
        says("SAVED ticks of it are 0 at first; LEFT is its LIMIT less SAVED.");
        GreatMachine x = with(2);
        x.job(0, 2, 0, 50, 50, 1);
        due("at first", x.told(0, 3), 0);
        pass(x, 49);
        due("still, as nothing failed", x.told(0, 3), 0);
        due("LEFT is 50: the last time", x.taken(0, 49), 2);
        due("behind it", x.taken(0, 50), 0);
        x.fail(0);
        due("49 saved", x.told(0, 3), 49);
        plain(x, 2, 1);
        due("LEFT is 1: the next is foreseen then", x.foreseen(1), 50);
        x.ticks(1);
        due("done at once", x.told(0, 2), 50);
        GreatMachine y = with(2);
        y.job(0, 2, 0, 7, 7, 2);
        y.ticks(3);
        y.fail(0);
        y.ticks(1);
        due("LEFT is 5 from time 3 on", y.taken(0, 7), 2);
        due("not longer", y.taken(0, 8), 0);
    }

    private static void terms1Bookings() {
        says("BOOKINGS (8 at most): so many NODES from a time to another one (both told; ahead of the latter).");
        GreatMachine x = with(16);
        due("there is no booking 0 yet", x.unbook(0), UNKNOWN);
        for (int booking = 0; booking < 8; booking++) {
            due("booking", x.book(1, 5 * booking, 5 * booking + 4), booking);
        }
        due("a ninth", x.book(1, 100, 101), FULL);
        due("bookings", x.count(5), 8);
        due("there is no booking 8", x.unbook(8), UNKNOWN);
        for (int booking = 0; booking < 8; booking++) {
            due("from its time on", x.taken(0, 5 * booking), 1);
            due("up to the last ahead of the other", x.taken(0, 5 * booking + 3), 1);
            due("not at the other", x.taken(0, 5 * booking + 4), 0);
        }
        due("one less", x.unbook(7), 1);
        due("then there is room for one", x.book(16, 100, 101), 7);
        due("so many nodes", x.taken(0, 100), 16);
        due("not ahead", x.taken(0, 99), 0);
        due("not behind", x.taken(0, 101), 0);
    }

    // ---- Terms 2

    private static void terms2Time() {
        says("THE TIME is 0 at first.");
        GreatMachine x = new GreatMachine();
        due("at first", x.count(6), 0);
        due("0 may be asked", x.taken(0, 0), 0);
        due("nothing is ahead of it", x.taken(0, -1), OUTSIDE);
        due("one tick later", x.ticks(1), 1);
    }

    private static void terms2Tick() {
        says("A TICK goes by so:");
        GreatMachine x = with(4);
        x.half(1);
        plain(x, 4, 1);
        plain(x, 4, 2);
        x.behind(1, 0);
        plain(x, 4, 1);
        x.behind(2, 1);
        due("one tick: a, b, c", x.ticks(1), 1);
        due("a) it began ahead of the new time", x.told(0, 1), 0);
        due("b) it ran in the same tick, and was done", x.told(0, 0), DONE);
        due("c) at the new time", x.told(0, 2), 1);
        due("and what b) added is halved at once", x.used(0), 2);
        due("b) comes behind a): the next did not begin", x.told(1, 1), NONE);
        due("though the nodes are free now", x.free(0), 4);
        due("the next tick", x.ticks(1), 2);
        due("a) again", x.told(1, 1), 1);
        due("b) again", x.told(1, 4), 1);
        due("c) again: 6 becomes 3", x.used(0), 3);
        due("two more", x.ticks(2), 4);
        due("the second is done in the third", x.told(1, 2), 3);
        due("the last is done in the fourth", x.told(2, 2), 4);
    }

    private static void terms2TakenByJobs() {
        says("TAKEN at a time u, as seen now: NODES (LICENCES) of RUNNING JOBS whose begin and LEFT (as it was when they"
                + " began) together are behind u,");
        GreatMachine x = with(16);
        x.job(0, 3, 2, 6, 2, 0);
        x.job(0, 4, 5, 1, 1, 0);
        x.job(0, 1, 1, 4, 4, 4);
        due("one that waits takes nothing", x.taken(0, 0), 0);
        due("nor licences", x.taken(1, 0), 0);
        x.ticks(1);
        due("6 and 4 from 0 on, without the one that is done", x.taken(0, 3), 4);
        due("licences of both", x.taken(1, 3), 3);
        due("0 and 4 together are not behind 4", x.taken(0, 4), 3);
        due("licences of one", x.taken(1, 4), 2);
        due("0 and 6 together are behind 5, whatever it truly needs", x.taken(0, 5), 3);
        due("licences, too", x.taken(1, 5), 2);
        due("but not behind 6", x.taken(0, 6), 0);
        due("of none", x.taken(1, 6), 0);
        x.ticks(1);
        due("done by what it truly needs: it takes no more", x.taken(0, 2), 1);
        x.cancel(2);
        due("gone: it takes no more", x.taken(0, 2), 0);
        due("nor licences", x.taken(1, 2), 0);
        GreatMachine y = with(4);
        y.job(0, 4, 10, 9, 9, 3);
        y.ticks(4);
        y.fail(0);
        due("waits again: takes nothing", y.taken(0, 4), 0);
        due("nor licences", y.taken(1, 4), 0);
        y.ticks(1);
        due("LEFT is 6 as it begins at 4", y.taken(0, 9), 4);
        due("licences, too", y.taken(1, 9), 10);
        due("not at 10", y.taken(0, 10), 0);
        due("none", y.taken(1, 10), 0);
    }

    private static void terms2TakenButNotOnDrained() {
        says("but NODES on DRAINED RACKS do not count;");
        GreatMachine x = with(3, 5);
        x.job(0, 7, 4, 9, 9, 0);
        x.ticks(1);
        due("none is drained", x.taken(0, 1), 7);
        x.drain(0, true);
        due("without the 3 there", x.taken(0, 1), 4);
        due("the licences count", x.taken(1, 1), 4);
        x.drain(1, true);
        due("without all", x.taken(0, 1), 0);
        due("the licences count still", x.taken(1, 1), 4);
        x.drain(0, false);
        due("without the 4 on the other", x.taken(0, 8), 3);
        x.drain(1, false);
        due("all again", x.taken(0, 8), 7);
        GreatMachine y = with(3, 5);
        y.drain(1, true);
        plain(y, 2, 9);
        y.ticks(1);
        due("one that began while the other is drained", y.taken(0, 1), 2);
        y.drain(1, false);
        due("and when it is no longer", y.taken(0, 1), 2);
        y.drain(0, true);
        due("a rack more does not change what counts", y.rack(4), 2);
        due("it does not", y.taken(0, 1), 0);
    }

    private static void terms2TakenByBookings() {
        says("and of BOOKINGS for u the NODES.");
        GreatMachine x = with(9);
        x.book(2, 3, 6);
        x.book(4, 5, 8);
        due("ahead of both", x.taken(0, 2), 0);
        due("the first begins", x.taken(0, 3), 2);
        due("both", x.taken(0, 5), 6);
        due("the first is over", x.taken(0, 6), 4);
        due("the last time", x.taken(0, 7), 4);
        due("both are over", x.taken(0, 8), 0);
        due("no licences", x.taken(1, 5), 0);
        due("the first is no more", x.unbook(0), 1);
        due("the second is still", x.taken(0, 5), 4);
        due("without licences", x.taken(1, 5), 0);
        due("another one", x.book(2, 3, 6), 1);
        x.drain(0, true);
        due("they count, drained or not", x.taken(0, 5), 6);
        x.drain(0, false);
        x.job(0, 1, 3, 9, 9, 0);
        x.ticks(1);
        due("with a job that runs", x.taken(0, 5), 7);
        due("whose licences count", x.taken(1, 5), 3);
    }

    private static void terms2Fits() {
        says("A JOB FITS at a time s, if for each u from s on, LEFT times, its NODES and TAKEN are not above ROOM, and its"
                + " LICENCES and TAKEN not above LICENCES.");
        GreatMachine x = with(2, 3);
        plain(x, 5, 9);
        plain(x, 1, 9);
        x.ticks(1);
        due("as many as ROOM", x.told(0, 0), RUNNING);
        due("one above", x.told(1, 0), WAITING);
        GreatMachine y = with(2, 3);
        plain(y, 6, 9);
        y.ticks(1);
        due("one above ROOM", y.told(0, 0), WAITING);
        due("it never fits", y.blocked(1), NONE);
        GreatMachine z = with(5);
        z.book(3, 4, 6);
        plain(z, 2, 50);
        plain(z, 1, 5);
        plain(z, 1, 4);
        z.ticks(1);
        due("2 and 3 booked, all the way", z.told(0, 0), RUNNING);
        due("one above at its last time", z.told(1, 0), WAITING);
        due("over just ahead of that time", z.told(2, 0), RUNNING);
        due("the first fits at the first time behind the booking", z.blocked(1), 6);
        GreatMachine w = with(5);
        w.job(0, 1, 7, 3, 3, 0);
        w.job(0, 1, 3, 2, 2, 0);
        w.job(0, 1, 1, 2, 2, 0);
        w.job(0, 1, 0, 2, 2, 0);
        w.ticks(1);
        due("7 and 3 are not above 10", w.told(1, 0), RUNNING);
        due("one licence more is", w.told(2, 0), WAITING);
        due("it fits when the 3 are back", w.blocked(1), 2);
        due("without licences", w.told(3, 0), RUNNING);
    }

    private static void terms2FitsLeftTimes() {
        says("from s on, LEFT times,");
        GreatMachine x = with(2);
        x.job(0, 2, 0, 10, 10, 3);
        x.ticks(4);
        x.fail(0);
        x.book(1, 11, 12);
        x.ticks(1);
        due("LIMIT 10, LEFT 7 from 4 on: up to 10", x.told(0, 1), 4);
        GreatMachine y = with(2);
        y.job(0, 2, 0, 10, 10, 3);
        y.ticks(4);
        y.fail(0);
        y.book(1, 10, 11);
        y.ticks(1);
        due("10 is still one of its times", y.told(0, 0), WAITING);
        due("kept behind it", y.blocked(1), 11);
        GreatMachine z = with(2);
        z.book(2, 0, 1);
        z.book(2, 2, 3);
        plain(z, 2, 2);
        plain(z, 2, 1);
        z.ticks(2);
        due("one time between is not enough for two", z.told(0, 0), WAITING);
        due("it keeps its place behind", z.blocked(1), 3);
        due("but it is enough for one", z.told(1, 1), 1);
    }

    private static void terms2FitsAboveWhatThereIs() {
        says("its LICENCES and TAKEN not above LICENCES.");
        GreatMachine x = with(4);
        x.job(0, 1, 5, 6, 6, 0);
        x.ticks(1);
        x.licences(4);
        plain(x, 1, 1);
        x.ticks(1);
        due("5 and 0 are above 4", x.told(1, 0), WAITING);
        due("until the 5 are back", x.blocked(1), 6);
        x.licences(5);
        x.ticks(1);
        due("5 and 0 are not above 5", x.told(1, 1), 2);
        GreatMachine y = with(4, 4);
        y.book(8, 0, 3);
        y.drain(0, true);
        plain(y, 1, 1);
        y.ticks(1);
        due("1 and 8 are above the 4 that are left", y.told(0, 0), WAITING);
        due("until the booking is over", y.blocked(1), 3);
    }

    private static void terms2QueueBehind() {
        says("a) THE QUEUE are all WAITING JOBS that are behind none, or behind one that is DONE,");
        GreatMachine x = with(9);
        x.ticks(1);
        due("none waits: none is blocked", x.blocked(0), NONE);
        plain(x, 1, 2);
        plain(x, 1, 9);
        plain(x, 10, 9);
        plain(x, 1, 1);
        plain(x, 1, 1);
        plain(x, 1, 1);
        x.behind(3, 0);
        x.behind(4, 1);
        x.behind(5, 2);
        x.ticks(1);
        due("behind none", x.told(0, 1), 1);
        due("behind one that runs", x.told(3, 0), WAITING);
        x.ticks(1);
        due("the one ahead was done at the end of this tick", x.told(0, 2), 3);
        due("so it still waits", x.told(3, 0), WAITING);
        x.ticks(1);
        due("behind one that is done", x.told(3, 1), 3);
        due("behind one that still runs", x.told(4, 0), WAITING);
        due("behind one that waits", x.told(5, 0), WAITING);
        x.cancel(2);
        x.cancel(1);
        x.ticks(5);
        due("behind one that is gone from running", x.told(4, 0), WAITING);
        due("behind one that is gone from waiting", x.told(5, 0), WAITING);
        due("neither is in the queue", x.blocked(0), NONE);
        x.behind(4, -1);
        x.behind(5, 0);
        x.ticks(1);
        due("behind none again", x.told(4, 1), 9);
        due("behind one that is done", x.told(5, 1), 9);
        due("one that is done stays so", x.told(0, 1), 1);
    }

    private static void terms2QueueByFractions() {
        says("by USED of their ACCOUNT by its SHARES (as fractions, the least first),");
        GreatMachine x = new GreatMachine();
        x.rack(16);
        x.account(100);
        x.account(99);
        x.job(0, 2, 0, 1, 1, 0);
        x.job(1, 2, 0, 1, 1, 0);
        x.ticks(1);
        due("2 of 100", x.used(0), 2);
        due("2 of 99", x.used(1), 2);
        x.job(1, 10, 0, 1, 1, 0);
        x.job(0, 10, 0, 1, 1, 0);
        x.ticks(1);
        due("2 of 100 is less than 2 of 99, though cut both are 0", x.told(3, 1), 1);
        due("the other comes later", x.told(2, 0), WAITING);
        GreatMachine y = new GreatMachine();
        y.rack(16);
        y.account(2);
        y.account(3);
        y.account(1);
        y.job(0, 3, 0, 1, 1, 0);
        y.job(1, 4, 0, 1, 1, 0);
        y.ticks(1);
        y.job(0, 10, 0, 2, 2, 0);
        y.job(1, 10, 0, 2, 2, 0);
        y.ticks(1);
        due("4 of 3 is less than 3 of 2", y.told(3, 1), 1);
        due("who comes later is blocked", y.blocked(0), 2);
        y.job(2, 10, 0, 2, 2, 0);
        y.ticks(2);
        due("0 of 1 is the least", y.told(4, 1), 3);
        due("and the other waits on", y.told(2, 0), WAITING);
    }

    private static void terms2QueueByNumbers() {
        says("of several by their numbers.");
        GreatMachine x = with(4);
        x.account(100);
        x.job(1, 3, 0, 2, 2, 0);
        x.job(0, 3, 0, 2, 2, 0);
        x.job(1, 3, 0, 2, 2, 0);
        x.ticks(1);
        due("0 of 100 and 0 of 1: the least number", x.told(0, 1), 0);
        due("then the next", x.blocked(0), 1);
        GreatMachine y = new GreatMachine();
        y.rack(16);
        y.account(50);
        y.account(100);
        y.job(1, 2, 0, 1, 1, 0);
        y.job(0, 1, 0, 1, 1, 0);
        y.ticks(1);
        for (int job = 2; job < 29; job++) {
            y.job(job % 2, 16, 0, 1, 1, 0);
        }
        y.behind(2, 0);
        y.job(0, 16, 0, 1, 1, 0);
        y.ticks(1);
        due("1 of 50 is 2 of 100: the least number of many", y.told(2, 1), 1);
        due("the next of them", y.blocked(0), 3);
        y.ticks(1);
        due("17 of 50 is more than 2 of 100", y.told(3, 1), 2);
        y.ticks(1);
        due("18 of 100 is less than 17 of 50", y.told(5, 1), 3);
        y.ticks(1);
        due("34 of 100 is 17 of 50: by numbers again", y.told(4, 1), 4);
    }

    private static void terms2Blocked() {
        says("One by one those in THE QUEUE begin now, until one does not FIT now: that one is BLOCKED;");
        GreatMachine x = with(4);
        plain(x, 1, 5);
        plain(x, 3, 5);
        x.ticks(1);
        due("the first begins", x.told(0, 1), 0);
        due("the second, too", x.told(1, 1), 0);
        due("none does not fit", x.blocked(0), NONE);
        plain(x, 1, 5);
        plain(x, 1, 1);
        x.ticks(1);
        due("the first that does not fit", x.blocked(0), 2);
        x.ticks(1);
        due("while it does not fit", x.blocked(0), 2);
        x.ticks(3);
        due("when it fits, none is", x.blocked(0), NONE);
        due("it began", x.told(2, 1), 5);
        GreatMachine y = with(2);
        for (int job = 0; job < 30; job++) {
            plain(y, 1, 50);
        }
        y.ticks(1);
        due("as many as fit of as many as can be", y.count(3), 2);
        due("the third is blocked", y.blocked(0), 2);
        y.ticks(49);
        y.ticks(1);
        due("then two more", y.count(3), 2);
        due("the fifth is blocked", y.blocked(0), 4);
    }

    private static void terms2Kept() {
        says("KEPT for it is the first time s, from now on, up to 200 ticks later, at which it FITS");
        says("none, if there is no such.");
        int[] begins = {0, 7};
        for (int now : begins) {
            for (int later = 199; later <= 202; later++) {
                GreatMachine x = with(2);
                pass(x, now);
                x.book(2, now, now + later);
                plain(x, 1, 5);
                x.ticks(1);
                due("blocked at " + now, x.blocked(0), 0);
                due("kept " + later + " later", x.blocked(1), later <= 200 ? now + later : NONE);
            }
        }
        GreatMachine y = with(2);
        y.book(2, 0, 1);
        y.book(2, 2, 4);
        y.book(1, 6, 8);
        y.book(1, 9, 10);
        plain(y, 2, 3);
        y.ticks(1);
        due("the first time that is followed by enough others", y.blocked(1), 10);
        GreatMachine z = with(2);
        plain(z, 1, 1);
        plain(z, 2, 5);
        z.ticks(1);
        due("one tick later", z.blocked(1), 1);
        GreatMachine w = with(2);
        w.job(0, 1, 11, 1, 1, 0);
        plain(w, 2, 50);
        w.ticks(1);
        due("more licences than there are: blocked", w.blocked(0), 0);
        due("none is kept", w.blocked(1), NONE);
        due("so nothing is in the way", w.told(1, 1), 0);
        GreatMachine u = with(16, 16, 16, 16);
        for (int job = 0; job < 29; job++) {
            plain(u, 1, job + 1);
        }
        for (int booking = 0; booking < 8; booking++) {
            u.book(64, 40 + 2 * booking, 41 + 2 * booking);
        }
        plain(u, 64, 2);
        u.ticks(1);
        due("behind as many jobs and bookings as there can be", u.blocked(1), 29);
        u.cancel(29);
        GreatMachine t = with(16, 16, 16, 16);
        for (int job = 0; job < 29; job++) {
            plain(t, 1, job + 1);
        }
        for (int booking = 0; booking < 8; booking++) {
            t.book(1, 30 + 2 * booking, 31 + 2 * booking);
        }
        plain(t, 64, 2);
        t.ticks(1);
        due("the last of as many ends as there can be", t.blocked(1), 45);
        GreatMachine v = with(2);
        v.book(1, 0, 300);
        plain(v, 2, 1);
        plain(v, 1, 50);
        v.ticks(1);
        due("too far: none is kept", v.blocked(1), NONE);
        due("so nothing is in the way", v.told(1, 1), 0);
    }

    private static void terms2KeptWithThoseThatBegan() {
        says("(with those that just began);");
        GreatMachine x = with(4);
        plain(x, 2, 9);
        plain(x, 2, 4);
        plain(x, 2, 5);
        x.ticks(1);
        due("blocked", x.blocked(0), 2);
        due("when the one that just began is over", x.blocked(1), 4);
        GreatMachine y = with(4);
        y.job(0, 1, 9, 6, 1, 0);
        y.job(0, 1, 2, 5, 5, 0);
        plain(y, 3, 20);
        y.ticks(1);
        due("the licences of one that just began, up to its LIMIT", y.blocked(1), 6);
        due("one behind it begins", y.told(2, 1), 0);
        due("but does not change what was kept", y.blocked(1), 6);
    }

    private static void terms2BehindWhatIsKept() {
        says("Each behind it in THE QUEUE begins, one by one, if it FITS now, what is KEPT being TAKEN, too (NODES and"
                + " LICENCES of the BLOCKED one,");
        GreatMachine x = with(6);
        plain(x, 3, 5);
        plain(x, 5, 5);
        plain(x, 2, 6);
        plain(x, 2, 5);
        plain(x, 1, 50);
        plain(x, 1, 1);
        x.ticks(1);
        due("blocked", x.blocked(0), 1);
        due("kept", x.blocked(1), 5);
        due("one tick too long for 2", x.told(2, 0), WAITING);
        due("2 up to the time it is kept for", x.told(3, 1), 0);
        due("1 beside what is kept", x.told(4, 1), 0);
        due("no node is left", x.told(5, 0), WAITING);
        x.ticks(5);
        due("the blocked one began as kept", x.told(1, 1), 5);
        GreatMachine y = with(6);
        y.job(0, 1, 6, 5, 5, 0);
        y.job(0, 1, 7, 5, 5, 0);
        y.job(0, 1, 4, 6, 6, 0);
        y.job(0, 1, 1, 5, 5, 0);
        y.job(0, 1, 3, 50, 50, 0);
        y.job(0, 1, 1, 1, 1, 0);
        y.ticks(1);
        due("blocked for licences", y.blocked(0), 1);
        due("kept", y.blocked(1), 5);
        due("one tick too long for 4 licences", y.told(2, 0), WAITING);
        due("1 licence up to then", y.told(3, 1), 0);
        due("3 licences beside what is kept", y.told(4, 1), 0);
        due("no licence is left", y.told(5, 0), WAITING);
        y.ticks(5);
        due("the blocked one began as kept", y.told(1, 1), 5);
    }

    private static void terms2KeptBesideBookings() {
        says("what is KEPT being TAKEN, too");
        GreatMachine x = with(4);
        for (int booking = 0; booking < 8; booking++) {
            x.book(1, 20 + booking, 21 + booking);
        }
        plain(x, 3, 4);
        plain(x, 4, 5);
        plain(x, 1, 5);
        plain(x, 1, 4);
        x.ticks(1);
        due("with as many bookings as there can be: kept", x.blocked(1), 4);
        due("one tick too long", x.told(2, 0), WAITING);
        due("up to then", x.told(3, 1), 0);
        due("what is kept is no booking", x.count(5), 8);
        due("and is taken only while the others begin", x.taken(0, 4), 0);
    }

    private static void terms2KeptForLeftTimes() {
        says("from s on, LEFT times).");
        for (int limit = 2; limit <= 3; limit++) {
            GreatMachine x = with(4);
            plain(x, 2, 3);
            plain(x, 3, limit);
            plain(x, 1, 7);
            x.book(3, 5, 7);
            x.ticks(1);
            due("LIMIT " + limit + ": kept", x.blocked(1), limit == 2 ? 3 : 7);
            due("1 beside what is kept and what is booked then", x.told(2, 0), RUNNING);
        }
        GreatMachine y = with(4);
        plain(y, 2, 3);
        plain(y, 3, 2);
        y.book(1, 4, 5);
        plain(y, 1, 4);
        plain(y, 1, 5);
        y.ticks(1);
        due("kept for 3 and 4", y.blocked(1), 3);
        due("up to 3", y.told(2, 1), 0);
        due("none is left at 4", y.told(3, 0), WAITING);
        GreatMachine z = with(4);
        z.job(0, 3, 0, 6, 6, 4);
        z.ticks(4);
        z.fail(0);
        z.book(4, 4, 5);
        z.book(3, 7, 9);
        z.ticks(1);
        due("LIMIT 6, but LEFT 2: kept for 5 and 6", z.blocked(1), 5);
        GreatMachine w = with(4);
        w.job(0, 3, 0, 6, 6, 4);
        w.ticks(4);
        w.fail(0);
        w.book(2, 4, 5);
        w.book(3, 7, 9);
        plain(w, 1, 5);
        w.ticks(1);
        due("blocked, LEFT 2", w.blocked(1), 5);
        due("1 beside it for all five", w.told(1, 1), 4);
    }

    private static void terms2OneIsKept() {
        says("that one is BLOCKED; KEPT for it");
        GreatMachine x = with(4);
        plain(x, 3, 4);
        plain(x, 4, 2);
        plain(x, 2, 1);
        plain(x, 1, 4);
        x.ticks(1);
        due("the first that does not fit", x.blocked(0), 1);
        due("kept for that one", x.blocked(1), 4);
        due("the second that does not fit", x.told(2, 0), WAITING);
        due("does not hold back one behind it", x.told(3, 1), 0);
    }

    private static void terms2RanATick() {
        says("b) Each RUNNING JOB ran a tick more, and USED of its ACCOUNT is its NODES more;");
        GreatMachine x = with(16, 16);
        x.account(7);
        x.job(0, 1, 0, 9, 9, 0);
        x.job(1, 20, 0, 9, 9, 0);
        x.job(1, 2, 0, 2, 2, 0);
        x.job(0, 30, 0, 9, 9, 0);
        x.ticks(1);
        due("ran one", x.told(0, 4), 1);
        due("used: 1", x.used(0), 1);
        due("used: 20 and 2", x.used(1), 22);
        x.ticks(1);
        due("ran two", x.told(1, 4), 2);
        due("used: 1 more", x.used(0), 2);
        due("used: 22 more", x.used(1), 44);
        due("one that waits does not run", x.told(3, 4), 0);
        x.ticks(1);
        due("one is done: 20 more", x.used(1), 64);
        x.drain(0, true);
        x.drain(1, true);
        x.ticks(1);
        due("on a drained rack, too", x.used(1), 84);
        x.cancel(1);
        x.ticks(1);
        due("gone: nothing more", x.used(1), 84);
    }

    private static void terms2Done() {
        says("if it ran what it TRULY needs less SAVED, it is DONE.");
        GreatMachine x = with(5);
        x.job(0, 1, 0, 50, 1, 0);
        x.job(0, 1, 0, 50, 50, 0);
        x.job(0, 1, 0, 50, 49, 0);
        x.job(0, 1, 0, 1, 1, 0);
        x.ticks(1);
        due("the least of a great limit", x.told(0, 2), 1);
        due("the least of the least", x.told(3, 2), 1);
        x.ticks(48);
        due("49 needed, 49 ran", x.told(2, 2), 49);
        due("50 needed, 49 ran", x.told(1, 0), RUNNING);
        x.ticks(1);
        due("50 needed, 50 ran", x.told(1, 2), 50);
        due("all nodes are free", x.free(0), 5);
        GreatMachine y = with(1);
        y.job(0, 1, 0, 20, 10, 4);
        y.ticks(9);
        y.fail(0);
        y.ticks(1);
        due("8 saved: one of two ran", y.told(0, 0), RUNNING);
        y.ticks(1);
        due("both", y.told(0, 2), 11);
        GreatMachine z = with(1);
        z.job(0, 1, 0, 20, 9, 4);
        z.ticks(8);
        z.fail(0);
        z.ticks(1);
        due("8 saved of 9: one is enough", z.told(0, 2), 9);
    }

    private static void terms2Halved() {
        says("c) THE TIME is one more; if it is a multiple of HALF (1 .. 1000; 100 at first), USED of all ACCOUNTS"
                + " becomes half, cut.");
        GreatMachine x = with(8);
        due("0", x.half(0), OUTSIDE);
        due("1001", x.half(1001), OUTSIDE);
        due("100 at first", x.half(1), 100);
        x.account(1);
        x.job(0, 3, 0, 4, 4, 0);
        x.job(1, 5, 0, 4, 4, 0);
        x.ticks(1);
        due("each tick: 3 is cut to 1", x.used(0), 1);
        due("5 is cut to 2", x.used(1), 2);
        x.ticks(1);
        due("4 becomes 2", x.used(0), 2);
        due("7 becomes 3", x.used(1), 3);
        x.ticks(3);
        due("2, 2, then 1", x.used(0), 1);
        x.ticks(1);
        due("1 becomes 0", x.used(0), 0);
        x.ticks(1);
        due("0 stays 0", x.used(0), 0);
        GreatMachine y = with(8);
        plain(y, 1, 50);
        pass(y, 40);
        plain(y, 1, 50);
        pass(y, 40);
        plain(y, 1, 50);
        y.ticks(19);
        due("not at 99", y.used(0), 50 + 50 + 19);
        y.ticks(1);
        due("at 100: 120 becomes 60", y.used(0), 60);
        GreatMachine z = with(8);
        due("1000", z.half(1000), 100);
        due("which it was", z.half(1000), 1000);
        pass(z, 960);
        plain(z, 1, 50);
        z.ticks(39);
        due("not at 999", z.used(0), 39);
        z.ticks(1);
        due("at 1000", z.used(0), 20);
        GreatMachine w = with(8);
        plain(w, 1, 50);
        w.ticks(4);
        w.half(3);
        w.ticks(1);
        due("5 is not", w.used(0), 5);
        w.ticks(1);
        due("6 is a multiple, whenever it was told", w.used(0), 3);
    }

    private static void terms2FewestRacks() {
        says("A JOB that begins gets free NODES of RACKS that are not DRAINED: of all sets of these with enough free NODES"
                + " together those of the fewest RACKS,");
        GreatMachine x = with(2, 3, 4, 16);
        plain(x, 9, 50);
        plain(x, 16, 50);
        x.ticks(1);
        due("one rack alone has enough", x.told(0, 5), 1);
        due("the last one", x.on(0, 3), 9);
        due("16 need all four", x.told(1, 5), 4);
        due("what is free on the last", x.on(1, 3), 7);
        GreatMachine y = with(2, 3, 4, 16);
        y.drain(3, true);
        plain(y, 7, 50);
        plain(y, 2, 50);
        y.ticks(1);
        due("one alone is drained: 1 and 2", y.told(0, 5), 2);
        due("1", y.on(0, 1), 3);
        due("2", y.on(0, 2), 4);
        due("none on the drained one", y.on(0, 3), 0);
        due("just enough", y.on(1, 0), 2);
        GreatMachine z = with(4, 4, 4, 4);
        plain(z, 3, 50);
        plain(z, 3, 50);
        plain(z, 3, 50);
        plain(z, 3, 50);
        z.ticks(1);
        plain(z, 4, 50);
        z.ticks(1);
        due("one free on each: all four", z.told(4, 5), 4);
    }

    private static void terms2LeastSet() {
        says("of these that which is the least number (by bits);");
        GreatMachine x = with(2, 3, 3, 2);
        plain(x, 3, 50);
        plain(x, 4, 50);
        x.ticks(1);
        due("1 or 2: by bits 2 or 4", x.on(0, 1), 3);
        due("0 and 2 (5) ahead of 0 and 3 (9) and 2 and 3 (12)", x.on(1, 0), 2);
        due("the rest", x.on(1, 2), 2);
        GreatMachine y = with(1, 2, 2, 1);
        plain(y, 4, 50);
        y.ticks(1);
        due("1 and 2 (6) alone of two", y.on(0, 1), 2);
        due("the other", y.on(0, 2), 2);
        due("two", y.told(0, 5), 2);
        GreatMachine z = with(3, 2, 2, 4);
        plain(z, 5, 50);
        z.ticks(1);
        due("0 and 1 (3) ahead of 0 and 3 (9)", z.on(0, 0), 3);
        due("1", z.on(0, 1), 2);
        GreatMachine w = with(1, 3, 1, 3);
        w.drain(1, true);
        plain(w, 4, 50);
        w.ticks(1);
        due("0 and 3 (9) ahead of 2 and 3 (12)", w.on(0, 0), 1);
        due("3", w.on(0, 3), 3);
        GreatMachine v = with(2, 2, 2, 2);
        plain(v, 5, 50);
        v.ticks(1);
        due("0, 1 and 2 (7) are the least of three", v.on(0, 3), 0);
        due("one on the last of them", v.on(0, 2), 1);
    }

    private static void terms2AsManyAsFree() {
        says("of each RACK of it, by numbers, as many as are free there, until it has enough.");
        GreatMachine x = with(4, 4, 4, 4);
        plain(x, 1, 3);
        plain(x, 6, 50);
        x.ticks(1);
        due("the first rack has 3 free", x.on(1, 0), 3);
        due("the next the rest", x.on(1, 1), 3);
        due("none is free", x.free(0), 0);
        due("one is free", x.free(1), 1);
        plain(x, 8, 50);
        x.ticks(1);
        due("2", x.on(2, 2), 4);
        due("3", x.on(2, 3), 4);
        plain(x, 2, 50);
        x.ticks(2);
        due("the one that was done left one", x.on(3, 0), 1);
        due("and the one that was free", x.on(3, 1), 1);
        GreatMachine y = with(16, 16, 16, 16);
        plain(y, 64, 1);
        plain(y, 63, 1);
        y.ticks(1);
        due("all of all racks", y.used(0), 64);
        for (int rack = 0; rack < 4; rack++) {
            due("and all free again", y.free(rack), 16);
        }
        plain(y, 1, 9);
        y.ticks(1);
        due("all but the last", y.told(1, 1), 1);
        due("on the first the last one", y.on(2, 3), 1);
    }

    private static void terms2Fails() {
        says("A RACK FAILS: each RUNNING JOB with a NODE on it is WAITING again;");
        GreatMachine x = with(16, 3);
        for (int job = 0; job < 15; job++) {
            plain(x, 1, 9);
        }
        plain(x, 4, 9);
        plain(x, 1, 9);
        x.ticks(1);
        due("one node of it is on the first rack", x.on(15, 0), 1);
        due("none waits", x.count(3), 16);
        due("as many as can be on one rack", x.fail(0), 16);
        due("all wait again", x.count(3), 0);
        due("all its nodes are free", x.free(0), 16);
        due("those on the other rack, too", x.free(1), 3);
        due("nothing is taken", x.taken(0, 1), 0);
        due("one that was waiting", x.told(16, 0), WAITING);
        due("none is left", x.fail(0), 0);
        x.ticks(1);
        due("they begin again", x.told(15, 1), 1);
        due("the rack is as good as before", x.count(3), 16);
        x.drain(0, true);
        due("also if it is drained", x.fail(0), 16);
        due("it stays drained", x.count(7), 3);
        x.ticks(1);
        due("so none of those 15 begins on it", x.free(0), 16);
        due("it was drained", x.drain(0, false), 1);
        GreatMachine y = with(2, 2);
        plain(y, 2, 9);
        plain(y, 2, 9);
        plain(y, 1, 9);
        y.ticks(1);
        due("the second rack", y.fail(1), 1);
        due("the one on the other runs on", y.told(0, 4), 1);
        due("it waits again", y.told(1, 0), WAITING);
        due("who was blocked, is told as of the latest tick", y.blocked(0), 2);
        y.ticks(1);
        due("by its number it comes ahead", y.told(1, 1), 1);
        due("the other is blocked still", y.blocked(0), 2);
    }

    private static void terms2FailsAndSaves() {
        says("its SAVED becomes SAVED and what it ran since it began, cut to a multiple of what it SAVES (without SAVE:"
                + " nothing more).");
        int[][] saves = {{0, 0, 0, 0, 0}, {1, 1, 3, 6, 9}, {2, 0, 2, 4, 6}, {3, 0, 0, 3, 6}, {4, 0, 0, 0, 0}, {50, 0, 0, 0, 0}};
        for (int[] save : saves) {
            GreatMachine x = with(1);
            x.job(0, 1, 0, 50, 50, save[0]);
            x.ticks(1);
            x.fail(0);
            due("save " + save[0] + ", ran 1", x.told(0, 3), save[1]);
            x.ticks(2);
            x.fail(0);
            due("save " + save[0] + ", ran 2 more", x.told(0, 3), save[2]);
            x.ticks(3);
            x.fail(0);
            due("save " + save[0] + ", ran 3 more", x.told(0, 3), save[3]);
            x.ticks(3);
            x.fail(0);
            due("save " + save[0] + ", ran 3 once more", x.told(0, 3), save[4]);
            x.fail(0);
            due("save " + save[0] + ", without running", x.told(0, 3), save[4]);
        }
        GreatMachine y = with(1);
        y.job(0, 1, 0, 50, 50, 49);
        y.ticks(48);
        y.fail(0);
        due("48 of 49", y.told(0, 3), 0);
        y.ticks(49);
        y.fail(0);
        due("49 of 49", y.told(0, 3), 49);
        y.ticks(1);
        due("one was left", y.told(0, 2), 98);
        y.fail(0);
        due("one that is done does not fail", y.told(0, 0), DONE);
        due("its SAVED stays", y.told(0, 3), 49);
        GreatMachine z = with(1);
        z.job(0, 1, 0, 50, 50, 2);
        z.ticks(5);
        z.cancel(0);
        due("one that is cancelled saves nothing", z.told(0, 3), 0);
    }

    // ---- Terms 3

    private static void terms3Foreseen() {
        says("FORESEEN for a JOB: the time when it would begin, if from now on each RUNNING and each later JOB ran all that"
                + " was LEFT when it began (it is DONE then),");
        GreatMachine x = with(4);
        x.job(0, 4, 0, 50, 1, 0);
        x.job(0, 4, 0, 50, 1, 0);
        x.job(0, 4, 0, 1, 1, 0);
        plain(x, 4, 2);
        x.behind(3, 2);
        due("in the very next tick", x.foreseen(0), 0);
        due("each runs its LIMIT, not what it truly needs", x.foreseen(1), 50);
        due("the third", x.foreseen(2), 100);
        due("behind one that is done then", x.foreseen(3), 101);
        x.ticks(1);
        due("the first was done early", x.foreseen(1), 1);
        due("so all are earlier", x.foreseen(3), 52);
        GreatMachine y = with(4);
        y.job(0, 4, 0, 10, 10, 4);
        plain(y, 4, 5);
        y.ticks(9);
        y.fail(0);
        due("8 saved: 2 are LEFT", y.foreseen(1), 11);
        y.ticks(1);
        due("LEFT when it began", y.foreseen(1), 11);
        due("it began then itself", y.foreseen(0), 9);
        plain(y, 1, 5);
        y.behind(2, 0);
        due("it is done when it ran what was LEFT, not its LIMIT: one behind it", y.foreseen(2), 16);
        y.cancel(1);
        due("and without the one ahead", y.foreseen(2), 11);
        GreatMachine z = with(4, 4);
        z.ticks(6);
        plain(z, 6, 10);
        plain(z, 8, 5);
        plain(z, 2, 5);
        z.ticks(3);
        due("one that began at 6 runs 10 from then on", z.foreseen(1), 16);
        z.cancel(1);
        z.cancel(2);
        plain(z, 3, 5);
        due("2 are left", z.foreseen(3), 16);
        z.drain(0, true);
        due("4 of 6 are on a drained rack and do not count, but 2 of 4 do", z.foreseen(3), 16);
        plain(z, 2, 5);
        z.cancel(3);
        due("so 2 of 4 are left now", z.foreseen(4), 9);
    }

    private static void terms3ForeseenQueue() {
        says("FORESEEN for a JOB: the time when it would begin,");
        GreatMachine x = new GreatMachine();
        x.rack(4);
        x.account(1);
        x.account(2);
        x.job(0, 4, 0, 3, 3, 0);
        x.ticks(3);
        x.job(0, 4, 0, 5, 5, 0);
        x.job(1, 4, 0, 4, 4, 0);
        x.job(1, 4, 0, 5, 5, 0);
        due("0 of 2 is less than 12 of 1", x.foreseen(2), 3);
        due("16 of 2 is still less", x.foreseen(3), 7);
        due("then comes the least number", x.foreseen(1), 12);
        GreatMachine y = new GreatMachine();
        y.rack(2);
        y.account(1);
        y.account(1);
        y.half(5);
        y.job(0, 2, 0, 5, 5, 0);
        y.job(1, 2, 0, 3, 3, 0);
        y.job(0, 2, 0, 3, 3, 0);
        y.job(1, 2, 0, 3, 3, 0);
        due("as 10 becomes 5 at 5, which is less than 6", y.foreseen(2), 8);
        due("the other comes later", y.foreseen(3), 11);
        y.half(1000);
        due("10 is more than 6", y.foreseen(3), 8);
        due("the other comes later", y.foreseen(2), 11);
        GreatMachine z = with(4);
        z.job(0, 4, 10, 5, 5, 0);
        z.book(4, 5, 8);
        z.job(0, 4, 10, 2, 2, 0);
        z.job(0, 1, 1, 5, 5, 0);
        z.ticks(1);
        due("blocked: a booking takes nodes", z.foreseen(1), 8);
        due("but no licences: one more fits ahead of what is kept, or behind it", z.foreseen(2), 10);
    }

    private static void terms3ForeseenAsTold() {
        says("nothing else were told,");
        GreatMachine x = with(4, 4);
        x.drain(1, true);
        x.licences(3);
        x.book(2, 6, 9);
        x.job(0, 1, 3, 4, 4, 0);
        x.job(0, 3, 1, 3, 3, 0);
        x.job(0, 5, 0, 1, 1, 0);
        x.job(0, 1, 4, 1, 1, 0);
        plain(x, 1, 1);
        x.cancel(4);
        plain(x, 1, 1);
        x.behind(5, 4);
        due("bookings stay: 3 nodes for 3 ticks at 9, as 4, 5, 6 would meet it", x.foreseen(1), 9);
        due("drained racks stay so", x.foreseen(2), NONE);
        due("licences stay so", x.foreseen(3), NONE);
        due("behind one that is gone", x.foreseen(5), NONE);
        due("it changed nothing: the time", x.count(6), 0);
        due("the jobs", x.count(3), 0);
        due("what was used", x.used(0), 0);
        due("who was blocked", x.blocked(0), NONE);
        due("the free nodes", x.free(0), 4);
    }

    private static void terms3ForeseenTicks() {
        says("and no more than 300 TICKS went by;");
        says("none otherwise.");
        int[] begins = {0, 7};
        for (int now : begins) {
            for (int later = 298; later <= 301; later++) {
                GreatMachine x = with(2);
                pass(x, now);
                x.book(2, now, now + later);
                plain(x, 1, 5);
                due("foreseen " + later + " later", x.foreseen(0), later <= 299 ? now + later : NONE);
            }
        }
        GreatMachine y = with(2);
        for (int job = 0; job < 8; job++) {
            plain(y, 2, 50);
        }
        due("behind five of 50 ticks", y.foreseen(5), 250);
        due("behind six of them", y.foreseen(6), NONE);
        due("behind seven of them", y.foreseen(7), NONE);
        GreatMachine z = with(2);
        pass(z, 2000);
        plain(z, 2, 50);
        plain(z, 2, 50);
        due("at the last time", z.foreseen(0), 2000);
        due("behind the last time", z.foreseen(1), 2050);
    }

    private static void terms3ForeseenRunning() {
        says("of a RUNNING JOB when it began;");
        GreatMachine x = with(2);
        x.ticks(3);
        plain(x, 2, 9);
        x.ticks(1);
        due("it began", x.foreseen(0), 3);
        x.ticks(7);
        due("it began still", x.foreseen(0), 3);
        x.fail(0);
        due("it would begin again", x.foreseen(0), 11);
        x.ticks(2);
        due("it began again", x.foreseen(0), 11);
    }

    private static void terms3Refused() {
        says("Refused, and nothing changes: UNKNOWN (no such RACK, ACCOUNT, JOB, BOOKING), OUTSIDE (another number is not"
                + " as told), NOT (not now: as told), FULL: the first of these that fits.");
        // RefusalTests goes through every call; here one of each kind, and each of its neighbours.
        GreatMachine x = with(4);
        due("UNKNOWN rack", x.on(0, 1), UNKNOWN);
        due("UNKNOWN account", x.job(1, 1, 0, 1, 1, 0), UNKNOWN);
        due("UNKNOWN job", x.cancel(0), UNKNOWN);
        due("UNKNOWN booking", x.unbook(0), UNKNOWN);
        due("UNKNOWN ahead of OUTSIDE", x.job(1, 0, 0, 1, 1, 0), UNKNOWN);
        for (int job = 0; job < 30; job++) {
            plain(x, 4, 5);
        }
        for (int booking = 0; booking < 8; booking++) {
            x.book(4, 100 + booking, 101 + booking);
        }
        due("UNKNOWN ahead of FULL", x.job(1, 1, 0, 1, 1, 0), UNKNOWN);
        due("OUTSIDE ahead of FULL", x.job(0, 0, 0, 1, 1, 0), OUTSIDE);
        due("OUTSIDE ahead of NOT and FULL", x.book(1, 101, 101), OUTSIDE);
        due("NOT ahead of FULL", x.book(1, 101, 102), NOT);
        due("FULL", x.book(1, 200, 201), FULL);
        x.ticks(1);
        due("UNKNOWN ahead of NOT", x.behind(0, 30), UNKNOWN);
        due("OUTSIDE ahead of NOT", x.behind(0, 0), OUTSIDE);
        due("NOT", x.behind(0, -1), NOT);
        due("nothing changed: jobs", x.count(2), 30);
        due("nothing changed: bookings", x.count(5), 8);
        due("nothing changed: it runs", x.told(0, 0), RUNNING);
    }

    // ---- Promises

    private static void promise1NewObject() {
        says("TIME 0, no RACKS, ACCOUNTS, JOBS.");
        GreatMachine other = with(4);
        plain(other, 4, 9);
        other.book(1, 50, 60);
        other.ticks(3);
        GreatMachine x = new GreatMachine();
        due("racks", x.count(0), 0);
        due("accounts", x.count(1), 0);
        due("jobs", x.count(2), 0);
        due("running", x.count(3), 0);
        due("done", x.count(4), 0);
        due("bookings", x.count(5), 0);
        due("the time", x.count(6), 0);
        due("room", x.count(7), 0);
        due("no rack 0", x.drain(0, true), UNKNOWN);
        due("no account 0", x.used(0), UNKNOWN);
        due("no job 0", x.foreseen(0), UNKNOWN);
        due("no booking 0", x.unbook(0), UNKNOWN);
        due("nothing taken", x.taken(0, 50), 0);
        due("none blocked", x.blocked(0), NONE);
        due("none kept", x.blocked(1), NONE);
        due("without racks there is no room to book", x.book(1, 0, 1), NOT);
        due("a tick without anything", x.ticks(1), 1);
        due("the other object has its own", other.count(6), 3);
    }

    private static void promise2Rack() {
        says("A RACK: its number. OUTSIDE; FULL.");
        GreatMachine x = new GreatMachine();
        for (int nodes : new int[] {MIN, -1, 0, 17, MAX}) {
            due("rack(" + nodes + ")", x.rack(nodes), OUTSIDE);
        }
        for (int rack = 0; rack < 4; rack++) {
            due("its number", x.rack(rack + 1), rack);
            due("how many", x.count(0), rack + 1);
            due("its nodes", x.free(rack), rack + 1);
        }
        for (int nodes : new int[] {MIN, 0, 17, MAX}) {
            due("a fifth of " + nodes, x.rack(nodes), OUTSIDE);
        }
        due("a fifth", x.rack(5), FULL);
        due("room", x.count(7), 1 + 2 + 3 + 4);
        GreatMachine y = with(2);
        plain(y, 3, 5);
        y.ticks(2);
        y.rack(1);
        y.ticks(1);
        due("a rack that comes later is room, too", y.told(0, 1), 2);
        due("with nodes on it", y.on(0, 1), 1);
    }

    private static void promise3Drain() {
        says("Whether a RACK is DRAINED from now on: whether it was (1, 0). UNKNOWN.");
        GreatMachine x = new GreatMachine();
        due("none there", x.drain(0, true), UNKNOWN);
        x.rack(2);
        x.rack(3);
        for (int rack : new int[] {MIN, -1, 2, 4, MAX}) {
            due("drain(" + rack + ", true)", x.drain(rack, true), UNKNOWN);
            due("drain(" + rack + ", false)", x.drain(rack, false), UNKNOWN);
        }
        due("not drained, stays so", x.drain(1, false), 0);
        due("not drained, is from now on", x.drain(1, true), 0);
        due("drained, stays so", x.drain(1, true), 1);
        due("drained, is not from now on", x.drain(1, false), 1);
        due("not drained again", x.drain(1, true), 0);
        due("the other never was", x.drain(0, true), 0);
    }

    private static void promise4Fail() {
        says("A RACK FAILS: how many JOBS are WAITING again by that. UNKNOWN.");
        GreatMachine x = new GreatMachine();
        due("none there", x.fail(0), UNKNOWN);
        x.rack(2);
        x.rack(2);
        x.account(1);
        for (int rack : new int[] {MIN, -1, 2, 4, MAX}) {
            due("fail(" + rack + ")", x.fail(rack), UNKNOWN);
        }
        due("nothing runs", x.fail(0), 0);
        plain(x, 1, 9);
        plain(x, 3, 9);
        plain(x, 2, 9);
        x.ticks(1);
        due("both that are on it, not the one that waits", x.fail(0), 2);
        due("the one on both racks is no longer on the other", x.fail(1), 0);
        x.ticks(1);
        due("only the one that is on the other", x.fail(1), 1);
        due("the first still runs", x.told(0, 0), RUNNING);
    }

    private static void promise5Licences() {
        says("LICENCES in all: how many there were. OUTSIDE.");
        GreatMachine x = new GreatMachine();
        for (int n : new int[] {MIN, -1, 101, MAX}) {
            due("licences(" + n + ")", x.licences(n), OUTSIDE);
        }
        due("0: there were 10", x.licences(0), 10);
        due("100: there were 0", x.licences(100), 0);
        due("101", x.licences(101), OUTSIDE);
        due("7: there were 100", x.licences(7), 100);
        due("there were 7", x.licences(7), 7);
    }

    private static void promise5JobsGoOn() {
        says("(JOBS that run go on.)");
        GreatMachine x = with(4);
        x.job(0, 1, 9, 5, 5, 0);
        x.ticks(1);
        x.licences(0);
        due("it runs", x.told(0, 0), RUNNING);
        due("with its licences", x.taken(1, 1), 9);
        x.ticks(4);
        due("until it is done", x.told(0, 2), 5);
    }

    private static void promise6Half() {
        says("HALF: that which it was. OUTSIDE.");
        GreatMachine x = new GreatMachine();
        for (int ticks : new int[] {MIN, -1, 0, 1001, MAX}) {
            due("half(" + ticks + ")", x.half(ticks), OUTSIDE);
        }
        due("1: it was 100", x.half(1), 100);
        due("1000: it was 1", x.half(1000), 1);
        due("1001", x.half(1001), OUTSIDE);
        due("5: it was 1000", x.half(5), 1000);
        due("it was 5", x.half(5), 5);
        GreatMachine y = with(3);
        plain(y, 3, 9);
        y.ticks(6);
        due("2 at 6", y.half(2), 100);
        due("USED becomes half in a tick, not when HALF is told", y.used(0), 18);
        due("3 at 6", y.half(3), 2);
        due("USED as it was", y.used(0), 18);
        y.ticks(2);
        due("up to 8, which is no multiple of 3", y.used(0), 24);
        y.ticks(1);
        due("27 at 9, cut", y.used(0), 13);
    }

    private static void promise7Account() {
        says("An ACCOUNT: its number. OUTSIDE; FULL.");
        GreatMachine x = new GreatMachine();
        for (int shares : new int[] {MIN, -1, 0, 101, MAX}) {
            due("account(" + shares + ")", x.account(shares), OUTSIDE);
        }
        for (int account = 0; account < 6; account++) {
            due("its number", x.account(account % 2 == 0 ? 1 : 100), account);
            due("how many", x.count(1), account + 1);
        }
        for (int shares : new int[] {MIN, 0, 101, MAX}) {
            due("a seventh of " + shares, x.account(shares), OUTSIDE);
        }
        due("a seventh", x.account(1), FULL);
        due("accounts", x.count(1), 6);
    }

    private static void promise8Job() {
        says("A JOB, behind none: its number. UNKNOWN: ACCOUNT; OUTSIDE; FULL.");
        GreatMachine x = new GreatMachine();
        x.rack(4);
        due("no account there", x.job(0, 1, 0, 1, 1, 0), UNKNOWN);
        x.account(1);
        x.account(1);
        for (int account : new int[] {MIN, -1, 2, 6, MAX}) {
            due("of account " + account, x.job(account, 1, 0, 1, 1, 0), UNKNOWN);
        }
        due("its number", x.job(1, 2, 3, 4, 3, 2), 0);
        due("the next", x.job(0, 1, 0, 1, 1, 0), 1);
        due("waiting", x.told(0, 0), WAITING);
        due("never begun", x.told(0, 1), NONE);
        due("never done", x.told(0, 2), NONE);
        due("nothing saved", x.told(0, 3), 0);
        due("nothing ran", x.told(0, 4), 0);
        due("on no rack", x.told(0, 5), 0);
        x.ticks(1);
        due("behind none: it began", x.told(0, 1), 0);
        due("nodes as told", x.on(0, 0), 2);
        due("licences as told", x.taken(1, 1), 3);
        due("limit as told", x.taken(0, 3), 2);
        due("not longer", x.taken(0, 4), 0);
        due("account as told", x.used(1), 2);
        x.ticks(2);
        due("truly as told", x.told(0, 2), 3);
    }

    private static void promise8JobBounds() {
        says("UNKNOWN: ACCOUNT; OUTSIDE; FULL.");
        GreatMachine x = with(4);
        int[] usual = {0, 1, 0, 25, 25, 0};
        int[] least = {0, 1, 0, 25, 1, 0};
        int[] most = {0, 64, 100, 50, 25, 50};
        for (int place = 1; place < 6; place++) {
            int refused = OUTSIDE;
            for (int number : new int[] {MIN, least[place] - 1, most[place] + 1, MAX}) {
                int[] job = usual.clone();
                job[place] = number;
                due("argument " + place + " is " + number, jobOf(x, job), refused);
            }
        }
        due("truly above its limit by wrap-around", x.job(0, 1, 0, MIN, MAX, 0), OUTSIDE);
        due("limit and truly 0", x.job(0, 1, 0, 0, 0, 0), OUTSIDE);
        due("limit and truly 51", x.job(0, 1, 0, 51, 51, 0), OUTSIDE);
        due("none of them is a job", x.count(2), 0);
        for (int place = 1; place < 6; place++) {
            int[] job = usual.clone();
            job[place] = least[place];
            due("argument " + place + " is the least", jobOf(x, job), 2 * place - 2);
            job[place] = most[place];
            due("argument " + place + " is the greatest", jobOf(x, job), 2 * place - 1);
        }
        due("limit and truly 1", x.job(0, 1, 0, 1, 1, 0), 10);
        due("limit and truly 50", x.job(0, 1, 0, 50, 50, 0), 11);
        due("twelve jobs", x.count(2), 12);
        for (int job = 12; job < 30; job++) {
            due("job", plain(x, 1, 1), job);
        }
        due("the 31st", plain(x, 1, 1), FULL);
        x.cancel(3);
        due("one that is gone is still one of 30", plain(x, 1, 1), FULL);
        due("OUTSIDE ahead of FULL", plain(x, 0, 1), OUTSIDE);
        due("UNKNOWN ahead of both", x.job(1, 0, 0, 1, 1, 0), UNKNOWN);
        due("jobs", x.count(2), 30);
    }

    private static int jobOf(GreatMachine x, int[] a) {
        return x.job(a[0], a[1], a[2], a[3], a[4], a[5]);
    }

    private static void promise9Behind() {
        says("A WAITING JOB comes behind another one (-1: none), told ahead of it: 1.");
        GreatMachine x = with(9);
        for (int job = 0; job < 30; job++) {
            plain(x, 1, 2);
        }
        due("the first, behind none", x.behind(0, -1), 1);
        due("the last behind the one ahead of it", x.behind(29, 28), 1);
        due("the last behind the first", x.behind(29, 0), 1);
        for (int job = 1; job < 29; job++) {
            due("a chain", x.behind(job, job - 1), 1);
        }
        x.ticks(2);
        due("the second waits for the first", x.told(1, 0), WAITING);
        x.ticks(1);
        due("and begins when it is done", x.told(1, 1), 2);
        due("the last, too, by what was told last", x.told(29, 1), 2);
        due("the third waits for the second", x.told(2, 1), NONE);
        due("the last of the chain is foreseen", x.foreseen(28), 56);
        due("out of the chain", x.behind(20, -1), 1);
        x.ticks(1);
        due("it begins", x.told(20, 1), 3);
        due("it waits again", x.fail(0), 1);
        due("so it may be told, too: behind one that waits", x.behind(20, 2), 1);
        x.ticks(1);
        due("it does not begin now", x.told(20, 0), WAITING);
        due("the one that it is behind did", x.told(2, 1), 4);
    }

    private static void promise9BehindRefused() {
        says("UNKNOWN; OUTSIDE: not a lesser number; NOT: it is not WAITING.");
        GreatMachine x = with(2);
        plain(x, 1, 9);
        plain(x, 1, 1);
        plain(x, 2, 1);
        plain(x, 2, 1);
        for (int job : new int[] {MIN, -2, -1, 4, 30, MAX}) {
            due("behind(" + job + ", -1)", x.behind(job, -1), UNKNOWN);
            due("behind(" + job + ", 0)", x.behind(job, 0), UNKNOWN);
            if (job != -1) {
                due("behind(2, " + job + ")", x.behind(2, job), UNKNOWN);
            }
        }
        due("the next number", x.behind(2, 3), OUTSIDE);
        due("its own number", x.behind(2, 2), OUTSIDE);
        due("the number ahead", x.behind(2, 1), 1);
        due("the first behind itself", x.behind(0, 0), OUTSIDE);
        x.ticks(1);
        due("one that runs", x.behind(0, -1), NOT);
        due("one that is done", x.behind(1, 0), NOT);
        x.cancel(3);
        due("one that is gone", x.behind(3, 2), NOT);
        due("one that is gone, behind none", x.behind(3, -1), NOT);
        due("one that waits", x.behind(2, 1), 1);
    }

    private static void promise10Cancel() {
        says("A WAITING or RUNNING JOB is GONE: 1. UNKNOWN; NOT.");
        GreatMachine x = with(4, 4);
        due("none there", x.cancel(0), UNKNOWN);
        x.job(0, 6, 3, 9, 9, 2);
        x.job(0, 2, 0, 1, 1, 0);
        plain(x, 8, 5);
        for (int job : new int[] {MIN, -1, 3, 30, MAX}) {
            due("cancel(" + job + ")", x.cancel(job), UNKNOWN);
        }
        x.job(0, 1, 5, 5, 5, 0);
        due("one that waits", x.cancel(3), 1);
        due("takes no licences", x.taken(1, 0), 0);
        due("nor nodes", x.taken(0, 0), 0);
        x.ticks(3);
        due("one that is done", x.cancel(1), NOT);
        due("it stays done", x.told(1, 0), DONE);
        due("a running one", x.cancel(0), 1);
        due("is gone", x.told(0, 0), GONE);
        due("on no rack", x.told(0, 5), 0);
        due("its nodes are free", x.free(0), 4);
        due("on each rack", x.free(1), 4);
        due("nothing taken", x.taken(0, 3), 0);
        due("no licences", x.taken(1, 3), 0);
        due("used stays", x.used(0), 3 * 6 + 2);
        due("done stays none", x.told(0, 2), NONE);
        due("one that is gone", x.cancel(0), NOT);
        due("a waiting one", x.cancel(2), 1);
        due("is gone", x.told(2, 0), GONE);
        due("again", x.cancel(2), NOT);
        due("none runs", x.count(3), 0);
        due("one is done", x.count(4), 1);
        due("four were told", x.count(2), 4);
        x.ticks(9);
        due("one that is gone never begins", x.told(2, 1), NONE);
        due("nor is it blocked", x.blocked(0), NONE);
    }

    private static void promise10ForEver() {
        says("(Those behind it wait for ever.)");
        GreatMachine x = with(4);
        plain(x, 1, 5);
        plain(x, 1, 5);
        plain(x, 1, 5);
        x.behind(1, 0);
        x.behind(2, 1);
        x.cancel(0);
        due("it is not foreseen", x.foreseen(1), NONE);
        pass(x, 2000);
        due("it waits", x.told(1, 0), WAITING);
        due("those behind that one, too", x.told(2, 0), WAITING);
        due("none began", x.told(1, 1), NONE);
    }

    private static void promise11Book() {
        says("A BOOKING of n NODES (1 .. 64) for times from a to b - 1 (THE TIME or later, b above a, 3000 at most): its"
                + " number.");
        GreatMachine x = with(16, 16, 16, 16);
        for (int n : new int[] {MIN, -1, 0, 65, MAX}) {
            due("book(" + n + ", 5, 6)", x.book(n, 5, 6), OUTSIDE);
        }
        due("1 node", x.book(1, 10, 11), 0);
        due("64 nodes", x.book(64, 11, 12), 1);
        due("a is THE TIME", x.book(1, 0, 1), 2);
        due("a ahead of it", x.book(1, -1, 5), OUTSIDE);
        due("b is a", x.book(1, 20, 20), OUTSIDE);
        due("b ahead of a", x.book(1, 20, 19), OUTSIDE);
        due("b is one above a", x.book(1, 20, 21), 3);
        due("b is 3000", x.book(1, 2999, 3000), 4);
        due("b is 3001", x.book(1, 2999, 3001), OUTSIDE);
        due("a is 3000", x.book(1, 3000, 3001), OUTSIDE);
        due("both the greatest", x.book(1, MAX, MAX), OUTSIDE);
        due("b by wrap-around", x.book(1, MAX, MIN), OUTSIDE);
        due("a the least", x.book(1, MIN, 5), OUTSIDE);
        due("a the least, b the greatest", x.book(1, MIN, MAX), OUTSIDE);
        due("b the greatest", x.book(1, 5, MAX), OUTSIDE);
        x.ticks(7);
        due("a one ahead of THE TIME", x.book(1, 6, 30), OUTSIDE);
        due("all times that there are", x.book(1, 7, 11), 5);
        pass(x, 1993);
        due("at the last time", x.count(6), 2000);
        due("a ahead of it", x.book(1, 1999, 3000), OUTSIDE);
        due("from it on", x.book(63, 2000, 3000), 6);
        due("the last one", x.book(64, 2000, 2001), NOT);
        due("of 8", x.book(1, 2000, 2999), 7);
    }

    private static void promise11BookNot() {
        says("OUTSIDE; NOT: at some of these times TAKEN and n are above ROOM; FULL.");
        GreatMachine x = with(4, 4);
        plain(x, 3, 10);
        x.ticks(1);
        due("3 and 6 are above 8", x.book(6, 1, 2), NOT);
        due("3 and 5 are not", x.book(5, 1, 2), 0);
        due("the last time of the job", x.book(6, 9, 20), NOT);
        due("behind it", x.book(8, 10, 20), 1);
        due("only its first time is too full", x.book(1, 1, 9), NOT);
        due("only its last time is too full", x.book(1, 5, 11), NOT);
        due("from behind the one up to ahead of the other", x.book(1, 2, 10), 2);
        due("above ROOM alone", x.book(9, 30, 31), NOT);
        due("only a time within is too full", x.book(5, 19, 40), NOT);
        due("as many as ROOM", x.book(8, 20, 25), 3);
        due("within is one that is too full", x.book(1, 15, 40), NOT);
        x.drain(1, true);
        due("less ROOM", x.book(5, 50, 51), NOT);
        due("as many as are left", x.book(4, 50, 51), 4);
        x.licences(0);
        due("licences do not matter", x.book(1, 51, 52), 5);
        due("nor what the job would truly need", x.book(2, 8, 9), NOT);
        due("another", x.book(1, 60, 61), 6);
        due("the eighth", x.book(1, 60, 61), 7);
        due("a ninth", x.book(1, 60, 61), FULL);
        due("a ninth that is too much", x.book(3, 60, 61), NOT);
        due("a ninth that is outside", x.book(3, 61, 61), OUTSIDE);
        GreatMachine y = with(4);
        plain(y, 3, 5);
        plain(y, 4, 5);
        y.ticks(1);
        due("kept", y.blocked(1), 5);
        due("what is kept is not taken", y.book(4, 5, 9), 0);
        GreatMachine z = with(4);
        z.book(2, 2, 10);
        z.book(2, 2, 5);
        due("one that began ahead is full there", z.book(1, 4, 8), NOT);
        due("but not at these times", z.book(2, 5, 8), 2);
        due("nor at these", z.book(2, 8, 20), 3);
    }

    private static void promise12Unbook() {
        says("A BOOKING is no more (those behind it get a number less): 1. UNKNOWN.");
        GreatMachine x = with(16);
        due("none there", x.unbook(0), UNKNOWN);
        for (int booking = 0; booking < 8; booking++) {
            x.book(booking + 1, 10 * booking, 10 * booking + 5);
        }
        for (int booking : new int[] {MIN, -1, 8, 9, MAX}) {
            due("unbook(" + booking + ")", x.unbook(booking), UNKNOWN);
        }
        due("the last", x.unbook(7), 1);
        due("is no more", x.taken(0, 70), 0);
        due("the one ahead still is", x.taken(0, 60), 7);
        due("the last number is one less", x.unbook(7), UNKNOWN);
        due("the first", x.unbook(0), 1);
        due("is no more", x.taken(0, 0), 0);
        due("the second still is", x.taken(0, 10), 2);
        due("and has its number", x.unbook(0), 1);
        due("it was that one", x.taken(0, 10), 0);
        due("one in the middle", x.unbook(2), 1);
        due("it was the one from 40 on", x.taken(0, 40), 0);
        due("the one behind it still is", x.taken(0, 50), 6);
        due("and has its number", x.unbook(2), 1);
        due("it was that one", x.taken(0, 50), 0);
        due("three are left", x.count(5), 3);
        due("a new one comes behind", x.book(16, 100, 200), 3);
        due("from its time", x.taken(0, 100), 16);
        due("from 20", x.taken(0, 20), 3);
        due("from 30", x.taken(0, 30), 4);
        due("from 60", x.taken(0, 60), 7);
        x.unbook(0);
        x.unbook(0);
        x.unbook(0);
        due("the last one", x.unbook(0), 1);
        due("none is left", x.count(5), 0);
        due("nothing is taken", x.taken(0, 100), 0);
        due("no licences", x.taken(1, 100), 0);
        due("none there", x.unbook(0), UNKNOWN);
    }

    private static void promise13Ticks() {
        says("n TICKS (1 .. 100; THE TIME 2000 at most) go by: THE TIME. OUTSIDE.");
        GreatMachine x = with(2);
        for (int n : new int[] {MIN, -1, 0, 101, MAX}) {
            due("ticks(" + n + ")", x.ticks(n), OUTSIDE);
        }
        due("no time went by", x.count(6), 0);
        due("1", x.ticks(1), 1);
        due("100", x.ticks(100), 101);
        pass(x, 1800);
        due("so far", x.count(6), 1901);
        due("2001 would be too far", x.ticks(100), OUTSIDE);
        due("nothing went by", x.count(6), 1901);
        due("2000 is not", x.ticks(99), 2000);
        due("one more", x.ticks(1), OUTSIDE);
        due("a hundred more", x.ticks(100), OUTSIDE);
        due("the greatest number more", x.ticks(MAX), OUTSIDE);
        due("the time", x.count(6), 2000);
        GreatMachine y = with(2);
        GreatMachine z = with(2);
        for (int job = 0; job < 6; job++) {
            y.job(0, 1 + job % 2, 0, 9, 5, 0);
            z.job(0, 1 + job % 2, 0, 9, 5, 0);
        }
        for (int tick = 1; tick <= 17; tick++) {
            due("one by one", y.ticks(1), tick);
        }
        due("all at once", z.ticks(17), 17);
        for (int job = 0; job < 6; job++) {
            due("begun alike", z.told(job, 1), y.told(job, 1));
            due("done alike", z.told(job, 2), y.told(job, 2));
        }
    }

    private static void promise14Told() {
        says("Of a JOB: 0 WAITING .. GONE, 1 when it began last (NONE), 2 when it was DONE (THE TIME behind its last TICK;"
                + " NONE), 3 SAVED, 4 what it ran since it began last (0, if it is not RUNNING), 5 on how many RACKS it"
                + " runs (0). UNKNOWN; OUTSIDE.");
        GreatMachine x = with(2, 2, 2, 2);
        due("none there", x.told(0, 0), UNKNOWN);
        x.job(0, 7, 0, 9, 5, 2);
        for (int job : new int[] {MIN, -1, 1, 30, MAX}) {
            due("told(" + job + ", 0)", x.told(job, 0), UNKNOWN);
            due("told(" + job + ", 5)", x.told(job, 5), UNKNOWN);
            due("told(" + job + ", 6)", x.told(job, 6), UNKNOWN);
        }
        for (int what : new int[] {MIN, -1, 6, MAX}) {
            due("told(0, " + what + ")", x.told(0, what), OUTSIDE);
        }
        toldIs(x, 0, "as it waits", WAITING, NONE, NONE, 0, 0, 0);
        x.ticks(3);
        toldIs(x, 0, "as it runs", RUNNING, 0, NONE, 0, 3, 4);
        x.fail(3);
        toldIs(x, 0, "as it waits again", WAITING, 0, NONE, 2, 0, 0);
        x.ticks(2);
        toldIs(x, 0, "as it runs again", RUNNING, 3, NONE, 2, 2, 4);
        x.ticks(1);
        toldIs(x, 0, "as it is done", DONE, 3, 6, 2, 0, 0);
        x.ticks(9);
        toldIs(x, 0, "as it stays", DONE, 3, 6, 2, 0, 0);
        plain(x, 2, 9);
        x.ticks(1);
        toldIs(x, 1, "as it runs on one rack", RUNNING, 15, NONE, 0, 1, 1);
        x.cancel(1);
        toldIs(x, 1, "as it is gone", GONE, 15, NONE, 0, 0, 0);
        plain(x, 9, 9);
        x.cancel(2);
        toldIs(x, 2, "as it is gone without having begun", GONE, NONE, NONE, 0, 0, 0);
    }

    private static void toldIs(GreatMachine x, int job, String when, int... want) {
        for (int what = 0; what < want.length; what++) {
            due("told(" + job + ", " + what + ") " + when, x.told(job, what), want[what]);
        }
    }

    private static void promise15On() {
        says("NODES that a JOB has on a RACK now. UNKNOWN.");
        GreatMachine x = with(16, 1);
        due("no job there", x.on(0, 0), UNKNOWN);
        plain(x, 17, 2);
        plain(x, 1, 2);
        due("as it waits", x.on(0, 0), 0);
        for (int number : new int[] {MIN, -1, 2, 4, 30, MAX}) {
            due("on(0, " + number + ")", x.on(0, number), UNKNOWN);
            due("on(" + number + ", 0)", x.on(number, 0), UNKNOWN);
            due("on(" + number + ", " + number + ")", x.on(number, number), UNKNOWN);
        }
        x.ticks(1);
        due("as many as can be", x.on(0, 0), 16);
        due("and one", x.on(0, 1), 1);
        due("the other has none", x.on(1, 1), 0);
        x.fail(1);
        due("none on the rack that failed", x.on(0, 1), 0);
        due("nor on the other", x.on(0, 0), 0);
        x.ticks(3);
        due("done: none", x.on(0, 0), 0);
        due("the other one", x.on(1, 0), 1);
        x.cancel(1);
        due("gone: none", x.on(1, 0), 0);
    }

    private static void promise16Free() {
        says("Free NODES of a RACK (those that run nothing, DRAINED or not). UNKNOWN.");
        GreatMachine x = new GreatMachine();
        due("none there", x.free(0), UNKNOWN);
        x.rack(16);
        x.rack(1);
        x.account(1);
        for (int rack : new int[] {MIN, -1, 2, 4, MAX}) {
            due("free(" + rack + ")", x.free(rack), UNKNOWN);
        }
        due("all", x.free(0), 16);
        x.book(17, 0, 1);
        due("a booking runs nothing", x.free(0), 16);
        x.ticks(1);
        plain(x, 15, 4);
        x.ticks(1);
        due("all but 15", x.free(0), 1);
        x.drain(0, true);
        due("drained", x.free(0), 1);
        x.drain(1, true);
        due("drained and empty", x.free(1), 1);
        x.drain(0, false);
        x.drain(1, false);
        plain(x, 2, 4);
        x.ticks(1);
        due("none", x.free(0), 0);
        due("none on the other", x.free(1), 0);
        x.ticks(2);
        due("15 were done", x.free(0), 15);
        x.drain(0, true);
        x.fail(0);
        due("all, as the rack failed", x.free(0), 16);
        due("on the other, too", x.free(1), 1);
    }

    private static void promise17Used() {
        says("USED of an ACCOUNT. UNKNOWN.");
        GreatMachine x = new GreatMachine();
        due("none there", x.used(0), UNKNOWN);
        x.account(1);
        x.account(100);
        for (int account : new int[] {MIN, -1, 2, 6, MAX}) {
            due("used(" + account + ")", x.used(account), UNKNOWN);
        }
        for (int rack = 0; rack < 4; rack++) {
            x.rack(16);
        }
        due("nothing", x.used(0), 0);
        x.half(1000);
        for (int job = 0; job < 20; job++) {
            x.job(1, 64, 0, 50, 50, 0);
        }
        pass(x, 999);
        due("as much as can be: 64 each tick", x.used(1), 64 * 999);
        due("the other nothing", x.used(0), 0);
        x.ticks(1);
        due("half of it", x.used(1), 32000);
        for (int job = 20; job < 30; job++) {
            x.job(1, 64, 0, 50, 50, 0);
        }
        pass(x, 500);
        due("and as much as ten more ran", x.used(1), 64000);
    }

    private static void promise18Blocked() {
        says("The JOB that was BLOCKED in the latest TICK (way 0), what was KEPT for it (1); NONE. OUTSIDE.");
        GreatMachine x = with(2);
        for (int way : new int[] {MIN, -1, 2, MAX}) {
            due("blocked(" + way + ")", x.blocked(way), OUTSIDE);
        }
        due("no tick yet", x.blocked(0), NONE);
        due("nothing kept", x.blocked(1), NONE);
        plain(x, 2, 2);
        plain(x, 2, 2);
        plain(x, 3, 2);
        x.ticks(1);
        due("the second", x.blocked(0), 1);
        due("kept", x.blocked(1), 2);
        x.cancel(1);
        due("of the latest tick still, though it is gone", x.blocked(0), 1);
        due("kept still", x.blocked(1), 2);
        x.ticks(1);
        due("now the third", x.blocked(0), 2);
        due("nothing can be kept for it", x.blocked(1), NONE);
        x.cancel(2);
        x.ticks(1);
        due("none", x.blocked(0), NONE);
        due("nothing kept", x.blocked(1), NONE);
        plain(x, 2, 1);
        plain(x, 1, 1);
        x.ticks(1);
        due("one again", x.blocked(0), 4);
        due("kept for it", x.blocked(1), 4);
        x.ticks(1);
        due("it began: none", x.blocked(0), NONE);
        due("nothing kept any more", x.blocked(1), NONE);
        GreatMachine y = with(2);
        y.ticks(1);
        y.drain(0, true);
        plain(y, 1, 1);
        y.ticks(1);
        due("job 0 may be the one", y.blocked(0), 0);
        due("of several ticks the latest", y.ticks(3), 5);
        due("it is", y.blocked(0), 0);
        GreatMachine z = with(2);
        plain(z, 2, 5);
        plain(z, 2, 5);
        z.ticks(1);
        z.rack(16);
        z.account(1);
        plain(z, 1, 1);
        z.licences(0);
        z.half(1);
        z.drain(0, true);
        z.drain(0, false);
        z.fail(0);
        z.behind(1, 0);
        z.book(1, 9, 10);
        z.unbook(0);
        z.foreseen(1);
        z.cancel(0);
        due("until the next tick, whatever else is told", z.blocked(0), 1);
        due("what was kept, too", z.blocked(1), 5);
        z.ticks(1);
        due("then none", z.blocked(0), NONE);
        due("nothing is kept", z.blocked(1), NONE);
    }

    private static void promise19Taken() {
        says("TAKEN NODES (way 0), LICENCES (1) at a time u (THE TIME .. THE TIME and 300), as seen now. OUTSIDE.");
        GreatMachine x = with(16);
        x.book(7, 299, 301);
        for (int way : new int[] {MIN, -1, 2, MAX}) {
            due("taken(" + way + ", 0)", x.taken(way, 0), OUTSIDE);
            due("taken(" + way + ", -1)", x.taken(way, -1), OUTSIDE);
        }
        for (int way = 0; way < 2; way++) {
            for (int u : new int[] {MIN, -1, 301, MAX}) {
                due("taken(" + way + ", " + u + ")", x.taken(way, u), OUTSIDE);
            }
        }
        due("THE TIME", x.taken(0, 0), 0);
        due("THE TIME and 300", x.taken(0, 300), 7);
        due("licences then", x.taken(1, 300), 0);
        x.ticks(100);
        due("one ahead of THE TIME", x.taken(0, 99), OUTSIDE);
        due("THE TIME", x.taken(0, 100), 0);
        due("THE TIME and 300", x.taken(0, 400), 0);
        due("THE TIME and 301", x.taken(0, 401), OUTSIDE);
        due("licences at THE TIME and 301", x.taken(1, 401), OUTSIDE);
        x.job(0, 2, 3, 50, 50, 0);
        x.ticks(1);
        due("nodes", x.taken(0, 101), 2);
        due("licences", x.taken(1, 101), 3);
        due("nodes at the last time", x.taken(0, 149), 2);
        due("licences at the last time", x.taken(1, 149), 3);
        due("nodes behind it", x.taken(0, 150), 0);
        due("licences behind it", x.taken(1, 150), 0);
        pass(x, 1899);
        due("behind the last time that ticks reach", x.taken(0, 2300), 0);
        due("not farther", x.taken(0, 2301), OUTSIDE);
    }

    private static void promise20Foreseen() {
        says("FORESEEN for a JOB; NONE: it is DONE or GONE, too. UNKNOWN.");
        GreatMachine x = with(2);
        due("none there", x.foreseen(0), UNKNOWN);
        plain(x, 2, 1);
        plain(x, 2, 2);
        plain(x, 2, 2);
        for (int job : new int[] {MIN, -1, 3, 30, MAX}) {
            due("foreseen(" + job + ")", x.foreseen(job), UNKNOWN);
        }
        due("begins and is done in one tick", x.foreseen(0), 0);
        due("the next", x.foreseen(1), 1);
        due("the last", x.foreseen(2), 3);
        x.ticks(1);
        due("done", x.foreseen(0), NONE);
        x.cancel(1);
        due("gone", x.foreseen(1), NONE);
        due("the last is earlier", x.foreseen(2), 1);
        x.ticks(1);
        x.cancel(2);
        due("gone from running", x.foreseen(2), NONE);
        GreatMachine y = with(16, 16);
        for (int job = 0; job < 30; job++) {
            y.job(0, 1 + job % 16, 0, 9, 1 + job % 9, 0);
        }
        int last = y.foreseen(29);
        for (int job = 0; job < 29; job++) {
            y.foreseen(job);
        }
        due("asking changes nothing", y.foreseen(29), last);
        due("nor who is blocked", y.blocked(0), NONE);
        due("nor the time", y.count(6), 0);
        due("nor who runs", y.count(3), 0);
    }

    private static void promise21Count() {
        says("0 RACKS, 1 ACCOUNTS, 2 JOBS, 3 RUNNING ones, 4 DONE ones, 5 BOOKINGS, 6 THE TIME, 7 ROOM. OUTSIDE.");
        GreatMachine x = new GreatMachine();
        for (int what : new int[] {MIN, -1, 8, MAX}) {
            due("count(" + what + ")", x.count(what), OUTSIDE);
        }
        for (int what = 0; what < 8; what++) {
            due("count(" + what + ") of nothing", x.count(what), 0);
        }
        for (int rack = 0; rack < 4; rack++) {
            x.rack(16);
        }
        for (int account = 0; account < 6; account++) {
            x.account(1);
        }
        for (int job = 0; job < 30; job++) {
            x.job(job % 6, 1, 0, 9, 1 + job % 2, 0);
        }
        for (int booking = 0; booking < 8; booking++) {
            x.book(1, 50, 60);
        }
        due("none runs", x.count(3), 0);
        x.ticks(1);
        due("racks", x.count(0), 4);
        due("accounts", x.count(1), 6);
        due("jobs", x.count(2), 30);
        due("half of them runs", x.count(3), 15);
        due("half of them is done", x.count(4), 15);
        due("bookings", x.count(5), 8);
        due("the time", x.count(6), 1);
        due("room", x.count(7), 64);
        x.fail(0);
        due("8 of them wait again, and do not run", x.count(3), 7);
        x.ticks(2);
        due("all are done", x.count(4), 30);
        due("none runs", x.count(3), 0);
        pass(x, 97);
        due("bookings of the past are bookings", x.count(5), 8);
        due("the time", x.count(6), 100);
        GreatMachine y = with(1);
        for (int job = 0; job < 30; job++) {
            plain(y, 1, 50);
            y.cancel(job);
        }
        due("those that are gone are jobs, too", y.count(2), 30);
        due("but not done", y.count(4), 0);
    }

    // ---- the document itself

    /** What of the document stands in no test here is told; without the document nothing is. */
    private static void everySentenceHasATest() throws IOException {
        if (!Files.isRegularFile(DOCUMENT)) {
            System.out.println("no " + DOCUMENT + " here: its sentences were not looked for");
            return;
        }
        StringBuilder left = new StringBuilder(sentencesOf(Files.readString(DOCUMENT)));
        String whole = left.toString();
        for (String said : SAID) {
            int at = whole.indexOf(said);
            if (at < 0) {
                wrong++;
                System.out.println("does not stand in the document: " + said);
            }
            for (; at >= 0; at = whole.indexOf(said, at + 1)) {
                for (int i = at; i < at + said.length(); i++) {
                    left.setCharAt(i, '|');
                }
            }
        }
        for (String rest : left.toString().split("\\|+")) {
            if (!rest.isBlank()) {
                wrong++;
                System.out.println("has no test: " + rest.trim());
            }
        }
    }

    /** Terms and promises on one line, without headings, the marks of code, and the calls' own lines. */
    private static String sentencesOf(String document) {
        int from = Math.max(0, document.indexOf("## Terms"));
        int to = document.indexOf("## Not promised");
        String part = document.substring(from, to < from ? document.length() : to);
        return part.replaceAll("(?m)^(##|```|Ahead of the calls).*$", "")
                .replaceAll("(?m)^======== \\d+ ", "")
                .replaceAll("(?m)^`[^`\n]*`: ", "")
                .replaceAll("\\s+", " ");
    }
}
