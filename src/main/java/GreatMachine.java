/**
 * Turns on a great machine: racks of nodes, accounts with shares, jobs, bookings, and the queue
 * that serves them tick by tick. What each call does and answers is told in the document's promises.
 */
public final class GreatMachine {
    public static final int NONE = -1, UNKNOWN = -2, OUTSIDE = -3, NOT = -4, FULL = -5;

    private static final int MOST_RACKS = 4, MOST_RACK_NODES = 16;
    private static final int MOST_ACCOUNTS = 6, MOST_SHARES = 100;
    private static final int MOST_JOBS = 30, MOST_NODES = 64, MOST_LIMIT = 50, MOST_SAVE = 50;
    private static final int MOST_LICENCES = 100, FIRST_LICENCES = 10;
    private static final int MOST_HALF = 1000, FIRST_HALF = 100;
    private static final int MOST_BOOKINGS = 8, LAST_BOOKED = 3000;
    private static final int MOST_TICKS = 100, LAST_TIME = 2000;
    private static final int KEPT_AHEAD = 200, SEEN_AHEAD = 300;

    private static final int WAITING = 0, RUNNING = 1, DONE = 2, GONE = 3;

    private final Machine machine;
    /** Where FORESEEN is played through; made once, as no call may make objects without need. */
    private final Machine foresight;

    public GreatMachine() {
        machine = new Machine();
        foresight = new Machine();
    }

    // ---- what there is

    public int rack(int nodes) {
        if (isOutside(nodes, 1, MOST_RACK_NODES)) {
            return OUTSIDE;
        }
        if (machine.rackCount >= MOST_RACKS) {
            return FULL;
        }
        return machine.addRack(nodes);
    }

    public int drain(int rack, boolean on) {
        if (!machine.hasRack(rack)) {
            return UNKNOWN;
        }
        int before = machine.racks[rack].drained ? 1 : 0;
        machine.racks[rack].drained = on;
        machine.recount();
        return before;
    }

    public int fail(int rack) {
        if (!machine.hasRack(rack)) {
            return UNKNOWN;
        }
        return machine.breakRack(rack);
    }

    public int licences(int n) {
        if (isOutside(n, 0, MOST_LICENCES)) {
            return OUTSIDE;
        }
        int before = machine.licencesInAll;
        machine.licencesInAll = n;
        return before;
    }

    public int half(int ticks) {
        if (isOutside(ticks, 1, MOST_HALF)) {
            return OUTSIDE;
        }
        int before = machine.halving;
        machine.halving = ticks;
        return before;
    }

    public int account(int shares) {
        if (isOutside(shares, 1, MOST_SHARES)) {
            return OUTSIDE;
        }
        if (machine.accountCount >= MOST_ACCOUNTS) {
            return FULL;
        }
        return machine.addAccount(shares);
    }

    // ---- jobs, bookings

    public int job(int account, int nodes, int licences, int limit, int truly, int save) {
        if (!machine.hasAccount(account)) {
            return UNKNOWN;
        }
        if (isOutside(nodes, 1, MOST_NODES) || isOutside(licences, 0, MOST_LICENCES)
                || isOutside(limit, 1, MOST_LIMIT) || isOutside(truly, 1, limit)
                || isOutside(save, 0, MOST_SAVE)) {
            return OUTSIDE;
        }
        if (machine.jobCount >= MOST_JOBS) {
            return FULL;
        }
        int number = machine.jobCount;
        machine.jobs[number].want(account, nodes, licences, limit, truly, save);
        machine.jobCount++;
        return number;
    }

    public int behind(int job, int other) {
        if (!machine.hasJob(job) || (other != NONE && !machine.hasJob(other))) {
            return UNKNOWN;
        }
        if (other >= job) {
            return OUTSIDE;
        }
        if (machine.jobs[job].state != WAITING) {
            return NOT;
        }
        machine.jobs[job].ahead = other;
        return 1;
    }

    public int cancel(int job) {
        if (!machine.hasJob(job)) {
            return UNKNOWN;
        }
        Job gone = machine.jobs[job];
        if (gone.state != WAITING && gone.state != RUNNING) {
            return NOT;
        }
        machine.leaveNodes(gone);
        gone.state = GONE;
        return 1;
    }

    public int book(int n, int a, int b) {
        if (isOutside(n, 1, MOST_NODES) || a < machine.now || b <= a || b > LAST_BOOKED) {
            return OUTSIDE;
        }
        if (!machine.nodesFit(n, a, b)) {
            return NOT;
        }
        if (machine.holdCount >= MOST_BOOKINGS) {
            return FULL;
        }
        int number = machine.holdCount;
        machine.holds[number].set(n, 0, a, b);
        machine.holdCount++;
        return number;
    }

    public int unbook(int booking) {
        if (booking < 0 || booking >= machine.holdCount) {
            return UNKNOWN;
        }
        machine.dropBooking(booking);
        return 1;
    }

    public int ticks(int n) {
        if (isOutside(n, 1, MOST_TICKS) || machine.now + n > LAST_TIME) {
            return OUTSIDE;
        }
        for (int i = 0; i < n; i++) {
            machine.passTick(false);
        }
        return machine.now;
    }

    // ---- told

    public int told(int job, int what) {
        if (!machine.hasJob(job)) {
            return UNKNOWN;
        }
        Job asked = machine.jobs[job];
        switch (what) {
            case 0: return asked.state;
            case 1: return asked.begun;
            case 2: return asked.ended;
            case 3: return asked.saved;
            case 4: return asked.ranUntil(machine.now);
            case 5: return asked.racksHeld();
            default: return OUTSIDE;
        }
    }

    public int on(int job, int rack) {
        if (!machine.hasJob(job) || !machine.hasRack(rack)) {
            return UNKNOWN;
        }
        return machine.jobs[job].nodesOn[rack];
    }

    public int free(int rack) {
        return machine.hasRack(rack) ? machine.racks[rack].unused : UNKNOWN;
    }

    public int used(int account) {
        return machine.hasAccount(account) ? machine.accounts[account].use : UNKNOWN;
    }

    public int blocked(int way) {
        switch (way) {
            case 0: return machine.blockedJob;
            case 1: return machine.keptFrom;
            default: return OUTSIDE;
        }
    }

    public int taken(int way, int u) {
        if (isOutside(way, 0, 1) || isOutside(u, machine.now, machine.now + SEEN_AHEAD)) {
            return OUTSIDE;
        }
        return way == 0 ? machine.nodesTaken(u) : machine.licencesTaken(u);
    }

    public int foreseen(int job) {
        if (!machine.hasJob(job)) {
            return UNKNOWN;
        }
        Job asked = machine.jobs[job];
        if (asked.state == RUNNING) {
            return asked.begun;
        }
        if (asked.state != WAITING) {
            return NONE;
        }
        foresight.become(machine);
        Job played = foresight.jobs[job];
        for (int i = 0; i < SEEN_AHEAD && played.state == WAITING; i++) {
            foresight.passTick(true);
        }
        return played.state == WAITING ? NONE : played.begun;
    }

    public int count(int what) {
        switch (what) {
            case 0: return machine.rackCount;
            case 1: return machine.accountCount;
            case 2: return machine.jobCount;
            case 3: return machine.jobsThatAre(RUNNING);
            case 4: return machine.jobsThatAre(DONE);
            case 5: return machine.holdCount;
            case 6: return machine.now;
            case 7: return machine.room;
            default: return OUTSIDE;
        }
    }

    private static boolean isOutside(int number, int least, int most) {
        return number < least || number > most;
    }

    private static final class Rack {
        int nodes;
        int unused;
        boolean drained;

        void become(Rack other) {
            nodes = other.nodes;
            unused = other.unused;
            drained = other.drained;
        }
    }

    private static final class Account {
        int shares;
        int use;

        void become(Account other) {
            shares = other.shares;
            use = other.use;
        }

        /** Crosswise products, as the document compares fractions and no division is exact. */
        boolean usedLessThan(Account other) {
            return (long) use * other.shares < (long) other.use * shares;
        }
    }

    private static final class Job {
        int account;
        int nodes;
        int licences;
        int limit;
        int truly;
        int save;
        int ahead;
        int state;
        int begun;
        int ended;
        int saved;
        /** NODES of it that count as TAKEN while it runs: those on RACKS that are not DRAINED. */
        int counted;
        /** The first time that it takes no more, as far as its LIMIT tells; 0 if it does not run. */
        int takesUntil;
        final int[] nodesOn = new int[MOST_RACKS];

        void want(int itsAccount, int itsNodes, int itsLicences, int itsLimit, int itsNeed, int itsSave) {
            account = itsAccount;
            nodes = itsNodes;
            licences = itsLicences;
            limit = itsLimit;
            truly = itsNeed;
            save = itsSave;
            ahead = NONE;
            state = WAITING;
            begun = NONE;
            ended = NONE;
            saved = 0;
            counted = 0;
            takesUntil = 0;
        }

        void become(Job other) {
            account = other.account;
            nodes = other.nodes;
            licences = other.licences;
            limit = other.limit;
            truly = other.truly;
            save = other.save;
            ahead = other.ahead;
            state = other.state;
            begun = other.begun;
            ended = other.ended;
            saved = other.saved;
            counted = other.counted;
            takesUntil = other.takesUntil;
            System.arraycopy(other.nodesOn, 0, nodesOn, 0, MOST_RACKS);
        }

        /** As it was when it began, too: SAVED changes only when a job stops running. */
        int left() {
            return limit - saved;
        }

        int ranUntil(int time) {
            return state == RUNNING ? time - begun : 0;
        }

        void keepWhatWasSaved(int time) {
            if (save > 0) {
                int ran = ranUntil(time);
                saved += ran - ran % save;
            }
        }

        int racksHeld() {
            int held = 0;
            for (int i = 0; i < MOST_RACKS; i++) {
                if (nodesOn[i] > 0) {
                    held++;
                }
            }
            return held;
        }
    }

    /** Nodes and licences set aside for times: a BOOKING, or what is KEPT for the BLOCKED job. */
    private static final class Hold {
        int nodes;
        int licences;
        int from;
        int to;

        void set(int itsNodes, int itsLicences, int itsFrom, int itsTo) {
            nodes = itsNodes;
            licences = itsLicences;
            from = itsFrom;
            to = itsTo;
        }

        void become(Hold other) {
            set(other.nodes, other.licences, other.from, other.to);
        }

        boolean beginsWithin(int after, int end) {
            return from > after && from < end;
        }
    }

    /** The whole state and how a TICK changes it. Every row is made once and used again. */
    private static final class Machine {
        final Rack[] racks = new Rack[MOST_RACKS];
        final Account[] accounts = new Account[MOST_ACCOUNTS];
        final Job[] jobs = new Job[MOST_JOBS];
        /** One more than can be told: what is KEPT is a hold behind them while the queue is served. */
        final Hold[] holds = new Hold[MOST_BOOKINGS + 1];
        int rackCount;
        int accountCount;
        int jobCount;
        int holdCount;
        int now;
        int halving = FIRST_HALF;
        int licencesInAll = FIRST_LICENCES;
        int room;
        int blockedJob = NONE;
        int keptFrom = NONE;
        final int[] queue = new int[MOST_JOBS];
        int queueLength;

        Machine() {
            for (int i = 0; i < MOST_RACKS; i++) {
                racks[i] = new Rack();
            }
            for (int i = 0; i < MOST_ACCOUNTS; i++) {
                accounts[i] = new Account();
            }
            for (int i = 0; i < MOST_JOBS; i++) {
                jobs[i] = new Job();
            }
            for (int i = 0; i <= MOST_BOOKINGS; i++) {
                holds[i] = new Hold();
            }
        }

        /** Leaves out the queue and what is kept, as both are made anew in each TICK. */
        void become(Machine other) {
            rackCount = other.rackCount;
            accountCount = other.accountCount;
            jobCount = other.jobCount;
            holdCount = other.holdCount;
            now = other.now;
            halving = other.halving;
            licencesInAll = other.licencesInAll;
            room = other.room;
            for (int i = 0; i < rackCount; i++) {
                racks[i].become(other.racks[i]);
            }
            for (int i = 0; i < accountCount; i++) {
                accounts[i].become(other.accounts[i]);
            }
            for (int i = 0; i < jobCount; i++) {
                jobs[i].become(other.jobs[i]);
            }
            for (int i = 0; i < holdCount; i++) {
                holds[i].become(other.holds[i]);
            }
        }

        boolean hasRack(int rack) {
            return rack >= 0 && rack < rackCount;
        }

        boolean hasAccount(int account) {
            return account >= 0 && account < accountCount;
        }

        boolean hasJob(int job) {
            return job >= 0 && job < jobCount;
        }

        int addRack(int nodes) {
            int number = rackCount;
            racks[number].nodes = nodes;
            racks[number].unused = nodes;
            rackCount++;
            recount();
            return number;
        }

        int addAccount(int shares) {
            int number = accountCount;
            accounts[number].shares = shares;
            accountCount++;
            return number;
        }

        void dropBooking(int booking) {
            for (int i = booking; i + 1 < holdCount; i++) {
                holds[i].become(holds[i + 1]);
            }
            holdCount--;
        }

        int jobsThatAre(int state) {
            int found = 0;
            for (int i = 0; i < jobCount; i++) {
                if (jobs[i].state == state) {
                    found++;
                }
            }
            return found;
        }

        /** ROOM and what counts of the RUNNING jobs hang on which RACKS are DRAINED. */
        void recount() {
            room = 0;
            for (int i = 0; i < rackCount; i++) {
                room += racks[i].drained ? 0 : racks[i].nodes;
            }
            for (int i = 0; i < jobCount; i++) {
                jobs[i].counted = countedOf(jobs[i]);
            }
        }

        int countedOf(Job job) {
            int counted = 0;
            for (int i = 0; i < rackCount; i++) {
                counted += racks[i].drained ? 0 : job.nodesOn[i];
            }
            return counted;
        }

        int breakRack(int rack) {
            int struck = 0;
            for (int i = 0; i < jobCount; i++) {
                Job job = jobs[i];
                if (job.nodesOn[rack] > 0) {
                    job.keepWhatWasSaved(now);
                    leaveNodes(job);
                    job.state = WAITING;
                    struck++;
                }
            }
            return struck;
        }

        void leaveNodes(Job job) {
            for (int i = 0; i < rackCount; i++) {
                racks[i].unused += job.nodesOn[i];
                job.nodesOn[i] = 0;
            }
            job.counted = 0;
            job.takesUntil = 0;
        }

        int nodesTaken(int u) {
            int taken = 0;
            for (int i = 0; i < jobCount; i++) {
                if (u < jobs[i].takesUntil) {
                    taken += jobs[i].counted;
                }
            }
            for (int i = 0; i < holdCount; i++) {
                if (u >= holds[i].from && u < holds[i].to) {
                    taken += holds[i].nodes;
                }
            }
            return taken;
        }

        int licencesTaken(int u) {
            int taken = 0;
            for (int i = 0; i < jobCount; i++) {
                if (u < jobs[i].takesUntil) {
                    taken += jobs[i].licences;
                }
            }
            for (int i = 0; i < holdCount; i++) {
                if (u >= holds[i].from && u < holds[i].to) {
                    taken += holds[i].licences;
                }
            }
            return taken;
        }

        /** TAKEN grows only where a hold begins, so no other time behind the first need be looked at. */
        boolean nodesFit(int nodes, int from, int to) {
            boolean fit = nodes + nodesTaken(from) <= room;
            for (int i = 0; i < holdCount && fit; i++) {
                if (holds[i].beginsWithin(from, to)) {
                    fit = nodes + nodesTaken(holds[i].from) <= room;
                }
            }
            return fit;
        }

        boolean licencesFit(int licences, int from, int to) {
            boolean fit = licences + licencesTaken(from) <= licencesInAll;
            for (int i = 0; i < holdCount && fit; i++) {
                if (holds[i].beginsWithin(from, to)) {
                    fit = licences + licencesTaken(holds[i].from) <= licencesInAll;
                }
            }
            return fit;
        }

        boolean fits(Job job, int from) {
            int to = from + job.left();
            return nodesFit(job.nodes, from, to) && licencesFit(job.licences, from, to);
        }

        void passTick(boolean allLeft) {
            lineUp();
            serveQueue();
            runJobs(allLeft);
            now++;
            if (halving > 0 && now % halving == 0) {
                halveUse();
            }
        }

        void lineUp() {
            queueLength = 0;
            for (int i = 0; i < jobCount; i++) {
                if (mayBegin(jobs[i])) {
                    putInQueue(i);
                }
            }
        }

        boolean mayBegin(Job job) {
            if (job.state != WAITING) {
                return false;
            }
            return !hasJob(job.ahead) || jobs[job.ahead].state == DONE;
        }

        /** Jobs come here by their numbers, so one that used as little stays behind the others. */
        void putInQueue(int number) {
            Account account = accounts[jobs[number].account];
            int place = queueLength;
            while (place > 0 && account.usedLessThan(accounts[jobs[queue[place - 1]].account])) {
                queue[place] = queue[place - 1];
                place--;
            }
            queue[place] = number;
            queueLength++;
        }

        void serveQueue() {
            int bookings = holdCount;
            blockedJob = NONE;
            keptFrom = NONE;
            for (int i = 0; i < queueLength; i++) {
                Job job = jobs[queue[i]];
                if (fits(job, now)) {
                    begin(job);
                } else if (blockedJob == NONE) {
                    blockedJob = queue[i];
                    keptFrom = firstFit(job);
                    if (keptFrom != NONE && holdCount <= MOST_BOOKINGS) {
                        holds[holdCount].set(job.nodes, job.licences, keptFrom, keptFrom + job.left());
                        holdCount++;
                    }
                }
            }
            holdCount = bookings;
        }

        /**
         * A job that does not fit now can fit first only where TAKEN falls, and it falls only where
         * a running job or a booking ends: so only these times are tried.
         */
        int firstFit(Job job) {
            int time = nextEnd(now);
            for (int i = 0; i < MOST_JOBS + MOST_BOOKINGS; i++) {
                if (time == NONE || time > now + KEPT_AHEAD) {
                    return NONE;
                }
                if (fits(job, time)) {
                    return time;
                }
                time = nextEnd(time);
            }
            return NONE;
        }

        int nextEnd(int after) {
            int next = NONE;
            for (int i = 0; i < jobCount; i++) {
                next = nearer(next, jobs[i].takesUntil, after);
            }
            for (int i = 0; i < holdCount; i++) {
                next = nearer(next, holds[i].to, after);
            }
            return next;
        }

        static int nearer(int next, int end, int after) {
            if (end <= after) {
                return next;
            }
            return next == NONE ? end : Math.min(next, end);
        }

        void begin(Job job) {
            int set = fewestRacks(job.nodes);
            int wanting = job.nodes;
            for (int i = 0; i < rackCount; i++) {
                if (((set >> i) & 1) != 0) {
                    int got = Math.min(wanting, racks[i].unused);
                    racks[i].unused -= got;
                    job.nodesOn[i] = got;
                    wanting -= got;
                }
            }
            job.state = RUNNING;
            job.begun = now;
            job.counted = job.nodes;
            job.takesUntil = now + job.left();
        }

        /** Sets come by their numbers, so the least of those with as few racks stays. */
        int fewestRacks(int nodes) {
            int best = 0;
            for (int set = 1; set < 1 << rackCount; set++) {
                boolean fewer = best == 0 || Integer.bitCount(set) < Integer.bitCount(best);
                if (fewer && unusedOn(set) >= nodes) {
                    best = set;
                }
            }
            return best;
        }

        /** Free NODES of a set of RACKS together; none, if one of them is DRAINED. */
        int unusedOn(int set) {
            int unused = 0;
            for (int i = 0; i < rackCount; i++) {
                if (((set >> i) & 1) != 0) {
                    if (racks[i].drained) {
                        return 0;
                    }
                    unused += racks[i].unused;
                }
            }
            return unused;
        }

        void runJobs(boolean allLeft) {
            for (int i = 0; i < jobCount; i++) {
                if (jobs[i].state == RUNNING) {
                    runOne(jobs[i], allLeft);
                }
            }
        }

        void runOne(Job job, boolean allLeft) {
            accounts[job.account].use += job.nodes;
            int need = allLeft ? job.left() : job.truly - job.saved;
            if (job.ranUntil(now + 1) >= need) {
                leaveNodes(job);
                job.state = DONE;
                job.ended = now + 1;
            }
        }

        void halveUse() {
            for (int i = 0; i < accountCount; i++) {
                accounts[i].use /= 2;
            }
        }
    }
}
