import java.util.ArrayList;
import java.util.List;

/**
 * Plays many made-up runs of calls on GreatMachine and on a slow model that is written word by word
 * from the document (every node is a place of its own, TAKEN is looked at time by time), and
 * compares every answer. The numbers come from a fixed formula, so each run is always the same.
 */
public final class ModelRuns {
    private static final int RUNS = 256;
    private static final int CALLS = 512;
    private static int wrong = 0;

    public static void main(String[] args) {
        for (int run = 0; run < RUNS && wrong == 0; run++) {
            new Player(run).play();
        }
        System.out.println(wrong == 0 ? "class and model answer alike" : "class and model differ");
        if (wrong != 0) {
            System.exit(1);
        }
    }

    /** Makes up the calls of one run. */
    private static final class Player {
        final GreatMachine machine = new GreatMachine();
        final Model model = new Model();
        final List<String> told = new ArrayList<>();
        final int run;
        final int manyNodes;
        final int manyLicences;
        final int longLimit;
        long seed;

        Player(int run) {
            this.run = run;
            seed = run * 7919L + 17;
            manyNodes = new int[] {4, 9, 20, 64}[run % 4];
            manyLicences = new int[] {0, 3, 12, 100}[(run / 4) % 4];
            longLimit = new int[] {3, 8, 20, 50}[(run / 16) % 4];
        }

        int upTo(int most) {
            seed = seed * 6364136223846793005L + 1442695040888963407L;
            return (int) Long.remainderUnsigned(seed >>> 33, most + 1L);
        }

        int between(int least, int most) {
            return least + upTo(most - least);
        }

        /** Mostly a number that is taken, at times an edge or what is just behind it. */
        int mostly(int least, int most, int usual) {
            switch (upTo(29)) {
                case 0: return least - 1;
                case 1: return most + 1;
                case 2: return least;
                case 3: return most;
                case 4: return between(least - 3, most + 3);
                case 5: return upTo(200) == 0 ? Integer.MIN_VALUE : between(least, most);
                case 6: return upTo(200) == 0 ? Integer.MAX_VALUE : between(least, most);
                default: return between(least, Math.min(most, Math.max(least, usual)));
            }
        }

        int one(int count) {
            return upTo(24) == 0 ? between(-2, count + 1) : upTo(Math.max(0, count - 1));
        }

        void play() {
            for (int call = 0; call < CALLS && wrong == 0; call++) {
                if (call < 12) {
                    build(call);
                } else {
                    any();
                }
                if (call % 16 == 15) {
                    lookAround();
                }
            }
        }

        void build(int call) {
            if (call % 4 == 0 || call < 3) {
                rack();
            } else if (call % 4 == 1) {
                account();
            } else {
                job();
            }
        }

        void any() {
            int way = upTo(99);
            if (way < 2) {
                rack();
            } else if (way < 4) {
                account();
            } else if (way < 24) {
                job();
            } else if (way < 28) {
                drain();
            } else if (way < 31) {
                fail();
            } else if (way < 33) {
                licences();
            } else if (way < 35) {
                half();
            } else if (way < 40) {
                behind();
            } else if (way < 43) {
                cancel();
            } else if (way < 50) {
                book();
            } else if (way < 53) {
                unbook();
            } else if (way < 75) {
                ticks();
            } else {
                ask();
            }
        }

        void rack() {
            int n = mostly(1, 16, Math.max(1, manyNodes));
            same("rack(" + n + ")", machine.rack(n), model.rack(n));
        }

        void account() {
            int n = mostly(1, 100, 4);
            same("account(" + n + ")", machine.account(n), model.account(n));
        }

        void job() {
            int account = one(model.accounts.size());
            int nodes = mostly(1, 64, manyNodes);
            int licences = mostly(0, 100, manyLicences);
            int limit = mostly(1, 50, longLimit);
            int truly = upTo(2) == 0 ? limit : mostly(1, Math.max(1, limit), limit);
            int save = mostly(0, 50, Math.max(0, limit / 2));
            same("job(" + account + ", " + nodes + ", " + licences + ", " + limit + ", " + truly + ", " + save + ")",
                    machine.job(account, nodes, licences, limit, truly, save),
                    model.job(account, nodes, licences, limit, truly, save));
        }

        void drain() {
            int rack = one(model.racks.size());
            boolean on = upTo(2) == 0;
            same("drain(" + rack + ", " + on + ")", machine.drain(rack, on), model.drain(rack, on));
        }

        void fail() {
            int rack = one(model.racks.size());
            same("fail(" + rack + ")", machine.fail(rack), model.fail(rack));
        }

        void licences() {
            int n = mostly(0, 100, Math.max(10, manyLicences * 2));
            same("licences(" + n + ")", machine.licences(n), model.licences(n));
        }

        void half() {
            int n = mostly(1, 1000, 12);
            same("half(" + n + ")", machine.half(n), model.half(n));
        }

        void behind() {
            int job = one(model.jobs.size());
            int other = upTo(4) == 0 ? -1 : one(upTo(9) == 0 ? model.jobs.size() : Math.max(1, job));
            same("behind(" + job + ", " + other + ")", machine.behind(job, other), model.behind(job, other));
        }

        void cancel() {
            int job = one(model.jobs.size());
            same("cancel(" + job + ")", machine.cancel(job), model.cancel(job));
        }

        void book() {
            int n = mostly(1, 64, manyNodes);
            int a = model.time + between(upTo(19) == 0 ? -2 : 0, 40);
            int b = upTo(39) == 0 ? between(2995, 3004) : a + between(upTo(19) == 0 ? -1 : 1, 25);
            same("book(" + n + ", " + a + ", " + b + ")", machine.book(n, a, b), model.book(n, a, b));
        }

        void unbook() {
            int booking = one(model.bookings.size());
            same("unbook(" + booking + ")", machine.unbook(booking), model.unbook(booking));
        }

        void ticks() {
            int n = upTo(19) == 0 ? mostly(1, 100, 100) : between(1, upTo(3) == 0 ? longLimit : 2);
            same("ticks(" + n + ")", machine.ticks(n), model.ticks(n));
        }

        void ask() {
            int job = one(model.jobs.size());
            int way = upTo(9);
            if (way < 5) {
                int what = mostly(0, 5, 5);
                same("told(" + job + ", " + what + ")", machine.told(job, what), model.told(job, what));
            } else if (way < 7) {
                same("foreseen(" + job + ")", machine.foreseen(job), model.foreseen(job));
            } else if (way < 8) {
                int what = mostly(0, 7, 7);
                same("count(" + what + ")", machine.count(what), model.count(what));
            } else if (way < 9) {
                int kind = mostly(0, 1, 1);
                int u = model.time + mostly(0, 300, 60);
                same("taken(" + kind + ", " + u + ")", machine.taken(kind, u), model.taken(kind, u));
            } else {
                int what = between(-1, 2);
                same("blocked(" + what + ")", machine.blocked(what), model.blocked(what));
                int rack = between(-1, 4);
                same("free(" + rack + ")", machine.free(rack), model.free(rack));
            }
        }

        /** Every answer that tells of the state; a change that a refused call made is seen here, too. */
        void lookAround() {
            for (int job = -1; job <= model.jobs.size(); job++) {
                for (int what = -1; what <= 6; what++) {
                    seen("told", job, what, machine.told(job, what), model.told(job, what));
                }
                for (int rack = -1; rack <= 4; rack++) {
                    seen("on", job, rack, machine.on(job, rack), model.on(job, rack));
                }
            }
            for (int i = -1; i <= 8; i++) {
                seen("free", i, 0, machine.free(i), model.free(i));
                seen("used", i, 0, machine.used(i), model.used(i));
                seen("count", i, 0, machine.count(i), model.count(i));
            }
            for (int way = -1; way <= 2; way++) {
                seen("blocked", way, 0, machine.blocked(way), model.blocked(way));
                for (int i = -1; i <= 301; i += i < 60 ? 1 : 13) {
                    int u = model.time + i;
                    seen("taken", way, u, machine.taken(way, u), model.taken(way, u));
                }
            }
        }

        /** Builds no text for the many answers that agree. */
        void seen(String name, int a, int b, int got, int due) {
            if (got != due) {
                same(name + " of " + a + " and " + b, got, due);
            }
        }

        void same(String call, int got, int due) {
            told.add(call + " = " + due);
            if (got != due && wrong++ == 0) {
                System.out.println("run " + run + ": " + call + " answered " + got + ", the model " + due);
                for (String line : told) {
                    System.out.println("  " + line);
                }
            }
        }
    }

    private static final class Rack {
        int[] jobOf;
        boolean drained;
    }

    private static final class Account {
        int shares;
        int used;
    }

    private static final class Job {
        int number;
        int account;
        int nodes;
        int licences;
        int limit;
        int truly;
        int save;
        int behind = -1;
        int state = 0;
        int began = -1;
        int leftThen;
        int done = -1;
        int saved;
        int ran;

        Job copy() {
            Job twin = new Job();
            twin.number = number;
            twin.account = account;
            twin.nodes = nodes;
            twin.licences = licences;
            twin.limit = limit;
            twin.truly = truly;
            twin.save = save;
            twin.behind = behind;
            twin.state = state;
            twin.began = began;
            twin.leftThen = leftThen;
            twin.done = done;
            twin.saved = saved;
            twin.ran = ran;
            return twin;
        }
    }

    /** The document, word by word; slow, and with the whole Java library at hand. */
    private static final class Model {
        final List<Rack> racks = new ArrayList<>();
        final List<Account> accounts = new ArrayList<>();
        final List<Job> jobs = new ArrayList<>();
        final List<int[]> bookings = new ArrayList<>();
        int licences = 10;
        int half = 100;
        int time = 0;
        int blockedJob = -1;
        int keptFrom = -1;
        boolean allLeft = false;

        Model copy() {
            Model twin = new Model();
            for (Rack rack : racks) {
                Rack r = new Rack();
                r.jobOf = rack.jobOf.clone();
                r.drained = rack.drained;
                twin.racks.add(r);
            }
            for (Account account : accounts) {
                Account a = new Account();
                a.shares = account.shares;
                a.used = account.used;
                twin.accounts.add(a);
            }
            for (Job job : jobs) {
                twin.jobs.add(job.copy());
            }
            for (int[] booking : bookings) {
                twin.bookings.add(booking.clone());
            }
            twin.licences = licences;
            twin.half = half;
            twin.time = time;
            return twin;
        }

        static boolean within(long n, long least, long most) {
            return least <= n && n <= most;
        }

        int rack(int nodes) {
            if (!within(nodes, 1, 16)) {
                return -3;
            }
            if (racks.size() == 4) {
                return -5;
            }
            Rack rack = new Rack();
            rack.jobOf = new int[nodes];
            java.util.Arrays.fill(rack.jobOf, -1);
            racks.add(rack);
            return racks.size() - 1;
        }

        int drain(int rack, boolean on) {
            if (!within(rack, 0, racks.size() - 1)) {
                return -2;
            }
            int was = racks.get(rack).drained ? 1 : 0;
            racks.get(rack).drained = on;
            return was;
        }

        int fail(int rack) {
            if (!within(rack, 0, racks.size() - 1)) {
                return -2;
            }
            int again = 0;
            for (Job job : jobs) {
                if (job.state == 1 && on(job.number, rack) > 0) {
                    if (job.save > 0) {
                        job.saved = (job.saved + job.ran) / job.save * job.save;
                    }
                    job.state = 0;
                    again++;
                    clear(job.number);
                }
            }
            return again;
        }

        void clear(int job) {
            for (Rack rack : racks) {
                for (int i = 0; i < rack.jobOf.length; i++) {
                    if (rack.jobOf[i] == job) {
                        rack.jobOf[i] = -1;
                    }
                }
            }
        }

        int licences(int n) {
            if (!within(n, 0, 100)) {
                return -3;
            }
            int was = licences;
            licences = n;
            return was;
        }

        int half(int n) {
            if (!within(n, 1, 1000)) {
                return -3;
            }
            int was = half;
            half = n;
            return was;
        }

        int account(int shares) {
            if (!within(shares, 1, 100)) {
                return -3;
            }
            if (accounts.size() == 6) {
                return -5;
            }
            Account account = new Account();
            account.shares = shares;
            accounts.add(account);
            return accounts.size() - 1;
        }

        int job(int account, int nodes, int wanted, int limit, int truly, int save) {
            if (!within(account, 0, accounts.size() - 1)) {
                return -2;
            }
            if (!within(nodes, 1, 64) || !within(wanted, 0, 100) || !within(limit, 1, 50)
                    || !within(truly, 1, limit) || !within(save, 0, 50)) {
                return -3;
            }
            if (jobs.size() == 30) {
                return -5;
            }
            Job job = new Job();
            job.number = jobs.size();
            job.account = account;
            job.nodes = nodes;
            job.licences = wanted;
            job.limit = limit;
            job.truly = truly;
            job.save = save;
            jobs.add(job);
            return job.number;
        }

        boolean known(int job) {
            return within(job, 0, jobs.size() - 1);
        }

        int behind(int job, int other) {
            if (!known(job) || !(other == -1 || known(other))) {
                return -2;
            }
            if (other >= job) {
                return -3;
            }
            if (jobs.get(job).state != 0) {
                return -4;
            }
            jobs.get(job).behind = other;
            return 1;
        }

        int cancel(int job) {
            if (!known(job)) {
                return -2;
            }
            if (jobs.get(job).state > 1) {
                return -4;
            }
            jobs.get(job).state = 3;
            clear(job);
            return 1;
        }

        int book(int n, int a, int b) {
            if (!within(n, 1, 64) || a < time || b <= a || b > 3000) {
                return -3;
            }
            for (int u = a; u < b; u++) {
                if (takenNodes(u, null) + n > room()) {
                    return -4;
                }
            }
            if (bookings.size() == 8) {
                return -5;
            }
            bookings.add(new int[] {n, a, b});
            return bookings.size() - 1;
        }

        int unbook(int booking) {
            if (!within(booking, 0, bookings.size() - 1)) {
                return -2;
            }
            bookings.remove(booking);
            return 1;
        }

        int ticks(int n) {
            if (!within(n, 1, 100) || time + n > 2000) {
                return -3;
            }
            for (int i = 0; i < n; i++) {
                tick();
            }
            return time;
        }

        int room() {
            int room = 0;
            for (Rack rack : racks) {
                if (!rack.drained) {
                    room += rack.jobOf.length;
                }
            }
            return room;
        }

        int takenNodes(int u, int[] kept) {
            int taken = kept != null && within(u, kept[0], kept[1] - 1) ? kept[2] : 0;
            for (Job job : jobs) {
                if (job.state == 1 && job.began + job.leftThen > u) {
                    for (int rack = 0; rack < racks.size(); rack++) {
                        taken += racks.get(rack).drained ? 0 : on(job.number, rack);
                    }
                }
            }
            for (int[] booking : bookings) {
                taken += within(u, booking[1], booking[2] - 1) ? booking[0] : 0;
            }
            return taken;
        }

        int takenLicences(int u, int[] kept) {
            int taken = kept != null && within(u, kept[0], kept[1] - 1) ? kept[3] : 0;
            for (Job job : jobs) {
                if (job.state == 1 && job.began + job.leftThen > u) {
                    taken += job.licences;
                }
            }
            return taken;
        }

        /** At which of the times from now on there is enough for a job; enough for all s that are asked. */
        boolean[] enough(Job job, int[] kept, int times) {
            boolean[] enough = new boolean[times];
            int room = room();
            for (int i = 0; i < times; i++) {
                enough[i] = job.nodes + takenNodes(time + i, kept) <= room
                        && job.licences + takenLicences(time + i, kept) <= licences;
            }
            return enough;
        }

        static boolean fits(boolean[] enough, int from, int left) {
            for (int i = from; i < from + left; i++) {
                if (!enough[i]) {
                    return false;
                }
            }
            return true;
        }

        void tick() {
            serve();
            for (Job job : jobs) {
                if (job.state == 1) {
                    job.ran++;
                    accounts.get(job.account).used += job.nodes;
                    if (job.ran >= (allLeft ? job.leftThen : job.truly - job.saved)) {
                        job.state = 2;
                        job.done = time + 1;
                        clear(job.number);
                    }
                }
            }
            time++;
            if (time % half == 0) {
                for (Account account : accounts) {
                    account.used = account.used / 2;
                }
            }
        }

        void serve() {
            List<Job> queue = new ArrayList<>();
            for (Job job : jobs) {
                if (job.state == 0 && (job.behind == -1 || jobs.get(job.behind).state == 2)) {
                    queue.add(job);
                }
            }
            queue.sort((x, y) -> {
                Account a = accounts.get(x.account);
                Account b = accounts.get(y.account);
                int order = Long.compare((long) a.used * b.shares, (long) b.used * a.shares);
                return order != 0 ? order : Integer.compare(x.number, y.number);
            });
            blockedJob = -1;
            keptFrom = -1;
            int[] kept = null;
            for (Job job : queue) {
                int left = job.limit - job.saved;
                if (fits(enough(job, kept, left), 0, left)) {
                    begin(job);
                } else if (blockedJob == -1) {
                    blockedJob = job.number;
                    boolean[] enough = enough(job, null, 201 + left);
                    for (int s = 0; s <= 200 && keptFrom == -1; s++) {
                        if (fits(enough, s, left)) {
                            keptFrom = time + s;
                            kept = new int[] {keptFrom, keptFrom + left, job.nodes, job.licences};
                        }
                    }
                }
            }
        }

        void begin(Job job) {
            List<Integer> best = null;
            for (int set = 0; set < 16; set++) {
                List<Integer> members = new ArrayList<>();
                int together = 0;
                boolean all = true;
                for (int rack = 0; rack < 4; rack++) {
                    if ((set & (1 << rack)) != 0) {
                        all = all && rack < racks.size() && !racks.get(rack).drained;
                        members.add(rack);
                        together += all ? free(rack) : 0;
                    }
                }
                if (all && together >= job.nodes && (best == null || members.size() < best.size())) {
                    best = members;
                }
            }
            int wants = job.nodes;
            for (int rack : best) {
                int[] jobOf = racks.get(rack).jobOf;
                for (int i = 0; i < jobOf.length; i++) {
                    if (jobOf[i] == -1 && wants > 0) {
                        jobOf[i] = job.number;
                        wants--;
                    }
                }
            }
            job.state = 1;
            job.began = time;
            job.leftThen = job.limit - job.saved;
            job.ran = 0;
        }

        int told(int job, int what) {
            if (!known(job)) {
                return -2;
            }
            Job asked = jobs.get(job);
            if (what == 0) {
                return asked.state;
            } else if (what == 1) {
                return asked.began;
            } else if (what == 2) {
                return asked.done;
            } else if (what == 3) {
                return asked.saved;
            } else if (what == 4) {
                return asked.state == 1 ? asked.ran : 0;
            } else if (what == 5) {
                int held = 0;
                for (int rack = 0; rack < racks.size(); rack++) {
                    held += on(job, rack) > 0 ? 1 : 0;
                }
                return held;
            }
            return -3;
        }

        int on(int job, int rack) {
            if (!known(job) || !within(rack, 0, racks.size() - 1)) {
                return -2;
            }
            return has(rack, job);
        }

        int free(int rack) {
            return within(rack, 0, racks.size() - 1) ? has(rack, -1) : -2;
        }

        int has(int rack, int job) {
            int nodes = 0;
            for (int of : racks.get(rack).jobOf) {
                nodes += of == job ? 1 : 0;
            }
            return nodes;
        }

        int used(int account) {
            return within(account, 0, accounts.size() - 1) ? accounts.get(account).used : -2;
        }

        int blocked(int way) {
            return way == 0 ? blockedJob : way == 1 ? keptFrom : -3;
        }

        int taken(int way, int u) {
            if (!within(way, 0, 1) || !within(u, time, time + 300L)) {
                return -3;
            }
            return way == 0 ? takenNodes(u, null) : takenLicences(u, null);
        }

        int foreseen(int job) {
            if (!known(job)) {
                return -2;
            }
            if (jobs.get(job).state != 0) {
                return jobs.get(job).state == 1 ? jobs.get(job).began : -1;
            }
            Model later = copy();
            later.allLeft = true;
            for (int i = 0; i < 300; i++) {
                later.tick();
                if (later.jobs.get(job).began != jobs.get(job).began) {
                    return later.jobs.get(job).began;
                }
            }
            return -1;
        }

        int count(int what) {
            int running = 0;
            int done = 0;
            for (Job job : jobs) {
                running += job.state == 1 ? 1 : 0;
                done += job.state == 2 ? 1 : 0;
            }
            int[] counts = {racks.size(), accounts.size(), jobs.size(), running, done, bookings.size(), time, room()};
            return within(what, 0, 7) ? counts[what] : -3;
        }
    }
}
