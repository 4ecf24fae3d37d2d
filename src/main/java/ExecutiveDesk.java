/** An executive: named objects, handles with rights, scheduled threads, waits, calls and transfers. */
public final class ExecutiveDesk {
    public static final int REFUSED = -1, FULL = -2, NOBODY = -3, HIGH = -4, DENIED = -5, TAKEN = -6, NONE = -7, LIMIT = -8, NOT_OWNER = -9, WAITING = -10, TIMEOUT = -11, ALERTED = -12;
    public static final int PENDING = 0, WELL = 1, TOO_LONG = 2, BEYOND = 3, BROKEN = 4, CANCELLED = 5;

    private static final int ABSENT = -1;

    private static final int PROCESSES = 4;
    private static final int THREADS = 8;
    private static final int OBJECTS = 16;
    private static final int TRANSFERS = 8;
    private static final int HANDLES = 8;
    private static final int PRIORITIES = 8;
    private static final int GROUPS = 8;
    private static final int RULES = 4;
    private static final int CALLS = 4;
    private static final int INTERRUPTS = 8;
    private static final int PLACES = 3;

    private static final int NOTE = 0;
    private static final int GATE = 1;
    private static final int MUTANT = 2;
    private static final int SEMAPHORE = 3;
    private static final int TIMER = 4;
    private static final int DEVICE = 5;

    private static final int ASK = 1;
    private static final int CHANGE = 2;
    private static final int WAIT = 4;
    private static final int ALL_RIGHTS = 7;

    private static final int RUNNING = 0;
    private static final int READY = 1;
    private static final int WAITS = 2;
    private static final int ENDED = 3;

    private static final int FILTER = 1;
    private static final int VOLUME = 2;
    private static final int RETRIES = 4;
    private static final int FILTER_LENGTH = 64;
    private static final int VOLUME_SIZE = 128;

    private static final int MOST_COUNT = 9;
    private static final int LAST_NAME = 15;
    private static final int LAST_TIME = 99;
    private static final int LAST_CALL = 99;
    private static final int LAST_PLACE = 255;
    private static final int LAST_LENGTH = 99;
    private static final int LAST_TICKS = 9;
    private static final int QUANTUM = 3;
    private static final int WAS_ABANDONED = 16;

    private final ProcessState[] processes = new ProcessState[PROCESSES];
    private final Scheduler scheduler = new Scheduler();
    private final ThreadState[] threads = scheduler.threads;
    private final ObjectState[] objects = new ObjectState[OBJECTS];
    private final TransferState[] transfers = new TransferState[TRANSFERS];
    private final Row waiting = new Row(THREADS);
    private final Row interrupts = new Row(INTERRUPTS);
    private int processCount;
    private int threadCount;
    private int overCount;
    private int clock;
    private int currentLevel;

    public ExecutiveDesk() {
        for (int p = 0; p < PROCESSES; p++) {
            processes[p] = new ProcessState();
        }
        for (int o = 0; o < OBJECTS; o++) {
            objects[o] = new ObjectState();
        }
        for (int i = 0; i < TRANSFERS; i++) {
            transfers[i] = new TransferState();
        }
    }

    public int process(int groups) {
        if (!isWithin(groups, 0, (1 << GROUPS) - 1)) {
            return REFUSED;
        }
        if (processCount == PROCESSES) {
            return FULL;
        }
        processes[processCount].groups = groups;
        processCount++;
        return processCount - 1;
    }

    public int thread(int p, int priority) {
        if (!isWithin(p, 0, processCount - 1) || processes[p].hasEnded() || !isWithin(priority, 0, PRIORITIES - 1)) {
            return REFUSED;
        }
        if (threadCount == THREADS) {
            return FULL;
        }
        int t = threadCount;
        threadCount++;
        processes[p].threadsMade++;
        processes[p].threadsAlive++;
        threads[t].process = p;
        threads[t].priority = priority;
        scheduler.makeReady(t);
        lookWhoRuns();
        return t;
    }

    public int create(int type, int a, int name) {
        if (scheduler.running == ABSENT) {
            return NOBODY;
        }
        if (!isWithin(type, NOTE, DEVICE) || !isWithin(a, 0, mostAtFirst(type)) || !isWithin(name, ABSENT, LAST_NAME)) {
            return REFUSED;
        }
        if (name != ABSENT && objectNamed(name) != ABSENT) {
            return TAKEN;
        }
        ProcessState process = processOfRunning();
        int h = process.freeHandle();
        int o = freeObject();
        if (h == ABSENT || o == ABSENT) {
            return FULL;
        }
        objects[o].begin(type, a, name);
        if (type == MUTANT && a == 1) {
            objects[o].owner = scheduler.running;
        }
        giveHandle(process, h, o, ALL_RIGHTS);
        return h;
    }

    public int open(int name, int rights) {
        if (scheduler.running == ABSENT) {
            return NOBODY;
        }
        if (!isWithin(name, 0, LAST_NAME) || !isWithin(rights, 1, ALL_RIGHTS)) {
            return REFUSED;
        }
        int o = objectNamed(name);
        if (o == ABSENT) {
            return NONE;
        }
        ProcessState process = processOfRunning();
        if (!objects[o].rules.grants(process.groups, rights)) {
            return DENIED;
        }
        int h = process.freeHandle();
        if (h == ABSENT) {
            return FULL;
        }
        giveHandle(process, h, o, rights);
        return h;
    }

    public int close(int h) {
        if (scheduler.running == ABSENT) {
            return NOBODY;
        }
        ProcessState process = processOfRunning();
        int o = process.objectOf(h);
        if (o == ABSENT) {
            return REFUSED;
        }
        dropHandle(process, h);
        return objects[o].handles;
    }

    public int rule(int h, int kind, int group, int rights) {
        if (scheduler.running == ABSENT) {
            return NOBODY;
        }
        ProcessState process = processOfRunning();
        int o = process.objectOf(h);
        if (o == ABSENT || !isWithin(kind, RuleList.DENY, RuleList.ALLOW)) {
            return REFUSED;
        }
        if (!isWithin(group, 0, GROUPS - 1) || !isWithin(rights, 1, ALL_RIGHTS)) {
            return REFUSED;
        }
        if (process.lacks(h, CHANGE)) {
            return DENIED;
        }
        RuleList rules = objects[o].rules;
        if (rules.size == RULES) {
            return FULL;
        }
        rules.append(kind, group, rights);
        return rules.size;
    }

    public int set(int h, int n) {
        if (scheduler.running == ABSENT) {
            return NOBODY;
        }
        ProcessState process = processOfRunning();
        int o = process.objectOf(h);
        if (o == ABSENT || !canBeSetTo(objects[o].type, n)) {
            return REFUSED;
        }
        if (process.lacks(h, CHANGE)) {
            return DENIED;
        }
        int answer = change(objects[o], n);
        lookWhoRuns();
        return answer;
    }

    public int await(int h1, int h2, int h3, int how, int timeout) {
        if (scheduler.running == ABSENT) {
            return NOBODY;
        }
        if (currentLevel == 1) {
            return HIGH;
        }
        ProcessState process = processOfRunning();
        if (!isWithin(how, 0, 3) || !isWithin(timeout, -1, LAST_TIME) || !canBeAwaited(process, h1, h2, h3)) {
            return REFUSED;
        }
        if (process.lacks(h1, WAIT) || process.lacks(h2, WAIT) || process.lacks(h3, WAIT)) {
            return DENIED;
        }
        int t = scheduler.running;
        ThreadState thread = threads[t];
        thread.wish(process.objectOf(h1), process.objectOf(h2), process.objectOf(h3), how);
        if (thread.mayBeAlerted && thread.calls.size > 0) {
            thread.deliverCalls();
            return ALERTED;
        }
        int result = satisfy(t);
        if (result != WAITING) {
            return result;
        }
        if (timeout == 0) {
            return TIMEOUT;
        }
        beginWait(t, timeout);
        lookWhoRuns();
        return WAITING;
    }

    public int call(int t, int n) {
        if (!isWithin(t, 0, threadCount - 1) || threads[t].state == ENDED || !isWithin(n, 1, LAST_CALL)) {
            return REFUSED;
        }
        ThreadState thread = threads[t];
        if (thread.calls.size == CALLS) {
            return FULL;
        }
        thread.calls.addLast(n);
        alertIfDue(t);
        lookWhoRuns();
        return thread.calls.size;
    }

    public int level(int level) {
        if (scheduler.running == ABSENT) {
            return NOBODY;
        }
        if (!isWithin(level, 0, 1)) {
            return REFUSED;
        }
        int before = currentLevel;
        currentLevel = level;
        if (before == 1 && level == 0) {
            for (int left = interrupts.size; left > 0; left--) {
                int next = interrupts.removeFirst();
                ObjectState device = objects[next % OBJECTS];
                device.pointers--;
                finishFirst(device, next >= OBJECTS);
            }
            for (int t = 0; t < threadCount; t++) {
                alertIfDue(t);
            }
            lookWhoRuns();
        }
        return before;
    }

    public int interrupt(int o, boolean well) {
        if (!isThere(o) || objects[o].type != DEVICE) {
            return REFUSED;
        }
        if (currentLevel == 0) {
            finishFirst(objects[o], well);
            lookWhoRuns();
            return 1;
        }
        if (interrupts.size == INTERRUPTS) {
            return FULL;
        }
        // One number holds both the device and how it ended, so that a row of numbers is enough.
        interrupts.addLast(well ? o + OBJECTS : o);
        objects[o].pointers++;
        return 0;
    }

    public int transfer(int h, int place, int length, int e) {
        if (scheduler.running == ABSENT) {
            return NOBODY;
        }
        ProcessState process = processOfRunning();
        int device = process.objectOf(h);
        int target = process.objectOf(e);
        if (!isOfType(device, DEVICE, DEVICE) || !isWithin(place, 0, LAST_PLACE) || !isWithin(length, 1, LAST_LENGTH)) {
            return REFUSED;
        }
        if (e != ABSENT && !isOfType(target, NOTE, GATE)) {
            return REFUSED;
        }
        if (process.lacks(h, ASK) || process.lacks(e, CHANGE)) {
            return DENIED;
        }
        int i = freeTransfer();
        if (i == ABSENT) {
            return FULL;
        }
        transfers[i].begin(scheduler.running, device, length, target);
        pointToObjectsOf(transfers[i], 1);
        sendDown(i, place);
        lookWhoRuns();
        return i;
    }

    public int cancel(int i) {
        if (scheduler.running == ABSENT) {
            return NOBODY;
        }
        if (!isPending(i)) {
            return REFUSED;
        }
        int answer = withdraw(i);
        lookWhoRuns();
        return answer;
    }

    public int exit() {
        if (scheduler.running == ABSENT) {
            return NOBODY;
        }
        if (currentLevel == 1) {
            return HIGH;
        }
        int t = scheduler.running;
        scheduler.running = ABSENT;
        threads[t].state = ENDED;
        abandonMutantsOf(t);
        for (int i = 0; i < TRANSFERS; i++) {
            if (isPending(i) && transfers[i].thread == t) {
                withdraw(i);
            }
        }
        threads[t].calls.size = 0;
        ProcessState process = processes[threads[t].process];
        process.threadsAlive--;
        if (process.hasEnded()) {
            dropAllHandles(process);
        }
        lookWhoRuns();
        return t;
    }

    public int tick(int n) {
        if (!isWithin(n, 1, LAST_TICKS)) {
            return REFUSED;
        }
        for (int i = 0; i < n; i++) {
            passOneTick();
        }
        return clock;
    }

    public int actor(int t, int what) {
        if (!isWithin(t, 0, threadCount - 1)) {
            return REFUSED;
        }
        ThreadState thread = threads[t];
        switch (what) {
            case 0: return thread.state;
            case 1: return thread.process;
            case 2: return thread.priority;
            case 3: return thread.result;
            case 4: return thread.calls.size;
            case 5: return thread.delivered;
            case 6: return thread.latestCall;
            case 7: return thread.used;
            case 8: return thread.state == WAITS && thread.deadline != ABSENT ? thread.deadline - clock : ABSENT;
            default: return REFUSED;
        }
    }

    public int object(int o, int what) {
        if (!isThere(o)) {
            return REFUSED;
        }
        ObjectState object = objects[o];
        switch (what) {
            case 0: return object.type;
            case 1: return object.currentName();
            case 2: return object.handles;
            case 3: return object.pointers;
            case 4: return object.type == DEVICE ? object.row.size : object.value;
            case 5: return detailOf(object);
            case 6: return object.abandoned ? 1 : 0;
            case 7: return object.rules.size;
            default: return REFUSED;
        }
    }

    public int io(int i, int what) {
        if (!isWithin(i, 0, TRANSFERS - 1) || transfers[i].status == ABSENT) {
            return REFUSED;
        }
        TransferState transfer = transfers[i];
        switch (what) {
            case 0: return transfer.status;
            case 1: return transfer.amount;
            case 2: return transfer.thread;
            case 3: return transfer.device;
            case 4: return transfer.length;
            case 5: return transfer.status == PENDING && transfer.toBeCancelled ? 1 : 0;
            case 6: return transfer.retried ? 1 : 0;
            default: return REFUSED;
        }
    }

    public int handle(int p, int h, int what) {
        if (!isWithin(p, 0, processCount - 1) || processes[p].objectOf(h) == ABSENT) {
            return REFUSED;
        }
        switch (what) {
            case 0: return processes[p].objectOf(h);
            case 1: return processes[p].rightsOf(h);
            default: return REFUSED;
        }
    }

    public int count(int what) {
        switch (what) {
            case 0: return scheduler.running;
            case 1: return clock;
            case 2: return currentLevel;
            case 3: return processCount;
            case 4: return threadCount;
            case 5: return objectsThere();
            case 6: return interrupts.size;
            case 7: return scheduler.switches;
            case 8: return overCount;
            default: return REFUSED;
        }
    }

    private static boolean isWithin(int n, int least, int most) {
        return n >= least && n <= most;
    }

    private static int mostAtFirst(int type) {
        switch (type) {
            case SEMAPHORE: return MOST_COUNT;
            case TIMER: return 0;
            case DEVICE: return FILTER + VOLUME + RETRIES;
            default: return 1;
        }
    }

    private static boolean canBeSetTo(int type, int n) {
        switch (type) {
            case NOTE:
            case GATE: return isWithin(n, 0, 1);
            case MUTANT: return n == 1;
            case SEMAPHORE: return isWithin(n, 1, MOST_COUNT);
            case TIMER: return isWithin(n, 0, LAST_TIME);
            default: return false;
        }
    }

    /** At level 1 the running thread is left alone; the call that ends level 1 looks again. */
    private void lookWhoRuns() {
        if (currentLevel == 0) {
            scheduler.look();
        }
    }

    private ProcessState processOfRunning() {
        return processes[threads[scheduler.running].process];
    }

    private boolean isThere(int o) {
        return isWithin(o, 0, OBJECTS - 1) && objects[o].isThere();
    }

    private boolean isOfType(int o, int least, int most) {
        return o != ABSENT && isWithin(objects[o].type, least, most);
    }

    private boolean isPending(int i) {
        return isWithin(i, 0, TRANSFERS - 1) && transfers[i].status == PENDING;
    }

    private int objectNamed(int name) {
        for (int o = 0; o < OBJECTS; o++) {
            if (objects[o].currentName() == name) {
                return o;
            }
        }
        return ABSENT;
    }

    private int freeObject() {
        for (int o = 0; o < OBJECTS; o++) {
            if (!objects[o].isThere()) {
                return o;
            }
        }
        return ABSENT;
    }

    private int freeTransfer() {
        for (int i = 0; i < TRANSFERS; i++) {
            if (transfers[i].status != PENDING) {
                return i;
            }
        }
        return ABSENT;
    }

    private int objectsThere() {
        int there = 0;
        for (int o = 0; o < OBJECTS; o++) {
            if (objects[o].isThere()) {
                there++;
            }
        }
        return there;
    }

    private int detailOf(ObjectState object) {
        switch (object.type) {
            case MUTANT: return object.owner;
            case TIMER: return object.due == ABSENT ? 0 : object.due - clock;
            case DEVICE: return object.row.first();
            default: return 0;
        }
    }

    private void giveHandle(ProcessState process, int h, int o, int rights) {
        process.handleObjects[h] = o;
        process.handleRights[h] = rights;
        objects[o].handles++;
    }

    private void dropHandle(ProcessState process, int h) {
        objects[process.handleObjects[h]].handles--;
        process.handleObjects[h] = ABSENT;
    }

    private void dropAllHandles(ProcessState process) {
        for (int h = 0; h < HANDLES; h++) {
            if (process.objectOf(h) != ABSENT) {
                dropHandle(process, h);
            }
        }
    }

    private int change(ObjectState object, int n) {
        switch (object.type) {
            case SEMAPHORE: return raiseCount(object, n);
            case MUTANT: return giveBack(object);
            case TIMER: return startTimer(object, n);
            default: return turnTo(object, n);
        }
    }

    private int turnTo(ObjectState object, int n) {
        int before = object.value;
        object.value = n;
        if (n == 1) {
            release();
        }
        return before;
    }

    private int raiseCount(ObjectState semaphore, int n) {
        int before = semaphore.value;
        if (before + n > MOST_COUNT) {
            return LIMIT;
        }
        semaphore.value = before + n;
        release();
        return before;
    }

    private int giveBack(ObjectState mutant) {
        if (mutant.owner != scheduler.running) {
            return NOT_OWNER;
        }
        mutant.value--;
        int left = mutant.value;
        if (left == 0) {
            mutant.owner = ABSENT;
            release();
        }
        return left;
    }

    private int startTimer(ObjectState timer, int n) {
        int before = timer.value;
        timer.value = 0;
        timer.due = n == 0 ? ABSENT : clock + n;
        return before;
    }

    private boolean canBeAwaited(ProcessState process, int h1, int h2, int h3) {
        int o1 = process.objectOf(h1);
        int o2 = process.objectOf(h2);
        int o3 = process.objectOf(h3);
        if (o1 == ABSENT || (o2 == ABSENT && h2 != ABSENT) || (o3 == ABSENT && h3 != ABSENT)) {
            return false;
        }
        if (isOfType(o1, DEVICE, DEVICE) || isOfType(o2, DEVICE, DEVICE) || isOfType(o3, DEVICE, DEVICE)) {
            return false;
        }
        return o1 != o2 && o1 != o3 && (o2 == ABSENT || o2 != o3);
    }

    /** Answers WAITING, and takes nothing, where the thread's wish cannot be met. */
    private int satisfy(int t) {
        return threads[t].wantsAll ? satisfyAll(t) : satisfyAny(t);
    }

    private int satisfyAny(int t) {
        for (int place = 0; place < PLACES; place++) {
            int o = threads[t].places[place];
            if (o != ABSENT && objects[o].isSignaledFor(t)) {
                return objects[o].take(t) ? place + WAS_ABANDONED : place;
            }
        }
        return WAITING;
    }

    private int satisfyAll(int t) {
        for (int place = 0; place < PLACES; place++) {
            int o = threads[t].places[place];
            if (o != ABSENT && !objects[o].isSignaledFor(t)) {
                return WAITING;
            }
        }
        boolean abandoned = false;
        for (int place = 0; place < PLACES; place++) {
            int o = threads[t].places[place];
            if (o != ABSENT && objects[o].take(t)) {
                abandoned = true;
            }
        }
        return abandoned ? WAS_ABANDONED : 0;
    }

    private void beginWait(int t, int timeout) {
        ThreadState thread = threads[t];
        thread.state = WAITS;
        thread.result = WAITING;
        thread.used = 0;
        thread.deadline = timeout == -1 ? ABSENT : clock + timeout;
        scheduler.running = ABSENT;
        waiting.addLast(t);
        pointToPlacesOf(thread, 1);
    }

    private void endWait(int t, int result) {
        waiting.removeValue(t);
        threads[t].result = result;
        pointToPlacesOf(threads[t], -1);
        scheduler.makeReady(t);
    }

    private void pointToPlacesOf(ThreadState thread, int more) {
        for (int place = 0; place < PLACES; place++) {
            int o = thread.places[place];
            if (o != ABSENT) {
                objects[o].pointers += more;
            }
        }
    }

    /** One pass is enough: what a wait takes never makes an object signaled for another one. */
    private void release() {
        int at = 0;
        for (int seen = 0; seen < THREADS && at < waiting.size; seen++) {
            int t = waiting.get(at);
            int result = satisfy(t);
            if (result == WAITING) {
                at++;
            } else {
                endWait(t, result);
            }
        }
    }

    private void alertIfDue(int t) {
        ThreadState thread = threads[t];
        if (currentLevel == 0 && thread.state == WAITS && thread.mayBeAlerted && thread.calls.size > 0) {
            endWait(t, ALERTED);
            thread.deliverCalls();
        }
    }

    private void finishFirst(ObjectState device, boolean well) {
        int i = device.row.removeFirst();
        if (i == ABSENT) {
            return;
        }
        TransferState transfer = transfers[i];
        if (transfer.toBeCancelled) {
            conclude(transfer, CANCELLED, 0);
        } else if (well) {
            conclude(transfer, WELL, transfer.length);
        } else if (device.hasLayer(FILTER) && device.hasLayer(RETRIES) && !transfer.retried) {
            transfer.retried = true;
            device.row.addLast(i);
        } else {
            conclude(transfer, BROKEN, 0);
        }
    }

    private void sendDown(int i, int place) {
        TransferState transfer = transfers[i];
        ObjectState device = objects[transfer.device];
        if (device.hasLayer(FILTER) && transfer.length > FILTER_LENGTH) {
            conclude(transfer, TOO_LONG, 0);
            return;
        }
        if (device.hasLayer(VOLUME)) {
            if (place >= VOLUME_SIZE) {
                conclude(transfer, BEYOND, 0);
                return;
            }
            transfer.length = Math.min(transfer.length, VOLUME_SIZE - place);
        }
        device.row.addLast(i);
    }

    private int withdraw(int i) {
        Row row = objects[transfers[i].device].row;
        if (row.first() == i) {
            transfers[i].toBeCancelled = true;
            return 0;
        }
        row.removeValue(i);
        conclude(transfers[i], CANCELLED, 0);
        return 1;
    }

    private void conclude(TransferState transfer, int status, int amount) {
        transfer.status = status;
        transfer.amount = amount;
        overCount++;
        pointToObjectsOf(transfer, -1);
        if (transfer.target != ABSENT) {
            objects[transfer.target].value = 1;
            release();
        }
    }

    private void pointToObjectsOf(TransferState transfer, int more) {
        objects[transfer.device].pointers += more;
        if (transfer.target != ABSENT) {
            objects[transfer.target].pointers += more;
        }
    }

    private void abandonMutantsOf(int t) {
        for (int o = 0; o < OBJECTS; o++) {
            ObjectState object = objects[o];
            if (object.isThere() && object.type == MUTANT && object.owner == t) {
                object.owner = ABSENT;
                object.value = 0;
                object.abandoned = true;
                release();
            }
        }
    }

    private void passOneTick() {
        int before = scheduler.running;
        clock++;
        signalTimersDue();
        endWaitsTimedOut();
        lookWhoRuns();
        if (currentLevel == 0 && before != ABSENT && scheduler.running == before) {
            scheduler.useQuantum();
        }
    }

    private void signalTimersDue() {
        for (int o = 0; o < OBJECTS; o++) {
            ObjectState object = objects[o];
            if (object.isThere() && object.type == TIMER && object.due == clock) {
                object.due = ABSENT;
                object.value = 1;
                release();
            }
        }
    }

    private void endWaitsTimedOut() {
        for (int t = 0; t < threadCount; t++) {
            if (threads[t].state == WAITS && threads[t].deadline == clock) {
                endWait(t, TIMEOUT);
            }
        }
    }

    /** A row of numbers, held in one array for good so that no call makes anything new. */
    private static final class Row {
        final int[] items;
        int size;

        Row(int capacity) {
            items = new int[capacity];
        }

        int get(int at) {
            return at >= 0 && at < size ? items[at] : ABSENT;
        }

        int first() {
            return size > 0 ? items[0] : ABSENT;
        }

        void addLast(int item) {
            if (size < items.length) {
                items[size] = item;
                size++;
            }
        }

        void addFirst(int item) {
            if (size < items.length) {
                for (int at = size; at > 0; at--) {
                    items[at] = items[at - 1];
                }
                items[0] = item;
                size++;
            }
        }

        int removeFirst() {
            if (size == 0) {
                return ABSENT;
            }
            int item = items[0];
            size--;
            for (int at = 0; at < size; at++) {
                items[at] = items[at + 1];
            }
            return item;
        }

        void removeValue(int item) {
            int kept = 0;
            for (int at = 0; at < size; at++) {
                if (items[at] != item) {
                    items[kept] = items[at];
                    kept++;
                }
            }
            size = kept;
        }
    }

    /** The rules of one object, in the order in which they were appended. */
    private static final class RuleList {
        static final int DENY = 0;
        static final int ALLOW = 1;

        final int[] kinds = new int[RULES];
        final int[] groups = new int[RULES];
        final int[] rights = new int[RULES];
        int size;

        void append(int kind, int group, int ruleRights) {
            if (size < RULES) {
                kinds[size] = kind;
                groups[size] = group;
                rights[size] = ruleRights;
                size++;
            }
        }

        boolean grants(int processGroups, int wanted) {
            int missing = wanted;
            for (int at = 0; at < size && missing != 0; at++) {
                if ((processGroups & (1 << groups[at])) == 0) {
                    continue;
                }
                if (kinds[at] == ALLOW) {
                    missing &= ~rights[at];
                } else if ((missing & rights[at]) != 0) {
                    return false;
                }
            }
            return size == 0 || missing == 0;
        }
    }

    private static final class ProcessState {
        final int[] handleObjects = new int[HANDLES];
        final int[] handleRights = new int[HANDLES];
        int groups;
        int threadsMade;
        int threadsAlive;

        ProcessState() {
            for (int h = 0; h < HANDLES; h++) {
                handleObjects[h] = ABSENT;
            }
        }

        boolean hasEnded() {
            return threadsMade > 0 && threadsAlive == 0;
        }

        int objectOf(int h) {
            return isWithin(h, 0, HANDLES - 1) ? handleObjects[h] : ABSENT;
        }

        int rightsOf(int h) {
            return isWithin(h, 0, HANDLES - 1) ? handleRights[h] : 0;
        }

        /** A handle that is not in use lacks nothing: whether it may be left out is tested before. */
        boolean lacks(int h, int right) {
            return objectOf(h) != ABSENT && (rightsOf(h) & right) == 0;
        }

        int freeHandle() {
            for (int h = 0; h < HANDLES; h++) {
                if (handleObjects[h] == ABSENT) {
                    return h;
                }
            }
            return ABSENT;
        }
    }

    private static final class ThreadState {
        final Row calls = new Row(CALLS);
        final int[] places = new int[PLACES];
        int process;
        int priority;
        int state = READY;
        int result = WAITING;
        int delivered;
        int latestCall;
        int used;
        boolean wantsAll;
        boolean mayBeAlerted;
        int deadline = ABSENT;

        void wish(int o1, int o2, int o3, int how) {
            places[0] = o1;
            places[1] = o2;
            places[2] = o3;
            wantsAll = (how & 1) != 0;
            mayBeAlerted = (how & 2) != 0;
        }

        void deliverCalls() {
            for (int left = calls.size; left > 0; left--) {
                latestCall = calls.removeFirst();
                delivered++;
            }
        }
    }

    private static final class ObjectState {
        final RuleList rules = new RuleList();
        final Row row = new Row(TRANSFERS);
        int type;
        int name = ABSENT;
        int handles;
        int pointers;
        /** 1 if signaled, a count, how often a mutant is had, or a device's layers. */
        int value;
        int owner = ABSENT;
        boolean abandoned;
        int due = ABSENT;

        void begin(int newType, int a, int newName) {
            type = newType;
            name = newName;
            value = a;
            owner = ABSENT;
            abandoned = false;
            due = ABSENT;
            rules.size = 0;
            row.size = 0;
        }

        boolean isThere() {
            return handles > 0 || pointers > 0;
        }

        int currentName() {
            return handles > 0 ? name : ABSENT;
        }

        boolean hasLayer(int layer) {
            return (value & layer) != 0;
        }

        boolean isSignaledFor(int t) {
            if (type == MUTANT) {
                return owner == ABSENT || (owner == t && value < MOST_COUNT);
            }
            return value != 0;
        }

        /** Answers whether it was an abandoned mutant, which the taker has to be told. */
        boolean take(int t) {
            boolean wasAbandoned = abandoned;
            if (type == GATE) {
                value = 0;
            } else if (type == SEMAPHORE) {
                value--;
            } else if (type == MUTANT) {
                owner = t;
                value++;
                abandoned = false;
            }
            return wasAbandoned;
        }
    }

    private static final class TransferState {
        int status = ABSENT;
        int amount;
        int thread;
        int device;
        int length;
        int target;
        boolean toBeCancelled;
        boolean retried;

        void begin(int newThread, int newDevice, int newLength, int newTarget) {
            status = PENDING;
            amount = 0;
            thread = newThread;
            device = newDevice;
            length = newLength;
            target = newTarget;
            toBeCancelled = false;
            retried = false;
        }
    }

    /** The rows of ready threads and the one that runs. */
    private static final class Scheduler {
        final ThreadState[] threads = new ThreadState[THREADS];
        final Row[] ready = new Row[PRIORITIES];
        int running = ABSENT;
        int lastRan = ABSENT;
        int switches;

        Scheduler() {
            for (int t = 0; t < THREADS; t++) {
                threads[t] = new ThreadState();
            }
            for (int priority = 0; priority < PRIORITIES; priority++) {
                ready[priority] = new Row(THREADS);
            }
        }

        void makeReady(int t) {
            threads[t].state = READY;
            ready[threads[t].priority].addLast(t);
        }

        void look() {
            int best = bestPriority();
            if (best == ABSENT) {
                return;
            }
            if (running != ABSENT) {
                ThreadState now = threads[running];
                if (now.priority >= best) {
                    return;
                }
                now.state = READY;
                ready[now.priority].addFirst(running);
            }
            runFirstOf(best);
        }

        /** Comes right behind a look, so no row above that of the running thread can hold one. */
        void useQuantum() {
            ThreadState now = threads[running];
            now.used++;
            if (now.used < QUANTUM) {
                return;
            }
            now.used = 0;
            if (ready[now.priority].size > 0) {
                makeReady(running);
                runFirstOf(now.priority);
            }
        }

        private int bestPriority() {
            for (int priority = PRIORITIES - 1; priority >= 0; priority--) {
                if (ready[priority].size > 0) {
                    return priority;
                }
            }
            return ABSENT;
        }

        private void runFirstOf(int priority) {
            running = ready[priority].removeFirst();
            threads[running].state = RUNNING;
            if (running != lastRan) {
                lastRan = running;
                switches++;
            }
        }
    }
}
