import java.util.ArrayList;
import java.util.Arrays;
import java.util.NoSuchElementException;

/** A parcel sorter: hubs, lines with a timetable, and the parcels that travel on them. */
public final class Routepost {
    private static final int NONE = -1;

    private static final int MOST_HUBS = 6;
    private static final int MOST_LINES = 12;
    private static final int MOST_PARCELS = 40;

    private static final int MOST_CUTOFF = 20;
    private static final int MOST_FIRST = 59;
    private static final int LEAST_PERIOD = 5;
    private static final int MOST_PERIOD = 60;
    private static final int MOST_TRAVEL = 60;
    private static final int MOST_BAGS = 4;
    private static final int MOST_VOLUME = 9;
    private static final int BULK = 2;
    private static final int BAG_ROOM = 12;
    private static final int HOLDING_MISROUTE = 3;
    private static final int MOST_MINUTES = 120;

    private static final int MOST_PATH_LINES = MOST_HUBS - 1;

    // The lines of a path leave distinct hubs, so 12 lines make at most 12, 36, 64, 81 and 72 paths
    // of one to five lines; one more is the path without lines.
    private static final int MOST_PATHS = 266;

    private static final int MOST_PATH_MINUTES = MOST_PATH_LINES * (MOST_CUTOFF + MOST_PERIOD + MOST_TRAVEL);

    // A call gives a parcel at most two events, and an object is used for at most 512 calls.
    private static final int MOST_EVENTS = 1024;

    private static final char SCANNED = 's';
    private static final char UNSCANNED = 'u';
    private static final char ON_TRUCK = 't';
    private static final char DELIVERED = 'd';
    private static final char HELD = 'h';

    private final ArrayList<Hub> hubs;
    private final ArrayList<Line> lines;
    private final ArrayList<Parcel> parcels;
    private final ArrayList<Parcel> queue;
    private final ArrayList<Parcel> leftBehind;
    private final Bags looseBags;
    private final PathSearch search;
    private final PathTrial trial;
    private final Simulation simulation;
    private int minute;

    public Routepost() {
        hubs = new ArrayList<Hub>();
        lines = new ArrayList<Line>();
        parcels = new ArrayList<Parcel>();
        queue = new ArrayList<Parcel>();
        leftBehind = new ArrayList<Parcel>();
        looseBags = new Bags();
        search = new PathSearch();
        trial = new PathTrial();
        simulation = new Simulation();
        minute = 0;
    }

    // ---- hubs and lines

    public int openHub(int code, int cutoff) throws IllegalArgumentException, IllegalStateException {
        if (!isCode(code) || !isWithin(cutoff, 1, MOST_CUTOFF)) {
            throw new IllegalArgumentException("no code or no cutoff");
        }
        if (hubWithCode(code) != null || hubs.size() >= MOST_HUBS) {
            throw new IllegalStateException("code taken or too many hubs");
        }
        Hub hub = new Hub(hubs.size(), code, cutoff);
        hubs.add(hub);
        return hub.number;
    }

    public int addLine(int from, int to, int first, int period, int travel, int bags)
            throws NoSuchElementException, IllegalArgumentException, IllegalStateException {
        Hub start = hubNumbered(from);
        Hub end = hubNumbered(to);
        if (start == end || !isWithin(first, 0, MOST_FIRST) || !isWithin(period, LEAST_PERIOD, MOST_PERIOD)
                || !isWithin(travel, 1, MOST_TRAVEL) || !isWithin(bags, 1, MOST_BAGS)) {
            throw new IllegalArgumentException("no such line can be");
        }
        if (lines.size() >= MOST_LINES) {
            throw new IllegalStateException("too many lines");
        }
        Line line = new Line(lines.size(), start, end, bags);
        line.setTimes(first, period, travel);
        lines.add(line);
        planAll();
        return line.number;
    }

    public int closeLine(int line) throws NoSuchElementException, IllegalStateException {
        Line closing = openLineNumbered(line);
        int count = countWaiting(closing);
        closing.isOpen = false;
        planAll();
        return count;
    }

    public int hubOf(int address) throws IllegalArgumentException {
        if (!isAddress(address)) {
            throw new IllegalArgumentException("no address");
        }
        return numberOf(hubByShortening(address));
    }

    public int hubByTrying(int address) throws IllegalArgumentException {
        if (!isAddress(address)) {
            throw new IllegalArgumentException("no address");
        }
        Hub longest = null;
        for (int i = 0; i < hubs.size(); i++) {
            Hub hub = hubs.get(i);
            if (isPrefix(hub.code, address) && (longest == null || hub.code > longest.code)) {
                longest = hub;
            }
        }
        return numberOf(longest);
    }

    public int nextDeparture(int line) throws NoSuchElementException, IllegalStateException {
        return openLineNumbered(line).departureFrom(minute + 1);
    }

    public int hubs() {
        return hubs.size();
    }

    public int lines() {
        return lines.size();
    }

    public int minute() {
        return minute;
    }

    // ---- what happens to parcels

    public int accept(int hub, int address, int volume, int service)
            throws NoSuchElementException, IllegalArgumentException, IllegalStateException {
        Hub origin = hubNumbered(hub);
        if (!isAddress(address) || !isWithin(volume, 1, MOST_VOLUME) || !isWithin(service, 0, BULK)) {
            throw new IllegalArgumentException("no address, no volume or no service");
        }
        Hub destination = hubByShortening(address);
        if (destination == null || parcels.size() >= MOST_PARCELS) {
            throw new IllegalStateException("no hub for it or too many parcels");
        }
        Parcel parcel = new Parcel(parcels.size(), origin, destination, volume, service, minute);
        parcels.add(parcel);
        parcel.settle(origin, minute);
        parcel.history.note('a', minute, origin, null);
        planWithPromise(parcel);
        return parcel.number;
    }

    public char scan(int parcel, int hub) throws NoSuchElementException, IllegalStateException {
        Parcel scanned = parcelNumbered(parcel);
        Hub there = hubNumbered(hub);
        if (scanned.state == DELIVERED || scanned.state == HELD) {
            throw new IllegalStateException("it does not travel any more");
        }
        if (scanned.state == ON_TRUCK || scanned.hub != there) {
            return noticeMisroute(scanned, there);
        }
        if (scanned.state == SCANNED) {
            return 'a';
        }
        scanned.settle(there, minute);
        scanned.history.note('s', minute, there, null);
        plan(scanned);
        return 'o';
    }

    public char deliver(int parcel, boolean isTaken) throws NoSuchElementException, IllegalStateException {
        Parcel offered = parcelNumbered(parcel);
        if (offered.state != SCANNED || offered.hub != offered.destination) {
            throw new IllegalStateException("it is not scanned at its destination");
        }
        if (!isTaken) {
            return failAttempt(offered);
        }
        offered.state = DELIVERED;
        offered.deliveredIn = minute;
        offered.history.note('d', minute, offered.hub, null);
        return 'd';
    }

    public int recall(int parcel) throws NoSuchElementException, IllegalStateException {
        Parcel recalled = scannedParcel(parcel);
        if (recalled.isBack) {
            throw new IllegalStateException("it is a return already");
        }
        turnBack(recalled);
        return recalled.promised;
    }

    public int pass(int minutes) throws IllegalArgumentException {
        if (!isWithin(minutes, 1, MOST_MINUTES)) {
            throw new IllegalArgumentException("not so many minutes can pass");
        }
        int unloaded = 0;
        for (int i = 0; i < minutes; i++) {
            minute++;
            unloaded += unloadTrucks();
            loadTrucks();
        }
        return unloaded;
    }

    // ---- what is known of a parcel

    public int parcels() {
        return parcels.size();
    }

    public char state(int parcel) throws NoSuchElementException {
        return parcelNumbered(parcel).state;
    }

    public int at(int parcel) throws NoSuchElementException, IllegalStateException {
        Parcel asked = parcelNumbered(parcel);
        if (asked.state == ON_TRUCK) {
            throw new IllegalStateException("it is on a truck");
        }
        return asked.hub.number;
    }

    public int rides(int parcel) throws NoSuchElementException, IllegalStateException {
        Parcel asked = parcelNumbered(parcel);
        Line line = asked.ride;
        if (asked.state != ON_TRUCK || line == null) {
            throw new IllegalStateException("it is on no truck");
        }
        return line.number;
    }

    public int destination(int parcel) throws NoSuchElementException {
        return parcelNumbered(parcel).destination.number;
    }

    public boolean isReturn(int parcel) throws NoSuchElementException {
        return parcelNumbered(parcel).isBack;
    }

    public int promise(int parcel) throws NoSuchElementException {
        return parcelNumbered(parcel).promised;
    }

    public boolean isLate(int parcel) throws NoSuchElementException {
        return parcelNumbered(parcel).missesPromise(minute);
    }

    public int misroutes(int parcel) throws NoSuchElementException {
        return parcelNumbered(parcel).misrouted;
    }

    public int attempts(int parcel) throws NoSuchElementException {
        return parcelNumbered(parcel).failed;
    }

    public int missed(int parcel) throws NoSuchElementException {
        return parcelNumbered(parcel).timesLeft;
    }

    // ---- plans and paths

    public int nextLine(int parcel) throws NoSuchElementException, IllegalStateException {
        return numberOf(scannedParcel(parcel).next);
    }

    public int nextLineByPaths(int parcel) throws NoSuchElementException, IllegalStateException {
        trial.tryAll(lines, scannedParcel(parcel), minute);
        return numberOf(trial.bestFirst);
    }

    public int pathSize(int parcel) throws NoSuchElementException, IllegalStateException {
        Path best = search.bestPath(lines, scannedParcel(parcel), minute);
        return best == null ? 0 : best.size;
    }

    public int pathAt(int parcel, int index)
            throws NoSuchElementException, IllegalStateException, IndexOutOfBoundsException {
        Path best = search.bestPath(lines, scannedParcel(parcel), minute);
        if (best == null || index < 0 || index >= best.size) {
            throw new IndexOutOfBoundsException("no such line on the path");
        }
        return best.lineNumberAt(index);
    }

    public int arrival(int parcel) throws NoSuchElementException, IllegalStateException {
        Path best = search.bestPath(lines, scannedParcel(parcel), minute);
        return best == null ? NONE : best.end;
    }

    public int arrivalByPaths(int parcel) throws NoSuchElementException, IllegalStateException {
        trial.tryAll(lines, scannedParcel(parcel), minute);
        return trial.bestEnd;
    }

    public int arrivalBySimulation(int parcel) throws NoSuchElementException, IllegalStateException {
        return simulation.firstArrival(lines, scannedParcel(parcel), minute);
    }

    // ---- trucks and bags

    public int waiting(int line) throws NoSuchElementException {
        return countWaiting(lineNumbered(line));
    }

    public int waitingAt(int line, int rank) throws NoSuchElementException, IndexOutOfBoundsException {
        queueUp(lineNumbered(line));
        if (rank < 0 || rank >= queue.size()) {
            throw new IndexOutOfBoundsException("no such rank");
        }
        return queue.get(rank).number;
    }

    public int bagsNeeded(int line) throws NoSuchElementException {
        queueUp(lineNumbered(line));
        looseBags.clear();
        for (int i = 0; i < queue.size(); i++) {
            looseBags.put(queue.get(i), MOST_PARCELS);
        }
        return looseBags.count;
    }

    public int bagsAtLeast(int line) throws NoSuchElementException {
        Line asked = lineNumbered(line);
        int bags = 0;
        for (int i = 0; i < hubs.size(); i++) {
            int volume = volumeWaiting(asked, hubs.get(i));
            bags += (volume + BAG_ROOM - 1) / BAG_ROOM;
        }
        return bags;
    }

    public int bags(int line) throws NoSuchElementException {
        return lineNumbered(line).truck.count;
    }

    public int bagVolume(int line, int bag) throws NoSuchElementException, IndexOutOfBoundsException {
        Bags truck = lineNumbered(line).truck;
        if (!truck.has(bag)) {
            throw new IndexOutOfBoundsException("no such bag");
        }
        return truck.volumeOf(bag);
    }

    public int riding(int line) throws NoSuchElementException {
        Line asked = lineNumbered(line);
        int count = 0;
        for (int i = 0; i < parcels.size(); i++) {
            Parcel parcel = parcels.get(i);
            if (parcel.state == ON_TRUCK && parcel.ride == asked) {
                count++;
            }
        }
        return count;
    }

    // ---- events

    public int events(int parcel) throws NoSuchElementException {
        return parcelNumbered(parcel).history.events.size();
    }

    public char eventKind(int parcel, int index) throws NoSuchElementException, IndexOutOfBoundsException {
        return eventOf(parcel, index).letter;
    }

    public int eventMinute(int parcel, int index) throws NoSuchElementException, IndexOutOfBoundsException {
        return eventOf(parcel, index).happenedIn;
    }

    public int eventHub(int parcel, int index) throws NoSuchElementException, IndexOutOfBoundsException {
        return eventOf(parcel, index).hub.number;
    }

    public int trace(int parcel) throws NoSuchElementException {
        return parcelNumbered(parcel).history.digest;
    }

    // ---- figures over all parcels

    public float lateShare() throws ArithmeticException {
        int all = parcels.size();
        if (all == 0) {
            throw new ArithmeticException("no parcels");
        }
        int late = 0;
        for (int i = 0; i < all; i++) {
            if (parcels.get(i).missesPromise(minute)) {
                late++;
            }
        }
        return (float) late / (float) all;
    }

    public double meanTime() throws ArithmeticException {
        int count = 0;
        int sum = 0;
        for (int i = 0; i < parcels.size(); i++) {
            Parcel parcel = parcels.get(i);
            if (parcel.state == DELIVERED) {
                count++;
                sum += parcel.deliveredIn - parcel.acceptedIn;
            }
        }
        if (count == 0) {
            throw new ArithmeticException("none has been delivered");
        }
        return (double) sum / (double) count;
    }

    // ---- finding by number, or refusing

    private Hub hubNumbered(int number) {
        if (number < 0 || number >= hubs.size()) {
            throw new NoSuchElementException("no such hub");
        }
        return hubs.get(number);
    }

    private Line lineNumbered(int number) {
        if (number < 0 || number >= lines.size()) {
            throw new NoSuchElementException("no such line");
        }
        return lines.get(number);
    }

    private Line openLineNumbered(int number) {
        Line line = lineNumbered(number);
        if (!line.isOpen) {
            throw new IllegalStateException("it is closed");
        }
        return line;
    }

    private Parcel parcelNumbered(int number) {
        if (number < 0 || number >= parcels.size()) {
            throw new NoSuchElementException("no such parcel");
        }
        return parcels.get(number);
    }

    private Parcel scannedParcel(int number) {
        Parcel parcel = parcelNumbered(number);
        if (parcel.state != SCANNED) {
            throw new IllegalStateException("it is not scanned at a hub");
        }
        return parcel;
    }

    private Event eventOf(int parcel, int index) {
        ArrayList<Event> events = parcelNumbered(parcel).history.events;
        if (index < 0 || index >= events.size()) {
            throw new IndexOutOfBoundsException("no such event");
        }
        return events.get(index);
    }

    // ---- codes and addresses

    private static boolean isWithin(int number, int least, int most) {
        return number >= least && number <= most;
    }

    private static boolean isCode(int number) {
        return isWithin(number, 1, 999) && isWithoutZeros(number);
    }

    private static boolean isAddress(int number) {
        return isWithin(number, 1000, 9999) && isWithoutZeros(number);
    }

    private static boolean isWithoutZeros(int number) {
        for (int rest = number; rest > 0; rest /= 10) {
            if (rest % 10 == 0) {
                return false;
            }
        }
        return true;
    }

    private static boolean isPrefix(int code, int address) {
        for (int rest = address; rest > 0; rest /= 10) {
            if (rest == code) {
                return true;
            }
        }
        return false;
    }

    private Hub hubWithCode(int code) {
        for (int i = 0; i < hubs.size(); i++) {
            Hub hub = hubs.get(i);
            if (hub.code == code) {
                return hub;
            }
        }
        return null;
    }

    private Hub hubByShortening(int address) {
        for (int rest = address; rest > 0; rest /= 10) {
            Hub hub = hubWithCode(rest);
            if (hub != null) {
                return hub;
            }
        }
        return null;
    }

    private static int numberOf(Hub hub) {
        return hub == null ? NONE : hub.number;
    }

    private static int numberOf(Line line) {
        return line == null ? NONE : line.number;
    }

    // ---- planning

    private void plan(Parcel parcel) {
        Path best = search.bestPath(lines, parcel, minute);
        parcel.next = best == null ? null : best.first;
    }

    private void planWithPromise(Parcel parcel) {
        Path best = search.bestPath(lines, parcel, minute);
        parcel.next = best == null ? null : best.first;
        parcel.promised = best == null ? NONE : best.end;
    }

    private void planAll() {
        for (int i = 0; i < parcels.size(); i++) {
            Parcel parcel = parcels.get(i);
            if (parcel.state == SCANNED) {
                plan(parcel);
            }
        }
    }

    // ---- misroutes, failed attempts and returns

    private char noticeMisroute(Parcel parcel, Hub there) {
        parcel.misrouted++;
        parcel.history.note('m', minute, there, null);
        if (parcel.misrouted >= HOLDING_MISROUTE) {
            parcel.ride = null;
            parcel.hub = there;
            hold(parcel);
            return 'h';
        }
        parcel.settle(there, minute);
        plan(parcel);
        return 'm';
    }

    private char failAttempt(Parcel parcel) {
        parcel.failed++;
        parcel.history.note('f', minute, parcel.hub, null);
        if (parcel.failed < parcel.attemptsAllowed()) {
            return 'w';
        }
        if (parcel.isBack) {
            hold(parcel);
            return 'h';
        }
        turnBack(parcel);
        return 'r';
    }

    private void hold(Parcel parcel) {
        parcel.state = HELD;
        parcel.history.note('h', minute, parcel.hub, null);
    }

    private void turnBack(Parcel parcel) {
        parcel.isBack = true;
        parcel.destination = parcel.origin;
        parcel.failed = 0;
        parcel.reachedIn = NONE;
        parcel.settle(parcel.hub, minute);
        parcel.history.note('r', minute, parcel.hub, null);
        planWithPromise(parcel);
    }

    // ---- trucks

    private int unloadTrucks() {
        int unloaded = 0;
        for (int i = 0; i < parcels.size(); i++) {
            Parcel parcel = parcels.get(i);
            Line line = parcel.ride;
            if (parcel.state == ON_TRUCK && line != null && parcel.dueIn == minute) {
                parcel.ride = null;
                parcel.hub = line.to;
                parcel.state = UNSCANNED;
                parcel.history.note('u', minute, line.to, line);
                unloaded++;
            }
        }
        return unloaded;
    }

    private void loadTrucks() {
        leftBehind.clear();
        for (int i = 0; i < lines.size(); i++) {
            Line line = lines.get(i);
            if (line.leavesIn(minute)) {
                loadTruck(line);
            }
        }
        // Only now, so that no later line of this minute can take what an earlier one left.
        for (int i = 0; i < leftBehind.size(); i++) {
            plan(leftBehind.get(i));
        }
    }

    private void loadTruck(Line line) {
        queueUp(line);
        boolean isEmpty = true;
        for (int i = 0; i < queue.size(); i++) {
            Parcel parcel = queue.get(i);
            if (minute - parcel.scannedIn < line.from.cutoff) {
                continue;
            }
            if (isEmpty) {
                // The bags of the truck before stay known until another one leaves.
                line.truck.clear();
                isEmpty = false;
            }
            if (line.truck.put(parcel, line.mostBags)) {
                load(parcel, line);
            } else {
                parcel.timesLeft++;
                leftBehind.add(parcel);
            }
        }
    }

    private void load(Parcel parcel, Line line) {
        parcel.state = ON_TRUCK;
        parcel.ride = line;
        parcel.dueIn = minute + line.travel;
        parcel.history.note('l', minute, line.from, line);
    }

    private int countWaiting(Line line) {
        int count = 0;
        for (int i = 0; i < parcels.size(); i++) {
            if (parcels.get(i).waitsFor(line)) {
                count++;
            }
        }
        return count;
    }

    private int volumeWaiting(Line line, Hub destination) {
        int volume = 0;
        for (int i = 0; i < parcels.size(); i++) {
            Parcel parcel = parcels.get(i);
            if (parcel.waitsFor(line) && parcel.destination == destination) {
                volume += parcel.volume;
            }
        }
        return volume;
    }

    /** Puts the parcels that wait for a line into the queue, in the order of loading. */
    private void queueUp(Line line) {
        queue.clear();
        for (int i = 0; i < parcels.size(); i++) {
            Parcel parcel = parcels.get(i);
            if (parcel.waitsFor(line)) {
                int place = queue.size();
                while (place > 0 && parcel.loadsBefore(queue.get(place - 1))) {
                    place--;
                }
                queue.add(place, parcel);
            }
        }
    }

    private static final class Hub {
        final int number;
        final int code;
        final int cutoff;

        Hub(int number, int code, int cutoff) {
            this.number = number;
            this.code = code;
            this.cutoff = cutoff;
        }

        /** The first minute in which a parcel scanned here can leave, as of a present minute. */
        int readyFrom(int scannedIn, int now) {
            return Math.max(now + 1, scannedIn + cutoff);
        }
    }

    private static final class Line {
        final int number;
        final Hub from;
        final Hub to;
        final int mostBags;
        final Bags truck;
        int first;
        int period;
        int travel;
        boolean isOpen;

        Line(int number, Hub from, Hub to, int mostBags) {
            this.number = number;
            this.from = from;
            this.to = to;
            this.mostBags = mostBags;
            truck = new Bags();
            isOpen = true;
        }

        void setTimes(int first, int period, int travel) {
            this.first = first;
            this.period = period;
            this.travel = travel;
        }

        int departureFrom(int earliest) {
            if (earliest <= first || period <= 0) {
                return first;
            }
            int late = (earliest - first) % period;
            return late == 0 ? earliest : earliest - late + period;
        }

        boolean leavesIn(int now) {
            return isOpen && departureFrom(now) == now;
        }
    }

    private static final class Parcel {
        final int number;
        final int volume;
        final int service;
        final int acceptedIn;
        final Hub origin;
        final History history;
        Hub destination;
        Hub hub;
        char state;
        Line ride;
        Line next;
        int dueIn;
        int scannedIn;
        int reachedIn;
        int deliveredIn;
        int promised;
        int misrouted;
        int failed;
        int timesLeft;
        boolean isBack;

        Parcel(int number, Hub origin, Hub destination, int volume, int service, int now) {
            this.number = number;
            this.volume = volume;
            this.service = service;
            this.origin = origin;
            this.destination = destination;
            acceptedIn = now;
            hub = origin;
            history = new History();
            reachedIn = NONE;
        }

        /** The parcel is at a hub and scanned there, wherever it was before. */
        void settle(Hub there, int now) {
            ride = null;
            hub = there;
            state = SCANNED;
            scannedIn = now;
            if (there == destination && reachedIn == NONE) {
                reachedIn = now;
            }
        }

        boolean waitsFor(Line line) {
            return state == SCANNED && next == line;
        }

        boolean missesPromise(int now) {
            if (promised == NONE) {
                return false;
            }
            return promised < (reachedIn == NONE ? now : reachedIn);
        }

        int attemptsAllowed() {
            return 3 - service;
        }

        boolean loadsBefore(Parcel other) {
            if (service != other.service) {
                return service < other.service;
            }
            if (promised != other.promised) {
                return other.promised == NONE || (promised != NONE && promised < other.promised);
            }
            return number < other.number;
        }
    }

    private static final class Event {
        final char letter;
        final int happenedIn;
        final Hub hub;

        Event(char letter, int happenedIn, Hub hub) {
            this.letter = letter;
            this.happenedIn = happenedIn;
            this.hub = hub;
        }
    }

    private static final class History {
        private static final String LETTERS = "asmludfrh";

        final ArrayList<Event> events;
        int digest;

        History() {
            events = new ArrayList<Event>();
        }

        /** Notes an event; the line is that of a loading or unloading, else null. */
        void note(char letter, int now, Hub hub, Line line) {
            if (events.size() >= MOST_EVENTS) {
                return;
            }
            events.add(new Event(letter, now, hub));
            int mark = 97 * now + 13 * hub.number + LETTERS.indexOf(letter);
            if (line != null) {
                mark += 7 * line.number + 7;
            }
            digest = (31 * digest + mark) % 1000003;
        }
    }

    /** The bags of a truck: each is for one destination, and parcels go into the first that fits. */
    private static final class Bags {
        private final Hub[] goals;
        private final int[] volumes;
        int count;

        // A truck needs less, but a question without a limit on bags may need one a parcel.
        Bags() {
            goals = new Hub[MOST_PARCELS];
            volumes = new int[MOST_PARCELS];
        }

        void clear() {
            count = 0;
        }

        boolean has(int bag) {
            return bag >= 0 && bag < count && bag < volumes.length;
        }

        int volumeOf(int bag) {
            return has(bag) ? volumes[bag] : 0;
        }

        boolean put(Parcel parcel, int mostBags) {
            for (int i = 0; i < count && i < goals.length && i < volumes.length; i++) {
                if (goals[i] == parcel.destination && volumes[i] + parcel.volume <= BAG_ROOM) {
                    volumes[i] += parcel.volume;
                    return true;
                }
            }
            return open(parcel, mostBags);
        }

        private boolean open(Parcel parcel, int mostBags) {
            int bag = count;
            if (bag >= mostBags || bag < 0 || bag >= goals.length || bag >= volumes.length) {
                return false;
            }
            goals[bag] = parcel.destination;
            volumes[bag] = parcel.volume;
            count = bag + 1;
            return true;
        }
    }

    private static final class Path {
        Hub hub;
        Line first;
        int end;
        int size;
        int route;
        int visited;
        boolean isExtended;

        /** Becomes the path without lines. */
        void begin(Hub start, int now) {
            hub = start;
            first = null;
            end = now;
            size = 0;
            route = 0;
            visited = 1 << start.number;
            isExtended = false;
        }

        /** Becomes another path and one line more. */
        void follow(Path before, Line line, int arrivesIn) {
            hub = line.to;
            first = before.first == null ? line : before.first;
            end = arrivesIn;
            size = before.size + 1;
            // Four bits a line, so that routes of the same size compare line by line.
            route = (before.route << 4) + line.number;
            visited = before.visited | (1 << line.to.number);
            isExtended = false;
        }

        boolean hasVisited(Hub other) {
            return (visited & (1 << other.number)) != 0;
        }

        boolean isBetterThan(Path other) {
            if (end != other.end) {
                return end < other.end;
            }
            if (size != other.size) {
                return size < other.size;
            }
            return route < other.route;
        }

        int lineNumberAt(int index) {
            return (route >> (4 * (size - 1 - index))) & 15;
        }
    }

    /** Finds the best path by extending the earliest paths first. */
    private static final class PathSearch {
        private final ArrayList<Path> paths;
        private final Path empty;
        private int made;

        PathSearch() {
            paths = new ArrayList<Path>();
            empty = new Path();
            paths.add(empty);
            for (int i = 1; i < MOST_PATHS; i++) {
                paths.add(new Path());
            }
        }

        /** Returns null if there is no path; what it returns stands until the next search. */
        Path bestPath(ArrayList<Line> lines, Parcel parcel, int now) {
            empty.begin(parcel.hub, now);
            made = 1;
            int ready = parcel.hub.readyFrom(parcel.scannedIn, now);
            for (int round = 0; round < MOST_PATHS; round++) {
                Path path = bestToExtend();
                // Every line takes time, so nothing that is still to come can be better than this path.
                if (path == null || path.hub == parcel.destination) {
                    return path;
                }
                extend(path, lines, path == empty ? ready : path.hub.readyFrom(path.end, path.end));
            }
            return null;
        }

        private Path bestToExtend() {
            Path best = null;
            for (int i = 0; i < made && i < paths.size(); i++) {
                Path path = paths.get(i);
                if (!path.isExtended && (best == null || path.isBetterThan(best))) {
                    best = path;
                }
            }
            return best;
        }

        private void extend(Path path, ArrayList<Line> lines, int ready) {
            path.isExtended = true;
            for (int i = 0; i < lines.size() && made < paths.size(); i++) {
                Line line = lines.get(i);
                if (line.isOpen && line.from == path.hub && !path.hasVisited(line.to)) {
                    paths.get(made).follow(path, line, line.departureFrom(ready) + line.travel);
                    made++;
                }
            }
        }
    }

    /** Finds the best path by trying all paths. */
    private static final class PathTrial {
        private Hub goal;
        private Line first;
        private int bestSize;
        int bestEnd;
        Line bestFirst;

        void tryAll(ArrayList<Line> lines, Parcel parcel, int now) {
            goal = parcel.destination;
            first = null;
            bestSize = 0;
            bestEnd = NONE;
            bestFirst = null;
            Hub start = parcel.hub;
            tryFrom(this, lines, start, now, start.readyFrom(parcel.scannedIn, now), 1 << start.number, 0);
        }

        private static void tryFrom(PathTrial trial, ArrayList<Line> lines, Hub hub, int now, int ready,
                int visited, int size) {
            if (hub == trial.goal) {
                trial.compare(now, size);
                return;
            }
            if (size >= MOST_PATH_LINES) {
                return;
            }
            for (int i = 0; i < lines.size(); i++) {
                Line line = lines.get(i);
                int bit = 1 << line.to.number;
                if (line.isOpen && line.from == hub && (visited & bit) == 0) {
                    if (size == 0) {
                        trial.first = line;
                    }
                    int end = line.departureFrom(ready) + line.travel;
                    tryFrom(trial, lines, line.to, end, line.to.readyFrom(end, end), visited | bit, size + 1);
                }
            }
        }

        // Paths come in the order of their line numbers, so of equal ones the first stays.
        private void compare(int end, int size) {
            if (bestEnd == NONE || end < bestEnd || (end == bestEnd && size < bestSize)) {
                bestEnd = end;
                bestSize = size;
                bestFirst = first;
            }
        }
    }

    /** Finds the arrival minute by minute, with copies of the parcel that take all trucks they can get. */
    private static final class Simulation {
        // By hub: since when the first copy is scanned there, and when the next one comes by truck.
        private final int[] copyScannedIn;
        private final int[] copyDueIn;

        Simulation() {
            copyScannedIn = new int[MOST_HUBS];
            copyDueIn = new int[MOST_HUBS];
        }

        int firstArrival(ArrayList<Line> lines, Parcel parcel, int now) {
            if (parcel.hub == parcel.destination) {
                return now;
            }
            Arrays.fill(copyScannedIn, NONE);
            Arrays.fill(copyDueIn, NONE);
            putCopy(copyScannedIn, parcel.hub, parcel.scannedIn);
            for (int i = 1; i <= MOST_PATH_MINUTES; i++) {
                unloadCopies(now + i);
                if (copyAt(copyScannedIn, parcel.destination) != NONE) {
                    return now + i;
                }
                loadCopies(lines, now + i);
            }
            return NONE;
        }

        private void unloadCopies(int now) {
            for (int i = 0; i < copyDueIn.length && i < copyScannedIn.length; i++) {
                // A copy that comes later than another one can take no truck that this one can't.
                if (copyDueIn[i] == now && copyScannedIn[i] == NONE) {
                    copyScannedIn[i] = now;
                }
            }
        }

        private void loadCopies(ArrayList<Line> lines, int now) {
            for (int i = 0; i < lines.size(); i++) {
                Line line = lines.get(i);
                int scannedIn = copyAt(copyScannedIn, line.from);
                if (scannedIn != NONE && line.leavesIn(now) && now - scannedIn >= line.from.cutoff) {
                    int dueIn = copyAt(copyDueIn, line.to);
                    int end = now + line.travel;
                    if (dueIn == NONE || end < dueIn) {
                        putCopy(copyDueIn, line.to, end);
                    }
                }
            }
        }

        private static int copyAt(int[] row, Hub hub) {
            int index = hub.number;
            return index >= 0 && index < row.length ? row[index] : NONE;
        }

        private static void putCopy(int[] row, Hub hub, int when) {
            int index = hub.number;
            if (index >= 0 && index < row.length) {
                row[index] = when;
            }
        }
    }
}
