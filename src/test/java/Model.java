import java.util.ArrayList;
import java.util.Comparator;
import java.util.HashSet;
import java.util.List;
import java.util.NoSuchElementException;
import java.util.Set;

/** The document once more, in its plainest words and without regard to speed; for RandomRunsTest. */
final class Model {
    private record Hub(String code, int cutoff) {
    }

    private record Truck(int line, int due, List<Parcel> load) {
    }

    private record Path(List<Integer> lines, int arrival) {
    }

    private record Event(char kind, int minute, int hub, int extra) {
    }

    private static final class Line {
        int from;
        int to;
        int first;
        int period;
        int travel;
        int most;
        boolean open = true;
        List<int[]> bags = new ArrayList<>();

        boolean hasDeparture(int minute) {
            return minute >= first && (minute - first) % period == 0;
        }

        int departure(int earliest) {
            int minute = earliest;
            while (!hasDeparture(minute)) {
                minute++;
            }
            return minute;
        }
    }

    private static final class Parcel {
        int number;
        int volume;
        int service;
        int origin;
        int destination;
        char state;
        int hub;
        int scanned;
        int next = -1;
        int promise = -1;
        int reached = -1;
        int misroutes;
        int attempts;
        int missed;
        boolean isReturn;
        List<Event> events = new ArrayList<>();
    }

    private final List<Hub> hubs = new ArrayList<>();
    private final List<Line> lines = new ArrayList<>();
    private final List<Parcel> parcels = new ArrayList<>();
    private final List<Truck> trucks = new ArrayList<>();
    private int minute = 0;

    private static void argument(boolean isFine) {
        if (!isFine) {
            throw new IllegalArgumentException();
        }
    }

    private static void allowed(boolean isFine) {
        if (!isFine) {
            throw new IllegalStateException();
        }
    }

    private static <T> T find(List<T> list, int index) {
        if (index < 0 || index >= list.size()) {
            throw new NoSuchElementException();
        }
        return list.get(index);
    }

    private static <T> T indexed(List<T> list, int index) {
        if (index < 0 || index >= list.size()) {
            throw new IndexOutOfBoundsException();
        }
        return list.get(index);
    }

    private Parcel scanned(int parcel) {
        Parcel found = find(parcels, parcel);
        allowed(found.state == 's');
        return found;
    }

    public int openHub(int code, int cutoff) {
        argument(String.valueOf(code).matches("[1-9]{1,3}") && cutoff >= 1 && cutoff <= 20);
        for (Hub hub : hubs) {
            allowed(!hub.code.equals(String.valueOf(code)));
        }
        allowed(hubs.size() < 6);
        hubs.add(new Hub(String.valueOf(code), cutoff));
        return hubs.size() - 1;
    }

    public int addLine(int from, int to, int first, int period, int travel, int bags) {
        find(hubs, from);
        find(hubs, to);
        argument(from != to && first >= 0 && first <= 59 && period >= 5 && period <= 60);
        argument(travel >= 1 && travel <= 60 && bags >= 1 && bags <= 4);
        allowed(lines.size() < 12);
        Line line = new Line();
        line.from = from;
        line.to = to;
        line.first = first;
        line.period = period;
        line.travel = travel;
        line.most = bags;
        lines.add(line);
        planAll();
        return lines.size() - 1;
    }

    public int closeLine(int line) {
        allowed(find(lines, line).open);
        int count = waiting(line);
        lines.get(line).open = false;
        planAll();
        return count;
    }

    public int accept(int hub, int address, int volume, int service) {
        find(hubs, hub);
        argument(isAddress(address) && volume >= 1 && volume <= 9 && service >= 0 && service <= 2);
        allowed(hubOf(address) >= 0 && parcels.size() < 40);
        Parcel parcel = new Parcel();
        parcel.number = parcels.size();
        parcel.volume = volume;
        parcel.service = service;
        parcel.origin = hub;
        parcel.destination = hubOf(address);
        parcels.add(parcel);
        event(parcel, 'a', hub, -1);
        arriveScanned(parcel, hub);
        parcel.promise = best(parcel) == null ? -1 : best(parcel).arrival;
        return parcel.number;
    }

    public char scan(int parcel, int hub) {
        Parcel it = find(parcels, parcel);
        find(hubs, hub);
        allowed(it.state != 'd' && it.state != 'h');
        boolean isKnown = it.state != 't' && it.hub == hub;
        if (isKnown && it.state == 's') {
            return 'a';
        }
        if (isKnown) {
            event(it, 's', hub, -1);
            arriveScanned(it, hub);
            return 'o';
        }
        for (Truck truck : trucks) {
            truck.load.remove(it);
        }
        it.misroutes++;
        event(it, 'm', hub, -1);
        if (it.misroutes == 3) {
            it.hub = hub;
            it.state = 'h';
            event(it, 'h', hub, -1);
            return 'h';
        }
        arriveScanned(it, hub);
        return 'm';
    }

    public char deliver(int parcel, boolean isTaken) {
        Parcel it = find(parcels, parcel);
        allowed(it.state == 's' && it.hub == it.destination);
        if (isTaken) {
            it.state = 'd';
            event(it, 'd', it.hub, -1);
            return 'd';
        }
        it.attempts++;
        event(it, 'f', it.hub, -1);
        int most = switch (it.service) {
            case 0 -> 3;
            case 1 -> 2;
            default -> 1;
        };
        if (it.attempts < most) {
            return 'w';
        }
        if (it.isReturn) {
            it.state = 'h';
            event(it, 'h', it.hub, -1);
            return 'h';
        }
        turnBack(it);
        return 'r';
    }

    public int recall(int parcel) {
        Parcel it = find(parcels, parcel);
        allowed(!it.isReturn && it.state == 's');
        turnBack(it);
        return it.promise;
    }

    public int pass(int minutes) {
        argument(minutes >= 1 && minutes <= 120);
        int count = 0;
        for (int i = 0; i < minutes; i++) {
            minute++;
            count += arrivals();
            departures();
        }
        return count;
    }

    private int arrivals() {
        int count = 0;
        for (Truck truck : new ArrayList<>(trucks)) {
            if (truck.due == minute) {
                trucks.remove(truck);
                for (Parcel parcel : truck.load) {
                    parcel.hub = lines.get(truck.line).to;
                    parcel.state = 'u';
                    event(parcel, 'u', parcel.hub, truck.line);
                    count++;
                }
            }
        }
        return count;
    }

    private void departures() {
        Set<Parcel> left = new HashSet<>();
        for (int number = 0; number < lines.size(); number++) {
            Line line = lines.get(number);
            if (!line.open || !line.hasDeparture(minute)) {
                continue;
            }
            List<Parcel> load = new ArrayList<>();
            List<int[]> bags = new ArrayList<>();
            for (Parcel parcel : queue(number)) {
                if (minute < parcel.scanned + hubs.get(line.from).cutoff) {
                    continue;
                }
                if (pack(bags, parcel, line.most)) {
                    load.add(parcel);
                    parcel.state = 't';
                    event(parcel, 'l', line.from, number);
                } else {
                    parcel.missed++;
                    left.add(parcel);
                }
            }
            if (!load.isEmpty()) {
                line.bags = bags;
                trucks.add(new Truck(number, minute + line.travel, load));
            }
        }
        for (Parcel parcel : left) {
            plan(parcel);
        }
    }

    private static boolean pack(List<int[]> bags, Parcel parcel, int most) {
        for (int[] bag : bags) {
            if (bag[0] == parcel.destination && bag[1] + parcel.volume <= 12) {
                bag[1] += parcel.volume;
                return true;
            }
        }
        if (bags.size() == most) {
            return false;
        }
        bags.add(new int[] {parcel.destination, parcel.volume});
        return true;
    }

    private List<Parcel> queue(int line) {
        List<Parcel> queue = new ArrayList<>();
        for (Parcel parcel : parcels) {
            if (parcel.state == 's' && parcel.next == line) {
                queue.add(parcel);
            }
        }
        queue.sort(Comparator.<Parcel>comparingInt(parcel -> parcel.service)
                .thenComparing(parcel -> parcel.promise < 0 ? Integer.MAX_VALUE : parcel.promise)
                .thenComparing(parcel -> parcel.number));
        return queue;
    }

    private void event(Parcel parcel, char kind, int hub, int line) {
        parcel.events.add(new Event(kind, minute, hub, line < 0 ? 0 : 7 * line + 7));
    }

    private void arriveScanned(Parcel parcel, int hub) {
        parcel.hub = hub;
        parcel.state = 's';
        parcel.scanned = minute;
        if (hub == parcel.destination && parcel.reached < 0) {
            parcel.reached = minute;
        }
        plan(parcel);
    }

    private void turnBack(Parcel parcel) {
        parcel.isReturn = true;
        parcel.destination = parcel.origin;
        parcel.attempts = 0;
        parcel.reached = -1;
        event(parcel, 'r', parcel.hub, -1);
        arriveScanned(parcel, parcel.hub);
        parcel.promise = best(parcel) == null ? -1 : best(parcel).arrival;
    }

    private void planAll() {
        for (Parcel parcel : parcels) {
            if (parcel.state == 's') {
                plan(parcel);
            }
        }
    }

    private void plan(Parcel parcel) {
        Path best = best(parcel);
        parcel.next = best == null || best.lines.isEmpty() ? -1 : best.lines.get(0);
    }

    private Path best(Parcel parcel) {
        if (parcel.hub == parcel.destination) {
            return new Path(List.of(), minute);
        }
        List<Path> found = new ArrayList<>();
        Set<Integer> visited = new HashSet<>(Set.of(parcel.hub));
        collect(found, parcel, new ArrayList<>(), visited, parcel.hub, parcel.scanned, minute);
        Path best = null;
        for (Path path : found) {
            if (best == null || compare(path, best) < 0) {
                best = path;
            }
        }
        return best;
    }

    private static int compare(Path one, Path other) {
        if (one.arrival != other.arrival) {
            return Integer.compare(one.arrival, other.arrival);
        }
        if (one.lines.size() != other.lines.size()) {
            return Integer.compare(one.lines.size(), other.lines.size());
        }
        for (int i = 0; i < one.lines.size(); i++) {
            if (!one.lines.get(i).equals(other.lines.get(i))) {
                return one.lines.get(i).compareTo(other.lines.get(i));
            }
        }
        return 0;
    }

    private void collect(List<Path> found, Parcel parcel, List<Integer> way, Set<Integer> visited, int hub,
            int scanned, int now) {
        if (hub == parcel.destination) {
            found.add(new Path(new ArrayList<>(way), now));
            return;
        }
        for (int number = lines.size() - 1; number >= 0; number--) {
            Line line = lines.get(number);
            if (line.open && line.from == hub && visited.add(line.to)) {
                int leaves = line.departure(Math.max(now + 1, scanned + hubs.get(hub).cutoff));
                int arrives = leaves + line.travel;
                way.add(number);
                collect(found, parcel, way, visited, line.to, arrives, arrives);
                way.remove(way.size() - 1);
                visited.remove(line.to);
            }
        }
    }

    public int minute() {
        return minute;
    }

    public int hubs() {
        return hubs.size();
    }

    public int lines() {
        return lines.size();
    }

    public int parcels() {
        return parcels.size();
    }

    private static boolean isAddress(int address) {
        return String.valueOf(address).matches("[1-9]{4}");
    }

    public int hubOf(int address) {
        argument(isAddress(address));
        int found = -1;
        for (int i = 0; i < hubs.size(); i++) {
            String code = hubs.get(i).code;
            boolean isLonger = found < 0 || code.length() > hubs.get(found).code.length();
            if (String.valueOf(address).startsWith(code) && isLonger) {
                found = i;
            }
        }
        return found;
    }

    public int hubByTrying(int address) {
        return hubOf(address);
    }

    public int nextDeparture(int line) {
        Line it = find(lines, line);
        allowed(it.open);
        return it.departure(minute + 1);
    }

    boolean isOpen(int line) {
        return find(lines, line).open;
    }

    public char state(int parcel) {
        return find(parcels, parcel).state;
    }

    public int at(int parcel) {
        Parcel it = find(parcels, parcel);
        allowed(it.state != 't');
        return it.hub;
    }

    public int rides(int parcel) {
        Parcel it = find(parcels, parcel);
        for (Truck truck : trucks) {
            if (truck.load.contains(it)) {
                return truck.line;
            }
        }
        throw new IllegalStateException();
    }

    public int destination(int parcel) {
        return find(parcels, parcel).destination;
    }

    public boolean isReturn(int parcel) {
        return find(parcels, parcel).isReturn;
    }

    public int promise(int parcel) {
        return find(parcels, parcel).promise;
    }

    public boolean isLate(int parcel) {
        Parcel it = find(parcels, parcel);
        if (it.promise < 0) {
            return false;
        }
        return it.reached >= 0 ? it.reached > it.promise : it.promise < minute;
    }

    public int misroutes(int parcel) {
        return find(parcels, parcel).misroutes;
    }

    public int attempts(int parcel) {
        return find(parcels, parcel).attempts;
    }

    public int missed(int parcel) {
        return find(parcels, parcel).missed;
    }

    public int nextLine(int parcel) {
        return scanned(parcel).next;
    }

    public int nextLineByPaths(int parcel) {
        Path best = best(scanned(parcel));
        return best == null || best.lines.isEmpty() ? -1 : best.lines.get(0);
    }

    public int pathSize(int parcel) {
        Path best = best(scanned(parcel));
        return best == null ? 0 : best.lines.size();
    }

    public int pathAt(int parcel, int index) {
        Path best = best(scanned(parcel));
        return indexed(best == null ? List.<Integer>of() : best.lines, index);
    }

    public int arrival(int parcel) {
        Path best = best(scanned(parcel));
        return best == null ? -1 : best.arrival;
    }

    public int arrivalByPaths(int parcel) {
        return arrival(parcel);
    }

    public int arrivalBySimulation(int parcel) {
        return arrival(parcel);
    }

    public int waiting(int line) {
        find(lines, line);
        return queue(line).size();
    }

    public int waitingAt(int line, int rank) {
        find(lines, line);
        return indexed(queue(line), rank).number;
    }

    public int bagsNeeded(int line) {
        find(lines, line);
        List<int[]> bags = new ArrayList<>();
        for (Parcel parcel : queue(line)) {
            pack(bags, parcel, -1);
        }
        return bags.size();
    }

    public int bagsAtLeast(int line) {
        find(lines, line);
        int sum = 0;
        for (int hub = 0; hub < hubs.size(); hub++) {
            double volume = 0;
            for (Parcel parcel : queue(line)) {
                volume += parcel.destination == hub ? parcel.volume : 0;
            }
            sum += (int) Math.ceil(volume / 12);
        }
        return sum;
    }

    public int bags(int line) {
        return find(lines, line).bags.size();
    }

    public int bagVolume(int line, int bag) {
        return indexed(find(lines, line).bags, bag)[1];
    }

    public int riding(int line) {
        find(lines, line);
        int count = 0;
        for (Truck truck : trucks) {
            count += truck.line == line ? truck.load.size() : 0;
        }
        return count;
    }

    public int events(int parcel) {
        return find(parcels, parcel).events.size();
    }

    public char eventKind(int parcel, int index) {
        return indexed(find(parcels, parcel).events, index).kind;
    }

    public int eventMinute(int parcel, int index) {
        return indexed(find(parcels, parcel).events, index).minute;
    }

    public int eventHub(int parcel, int index) {
        return indexed(find(parcels, parcel).events, index).hub;
    }

    public int trace(int parcel) {
        int trace = 0;
        for (Event event : find(parcels, parcel).events) {
            int mark = 97 * event.minute + 13 * event.hub + "asmludfrh".indexOf(event.kind) + event.extra;
            trace = (31 * trace + mark) % 1000003;
        }
        return trace;
    }

    public float lateShare() {
        if (parcels.isEmpty()) {
            throw new ArithmeticException();
        }
        int late = 0;
        for (Parcel parcel : parcels) {
            late += isLate(parcel.number) ? 1 : 0;
        }
        return (float) late / (float) parcels.size();
    }

    public double meanTime() {
        int sum = 0;
        int count = 0;
        for (Parcel parcel : parcels) {
            if (parcel.state == 'd') {
                count++;
                sum += parcel.events.get(parcel.events.size() - 1).minute - parcel.events.get(0).minute;
            }
        }
        if (count == 0) {
            throw new ArithmeticException();
        }
        return (double) sum / (double) count;
    }
}
