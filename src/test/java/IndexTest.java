import java.util.LinkedHashMap;
import java.util.Map;

/** Every method with the number of a parcel or a line: with none, one and all there are, and the next on each side. */
final class IndexTest {
    private static final int[] NEVER = {Integer.MIN_VALUE, -256, -1};

    private interface Call {
        Object of(Routepost post, int number);
    }

    private IndexTest() {
    }

    static void run() {
        Check.test("no parcel, one, two and 40", IndexTest::parcels);
        Check.test("no line, one, two and 12", IndexTest::lines);
        Check.test("a number of a parcel is none of a line", IndexTest::moreParcelsThanLines);
    }

    private static Map<String, Call> ofParcels() {
        Map<String, Call> calls = new LinkedHashMap<>();
        calls.put("scan", (post, number) -> post.scan(number, 0));
        calls.put("deliver", (post, number) -> post.deliver(number, false));
        calls.put("recall", Routepost::recall);
        calls.put("state", Routepost::state);
        calls.put("at", Routepost::at);
        calls.put("rides", Routepost::rides);
        calls.put("destination", Routepost::destination);
        calls.put("isReturn", Routepost::isReturn);
        calls.put("promise", Routepost::promise);
        calls.put("isLate", Routepost::isLate);
        calls.put("misroutes", Routepost::misroutes);
        calls.put("attempts", Routepost::attempts);
        calls.put("missed", Routepost::missed);
        calls.put("nextLine", Routepost::nextLine);
        calls.put("nextLineByPaths", Routepost::nextLineByPaths);
        calls.put("pathSize", Routepost::pathSize);
        calls.put("pathAt", (post, number) -> post.pathAt(number, 0));
        calls.put("arrival", Routepost::arrival);
        calls.put("arrivalByPaths", Routepost::arrivalByPaths);
        calls.put("arrivalBySimulation", Routepost::arrivalBySimulation);
        calls.put("events", Routepost::events);
        calls.put("eventKind", (post, number) -> post.eventKind(number, 0));
        calls.put("eventMinute", (post, number) -> post.eventMinute(number, 0));
        calls.put("eventHub", (post, number) -> post.eventHub(number, 0));
        calls.put("trace", Routepost::trace);
        return calls;
    }

    private static Map<String, Call> ofLines() {
        Map<String, Call> calls = new LinkedHashMap<>();
        calls.put("closeLine", Routepost::closeLine);
        calls.put("nextDeparture", Routepost::nextDeparture);
        calls.put("waiting", Routepost::waiting);
        calls.put("waitingAt", (post, number) -> post.waitingAt(number, 0));
        calls.put("bagsNeeded", Routepost::bagsNeeded);
        calls.put("bagsAtLeast", Routepost::bagsAtLeast);
        calls.put("bags", Routepost::bags);
        calls.put("bagVolume", (post, number) -> post.bagVolume(number, 0));
        calls.put("riding", Routepost::riding);
        return calls;
    }

    /** Six hubs, all parcels at their destinations, all lines between the first two hubs. */
    private static Routepost with(int parcels, int lines) {
        Routepost post = Posts.hubsWith(6, 1);
        for (int i = 0; i < lines; i++) {
            post.addLine(i % 2, 1 - i % 2, 0, 5, 1, 1);
        }
        for (int i = 0; i < parcels; i++) {
            post.accept(i % 6, Posts.addressOf(i % 6), 1, 1);
        }
        return post;
    }

    private static void parcels() {
        for (int count : new int[] {0, 1, 2, 40}) {
            ofParcels().forEach((name, call) -> {
                refusedBelowAndAbove(name, call, with(count, 12), count);
                for (int number = 0; number < count; number += Math.max(1, count - 1)) {
                    taken(name, call, with(count, 12), number);
                }
            });
        }
    }

    private static void lines() {
        for (int count : new int[] {0, 1, 2, 12}) {
            ofLines().forEach((name, call) -> {
                refusedBelowAndAbove(name, call, with(40, count), count);
                for (int number = 0; number < count; number += Math.max(1, count - 1)) {
                    taken(name, call, with(40, count), number);
                }
            });
        }
    }

    private static void refusedBelowAndAbove(String name, Call call, Routepost post, int count) {
        for (int number : NEVER) {
            Check.refuses(name + "(" + number + ")", post, Check.NO_SUCH, () -> call.of(post, number));
        }
        for (int number : new int[] {count, count + 1, 256 + count, Integer.MAX_VALUE}) {
            Check.refuses(name + "(" + number + ")", post, Check.NO_SUCH, () -> call.of(post, number));
        }
    }

    private static void taken(String name, Call call, Routepost post, int number) {
        String outcome = Check.outcome(() -> call.of(post, number));
        Check.same(name + "(" + number + ") exists", false, outcome.equals(Check.NO_SUCH.getName()));
        Check.same(name + "(" + number + ") isn't thrown by the machine", false, outcome.startsWith("by the machine"));
    }

    private static void moreParcelsThanLines() {
        Routepost many = with(40, 2);
        ofLines().forEach((name, call) ->
                Check.refuses(name + "(2)", many, Check.NO_SUCH, () -> call.of(many, 2)));
        Routepost few = with(2, 12);
        ofParcels().forEach((name, call) ->
                Check.refuses(name + "(2)", few, Check.NO_SUCH, () -> call.of(few, 2)));
    }
}
