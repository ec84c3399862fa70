/** Promises 41 to 45: events and the trace. */
final class EventTest {
    private EventTest() {
    }

    static void run() {
        Check.test("promises 41 to 44, a delivery", EventTest::delivery);
        Check.test("promises 41 to 44, all kinds", EventTest::allKinds);
        Check.test("promises 41 to 44, refusals", EventTest::refusals);
        Check.test("promise 41, many", EventTest::promise41Many);
        Check.test("promise 45", EventTest::promise45Trace);
        Check.test("promise 45, all kinds", EventTest::promise45AllKinds);
    }

    private static String history(Routepost post, int parcel) {
        StringBuilder text = new StringBuilder();
        for (int i = 0; i < post.events(parcel); i++) {
            text.append(post.eventKind(parcel, i)).append(post.eventMinute(parcel, i));
            text.append('@').append(post.eventHub(parcel, i)).append(' ');
        }
        return text.toString();
    }

    private static Routepost delivered() {
        Routepost post = Posts.unloaded();
        post.scan(0, 1);
        post.deliver(0, true);
        return post;
    }

    /** A bulk parcel that is misrouted on the way, fails, goes back, fails again and is held. */
    private static Routepost heldAfterAll() {
        Routepost post = Posts.ring();
        post.accept(0, 3111, 3, 2);
        post.pass(12);
        post.scan(0, 1);
        post.pass(13);
        post.pass(11);
        post.scan(0, 2);
        post.deliver(0, false);
        post.pass(50);
        post.scan(0, 0);
        post.deliver(0, false);
        return post;
    }

    private static void delivery() {
        Routepost post = delivered();
        Check.same("events", "a0@0 l10@0 u25@1 s25@1 d25@1 ", history(post, 0));
        Check.same("events", 5, post.events(0));
    }

    private static void allKinds() {
        Routepost post = heldAfterAll();
        Check.same("events", "a0@0 l10@0 m12@1 l25@1 u35@2 s36@2 f36@2 r36@2 l48@2 u68@0 s86@0 f86@0 h86@0 ",
                history(post, 0));
        Routepost other = Posts.ring();
        other.accept(0, 3111, 3, 2);
        other.recall(0);
        other.scan(0, 1);
        other.scan(0, 1);
        other.scan(0, 2);
        other.pass(1);
        other.scan(0, 1);
        Check.same("events", "a0@0 r0@0 m0@1 m0@2 m1@1 h1@1 ", history(other, 0));
    }

    private static void refusals() {
        Routepost post = delivered();
        for (int index : new int[] {-1, 5, Integer.MAX_VALUE, Integer.MIN_VALUE}) {
            Check.refuses("eventKind", post, Check.INDEX, () -> post.eventKind(0, index));
            Check.refuses("eventMinute", post, Check.INDEX, () -> post.eventMinute(0, index));
            Check.refuses("eventHub", post, Check.INDEX, () -> post.eventHub(0, index));
        }
        for (int parcel : new int[] {-1, 1, Integer.MAX_VALUE, Integer.MIN_VALUE}) {
            Check.refuses("events", post, Check.NO_SUCH, () -> post.events(parcel));
            Check.refuses("eventKind", post, Check.NO_SUCH, () -> post.eventKind(parcel, -1));
            Check.refuses("eventMinute", post, Check.NO_SUCH, () -> post.eventMinute(parcel, -1));
            Check.refuses("eventHub", post, Check.NO_SUCH, () -> post.eventHub(parcel, -1));
            Check.refuses("trace", post, Check.NO_SUCH, () -> post.trace(parcel));
        }
    }

    /** A parcel can have an event in nearly every call, and two in some. */
    private static void promise41Many() {
        Routepost post = new Routepost();
        post.openHub(1, 1);
        post.openHub(2, 1);
        post.addLine(0, 1, 0, 5, 1, 1);
        post.addLine(1, 0, 0, 5, 1, 1);
        post.addLine(1, 0, 0, 5, 1, 1);
        post.accept(0, 2111, 1, 0);
        int calls = 6;
        int events = 1;
        post.pass(7);
        events += 2;
        post.scan(0, 1);
        events += 1;
        calls += 2;
        post.recall(0);
        events += 1;
        for (int i = 0; calls < 510; i++) {
            post.pass(7);
            post.scan(0, 0);
            calls += 2;
            events += i == 0 ? 3 : 0;
        }
        Check.same("events", events, post.events(0));
    }

    private static void promise45Trace() {
        Routepost post = Posts.ring();
        post.accept(0, 2111, 3, 1);
        Check.same("'a' in the minute 0 at hub 0", 0, post.trace(0));
        post.pass(10);
        Check.same("'l'", 980, post.trace(0));
        post.pass(15);
        Check.same("'u'", 32829, post.trace(0));
        post.scan(0, 1);
        Check.same("'s'", 20135, post.trace(0));
        post.deliver(0, true);
        Check.same("'d'", 626628, post.trace(0));
        post.accept(2, 2111, 3, 1);
        Check.same("'a' in the minute 25 at hub 2", 25 * 97 + 2 * 13, post.trace(1));
    }

    private static void promise45AllKinds() {
        Routepost post = heldAfterAll();
        int[] lines = {0, 0, 0, 1, 1, 0, 0, 0, 2, 2, 0, 0, 0};
        long trace = 0;
        for (int i = 0; i < post.events(0); i++) {
            char kind = post.eventKind(0, i);
            long mark = 97 * post.eventMinute(0, i) + 13 * post.eventHub(0, i) + "asmludfrh".indexOf(kind);
            if (kind == 'l' || kind == 'u') {
                mark += 7 * lines[i] + 7;
            }
            trace = (31 * trace + mark) % 1000003;
        }
        Check.same("trace", trace, post.trace(0));
    }
}
