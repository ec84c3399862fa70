/** Promises 5 and 13: accepting parcels. */
final class AcceptTest {
    private AcceptTest() {
    }

    static void run() {
        Check.test("promise 5", AcceptTest::promise5Accept);
        Check.test("promise 5, destination", AcceptTest::promise5Destination);
        Check.test("promise 5, at the destination", AcceptTest::promise5AtDestination);
        Check.test("promise 5, refusals", AcceptTest::promise5Refusals);
        Check.test("promises 5 and 13, too many", AcceptTest::promise5TooMany);
    }

    private static void promise5Accept() {
        Routepost post = Posts.line();
        post.pass(3);
        Check.same("number", 0, post.accept(0, 2111, 9, 0));
        Check.same("number", 1, post.accept(0, 2999, 1, 2));
        Check.same("state", 's', post.state(0));
        Check.same("at", 0, post.at(0));
        Check.same("destination", 1, post.destination(0));
        Check.same("promise", 25, post.promise(0));
        Check.same("nextLine", 0, post.nextLine(0));
        Check.same("isReturn", false, post.isReturn(0));
        Check.same("misroutes", 0, post.misroutes(0));
        Check.same("attempts", 0, post.attempts(0));
        Check.same("missed", 0, post.missed(0));
        Check.same("events", 1, post.events(0));
        Check.same("kind", 'a', post.eventKind(0, 0));
        Check.same("minute", 3, post.eventMinute(0, 0));
        Check.same("scanned at once", 'a', post.scan(0, 0));
    }

    private static void promise5Destination() {
        Routepost post = Posts.hubs();
        post.accept(0, 2111, 1, 1);
        post.openHub(21, 5);
        post.accept(0, 2111, 1, 1);
        Check.same("destination", 1, post.destination(0));
        Check.same("destination", 3, post.destination(1));
    }

    private static void promise5AtDestination() {
        Routepost post = Posts.line();
        post.pass(4);
        post.accept(0, 1111, 1, 1);
        Check.same("promise", 4, post.promise(0));
        Check.same("nextLine", -1, post.nextLine(0));
        post.pass(20);
        Check.same("it has reached its destination", false, post.isLate(0));
        Check.same("deliver", 'd', post.deliver(0, true));
    }

    private static void promise5Refusals() {
        Routepost post = Posts.line();
        for (int hub : new int[] {-1, 3, Integer.MAX_VALUE, Integer.MIN_VALUE}) {
            Check.refuses("hub " + hub, post, Check.NO_SUCH, () -> post.accept(hub, 0, 0, 3));
        }
        for (int address : new int[] {0, 211, 2011, 2110, 10000, -2111}) {
            Check.refuses("address " + address, post, Check.ARGUMENT, () -> post.accept(0, address, 1, 1));
        }
        for (int volume : new int[] {0, 10, -1}) {
            Check.refuses("volume " + volume, post, Check.ARGUMENT, () -> post.accept(0, 2111, volume, 1));
        }
        for (int service : new int[] {-1, 3}) {
            Check.refuses("service " + service, post, Check.ARGUMENT, () -> post.accept(0, 2111, 1, service));
        }
        Check.refuses("no hub for it", post, Check.STATE, () -> post.accept(0, 9111, 1, 1));
        Check.refuses("no hub for it and a wrong volume", post, Check.ARGUMENT, () -> post.accept(0, 9111, 0, 1));
        Check.same("parcels", 0, post.parcels());
    }

    private static void promise5TooMany() {
        Routepost post = Posts.line();
        for (int i = 0; i < 40; i++) {
            Check.same("parcels", i, post.parcels());
            Check.same("number", i, post.accept(i % 3, 2111, 1 + i % 9, i % 3));
        }
        Check.refuses("a 41st parcel", post, Check.STATE, () -> post.accept(0, 2111, 1, 1));
        Check.refuses("a wrong 41st parcel", post, Check.ARGUMENT, () -> post.accept(0, 2111, 1, 3));
        Check.refuses("a 41st parcel nowhere", post, Check.NO_SUCH, () -> post.accept(3, 2111, 1, 1));
        Check.same("parcels", 40, post.parcels());
    }
}
