/** Promises 6 and 24: scans and misroutes. */
final class ScanTest {
    private ScanTest() {
    }

    static void run() {
        Check.test("promise 6, where it is known to be", ScanTest::promise6Known);
        Check.test("promise 6, scanned already", ScanTest::promise6Again);
        Check.test("promise 6, from a truck", ScanTest::promise6FromTruck);
        Check.test("promise 6, from the truck at its first hub", ScanTest::promise6FromTruckAtStart);
        Check.test("promise 6, from a hub", ScanTest::promise6FromHub);
        Check.test("promises 6 and 24, held", ScanTest::promise6Held);
        Check.test("promise 6, at the destination by mistake", ScanTest::promise6ReachesByMisroute);
        Check.test("promise 6, refusals", ScanTest::promise6Refusals);
        Check.test("promise 24", ScanTest::promise24Misroutes);
    }

    private static void promise6Known() {
        Routepost post = Posts.chain();
        post.accept(0, 3111, 3, 1);
        post.pass(25);
        post.pass(2);
        Check.same("state", 'u', post.state(0));
        Check.refuses("no plan before the scan", post, Check.STATE, () -> post.nextLine(0));
        Check.same("scan", 'o', post.scan(0, 1));
        Check.same("state", 's', post.state(0));
        Check.same("nextLine", 1, post.nextLine(0));
        Check.same("scanned in this minute", 55, post.arrival(0));
        Check.same("kind", 's', post.eventKind(0, 3));
        Check.same("minute", 27, post.eventMinute(0, 3));
        Check.same("misroutes", 0, post.misroutes(0));
    }

    private static void promise6Again() {
        Routepost post = Posts.line();
        post.accept(0, 2111, 3, 1);
        post.pass(4);
        String before = Answers.of(post);
        Check.same("scan", 'a', post.scan(0, 0));
        Check.same("nothing changes", before, Answers.of(post));
        Check.same("scanned as before", 25, post.arrival(0));
    }

    private static void promise6FromTruck() {
        Routepost post = Posts.ring();
        post.accept(0, 2111, 3, 1);
        post.accept(0, 2111, 3, 1);
        post.pass(12);
        Check.same("scan", 'm', post.scan(0, 2));
        Check.same("state", 's', post.state(0));
        Check.same("at", 2, post.at(0));
        Check.same("riding", 1, post.riding(0));
        Check.same("the bag as it left", 6, post.bagVolume(0, 0));
        Check.same("nextLine", 2, post.nextLine(0));
        Check.same("events", 3, post.events(0));
        Check.same("kind", 'm', post.eventKind(0, 2));
        Check.same("minute", 12, post.eventMinute(0, 2));
        Check.same("hub", 2, post.eventHub(0, 2));
        Check.same("the truck arrives all the same", 1, post.pass(13));
        Check.same("at", 1, post.at(1));
        Check.same("at", 't', post.state(0));
        Check.same("rides", 2, post.rides(0));
    }

    private static void promise6FromTruckAtStart() {
        Routepost post = Posts.line();
        post.accept(0, 2111, 3, 1);
        post.pass(12);
        Check.same("scan", 'm', post.scan(0, 0));
        Check.same("state", 's', post.state(0));
        Check.same("scanned in this minute", 35, post.arrival(0));
        Check.same("unloaded", 0, post.pass(13));
        Check.same("state", 't', post.state(0));
    }

    private static void promise6FromHub() {
        Routepost post = Posts.unloaded();
        Check.same("not scanned and elsewhere", 'm', post.scan(0, 2));
        Check.same("at", 2, post.at(0));
        Check.same("scanned and elsewhere", 'm', post.scan(0, 0));
        Check.same("at", 0, post.at(0));
        Check.same("state", 's', post.state(0));
        Check.same("misroutes", 2, post.misroutes(0));
        Check.same("nextLine", 0, post.nextLine(0));
        Check.same("promise", 25, post.promise(0));
    }

    private static void promise6Held() {
        Routepost post = Posts.ring();
        post.accept(0, 2111, 3, 1);
        post.scan(0, 2);
        post.scan(0, 0);
        post.pass(20);
        Check.same("state", 't', post.state(0));
        Check.same("scan", 'h', post.scan(0, 1));
        Check.same("state", 'h', post.state(0));
        Check.same("at", 1, post.at(0));
        Check.same("misroutes", 3, post.misroutes(0));
        Check.same("riding", 0, post.riding(0));
        Check.same("events", 6, post.events(0));
        Check.same("kind", 'm', post.eventKind(0, 4));
        Check.same("kind", 'h', post.eventKind(0, 5));
        Check.same("hub", 1, post.eventHub(0, 4));
        Check.same("hub", 1, post.eventHub(0, 5));
        post.pass(6);
        Check.same("not scanned there, so not reached", true, post.isLate(0));
        Check.refuses("a held one", post, Check.STATE, () -> post.scan(0, 1));
        Check.refuses("a held one", post, Check.STATE, () -> post.deliver(0, true));
        Check.refuses("a held one", post, Check.STATE, () -> post.recall(0));
    }

    private static void promise6ReachesByMisroute() {
        Routepost post = Posts.ring();
        post.accept(0, 2111, 3, 1);
        Check.same("scan", 'm', post.scan(0, 1));
        Check.same("nextLine", -1, post.nextLine(0));
        post.pass(60);
        Check.same("reached in time", false, post.isLate(0));
        Check.same("leaves it again", 'm', post.scan(0, 2));
        Check.same("reached in the first minute", false, post.isLate(0));
    }

    private static void promise6Refusals() {
        Routepost post = Posts.line();
        post.accept(1, 2111, 3, 1);
        post.accept(1, 2111, 3, 1);
        post.deliver(0, true);
        Check.refuses("parcel -1", post, Check.NO_SUCH, () -> post.scan(-1, 0));
        Check.refuses("parcel 2", post, Check.NO_SUCH, () -> post.scan(2, 0));
        Check.refuses("hub -1", post, Check.NO_SUCH, () -> post.scan(1, -1));
        Check.refuses("hub 3", post, Check.NO_SUCH, () -> post.scan(1, 3));
        Check.refuses("hub 3 for a delivered one", post, Check.NO_SUCH, () -> post.scan(0, 3));
        Check.refuses("a delivered one where it is", post, Check.STATE, () -> post.scan(0, 1));
        Check.refuses("a delivered one elsewhere", post, Check.STATE, () -> post.scan(0, 0));
    }

    private static void promise24Misroutes() {
        Routepost post = Posts.ring();
        post.accept(0, 2111, 3, 2);
        Check.same("misroutes", 0, post.misroutes(0));
        post.scan(0, 1);
        Check.same("misroutes", 1, post.misroutes(0));
        Check.same("turned back", 'r', post.deliver(0, false));
        Check.same("counted on", 1, post.misroutes(0));
        post.scan(0, 2);
        Check.same("misroutes", 2, post.misroutes(0));
        Check.same("third one", 'h', post.scan(0, 0));
        Check.same("misroutes", 3, post.misroutes(0));
        Check.refuses("parcel -1", post, Check.NO_SUCH, () -> post.misroutes(-1));
        Check.refuses("parcel 1", post, Check.NO_SUCH, () -> post.misroutes(1));
    }
}
