/** Promises 17 to 20, 22, 23 and 26: what is known of a parcel. */
final class ParcelTest {
    private ParcelTest() {
    }

    static void run() {
        Check.test("promise 17", ParcelTest::promise17State);
        Check.test("promise 18", ParcelTest::promise18At);
        Check.test("promise 19", ParcelTest::promise19Rides);
        Check.test("promise 20", ParcelTest::promise20Destination);
        Check.test("promise 22", ParcelTest::promise22Promise);
        Check.test("promise 23", ParcelTest::promise23IsLate);
        Check.test("promise 23, reached", ParcelTest::promise23Reached);
        Check.test("promise 23, without a promise", ParcelTest::promise23WithoutPromise);
        Check.test("promise 26", ParcelTest::promise26Missed);
    }

    private static void promise17State() {
        Routepost post = Posts.line();
        post.accept(0, 2111, 3, 2);
        Check.same("state", 's', post.state(0));
        post.pass(10);
        Check.same("state", 't', post.state(0));
        post.pass(15);
        Check.same("state", 'u', post.state(0));
        post.scan(0, 1);
        Check.same("state", 's', post.state(0));
        post.deliver(0, true);
        Check.same("state", 'd', post.state(0));
        post.accept(0, 1111, 3, 2);
        post.deliver(1, false);
        post.deliver(1, false);
        Check.same("state", 'h', post.state(1));
        Check.refuses("parcel -1", post, Check.NO_SUCH, () -> post.state(-1));
        Check.refuses("parcel 2", post, Check.NO_SUCH, () -> post.state(2));
        Check.refuses("parcel MAX", post, Check.NO_SUCH, () -> post.state(Integer.MAX_VALUE));
    }

    private static void promise18At() {
        Routepost post = Posts.line();
        post.accept(0, 2111, 3, 2);
        Check.same("at", 0, post.at(0));
        post.pass(10);
        Check.refuses("on a truck", post, Check.STATE, () -> post.at(0));
        post.pass(15);
        Check.same("at", 1, post.at(0));
        post.scan(0, 2);
        Check.same("at", 2, post.at(0));
        post.recall(0);
        post.scan(0, 0);
        post.deliver(0, true);
        Check.same("delivered there", 0, post.at(0));
        post.accept(1, 2111, 3, 2);
        post.deliver(1, false);
        post.deliver(1, false);
        Check.same("held there", 1, post.at(1));
        Check.refuses("parcel -1", post, Check.NO_SUCH, () -> post.at(-1));
        Check.refuses("parcel 2", post, Check.NO_SUCH, () -> post.at(2));
    }

    private static void promise19Rides() {
        Routepost post = Posts.chain();
        post.accept(0, 3111, 3, 2);
        Check.refuses("at a hub", post, Check.STATE, () -> post.rides(0));
        post.pass(10);
        Check.same("rides", 0, post.rides(0));
        post.pass(15);
        Check.refuses("unloaded", post, Check.STATE, () -> post.rides(0));
        post.scan(0, 1);
        post.pass(20);
        Check.same("rides", 1, post.rides(0));
        post.scan(0, 0);
        Check.refuses("misrouted", post, Check.STATE, () -> post.rides(0));
        Check.refuses("parcel -1", post, Check.NO_SUCH, () -> post.rides(-1));
        Check.refuses("parcel 1", post, Check.NO_SUCH, () -> post.rides(1));
    }

    private static void promise20Destination() {
        Routepost post = Posts.line();
        post.accept(1, 3111, 3, 2);
        Check.same("destination", 2, post.destination(0));
        post.openHub(31, 5);
        Check.same("destination", 2, post.destination(0));
        post.recall(0);
        Check.same("destination", 1, post.destination(0));
        Check.refuses("parcel -1", post, Check.NO_SUCH, () -> post.destination(-1));
        Check.refuses("parcel 1", post, Check.NO_SUCH, () -> post.destination(1));
    }

    private static void promise22Promise() {
        Routepost post = Posts.ring();
        post.accept(0, 3111, 3, 2);
        // 10 to 25 at hub 1, 45 to 55 at hub 2: the truck of the minute 25 leaves before the cutoff.
        Check.same("promise", 55, post.promise(0));
        post.accept(2, 2111, 3, 2);
        Check.same("promise", 45, post.promise(1));
        post.closeLine(1);
        Check.same("the promise stays", 55, post.promise(0));
        post.accept(0, 3111, 3, 2);
        Check.same("no path", -1, post.promise(2));
        post.addLine(0, 2, 0, 5, 1, 1);
        Check.same("the promise stays", 55, post.promise(0));
        Check.same("the promise stays", -1, post.promise(2));
        Check.same("recall", 0, post.recall(2));
        Check.same("promise", 0, post.promise(2));
        Check.refuses("parcel -1", post, Check.NO_SUCH, () -> post.promise(-1));
        Check.refuses("parcel 3", post, Check.NO_SUCH, () -> post.promise(3));
    }

    private static void promise23IsLate() {
        Routepost post = Posts.line();
        post.accept(0, 2111, 3, 2);
        Check.same("isLate", false, post.isLate(0));
        post.pass(25);
        Check.same("in the minute of the promise", false, post.isLate(0));
        post.pass(1);
        Check.same("not scanned, so not reached", true, post.isLate(0));
        post.scan(0, 1);
        Check.same("reached later than promised", true, post.isLate(0));
        post.deliver(0, true);
        post.pass(1);
        Check.same("delivered, but late", true, post.isLate(0));
        Check.refuses("parcel -1", post, Check.NO_SUCH, () -> post.isLate(-1));
        Check.refuses("parcel 1", post, Check.NO_SUCH, () -> post.isLate(1));
    }

    private static void promise23Reached() {
        Routepost post = Posts.line();
        post.accept(0, 2111, 3, 2);
        post.pass(25);
        post.scan(0, 1);
        post.pass(100);
        Check.same("reached in time", false, post.isLate(0));
        post.scan(0, 2);
        post.scan(0, 1);
        Check.same("the first minute counts", false, post.isLate(0));
    }

    private static void promise23WithoutPromise() {
        Routepost post = Posts.hubs();
        post.accept(0, 2111, 3, 2);
        post.pass(100);
        Check.same("isLate", false, post.isLate(0));
        post.scan(0, 1);
        Check.same("isLate", false, post.isLate(0));
    }

    private static void promise26Missed() {
        Routepost post = Posts.hubs();
        post.addLine(0, 1, 0, 10, 15, 1);
        post.accept(0, 2111, 9, 0);
        post.accept(0, 2111, 9, 0);
        post.accept(0, 2111, 9, 1);
        post.pass(20);
        Check.same("missed", 0, post.missed(0));
        Check.same("missed", 1, post.missed(1));
        Check.same("missed", 2, post.missed(2));
        post.recall(2);
        Check.same("missed", 2, post.missed(2));
        Check.refuses("parcel -1", post, Check.NO_SUCH, () -> post.missed(-1));
        Check.refuses("parcel 3", post, Check.NO_SUCH, () -> post.missed(3));
    }
}
