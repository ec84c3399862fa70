/** Promises 34 to 40: the parcels that wait for a line, bags, and trucks. */
final class BagTest {
    private BagTest() {
    }

    static void run() {
        Check.test("promise 34", BagTest::promise34Waiting);
        Check.test("promise 35, service", BagTest::promise35ByService);
        Check.test("promise 35, promise", BagTest::promise35ByPromise);
        Check.test("promise 35, none promised", BagTest::promise35WithoutPromise);
        Check.test("promise 35, refusals", BagTest::promise35Refusals);
        Check.test("promise 36", BagTest::promise36BagsNeeded);
        Check.test("promise 36, order", BagTest::promise36InOrder);
        Check.test("promise 36, many", BagTest::promise36Many);
        Check.test("promise 37", BagTest::promise37BagsAtLeast);
        Check.test("promises 38 and 39", BagTest::promises38And39);
        Check.test("promise 39, refusals", BagTest::promise39Refusals);
        Check.test("promise 40", BagTest::promise40Riding);
        Check.test("promises 34 to 40, no such line", BagTest::noSuchLine);
    }

    private static void promise34Waiting() {
        Routepost post = Posts.chain();
        Check.same("waiting", 0, post.waiting(0));
        post.accept(0, 2111, 1, 1);
        post.accept(0, 3111, 1, 1);
        post.accept(1, 3111, 1, 1);
        post.accept(0, 1111, 1, 1);
        Check.same("waiting", 2, post.waiting(0));
        Check.same("waiting", 1, post.waiting(1));
        post.scan(0, 1);
        Check.same("waiting", 1, post.waiting(0));
        post.pass(10);
        Check.same("loaded", 0, post.waiting(0));
        post.pass(15);
        Check.same("unloaded and not scanned", 0, post.waiting(1));
        post.scan(1, 1);
        Check.same("waiting", 1, post.waiting(1));
    }

    private static void promise35ByService() {
        Routepost post = Posts.line();
        post.accept(0, 2111, 1, 2);
        post.accept(0, 2111, 1, 1);
        post.accept(0, 2111, 1, 0);
        post.accept(0, 2111, 1, 1);
        post.accept(0, 2111, 1, 0);
        int[] order = {2, 4, 1, 3, 0};
        for (int i = 0; i < order.length; i++) {
            Check.same("waitingAt(" + i + ")", order[i], post.waitingAt(0, i));
        }
    }

    private static void promise35ByPromise() {
        Routepost post = Posts.chain();
        post.accept(0, 3111, 1, 1);
        post.accept(0, 2111, 1, 1);
        post.accept(0, 3111, 1, 0);
        post.pass(6);
        post.accept(0, 2111, 1, 1);
        Check.same("promise", 55, post.promise(0));
        Check.same("promise", 25, post.promise(1));
        Check.same("promise", 35, post.promise(3));
        int[] order = {2, 1, 3, 0};
        for (int i = 0; i < order.length; i++) {
            Check.same("waitingAt(" + i + ")", order[i], post.waitingAt(0, i));
        }
    }

    private static void promise35WithoutPromise() {
        Routepost post = Posts.hubs();
        post.accept(0, 2111, 1, 1);
        post.accept(0, 2111, 1, 1);
        post.addLine(0, 1, 0, 10, 15, 2);
        post.accept(0, 2111, 1, 1);
        post.accept(0, 2111, 1, 2);
        int[] order = {2, 0, 1, 3};
        for (int i = 0; i < order.length; i++) {
            Check.same("waitingAt(" + i + ")", order[i], post.waitingAt(0, i));
        }
    }

    private static void promise35Refusals() {
        Routepost post = Posts.line();
        Check.refuses("nobody waits", post, Check.INDEX, () -> post.waitingAt(0, 0));
        post.accept(0, 2111, 1, 1);
        Check.same("waitingAt", 0, post.waitingAt(0, 0));
        Check.refuses("rank -1", post, Check.INDEX, () -> post.waitingAt(0, -1));
        Check.refuses("rank 1", post, Check.INDEX, () -> post.waitingAt(0, 1));
        Check.refuses("no line, no rank", post, Check.NO_SUCH, () -> post.waitingAt(1, -1));
    }

    private static void promise36BagsNeeded() {
        Routepost post = Posts.chain();
        Check.same("bagsNeeded", 0, post.bagsNeeded(0));
        post.accept(0, 2111, 9, 1);
        Check.same("bagsNeeded", 1, post.bagsNeeded(0));
        post.accept(0, 2111, 5, 1);
        Check.same("bagsNeeded", 2, post.bagsNeeded(0));
        post.accept(0, 2111, 3, 1);
        Check.same("into the first bag, up to 12", 2, post.bagsNeeded(0));
        post.accept(0, 3111, 1, 1);
        Check.same("another destination", 3, post.bagsNeeded(0));
        post.accept(0, 2111, 7, 1);
        Check.same("into the second bag, up to 12", 3, post.bagsNeeded(0));
        post.accept(0, 2111, 1, 1);
        Check.same("no more room", 4, post.bagsNeeded(0));
    }

    private static void promise36InOrder() {
        Routepost post = Posts.line();
        post.accept(0, 2111, 4, 2);
        post.accept(0, 2111, 4, 2);
        post.accept(0, 2111, 8, 1);
        post.accept(0, 2111, 8, 1);
        Check.same("the large ones first", 2, post.bagsNeeded(0));
        Routepost other = Posts.line();
        other.accept(0, 2111, 4, 1);
        other.accept(0, 2111, 4, 1);
        other.accept(0, 2111, 8, 2);
        other.accept(0, 2111, 8, 2);
        Check.same("the small ones first", 3, other.bagsNeeded(0));
    }

    private static void promise36Many() {
        Routepost post = Posts.line();
        for (int i = 0; i < 40; i++) {
            post.accept(0, 2111, 7, 1);
        }
        Check.same("no limit on bags", 40, post.bagsNeeded(0));
        Check.same("bagsAtLeast", 24, post.bagsAtLeast(0));
    }

    private static void promise37BagsAtLeast() {
        Routepost post = Posts.chain();
        Check.same("bagsAtLeast", 0, post.bagsAtLeast(0));
        post.accept(0, 2111, 7, 1);
        Check.same("bagsAtLeast", 1, post.bagsAtLeast(0));
        post.accept(0, 2111, 5, 1);
        Check.same("12", 1, post.bagsAtLeast(0));
        post.accept(0, 2111, 1, 1);
        Check.same("13", 2, post.bagsAtLeast(0));
        post.accept(0, 3111, 1, 1);
        Check.same("another destination", 3, post.bagsAtLeast(0));
        post.accept(1, 3111, 9, 1);
        Check.same("another line", 3, post.bagsAtLeast(0));
        Check.same("another line", 1, post.bagsAtLeast(1));
        post.accept(0, 2111, 8, 1);
        post.accept(0, 2111, 8, 1);
        Check.same("29 and 1", 4, post.bagsAtLeast(0));
        Check.same("bagsNeeded", 4, post.bagsNeeded(0));
        Routepost other = Posts.ring();
        other.accept(2, 1111, 9, 1);
        other.accept(2, 2111, 9, 1);
        Check.same("to the hubs 0 and 1", 2, other.bagsAtLeast(2));
    }

    private static void promises38And39() {
        Routepost post = Posts.chain();
        Check.same("none has left", 0, post.bags(0));
        post.accept(0, 3111, 9, 0);
        post.accept(0, 2111, 3, 1);
        post.accept(0, 3111, 2, 1);
        post.accept(0, 2111, 4, 2);
        post.pass(9);
        Check.same("none has left", 0, post.bags(0));
        post.pass(1);
        Check.same("bags", 2, post.bags(0));
        Check.same("one destination", 11, post.bagVolume(0, 0));
        Check.same("one destination", 7, post.bagVolume(0, 1));
        Check.refuses("bag 2", post, Check.INDEX, () -> post.bagVolume(0, 2));
        post.scan(0, 2);
        post.pass(26);
        Check.same("no truck without parcels", 2, post.bags(0));
        Check.same("when it left", 11, post.bagVolume(0, 0));
        post.accept(0, 2111, 5, 1);
        post.pass(4);
        Check.same("too late for this truck", 2, post.bags(0));
        post.pass(10);
        Check.same("the next truck", 1, post.bags(0));
        Check.same("bag 0", 5, post.bagVolume(0, 0));
        Check.refuses("bag 1", post, Check.INDEX, () -> post.bagVolume(0, 1));
        post.closeLine(0);
        Check.same("closed", 1, post.bags(0));
        Check.same("another line", 0, post.bags(1));
    }

    private static void promise39Refusals() {
        Routepost post = Posts.line();
        Check.refuses("none has left", post, Check.INDEX, () -> post.bagVolume(0, 0));
        Check.refuses("no line, no bag", post, Check.NO_SUCH, () -> post.bagVolume(1, 0));
        post.accept(0, 2111, 5, 1);
        post.pass(10);
        Check.refuses("bag -1", post, Check.INDEX, () -> post.bagVolume(0, -1));
        Check.refuses("bag 1", post, Check.INDEX, () -> post.bagVolume(0, 1));
    }

    private static void promise40Riding() {
        Routepost post = Posts.chain();
        post.accept(0, 2111, 1, 1);
        post.accept(0, 2111, 1, 1);
        post.accept(1, 3111, 1, 1);
        Check.same("riding", 0, post.riding(0));
        post.pass(10);
        Check.same("riding", 2, post.riding(0));
        Check.same("riding", 0, post.riding(1));
        post.scan(0, 2);
        Check.same("riding", 1, post.riding(0));
        post.pass(15);
        Check.same("riding", 0, post.riding(0));
        Check.same("riding", 1, post.riding(1));
    }

    private static void noSuchLine() {
        Routepost post = Posts.line();
        for (int line : new int[] {-1, 1, Integer.MAX_VALUE, Integer.MIN_VALUE}) {
            Check.refuses("waiting", post, Check.NO_SUCH, () -> post.waiting(line));
            Check.refuses("waitingAt", post, Check.NO_SUCH, () -> post.waitingAt(line, 0));
            Check.refuses("bagsNeeded", post, Check.NO_SUCH, () -> post.bagsNeeded(line));
            Check.refuses("bagsAtLeast", post, Check.NO_SUCH, () -> post.bagsAtLeast(line));
            Check.refuses("bags", post, Check.NO_SUCH, () -> post.bags(line));
            Check.refuses("bagVolume", post, Check.NO_SUCH, () -> post.bagVolume(line, 0));
            Check.refuses("riding", post, Check.NO_SUCH, () -> post.riding(line));
        }
    }
}
