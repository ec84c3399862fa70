/** Promises 46 and 47: the share of late parcels and the mean time. */
final class FigureTest {
    private FigureTest() {
    }

    static void run() {
        Check.test("promise 46", FigureTest::promise46LateShare);
        Check.test("promise 47", FigureTest::promise47MeanTime);
    }

    private static void promise46LateShare() {
        Routepost post = Posts.line();
        Check.refuses("no parcels", post, Check.ARITHMETIC, post::lateShare);
        post.accept(0, 2111, 3, 1);
        Check.same("lateShare", 0.0, post.lateShare());
        post.accept(0, 1111, 3, 1);
        post.accept(0, 3111, 3, 1);
        post.pass(26);
        Check.same("one of three", (double) (1f / 3f), post.lateShare());
        post.scan(0, 1);
        post.deliver(0, true);
        Check.same("delivered ones count", (double) (1f / 3f), post.lateShare());
        post.accept(0, 2111, 3, 1);
        post.accept(0, 2111, 3, 1);
        post.accept(0, 2111, 3, 1);
        post.accept(0, 2111, 3, 1);
        post.pass(120);
        Check.same("five of seven", (double) (5f / 7f), post.lateShare());
    }

    private static void promise47MeanTime() {
        Routepost post = Posts.line();
        Check.refuses("no parcels", post, Check.ARITHMETIC, post::meanTime);
        post.pass(3);
        post.accept(0, 2111, 3, 1);
        Check.refuses("none delivered", post, Check.ARITHMETIC, post::meanTime);
        post.accept(2, 3111, 3, 2);
        post.deliver(1, true);
        Check.same("at once", 0.0, post.meanTime());
        post.pass(24);
        post.scan(0, 1);
        Check.same("not delivered yet", 0.0, post.meanTime());
        post.deliver(0, true);
        Check.same("24 and 0", 12.0, post.meanTime());
        post.accept(0, 1111, 3, 0);
        post.pass(1);
        post.deliver(2, true);
        Check.same("24, 0 and 1", 25.0 / 3.0, post.meanTime());
        post.accept(0, 1111, 3, 2);
        post.deliver(3, false);
        post.deliver(3, false);
        Check.same("held ones don't count", 25.0 / 3.0, post.meanTime());
        post.accept(0, 2111, 3, 2);
        post.pass(10);
        post.scan(4, 0);
        post.recall(4);
        post.pass(2);
        post.deliver(4, true);
        Check.same("returns count from their acceptance", 37.0 / 4.0, post.meanTime());
    }
}
