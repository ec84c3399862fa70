/** Promises 46 and 47, sentence by sentence. */
final class FigureTermsTest {
    private FigureTermsTest() {
    }

    static void run() {
        Check.test("the share of parcels that are late: none, one and all", FigureTermsTest::shares);
        Check.test("their number divided by that of all, both converted to float", FigureTermsTest::floats);
        Check.test("all parcels count, in whatever state", FigureTermsTest::allStates);
        Check.test("late returns count, delivered late ones and held ones too", FigureTermsTest::lateReturns);
        Check.test("from their acceptance to their delivery", FigureTermsTest::acceptanceToDelivery);
        Check.test("divided by the number of these parcels, both converted to double", FigureTermsTest::doubles);
        Check.test("returns that have been delivered", FigureTermsTest::returns);
    }

    /** So many parcels with the promise 10, that are late in 11 as long as they aren't scanned. */
    private static Routepost promised(int parcels) {
        Routepost post = Posts.hubsWith(2, 1);
        post.addLine(0, 1, 5, 60, 5, 4);
        for (int i = 0; i < parcels; i++) {
            post.accept(0, 2222, 1, 1);
        }
        post.pass(10);
        return post;
    }

    private static void shares() {
        for (int count : new int[] {1, 2, 40}) {
            Routepost post = promised(count);
            Check.same("in time", 0.0, post.lateShare());
            post.scan(0, 1);
            post.pass(1);
            Check.same("all but one", (double) ((float) (count - 1) / (float) count), post.lateShare());
        }
        Routepost post = promised(40);
        post.pass(1);
        Check.same("all", 1.0, post.lateShare());
    }

    private static void floats() {
        Routepost post = promised(3);
        post.scan(0, 1);
        post.scan(1, 1);
        post.pass(1);
        // A third as a float, which is no third as a double.
        Check.same("a third", 11184811.0 / 33554432.0, post.lateShare());
        Routepost other = promised(3);
        other.scan(0, 1);
        other.pass(1);
        Check.same("two thirds", 11184811.0 / 16777216.0, other.lateShare());
    }

    private static void allStates() {
        Routepost post = Posts.allStates();
        Check.same("none is late", 0.0, post.lateShare());
        post.pass(1);
        Check.same("parcel 0, that was to be there in 15", 0.125, post.lateShare());
        Posts.passTo(post, 41);
        // Of the others, 1 was to be there in 40 and 5 in 25; 7 has no promise.
        Check.same("three of eight", 0.375, post.lateShare());
        post.scan(0, 1);
        post.deliver(0, true);
        post.scan(5, 2);
        post.scan(5, 0);
        post.scan(5, 2);
        Check.same("held", 'h', post.state(5));
        Check.same("delivered and held ones still count", 0.375, post.lateShare());
    }

    private static void lateReturns() {
        Routepost post = Posts.hubsWith(2, 1);
        post.addLine(1, 0, 5, 60, 5, 4);
        for (int i = 0; i < 4; i++) {
            post.accept(0, 2222, 1, 2);
            post.scan(i, 1);
            post.recall(i);
            Check.same("promise", 10, post.promise(i));
        }
        post.pass(10);
        Check.same("in time", 0.0, post.lateShare());
        post.scan(0, 0);
        post.pass(1);
        Check.same("three returns that nobody has scanned there", 0.75, post.lateShare());
        post.scan(1, 0);
        post.deliver(1, true);
        post.scan(2, 0);
        post.deliver(2, false);
        Check.same("delivered", 'd', post.state(1));
        Check.same("held", 'h', post.state(2));
        Check.same("still late", 0.75, post.lateShare());
        post.accept(0, 2222, 1, 2);
        Check.same("without a promise", -1, post.promise(4));
        Check.same("three of five", (double) 0.6f, post.lateShare());
    }

    private static void acceptanceToDelivery() {
        Routepost post = Posts.hubsWith(1, 1);
        post.pass(7);
        post.accept(0, 1111, 1, 1);
        post.deliver(0, true);
        Check.same("at once", 0.0, post.meanTime());
        post.pass(100);
        post.accept(0, 1111, 1, 1);
        post.pass(30);
        Check.same("not delivered yet", 0.0, post.meanTime());
        post.deliver(1, true);
        Check.same("0 and 30", 15.0, post.meanTime());
        post.pass(120);
        Check.same("no time goes on for them", 15.0, post.meanTime());
    }

    private static void doubles() {
        Routepost post = Posts.hubsWith(1, 1);
        for (int i = 0; i < 3; i++) {
            post.accept(0, 1111, 1, 1);
        }
        post.accept(0, 1111, 1, 2);
        post.deliver(0, true);
        post.deliver(1, true);
        post.pass(1);
        post.deliver(2, true);
        Check.same("0, 0 and 1", 1.0 / 3.0, post.meanTime());
        post.deliver(3, false);
        post.deliver(3, false);
        Check.same("held ones don't count", 1.0 / 3.0, post.meanTime());
    }

    private static void returns() {
        Routepost post = Posts.hubsWith(1, 1);
        post.accept(0, 1111, 1, 1);
        post.pass(10);
        post.recall(0);
        Check.refuses("not delivered yet", post, Check.ARITHMETIC, post::meanTime);
        post.pass(5);
        post.deliver(0, true);
        Check.same("from the acceptance, not from the recall", 15.0, post.meanTime());
    }
}
