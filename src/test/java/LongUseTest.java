/** "An object is used for at most 512 calls": what holds in the last of them, and in the largest minutes. */
final class LongUseTest {
    private static final int MOST_CALLS = 512;

    private LongUseTest() {
    }

    static void run() {
        Check.test("the 512th call", LongUseTest::lastCall);
        Check.test("511 calls of pass(120)", LongUseTest::largestMinute);
        Check.test("a parcel in the largest minutes", LongUseTest::lateParcel);
        Check.test("sums of the largest minutes", LongUseTest::largestSums);
        Check.test("505 refused calls", LongUseTest::refusedCalls);
    }

    private static void lastCall() {
        Routepost post = new Routepost();
        Check.same("openHub", 0, post.openHub(1, 20));
        for (int call = 2; call < MOST_CALLS; call++) {
            Check.same("hubs, call " + call, 1, post.hubs());
        }
        Check.same("the 512th call", 1, post.openHub(2, 20));
    }

    private static void largestMinute() {
        Routepost post = new Routepost();
        for (int call = 1; call < MOST_CALLS; call++) {
            Check.same("pass", 0, post.pass(120));
        }
        Check.same("minute", 511 * 120, post.minute());
    }

    /** 505 calls of pass, so that a parcel is accepted in the minute 60600. */
    private static Routepost late() {
        Routepost post = Posts.hubsWith(2, 20);
        post.addLine(0, 1, 59, 60, 60, 4);
        for (int i = 0; i < 505; i++) {
            post.pass(120);
        }
        return post;
    }

    private static void lateParcel() {
        Check.same("nextDeparture", 60659, late().nextDeparture(0));
        Routepost post = late();
        post.accept(0, 2222, 9, 1);
        Check.same("promise", 60719, post.promise(0));
        Routepost traced = late();
        traced.accept(0, 2222, 9, 1);
        // 97 times 60600 is 5878200, and 5 times 1000003 less.
        Check.same("trace", 878185, traced.trace(0));
        Routepost paths = late();
        paths.accept(0, 2222, 9, 1);
        Check.same("arrivalByPaths", 60719, paths.arrivalByPaths(0));
        Check.same("arrivalBySimulation", 60719, paths.arrivalBySimulation(0));
        Routepost driven = late();
        driven.accept(0, 2222, 9, 1);
        Check.same("pass(118)", 0, driven.pass(118));
        Check.same("pass(1)", 1, driven.pass(1));
    }

    private static void largestSums() {
        Routepost post = Posts.hubsWith(1, 1);
        for (int i = 0; i < 40; i++) {
            post.accept(0, 1111, 1, 1);
        }
        for (int i = 0; i < 430; i++) {
            post.pass(120);
        }
        for (int i = 0; i < 40; i++) {
            Check.same("deliver", 'd', post.deliver(i, true));
        }
        Check.same("40 times 51600, in the 512th call", 51600.0, post.meanTime());
    }

    private static void refusedCalls() {
        Routepost post = Posts.hubsWith(2, 1);
        post.addLine(0, 1, 5, 60, 5, 1);
        for (int i = 0; i < 505; i++) {
            Check.same("accept", Check.ARGUMENT.getName(), Check.outcome(() -> post.accept(0, 2222, 0, 1)));
        }
        Check.same("accept", 0, post.accept(0, 2222, 1, 1));
        Check.same("pass", 1, post.pass(10));
        Check.same("scan", 'o', post.scan(0, 1));
        Check.same("deliver", 'd', post.deliver(0, true));
    }
}
