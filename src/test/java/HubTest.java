/** Promises 2, 11, 14 and 15: hubs, codes and addresses. */
final class HubTest {
    private HubTest() {
    }

    static void run() {
        Check.test("promise 2", HubTest::promise2OpenHub);
        Check.test("promise 2, wrong codes", HubTest::promise2Refusals);
        Check.test("promise 2, cutoffs", HubTest::promise2Cutoff);
        Check.test("promise 11", HubTest::promise11Hubs);
        Check.test("promises 14 and 15", HubTest::promises14And15HubOf);
        Check.test("promises 14 and 15, wrong addresses", HubTest::promises14And15Refusals);
    }

    private static void promise2OpenHub() {
        Routepost post = new Routepost();
        int[] codes = {1, 9, 11, 99, 111, 999};
        for (int i = 0; i < codes.length; i++) {
            Check.same("openHub(" + codes[i] + ")", i, post.openHub(codes[i], 1 + i % 2 * 19));
        }
        Check.refuses("a 7th hub", post, Check.STATE, () -> post.openHub(5, 5));
        Check.refuses("a wrong code and 6 hubs", post, Check.ARGUMENT, () -> post.openHub(0, 5));
        Check.refuses("a wrong cutoff and a taken code", post, Check.ARGUMENT, () -> post.openHub(1, 21));
    }

    private static void promise2Refusals() {
        Routepost post = new Routepost();
        for (int code : new int[] {0, -1, -11, 10, 100, 101, 110, 120, 20, 105, 1000, 1111, 9999,
                Integer.MAX_VALUE, Integer.MIN_VALUE}) {
            Check.refuses("code " + code, post, Check.ARGUMENT, () -> post.openHub(code, 5));
        }
        for (int cutoff : new int[] {0, 21, -1, Integer.MAX_VALUE, Integer.MIN_VALUE}) {
            Check.refuses("cutoff " + cutoff, post, Check.ARGUMENT, () -> post.openHub(1, cutoff));
        }
        Check.same("number", 0, post.openHub(21, 5));
        Check.refuses("a taken code", post, Check.STATE, () -> post.openHub(21, 6));
        Check.same("a prefix of a code", 1, post.openHub(2, 5));
        Check.same("a longer code", 2, post.openHub(213, 5));
    }

    private static void promise2Cutoff() {
        for (int cutoff = 1; cutoff <= 20; cutoff += 19) {
            Routepost post = new Routepost();
            post.openHub(1, cutoff);
            post.openHub(2, 1);
            post.addLine(0, 1, 0, 5, 1, 1);
            post.accept(0, 2222, 1, 0);
            Check.same("promise with cutoff " + cutoff, cutoff == 1 ? 6 : 21, post.promise(0));
        }
    }

    private static void promise11Hubs() {
        Routepost post = new Routepost();
        Check.same("hubs", 0, post.hubs());
        for (int i = 1; i <= 6; i++) {
            post.openHub(i, i);
            Check.same("hubs", i, post.hubs());
        }
    }

    private static void bothWays(Routepost post, int address, int want) {
        Check.same("hubOf(" + address + ")", want, post.hubOf(address));
        Check.same("hubByTrying(" + address + ")", want, post.hubByTrying(address));
    }

    private static void promises14And15HubOf() {
        Routepost post = new Routepost();
        bothWays(post, 2134, -1);
        post.openHub(213, 5);
        bothWays(post, 2134, 0);
        bothWays(post, 2145, -1);
        post.openHub(2, 5);
        post.openHub(21, 5);
        post.openHub(9, 5);
        post.openHub(35, 5);
        bothWays(post, 2134, 0);
        bothWays(post, 2139, 0);
        bothWays(post, 2145, 2);
        bothWays(post, 2199, 2);
        bothWays(post, 2911, 1);
        bothWays(post, 1213, -1);
        bothWays(post, 3111, -1);
        bothWays(post, 3511, 4);
        bothWays(post, 3611, -1);
        bothWays(post, 9999, 3);
        bothWays(post, 1111, -1);
    }

    private static void promises14And15Refusals() {
        Routepost post = Posts.hubs();
        for (int address : new int[] {0, -1, 1, 11, 213, 999, 1000, 1011, 1101, 1110, 2013, 9990, 10000, 11111,
                -1111, Integer.MAX_VALUE, Integer.MIN_VALUE}) {
            Check.refuses("hubOf(" + address + ")", post, Check.ARGUMENT, () -> post.hubOf(address));
            Check.refuses("hubByTrying(" + address + ")", post, Check.ARGUMENT, () -> post.hubByTrying(address));
        }
    }
}
