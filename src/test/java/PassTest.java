/** Promises 9 and 10: minutes, trucks that arrive and trucks that load. */
final class PassTest {
    private PassTest() {
    }

    static void run() {
        Check.test("promise 9, unloading", PassTest::promise9Unloads);
        Check.test("promise 9, several trucks", PassTest::promise9SeveralTrucks);
        Check.test("promise 9, cutoff", PassTest::promise9Cutoff);
        Check.test("promise 9, first departure", PassTest::promise9FirstDeparture);
        Check.test("promise 9, the planned line alone", PassTest::promise9PlannedLine);
        Check.test("promise 9, bags", PassTest::promise9Bags);
        Check.test("promise 9, left behind", PassTest::promise9LeftBehind);
        Check.test("promise 9, left behind again and again in one call", PassTest::promise9LeftBehindInOneCall);
        Check.test("promise 9, at once and minute by minute", PassTest::promise9AtOnce);
        Check.test("promise 9, planned after all departures", PassTest::promise9PlannedAfterwards);
        Check.test("promise 9, two lines in a minute", PassTest::promise9TwoLines);
        Check.test("promise 9, arrivals first", PassTest::promise9NotScanned);
        Check.test("promise 9, refusals", PassTest::promise9Refusals);
        Check.test("promise 10", PassTest::promise10Minute);
    }

    private static void promise9Unloads() {
        Routepost post = Posts.line();
        post.accept(0, 2111, 3, 1);
        Check.same("pass(9)", 0, post.pass(9));
        Check.same("state", 's', post.state(0));
        Check.same("pass(1)", 0, post.pass(1));
        Check.same("state", 't', post.state(0));
        Check.same("pass(14)", 0, post.pass(14));
        Check.same("state", 't', post.state(0));
        Check.same("pass(1)", 1, post.pass(1));
        Check.same("state", 'u', post.state(0));
        Check.same("at", 1, post.at(0));
        Check.same("pass(120)", 0, post.pass(120));
    }

    private static void promise9SeveralTrucks() {
        Routepost post = Posts.line();
        post.accept(0, 2111, 3, 1);
        post.pass(8);
        post.accept(0, 2111, 3, 1);
        post.accept(0, 2111, 3, 1);
        post.pass(12);
        Check.same("two trucks of the line", 3, post.riding(0));
        Check.same("first truck", 1, post.pass(5));
        Check.same("riding", 2, post.riding(0));
        Check.same("second truck", 2, post.pass(10));
        Check.same("riding", 0, post.riding(0));
        Routepost other = Posts.line();
        other.accept(0, 2111, 3, 1);
        other.accept(0, 2111, 3, 1);
        Check.same("in one call", 2, other.pass(120));
    }

    private static void promise9Cutoff() {
        for (int minute = 4; minute <= 6; minute++) {
            Routepost post = Posts.line();
            post.pass(minute);
            post.accept(0, 2111, 3, 1);
            Posts.passTo(post, 10);
            Check.same("state, accepted at " + minute, minute <= 5 ? 't' : 's', post.state(0));
            Check.same("missed", 0, post.missed(0));
            Posts.passTo(post, 20);
            Check.same("state, accepted at " + minute, 't', post.state(0));
        }
    }

    private static void promise9FirstDeparture() {
        Routepost post = Posts.hubs();
        post.addLine(0, 1, 59, 20, 1, 1);
        post.accept(0, 2111, 3, 1);
        Check.same("pass(58)", 0, post.pass(58));
        Check.same("no departure before the first minute", 's', post.state(0));
        post.pass(1);
        Check.same("state", 't', post.state(0));
    }

    private static void promise9PlannedLine() {
        Routepost post = Posts.line();
        post.addLine(0, 1, 7, 60, 60, 1);
        post.accept(0, 2111, 3, 1);
        post.pass(7);
        Check.same("not with another line", 's', post.state(0));
        post.pass(3);
        Check.same("rides", 0, post.rides(0));
    }

    private static void promise9Bags() {
        Routepost post = Posts.line();
        post.accept(0, 2111, 9, 1);
        post.accept(0, 2111, 5, 1);
        post.accept(0, 2111, 8, 1);
        post.accept(0, 2111, 3, 1);
        post.pass(10);
        Check.same("riding", 3, post.riding(0));
        Check.same("left behind, and the next one tried", 's', post.state(2));
        Check.same("missed", 1, post.missed(2));
        Check.same("bags", 2, post.bags(0));
        Check.same("the first bag with room", 12, post.bagVolume(0, 0));
        Check.same("bag 1", 5, post.bagVolume(0, 1));
        post.pass(10);
        Check.same("the next truck", 't', post.state(2));
        Check.same("bags", 1, post.bags(0));
    }

    private static void promise9LeftBehind() {
        Routepost post = Posts.hubs();
        post.addLine(0, 1, 0, 10, 15, 1);
        post.addLine(0, 1, 12, 60, 20, 1);
        post.accept(0, 2111, 9, 1);
        post.accept(0, 2111, 9, 0);
        Check.same("nextLine", 0, post.nextLine(0));
        post.pass(10);
        Check.same("express first", 't', post.state(1));
        Check.same("state", 's', post.state(0));
        Check.same("planned anew", 1, post.nextLine(0));
        Check.same("missed", 1, post.missed(0));
        Check.same("missed", 0, post.missed(1));
        Check.same("events", 1, post.events(0));
        Check.same("promise", 25, post.promise(0));
        post.pass(2);
        Check.same("scanned as before, long enough ago", 't', post.state(0));
        Check.same("rides", 1, post.rides(0));
    }

    /** Each of three lines takes one of the parcels, and the last one waits for the next truck of the first line. */
    private static void promise9LeftBehindInOneCall() {
        Routepost post = Posts.hubsWith(2, 1);
        for (int line = 0; line < 3; line++) {
            post.addLine(0, 1, 5 + 5 * line, 60, 5 + 5 * line, 1);
        }
        for (int i = 0; i < 4; i++) {
            post.accept(0, 2222, 9, 1);
            Check.same("nextLine", 0, post.nextLine(i));
        }
        Check.same("unloaded", 4, post.pass(70));
        for (int i = 0; i < 4; i++) {
            Check.same("missed", i, post.missed(i));
            Check.same("loaded in", i < 3 ? 5 + 5 * i : 65, post.eventMinute(i, 1));
            Check.same("unloaded in", i < 3 ? 10 + 10 * i : 70, post.eventMinute(i, 2));
        }
    }

    private static void promise9AtOnce() {
        for (int minutes : new int[] {1, 2, 15, 60, 119, 120}) {
            Routepost once = Posts.allStatesAndFull();
            Routepost often = Posts.allStatesAndFull();
            int unloaded = 0;
            for (int i = 0; i < minutes; i++) {
                unloaded += often.pass(1);
            }
            Check.same("unloaded in " + minutes, unloaded, once.pass(minutes));
            Check.same("all answers in " + minutes, Answers.of(often), Answers.of(once));
        }
    }

    private static void promise9PlannedAfterwards() {
        Routepost post = Posts.hubs();
        post.addLine(0, 1, 0, 10, 15, 1);
        post.addLine(0, 1, 10, 60, 20, 1);
        post.accept(0, 2111, 9, 1);
        post.accept(0, 2111, 9, 1);
        post.pass(10);
        Check.same("not taken by the next line", 's', post.state(1));
        Check.same("riding", 0, post.riding(1));
        Check.same("nextLine", 0, post.nextLine(1));
        Check.same("missed", 1, post.missed(1));
    }

    private static void promise9TwoLines() {
        Routepost post = Posts.line();
        post.addLine(0, 2, 0, 10, 15, 1);
        post.accept(0, 3111, 9, 1);
        post.accept(0, 2111, 9, 1);
        post.accept(0, 2111, 9, 1);
        post.accept(0, 2111, 9, 1);
        post.accept(0, 3111, 9, 1);
        post.pass(10);
        Check.same("riding", 2, post.riding(0));
        Check.same("riding", 1, post.riding(1));
        Check.same("unloaded", 3, post.pass(15));
        Check.same("at", 2, post.at(0));
        Check.same("at", 1, post.at(1));
        Check.same("the rest came with the next trucks", 2, post.riding(0) + post.riding(1));
    }

    private static void promise9NotScanned() {
        Routepost post = Posts.chain();
        post.accept(0, 3111, 9, 1);
        Check.same("unloaded", 1, post.pass(120));
        Check.same("not loaded without a scan", 'u', post.state(0));
        Check.same("at", 1, post.at(0));
        Check.same("waiting", 0, post.waiting(1));
    }

    private static void promise9Refusals() {
        Routepost post = Posts.line();
        for (int minutes : new int[] {0, -1, 121, Integer.MAX_VALUE, Integer.MIN_VALUE}) {
            Check.refuses("pass(" + minutes + ")", post, Check.ARGUMENT, () -> post.pass(minutes));
        }
    }

    private static void promise10Minute() {
        Routepost post = new Routepost();
        Check.same("minute", 0, post.minute());
        post.pass(1);
        Check.same("minute", 1, post.minute());
        post.pass(120);
        Check.same("minute", 121, post.minute());
        post.openHub(1, 1);
        post.accept(0, 1111, 1, 1);
        Check.same("minute", 121, post.minute());
    }
}
