/** Promises 3, 4, 12 and 16: lines and their timetable. */
final class LineTest {
    private LineTest() {
    }

    static void run() {
        Check.test("promise 3", LineTest::promise3AddLine);
        Check.test("promise 3, no such hub", LineTest::promise3NoSuchHub);
        Check.test("promise 3, wrong numbers", LineTest::promise3WrongNumbers);
        Check.test("promise 3, too many", LineTest::promise3TooMany);
        Check.test("promise 3, planning", LineTest::promise3PlansAnew);
        Check.test("promise 4", LineTest::promise4CloseLine);
        Check.test("promise 4, trucks on the way", LineTest::promise4TrucksArrive);
        Check.test("promise 4, planning", LineTest::promise4PlansAnew);
        Check.test("promise 12", LineTest::promise12Lines);
        Check.test("promise 16", LineTest::promise16NextDeparture);
        Check.test("promise 16, refusals", LineTest::promise16Refusals);
    }

    private static void promise3AddLine() {
        Routepost post = Posts.hubs();
        Check.same("least numbers", 0, post.addLine(0, 1, 0, 5, 1, 1));
        Check.same("most numbers", 1, post.addLine(1, 0, 59, 60, 60, 4));
        Check.same("the same hubs again", 2, post.addLine(0, 1, 30, 30, 30, 2));
        Check.same("first departure", 5, post.nextDeparture(0));
        Check.same("first departure", 59, post.nextDeparture(1));
        Check.same("first departure", 30, post.nextDeparture(2));
    }

    private static void promise3NoSuchHub() {
        Routepost post = Posts.hubs();
        for (int hub : new int[] {-1, 3, 6, Integer.MAX_VALUE, Integer.MIN_VALUE}) {
            Check.refuses("from " + hub, post, Check.NO_SUCH, () -> post.addLine(hub, 1, 0, 5, 1, 1));
            Check.refuses("to " + hub, post, Check.NO_SUCH, () -> post.addLine(1, hub, 0, 5, 1, 1));
            Check.refuses("from and to " + hub, post, Check.NO_SUCH, () -> post.addLine(hub, hub, -1, 0, 0, 0));
        }
    }

    private static void promise3WrongNumbers() {
        Routepost post = Posts.hubs();
        Check.refuses("the same hub", post, Check.ARGUMENT, () -> post.addLine(1, 1, 0, 5, 1, 1));
        int[][] wrong = {
            {-1, 5, 1, 1}, {60, 5, 1, 1}, {0, 4, 1, 1}, {0, 61, 1, 1}, {0, 0, 1, 1}, {0, 5, 0, 1}, {0, 5, 61, 1},
            {0, 5, 1, 0}, {0, 5, 1, 5}, {0, 5, -1, 1}, {0, -5, 1, 1}, {0, 5, 1, -1},
        };
        for (int[] row : wrong) {
            Check.refuses("a wrong number", post, Check.ARGUMENT,
                    () -> post.addLine(0, 1, row[0], row[1], row[2], row[3]));
        }
    }

    private static void promise3TooMany() {
        Routepost post = Posts.hubs();
        for (int i = 0; i < 12; i++) {
            Check.same("number", i, post.addLine(i % 3, (i + 1) % 3, i, 5, 1, 1));
        }
        post.closeLine(4);
        Check.refuses("a 13th line", post, Check.STATE, () -> post.addLine(0, 1, 0, 5, 1, 1));
        Check.refuses("a wrong 13th line", post, Check.ARGUMENT, () -> post.addLine(0, 0, 0, 5, 1, 1));
        Check.refuses("a 13th line from nowhere", post, Check.NO_SUCH, () -> post.addLine(3, 0, 0, 5, 1, 1));
    }

    private static void promise3PlansAnew() {
        Routepost post = Posts.hubs();
        post.accept(0, 2111, 1, 1);
        Check.same("nextLine", -1, post.nextLine(0));
        Check.same("promise", -1, post.promise(0));
        post.pass(10);
        post.addLine(0, 1, 0, 10, 15, 2);
        Check.same("nextLine", 0, post.nextLine(0));
        Check.same("the promise stays", -1, post.promise(0));
        Check.same("no departure of this minute", 35, post.arrival(0));
        post.addLine(0, 1, 11, 60, 23, 1);
        Check.same("a line that arrives sooner", 1, post.nextLine(0));
        Check.same("scanned as before", 34, post.arrival(0));
        post.addLine(0, 1, 11, 60, 23, 1);
        Check.same("a line that arrives at the same time", 1, post.nextLine(0));
    }

    private static void promise4CloseLine() {
        Routepost post = Posts.chain();
        post.accept(0, 2111, 1, 1);
        post.accept(0, 3111, 1, 1);
        post.accept(1, 3111, 1, 1);
        Check.refuses("line -1", post, Check.NO_SUCH, () -> post.closeLine(-1));
        Check.refuses("line 2", post, Check.NO_SUCH, () -> post.closeLine(2));
        Check.same("closeLine", 2, post.closeLine(0));
        Check.refuses("closed already", post, Check.STATE, () -> post.closeLine(0));
        Check.same("lines", 2, post.lines());
        Check.same("waiting", 0, post.waiting(0));
        Check.same("nextLine", -1, post.nextLine(0));
        post.pass(30);
        Check.same("no departures", 's', post.state(0));
        Check.same("loaded", 't', post.state(2));
        Check.same("none waits", 0, post.closeLine(1));
    }

    private static void promise4TrucksArrive() {
        Routepost post = Posts.line();
        post.accept(0, 2111, 1, 1);
        post.pass(10);
        Check.same("on the way", 1, post.riding(0));
        Check.same("nobody waits", 0, post.closeLine(0));
        Check.same("on the way", 1, post.riding(0));
        Check.same("unloaded", 1, post.pass(15));
        Check.same("state", 'u', post.state(0));
        Check.same("at", 1, post.at(0));
    }

    private static void promise4PlansAnew() {
        Routepost post = Posts.line();
        post.addLine(0, 1, 12, 20, 20, 1);
        post.addLine(0, 2, 12, 20, 20, 1);
        post.accept(0, 2111, 1, 1);
        Check.same("nextLine", 0, post.nextLine(0));
        Check.same("closeLine", 1, post.closeLine(0));
        Check.same("nextLine", 1, post.nextLine(0));
        Check.same("the promise stays", 25, post.promise(0));
        Check.same("arrival", 32, post.arrival(0));
    }

    private static void promise12Lines() {
        Routepost post = Posts.ring();
        Check.same("lines", 3, post.lines());
        post.closeLine(1);
        Check.same("lines", 3, post.lines());
    }

    private static void promise16NextDeparture() {
        Routepost post = Posts.hubs();
        post.addLine(0, 1, 0, 10, 15, 2);
        post.addLine(0, 1, 7, 60, 15, 2);
        post.addLine(0, 1, 59, 5, 15, 2);
        int[][] due = {{0, 10, 7, 59}, {6, 10, 7, 59}, {7, 10, 67, 59}, {9, 10, 67, 59}, {10, 20, 67, 59},
            {58, 60, 67, 59}, {59, 60, 67, 64}, {60, 70, 67, 64}, {63, 70, 67, 64}, {64, 70, 67, 69},
            {67, 70, 127, 69}};
        for (int[] row : due) {
            Posts.passTo(post, row[0]);
            for (int line = 0; line < 3; line++) {
                Check.same("nextDeparture(" + line + ") at " + row[0], row[line + 1], post.nextDeparture(line));
            }
        }
        post.addLine(1, 0, 5, 60, 1, 1);
        Check.same("a line added later", 125, post.nextDeparture(3));
    }

    private static void promise16Refusals() {
        Routepost post = Posts.line();
        Check.refuses("line -1", post, Check.NO_SUCH, () -> post.nextDeparture(-1));
        Check.refuses("line 1", post, Check.NO_SUCH, () -> post.nextDeparture(1));
        post.closeLine(0);
        Check.refuses("a closed line", post, Check.STATE, () -> post.nextDeparture(0));
    }
}
