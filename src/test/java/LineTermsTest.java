/** "Lines", sentence by sentence: what is taken, and what is refused next to it. */
final class LineTermsTest {
    private LineTermsTest() {
    }

    static void run() {
        Check.test("no lines yet", LineTermsTest::noLinesYet);
        Check.test("At most 12 lines have numbers in the order in which they were added",
                LineTermsTest::atMostTwelveLines);
        Check.test("A line leads from one hub to another one", LineTermsTest::anotherHub);
        Check.test("a first minute from 0 to 59", LineTermsTest::firstMinutes);
        Check.test("a period from 5 to 60", LineTermsTest::periods);
        Check.test("a travel time from 1 to 60", LineTermsTest::travelTimes);
        Check.test("a number of bags from 1 to 4", LineTermsTest::bags);
        Check.test("a departure in its first minute and then one every period minutes", LineTermsTest::departures);
        Check.test("arrives in the minute d plus the travel time", LineTermsTest::trucks);
        Check.test("A line can be closed; then it has no more departures", LineTermsTest::noMoreDepartures);
        Check.test("its trucks that are on the way still arrive", LineTermsTest::trucksStillArrive);
        Check.test("closeLine counts none, one and all", LineTermsTest::closeLineCounts);
    }

    private static void noLinesYet() {
        Routepost post = Posts.hubsWith(2, 1);
        Check.same("lines", 0, post.lines());
        Check.refuses("closeLine", post, Check.NO_SUCH, () -> post.closeLine(0));
        Check.refuses("nextDeparture", post, Check.NO_SUCH, () -> post.nextDeparture(0));
        post.accept(0, 2222, 1, 1);
        Check.same("pass", 0, post.pass(120));
        Check.same("state", 's', post.state(0));
    }

    private static void atMostTwelveLines() {
        Routepost post = Posts.hubsWith(2, 1);
        for (int i = 0; i < 12; i++) {
            Check.same("lines", i, post.lines());
            Check.same("addLine", i, post.addLine(i % 2, 1 - i % 2, i + 1, 60, 1, 1));
        }
        Check.refuses("a 13th line", post, Check.STATE, () -> post.addLine(0, 1, 0, 5, 1, 1));
        Check.same("lines", 12, post.lines());
        for (int i = 0; i < 12; i++) {
            Check.same("nextDeparture(" + i + ")", i + 1, post.nextDeparture(i));
        }
        for (int i = 0; i < 12; i++) {
            post.closeLine(i);
        }
        Check.refuses("closed ones count", post, Check.STATE, () -> post.addLine(0, 1, 0, 5, 1, 1));
        Check.same("lines", 12, post.lines());
    }

    private static void anotherHub() {
        for (int count = 2; count <= 6; count++) {
            Routepost post = Posts.hubsWith(count, 1);
            int last = count - 1;
            for (int hub : new int[] {-1, count, Integer.MIN_VALUE, Integer.MAX_VALUE}) {
                Check.refuses("from " + hub, post, Check.NO_SUCH, () -> post.addLine(hub, 0, 0, 5, 1, 1));
                Check.refuses("to " + hub, post, Check.NO_SUCH, () -> post.addLine(0, hub, 0, 5, 1, 1));
            }
            Check.refuses("first hub to itself", post, Check.ARGUMENT, () -> post.addLine(0, 0, 0, 5, 1, 1));
            Check.refuses("last hub to itself", post, Check.ARGUMENT, () -> post.addLine(last, last, 0, 5, 1, 1));
            Check.same("to the last hub", 0, post.addLine(0, last, 0, 5, 1, 1));
            Check.same("from the last hub", 1, post.addLine(last, 0, 0, 5, 1, 1));
            post.accept(0, Posts.addressOf(last), 1, 1);
            post.accept(last, Posts.addressOf(0), 1, 1);
            Check.same("nextLine there", 0, post.nextLine(0));
            Check.same("nextLine back", 1, post.nextLine(1));
        }
    }

    private static void firstMinutes() {
        for (int first : new int[] {-1, 60, -60, 61, Integer.MIN_VALUE, Integer.MAX_VALUE}) {
            Routepost post = Posts.hubsWith(2, 1);
            Check.refuses("first " + first, post, Check.ARGUMENT, () -> post.addLine(0, 1, first, 60, 1, 1));
        }
        for (int first = 0; first <= 59; first++) {
            Routepost post = Posts.hubsWith(2, 1);
            Check.same("first " + first, 0, post.addLine(0, 1, first, 60, 1, 1));
            Check.same("nextDeparture", first == 0 ? 60 : first, post.nextDeparture(0));
        }
    }

    private static void periods() {
        for (int period : new int[] {4, 61, 0, -1, -5, -60, Integer.MIN_VALUE, Integer.MAX_VALUE}) {
            Routepost post = Posts.hubsWith(2, 1);
            Check.refuses("period " + period, post, Check.ARGUMENT, () -> post.addLine(0, 1, 0, period, 1, 1));
        }
        for (int period = 5; period <= 60; period++) {
            Routepost post = Posts.hubsWith(2, 1);
            Check.same("period " + period, 0, post.addLine(0, 1, 0, period, 1, 1));
            Check.same("nextDeparture", period, post.nextDeparture(0));
        }
    }

    private static void travelTimes() {
        for (int travel : new int[] {0, 61, -1, Integer.MIN_VALUE, Integer.MAX_VALUE}) {
            Routepost post = Posts.hubsWith(2, 1);
            Check.refuses("travel " + travel, post, Check.ARGUMENT, () -> post.addLine(0, 1, 0, 5, travel, 1));
        }
        for (int travel = 1; travel <= 60; travel++) {
            Routepost post = Posts.hubsWith(2, 1);
            Check.same("travel " + travel, 0, post.addLine(0, 1, 0, 5, travel, 1));
            post.accept(0, 2222, 1, 1);
            Check.same("promise", 5 + travel, post.promise(0));
        }
    }

    private static void bags() {
        for (int bags : new int[] {0, 5, -1, -4, Integer.MIN_VALUE, Integer.MAX_VALUE}) {
            Routepost post = Posts.hubsWith(2, 1);
            Check.refuses("bags " + bags, post, Check.ARGUMENT, () -> post.addLine(0, 1, 0, 5, 1, bags));
        }
        for (int bags = 1; bags <= 4; bags++) {
            Routepost post = Posts.hubsWith(2, 1);
            Check.same("bags " + bags, 0, post.addLine(0, 1, 0, 5, 60, bags));
            for (int i = 0; i < 5; i++) {
                post.accept(0, 2222, 9, 1);
            }
            post.pass(5);
            Check.same("bags of the truck", bags, post.bags(0));
            Check.same("riding", bags, post.riding(0));
            Check.same("waiting", 5 - bags, post.waiting(0));
        }
    }

    private static void departures() {
        int[][] timetables = {{0, 5}, {59, 60}, {0, 60}, {59, 5}, {7, 13}, {58, 59}, {1, 6}};
        for (int[] timetable : timetables) {
            Routepost post = Posts.hubsWith(2, 1);
            post.addLine(0, 1, timetable[0], timetable[1], 1, 1);
            for (int minute = 0; minute <= 250; minute++) {
                int due = timetable[0];
                while (due <= minute) {
                    due += timetable[1];
                }
                Check.same("nextDeparture at " + minute, due, post.nextDeparture(0));
                post.pass(1);
            }
        }
    }

    /** A parcel every third minute, each with the first truck that it can get. */
    private static void trucks() {
        int[][] timetables = {{0, 5, 1}, {59, 60, 60}, {0, 60, 59}, {59, 5, 2}, {7, 13, 40}};
        for (int[] timetable : timetables) {
            Routepost post = Posts.hubsWith(2, 1);
            post.addLine(0, 1, timetable[0], timetable[1], timetable[2], 4);
            for (int i = 0; i < 40; i++) {
                post.accept(0, 2222, 1, 1);
                post.pass(3);
            }
            post.pass(120);
            for (int i = 0; i < 40; i++) {
                int due = timetable[0];
                while (due <= 3 * i) {
                    due += timetable[1];
                }
                Check.same("loaded", 'l', post.eventKind(i, 1));
                Check.same("loaded in", due, post.eventMinute(i, 1));
                Check.same("unloaded", 'u', post.eventKind(i, 2));
                Check.same("unloaded in", due + timetable[2], post.eventMinute(i, 2));
            }
        }
    }

    /** The line leaves in the minutes 10 and 20 and takes 15; it is closed in one of these minutes. */
    private static Routepost closedIn(int minute) {
        Routepost post = Posts.hubsWith(2, 1);
        post.addLine(0, 1, 10, 10, 15, 1);
        post.accept(0, 2222, 9, 1);
        post.accept(0, 2222, 9, 1);
        Posts.passTo(post, minute);
        post.closeLine(0);
        return post;
    }

    private static void noMoreDepartures() {
        int[][] due = {{9, 0}, {10, 1}, {19, 1}, {20, 2}};
        for (int[] row : due) {
            Routepost post = closedIn(row[0]);
            Check.same("riding, closed in " + row[0], row[1], post.riding(0));
            Check.same("unloaded, closed in " + row[0], row[1], post.pass(120));
            Check.same("the first one", row[1] > 0 ? 'u' : 's', post.state(0));
            Check.same("the second one", row[1] > 1 ? 'u' : 's', post.state(1));
            Check.refuses("nextDeparture", post, Check.STATE, () -> post.nextDeparture(0));
            Check.refuses("closed already", post, Check.STATE, () -> post.closeLine(0));
        }
    }

    private static void trucksStillArrive() {
        for (int minute = 10; minute <= 24; minute++) {
            Routepost post = closedIn(minute);
            Check.same("before it is due", 0, minute == 24 ? 0 : post.pass(24 - minute));
            Check.same("on the way", 't', post.state(0));
            Check.same("rides", 0, post.rides(0));
            Check.same("riding", minute < 20 ? 1 : 2, post.riding(0));
            Check.same("bags", 1, post.bags(0));
            Check.refuses("at", post, Check.STATE, () -> post.at(0));
            Check.same("when it is due", 1, post.pass(1));
            Check.same("at", 1, post.at(0));
            Check.same("scan", 'o', post.scan(0, 1));
        }
    }

    private static void closeLineCounts() {
        for (int count : new int[] {0, 1, 40}) {
            Routepost post = Posts.hubsWith(2, 1);
            post.addLine(0, 1, 10, 10, 15, 1);
            for (int i = 0; i < count; i++) {
                post.accept(0, 2222, 9, 1);
            }
            Check.same("closeLine", count, post.closeLine(0));
            Check.same("waiting", 0, post.waiting(0));
        }
        Routepost post = Posts.allStates();
        Check.same("those in the state 's' alone", 1, post.closeLine(0));
        Check.same("nobody in the state 's'", 0, post.closeLine(1));
    }
}
