/** Promises 27 to 33: plans, the best path and its arrival. */
final class PathTest {
    private PathTest() {
    }

    static void run() {
        Check.test("promises 27 to 33", PathTest::chainOfLines);
        Check.test("promises 27 and 28, plans stay", PathTest::promise27PlansStay);
        Check.test("promises 28 to 33, cutoffs", PathTest::cutoffs);
        Check.test("promises 28 to 33, at the destination", PathTest::atDestination);
        Check.test("promises 28 to 33, no path", PathTest::noPath);
        Check.test("promises 28 to 33, fewer lines", PathTest::fewerLines);
        Check.test("promises 28 to 33, earlier with more lines", PathTest::moreLinesButEarlier);
        Check.test("promises 28 to 33, lower numbers", PathTest::lowerNumbers);
        Check.test("promises 28 to 33, lower numbers where they differ", PathTest::lowerNumbersFirstDifference);
        Check.test("promises 28 to 33, five lines", PathTest::fiveLines);
        Check.test("promises 28 to 33, closed lines", PathTest::closedLines);
        Check.test("promises 28 to 33, many paths", PathTest::manyPaths);
        Check.test("promises 27 to 33, refusals", PathTest::refusals);
    }

    /** The best path of parcel 0, by all ways; the lines are given in their order. */
    static void bestIs(Routepost post, int arrival, int... lines) {
        Check.same("arrival", arrival, post.arrival(0));
        Check.same("arrivalByPaths", arrival, post.arrivalByPaths(0));
        Check.same("arrivalBySimulation", arrival, post.arrivalBySimulation(0));
        Check.same("nextLineByPaths", lines.length == 0 ? -1 : lines[0], post.nextLineByPaths(0));
        Check.same("pathSize", lines.length, post.pathSize(0));
        for (int i = 0; i < lines.length; i++) {
            Check.same("pathAt(" + i + ")", lines[i], post.pathAt(0, i));
        }
        Check.refuses("pathAt(-1)", post, Check.INDEX, () -> post.pathAt(0, -1));
        Check.refuses("pathAt(size)", post, Check.INDEX, () -> post.pathAt(0, lines.length));
    }

    private static void chainOfLines() {
        Routepost post = Posts.ring();
        post.accept(0, 3111, 3, 2);
        Check.same("nextLine", 0, post.nextLine(0));
        bestIs(post, 55, 0, 1);
        post.pass(9);
        bestIs(post, 55, 0, 1);
        Routepost other = Posts.ring();
        other.accept(1, 1111, 3, 2);
        // 25 to 35 at hub 2, 48 to 68 at hub 0.
        bestIs(other, 68, 1, 2);
    }

    private static void promise27PlansStay() {
        Routepost post = Posts.hubs();
        post.addLine(0, 1, 0, 10, 15, 1);
        post.addLine(0, 1, 13, 60, 20, 1);
        post.accept(0, 2111, 9, 1);
        post.accept(0, 2111, 9, 0);
        Check.same("nextLine", 0, post.nextLine(0));
        bestIs(post, 25, 0);
        post.pass(10);
        Check.same("nextLine, left behind", 1, post.nextLine(0));
        bestIs(post, 33, 1);
        post.pass(2);
        Check.same("nextLine", 1, post.nextLine(0));
        bestIs(post, 33, 1);
        Routepost other = Posts.line();
        other.accept(0, 2111, 9, 1);
        other.scan(0, 2);
        other.pass(1);
        Check.same("nextLine", -1, other.nextLine(0));
        other.addLine(2, 1, 0, 5, 1, 1);
        Check.same("nextLine", 1, other.nextLine(0));
    }

    private static void cutoffs() {
        Routepost post = Posts.hubs();
        post.addLine(0, 1, 0, 5, 10, 1);
        post.addLine(1, 2, 24, 60, 1, 1);
        post.addLine(1, 2, 25, 60, 10, 1);
        post.accept(0, 3111, 3, 2);
        // At hub 1 in the minute 15, from which the cutoff of 10 leads to 25.
        bestIs(post, 35, 0, 2);
    }

    private static void atDestination() {
        Routepost post = Posts.line();
        post.accept(0, 2111, 3, 2);
        post.pass(30);
        post.scan(0, 1);
        bestIs(post, 30);
        Check.same("nextLine", -1, post.nextLine(0));
        post.pass(10);
        bestIs(post, 40);
    }

    private static void noPath() {
        Routepost post = Posts.line();
        post.addLine(2, 1, 0, 5, 1, 1);
        post.accept(0, 3111, 3, 2);
        Check.same("nextLine", -1, post.nextLine(0));
        bestIs(post, -1);
    }

    private static void fewerLines() {
        Routepost post = Posts.hubsWith(4, 1);
        post.addLine(0, 2, 5, 60, 5, 1);
        post.addLine(2, 1, 12, 60, 3, 1);
        post.addLine(0, 1, 5, 60, 25, 1);
        post.addLine(1, 3, 40, 60, 10, 1);
        post.accept(0, 4111, 3, 2);
        // By 0 and 1 hub 1 is reached sooner, but both ways meet the same truck of line 3.
        bestIs(post, 50, 2, 3);
        Check.same("nextLine", 2, post.nextLine(0));
    }

    private static void moreLinesButEarlier() {
        Routepost post = Posts.hubsWith(3, 1);
        post.addLine(0, 2, 5, 60, 20, 1);
        post.addLine(0, 1, 5, 60, 5, 1);
        post.addLine(1, 2, 11, 60, 13, 1);
        post.accept(0, 3111, 3, 2);
        bestIs(post, 24, 1, 2);
        Check.same("nextLine", 1, post.nextLine(0));
    }

    private static void lowerNumbers() {
        Routepost post = Posts.hubsWith(3, 1);
        post.addLine(1, 2, 30, 60, 5, 1);
        post.addLine(0, 1, 5, 60, 20, 1);
        post.addLine(1, 2, 30, 60, 5, 1);
        post.addLine(0, 1, 5, 60, 5, 1);
        post.accept(0, 3111, 3, 2);
        // The way by line 3 is sooner at hub 1, but it arrives with the same truck.
        bestIs(post, 35, 1, 0);
        Check.same("nextLine", 1, post.nextLine(0));
    }

    private static void lowerNumbersFirstDifference() {
        Routepost post = Posts.hubsWith(4, 1);
        post.addLine(2, 3, 30, 60, 5, 1);
        post.addLine(0, 1, 5, 60, 20, 1);
        post.addLine(0, 2, 5, 60, 5, 1);
        post.addLine(1, 3, 30, 60, 5, 1);
        post.accept(0, 4111, 3, 2);
        bestIs(post, 35, 1, 3);
        Check.same("nextLine", 1, post.nextLine(0));
    }

    private static void fiveLines() {
        Routepost post = Posts.hubsWith(6, 20);
        int[] arrivals = new int[6];
        for (int i = 0; i < 5; i++) {
            post.addLine(i, i + 1, (arrivals[i] + 19) % 60, 60, 60, 1);
            int ready = arrivals[i] + 20;
            int first = (arrivals[i] + 19) % 60;
            while (first < ready) {
                first += 60;
            }
            arrivals[i + 1] = first + 60;
        }
        post.accept(0, 6111, 3, 2);
        Check.same("a long way", true, arrivals[5] > 600);
        bestIs(post, arrivals[5], 0, 1, 2, 3, 4);
    }

    private static void closedLines() {
        Routepost post = Posts.hubs();
        post.addLine(0, 1, 0, 5, 1, 1);
        post.addLine(0, 1, 0, 5, 2, 1);
        post.accept(0, 2111, 3, 2);
        bestIs(post, 6, 0);
        post.closeLine(0);
        bestIs(post, 7, 1);
        post.closeLine(1);
        bestIs(post, -1);
    }

    private static void manyPaths() {
        Routepost post = Posts.hubsWith(6, 1);
        int[] widths = {2, 2, 2, 3, 3};
        for (int i = 0; i < widths.length; i++) {
            for (int k = 0; k < widths[i]; k++) {
                post.addLine(i, i + 1, 59, 60, 10 - k, 1);
            }
        }
        post.accept(0, 6111, 3, 2);
        bestIs(post, 59 + 4 * 60 + 8, 0, 2, 4, 6, 11);
    }

    private static void refusals() {
        Routepost post = Posts.unloaded();
        post.accept(1, 2111, 1, 1);
        post.deliver(1, true);
        post.accept(0, 2111, 1, 1);
        post.pass(15);
        int[] wrong = {-1, 3, Integer.MAX_VALUE, Integer.MIN_VALUE};
        for (int parcel : wrong) {
            refusedAs(post, Check.NO_SUCH, parcel);
        }
        for (int parcel = 0; parcel < 3; parcel++) {
            refusedAs(post, Check.STATE, parcel);
        }
    }

    private static void refusedAs(Routepost post, Class<?> kind, int parcel) {
        Check.refuses("nextLine", post, kind, () -> post.nextLine(parcel));
        Check.refuses("nextLineByPaths", post, kind, () -> post.nextLineByPaths(parcel));
        Check.refuses("pathSize", post, kind, () -> post.pathSize(parcel));
        Check.refuses("pathAt", post, kind, () -> post.pathAt(parcel, -1));
        Check.refuses("arrival", post, kind, () -> post.arrival(parcel));
        Check.refuses("arrivalByPaths", post, kind, () -> post.arrivalByPaths(parcel));
        Check.refuses("arrivalBySimulation", post, kind, () -> post.arrivalBySimulation(parcel));
    }
}
