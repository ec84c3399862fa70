/** "Paths", sentence by sentence, by all ways that find a path. */
final class PathTermsTest {
    private PathTermsTest() {
    }

    static void run() {
        Check.test("A path begins at the hub where the parcel is", PathTermsTest::beginsWhereItIs);
        Check.test("It consists of open lines", PathTermsTest::openLines);
        Check.test("each further one at the hub at which the line before ends", PathTermsTest::linesThatMeet);
        Check.test("visits no hub twice", PathTermsTest::noHubTwice);
        Check.test("the first departure of a line that is later than m", PathTermsTest::laterThanNow);
        Check.test("not earlier than s plus the cutoff of the hub", PathTermsTest::afterCutoff);
        Check.test("s plus the cutoff is over long ago", PathTermsTest::cutoffLongAgo);
        Check.test("there s and m are both a", PathTermsTest::furtherCutoffs);
        Check.test("the first departure is in the first minute", PathTermsTest::firstMinute);
        Check.test("the one with the earliest arrival there", PathTermsTest::earliest);
        Check.test("of several, the one with the fewest lines", PathTermsTest::fewest);
        Check.test("the fewest lines, though later on the way", PathTermsTest::fewestThoughLaterOnTheWay);
        Check.test("the fewest lines, though the last hub but one has been left already",
                PathTermsTest::fewestThroughLateHub);
        Check.test("of several, the one with the lower line number", PathTermsTest::lowerNumber);
        Check.test("the lower line number, though later on the way",
                PathTermsTest::lowerNumberThoughLaterOnTheWay);
        Check.test("the lower line number, though the last hub but one has been left already",
                PathTermsTest::lowerNumberThroughLateHub);
        Check.test("where they first differ", PathTermsTest::firstDifference);
        Check.test("At the destination itself the best path has no lines", PathTermsTest::atDestination);
        Check.test("a path has one to five lines", PathTermsTest::sizes);
        Check.test("a path to the first hub and through it", PathTermsTest::firstHub);
        Check.test("lines that come back don't change the minute of the scan", PathTermsTest::backAtFirstHub);
        Check.test("the longest path there can be", PathTermsTest::longest);
        Check.test("the last one of the most paths there can be", PathTermsTest::mostPaths);
        Check.test("visits no hub twice, however many ways lead around", PathTermsTest::manyWaysAround);
        Check.test("pathAt throws if there is no path", PathTermsTest::noPath);
    }

    private static void beginsWhereItIs() {
        Routepost post = Posts.hubsWith(3, 1);
        post.addLine(0, 2, 5, 5, 30, 1);
        post.addLine(1, 2, 5, 5, 1, 1);
        post.accept(0, 3333, 1, 1);
        PathTest.bestIs(post, 35, 0);
        post.scan(0, 1);
        PathTest.bestIs(post, 6, 1);
        post.scan(0, 0);
        PathTest.bestIs(post, 35, 0);
    }

    private static void openLines() {
        Routepost post = Posts.hubsWith(3, 1);
        post.addLine(0, 1, 5, 60, 5, 1);
        post.addLine(1, 2, 15, 60, 5, 1);
        post.addLine(1, 2, 15, 60, 6, 1);
        post.addLine(0, 1, 5, 60, 6, 1);
        post.accept(0, 3333, 1, 1);
        PathTest.bestIs(post, 20, 0, 1);
        post.closeLine(1);
        PathTest.bestIs(post, 21, 0, 2);
        post.closeLine(0);
        PathTest.bestIs(post, 21, 3, 2);
        post.closeLine(2);
        PathTest.bestIs(post, -1);
    }

    private static void linesThatMeet() {
        Routepost post = Posts.hubsWith(4, 1);
        post.addLine(1, 0, 0, 5, 1, 1);
        post.addLine(3, 1, 0, 5, 1, 1);
        post.addLine(0, 2, 0, 5, 1, 1);
        post.addLine(3, 2, 0, 5, 1, 1);
        post.accept(0, 2222, 1, 1);
        // Only backwards along the line 0, or with the line 1 that no line meets.
        PathTest.bestIs(post, -1);
        post.addLine(2, 3, 0, 5, 1, 1);
        PathTest.bestIs(post, 16, 2, 4, 1);
    }

    /** A ring in both directions: 5 minutes a line, and each truck is met by the one before. */
    private static void noHubTwice() {
        Routepost post = Posts.hubsWith(6, 1);
        for (int hub = 0; hub < 6; hub++) {
            post.addLine(hub, (hub + 1) % 6, 5, 10, 5, 1);
        }
        for (int hub = 0; hub < 6; hub++) {
            post.addLine(hub, (hub + 5) % 6, 5, 10, 5, 1);
        }
        post.accept(0, 4444, 1, 1);
        PathTest.bestIs(post, 30, 0, 1, 2);
        post.closeLine(1);
        PathTest.bestIs(post, 30, 6, 11, 10);
        post.closeLine(10);
        PathTest.bestIs(post, -1);
    }

    /** Line 1 leaves in 5, 15 .. and is needed only when line 0 is closed, in one of these minutes. */
    private static void laterThanNow() {
        int[][] due = {{3, 65}, {4, 65}, {5, 75}, {6, 75}, {14, 75}, {15, 85}};
        for (int[] row : due) {
            Routepost post = Posts.hubsWith(2, 1);
            post.addLine(0, 1, 59, 60, 1, 1);
            post.addLine(0, 1, 5, 10, 60, 1);
            post.accept(0, 2222, 1, 1);
            Posts.passTo(post, row[0]);
            PathTest.bestIs(post, 60, 0);
            post.closeLine(0);
            PathTest.bestIs(post, row[1], 1);
        }
    }

    private static void afterCutoff() {
        for (int cutoff : new int[] {1, 2, 19, 20}) {
            for (int scanned : new int[] {0, 1, 9}) {
                for (int early = 0; early <= 1; early++) {
                    Routepost post = Posts.hubsWith(2, cutoff);
                    Posts.passTo(post, scanned);
                    int first = scanned + cutoff - early;
                    post.addLine(0, 1, first, 60, 7, 1);
                    post.accept(0, 2222, 1, 1);
                    PathTest.bestIs(post, first + 60 * early + 7, 0);
                }
            }
        }
    }

    private static void cutoffLongAgo() {
        Routepost post = Posts.hubsWith(2, 20);
        post.accept(0, 2222, 1, 1);
        Posts.passTo(post, 30);
        post.addLine(0, 1, 0, 5, 1, 1);
        PathTest.bestIs(post, 36, 0);
        Routepost other = Posts.hubsWith(2, 20);
        other.accept(0, 2222, 1, 1);
        Posts.passTo(other, 19);
        other.addLine(0, 1, 19, 60, 1, 1);
        other.addLine(0, 1, 20, 60, 1, 1);
        PathTest.bestIs(other, 21, 1);
    }

    private static void furtherCutoffs() {
        for (int cutoff : new int[] {1, 2, 20}) {
            for (int early = 0; early <= 1; early++) {
                Routepost post = new Routepost();
                post.openHub(1, 3);
                post.openHub(2, cutoff);
                post.openHub(3, 17);
                post.addLine(0, 1, 5, 60, 8, 1);
                int first = 13 + cutoff - early;
                post.addLine(1, 2, first, 60, 9, 1);
                post.accept(0, 3333, 1, 1);
                PathTest.bestIs(post, first + 60 * early + 9, 0, 1);
            }
        }
    }

    private static void firstMinute() {
        Routepost post = Posts.hubsWith(3, 1);
        post.addLine(0, 1, 59, 5, 1, 1);
        post.addLine(1, 2, 59, 5, 1, 1);
        post.accept(0, 3333, 1, 1);
        PathTest.bestIs(post, 65, 0, 1);
        Posts.passTo(post, 58);
        PathTest.bestIs(post, 65, 0, 1);
    }

    private static void earliest() {
        for (int travel = 29; travel <= 31; travel++) {
            Routepost post = Posts.hubsWith(3, 1);
            post.addLine(0, 2, 5, 60, travel, 1);
            post.addLine(0, 1, 5, 60, 10, 1);
            post.addLine(1, 2, 20, 60, 15, 1);
            post.accept(0, 3333, 1, 1);
            if (travel <= 30) {
                PathTest.bestIs(post, 5 + travel, 0);
            } else {
                PathTest.bestIs(post, 35, 1, 2);
            }
        }
    }

    private static void fewest() {
        Routepost post = Posts.hubsWith(4, 1);
        post.addLine(0, 1, 5, 60, 5, 1);
        post.addLine(1, 2, 15, 60, 5, 1);
        post.addLine(2, 3, 25, 60, 5, 1);
        post.accept(0, 4444, 1, 1);
        PathTest.bestIs(post, 30, 0, 1, 2);
        post.addLine(1, 3, 15, 60, 15, 1);
        PathTest.bestIs(post, 30, 0, 3);
        post.addLine(0, 3, 5, 60, 25, 1);
        PathTest.bestIs(post, 30, 4);
    }

    /** The way of more lines is at the last hub but one first, and there both wait for the same truck. */
    private static void fewestThoughLaterOnTheWay() {
        for (int lines = 1; lines <= 2; lines++) {
            Routepost post = Posts.hubsWith(5, 1);
            post.addLine(3, 4, 50, 60, 5, 1);
            post.addLine(0, 1, 5, 60, 1, 1);
            post.addLine(1, lines == 1 ? 3 : 2, 10, 60, 1, 1);
            post.addLine(2, 3, 15, 60, 1, 1);
            post.addLine(0, 3, 5, 60, 40, 1);
            post.accept(0, 5555, 1, 1);
            PathTest.bestIs(post, 55, 4, 0);
            post.closeLine(4);
            if (lines == 1) {
                PathTest.bestIs(post, 55, 1, 2, 0);
            } else {
                PathTest.bestIs(post, 55, 1, 2, 3, 0);
            }
        }
    }

    /** The way of more lines is over before the other one is at its second hub. */
    private static void fewestThroughLateHub() {
        Routepost post = Posts.hubsWith(6, 1);
        post.addLine(4, 5, 50, 60, 5, 1);
        post.addLine(0, 1, 5, 60, 1, 1);
        post.addLine(1, 2, 10, 60, 1, 1);
        post.addLine(2, 4, 15, 60, 1, 1);
        post.addLine(0, 3, 5, 60, 25, 1);
        post.addLine(3, 4, 35, 60, 5, 1);
        post.accept(0, 6666, 1, 1);
        PathTest.bestIs(post, 55, 4, 5, 0);
        post.closeLine(5);
        PathTest.bestIs(post, 55, 1, 2, 3, 0);
    }

    /** The way of the higher number is over before the other one is at its second hub. */
    private static void lowerNumberThroughLateHub() {
        Routepost post = Posts.hubsWith(5, 1);
        post.addLine(3, 4, 50, 60, 5, 1);
        post.addLine(0, 1, 5, 60, 25, 1);
        post.addLine(1, 3, 35, 60, 5, 1);
        post.addLine(0, 2, 5, 60, 1, 1);
        post.addLine(2, 3, 10, 60, 1, 1);
        post.accept(0, 5555, 1, 1);
        PathTest.bestIs(post, 55, 1, 2, 0);
        post.closeLine(2);
        PathTest.bestIs(post, 55, 3, 4, 0);
    }

    /** The way of the higher number is at the last hub but one first, and there both wait for the same truck. */
    private static void lowerNumberThoughLaterOnTheWay() {
        Routepost post = Posts.hubsWith(4, 1);
        post.addLine(2, 3, 50, 60, 5, 1);
        post.addLine(0, 1, 5, 60, 1, 1);
        post.addLine(1, 2, 10, 60, 30, 1);
        post.addLine(1, 2, 10, 60, 20, 1);
        post.addLine(0, 1, 5, 60, 2, 1);
        post.addLine(1, 2, 10, 60, 10, 1);
        post.accept(0, 4444, 1, 1);
        PathTest.bestIs(post, 55, 1, 2, 0);
        post.closeLine(2);
        PathTest.bestIs(post, 55, 1, 3, 0);
        post.closeLine(1);
        PathTest.bestIs(post, 55, 4, 3, 0);
        post.closeLine(3);
        PathTest.bestIs(post, 55, 4, 5, 0);
    }

    /** The numbers 2, 9, 10 and 11 are put in order as numbers, on the first and on the second way. */
    private static void lowerNumber() {
        for (int from = 0; from <= 1; from++) {
            Routepost post = Posts.hubsWith(5, 1);
            post.addLine(0, 1, 5, 60, 5, 1);
            post.addLine(3, 4, 5, 60, 5, 1);
            for (int line = 2; line < 12; line++) {
                boolean isUseful = line == 2 || line >= 9;
                post.addLine(isUseful ? from : 3, isUseful ? 2 : 4, 15, 60, 5, 1);
            }
            post.accept(0, 3333, 1, 1);
            for (int line : new int[] {2, 9, 10, 11}) {
                if (from == 0) {
                    PathTest.bestIs(post, 20, line);
                } else {
                    PathTest.bestIs(post, 20, 0, line);
                }
                post.closeLine(line);
            }
            PathTest.bestIs(post, -1);
        }
    }

    private static void firstDifference() {
        Routepost post = Posts.hubsWith(4, 1);
        post.addLine(2, 3, 15, 60, 5, 1);
        post.addLine(1, 3, 15, 60, 5, 1);
        post.addLine(0, 1, 5, 60, 5, 1);
        post.addLine(0, 2, 5, 60, 5, 1);
        post.accept(0, 4444, 1, 1);
        // 2 1 against 3 0: the first line decides, not the last one, the lowest one or the sum.
        PathTest.bestIs(post, 20, 2, 1);
        for (int twice = 0; twice < 5; twice++) {
            twoLinesAtOnePlace(twice);
        }
    }

    private static void twoLinesAtOnePlace(int twice) {
        Routepost post = Posts.hubsWith(6, 1);
        int[] want = new int[5];
        for (int i = 4; i >= 0; i--) {
            want[i] = post.addLine(i, i + 1, 5 + 10 * i, 60, 5, 1);
            if (i == twice) {
                post.addLine(i, i + 1, 5 + 10 * i, 60, 5, 1);
            }
        }
        post.accept(0, 6666, 1, 1);
        PathTest.bestIs(post, 50, want);
        post.closeLine(want[twice]);
        want[twice]++;
        PathTest.bestIs(post, 50, want);
    }

    private static void atDestination() {
        Routepost post = Posts.hubsWith(2, 20);
        post.addLine(0, 1, 0, 5, 1, 1);
        post.addLine(1, 0, 0, 5, 1, 1);
        post.accept(0, 1111, 1, 1);
        for (int minute = 0; minute <= 30; minute += 10) {
            Posts.passTo(post, minute);
            Check.same("nextLine", -1, post.nextLine(0));
            PathTest.bestIs(post, minute);
        }
        Check.same("waiting", 0, post.waiting(0));
        Check.same("promise", 0, post.promise(0));
    }

    private static void sizes() {
        for (int size = 1; size <= 5; size++) {
            Routepost post = Posts.hubsWith(6, 1);
            int[] want = new int[size];
            for (int i = 0; i < 5; i++) {
                post.addLine(i, i + 1, 5 + 10 * i, 60, 5, 1);
            }
            for (int i = 0; i < size; i++) {
                want[i] = i;
            }
            post.accept(0, Posts.addressOf(size), 1, 1);
            PathTest.bestIs(post, 10 * size, want);
        }
    }

    private static void firstHub() {
        Routepost post = Posts.hubsWith(6, 1);
        for (int hub = 5; hub > 0; hub--) {
            post.addLine(hub, hub - 1, 5 + 10 * (5 - hub), 60, 5, 1);
        }
        post.accept(5, 1111, 1, 1);
        PathTest.bestIs(post, 50, 0, 1, 2, 3, 4);
        Routepost other = Posts.hubsWith(3, 1);
        other.addLine(2, 0, 5, 60, 5, 1);
        other.addLine(0, 1, 15, 60, 5, 1);
        other.accept(2, 2222, 1, 1);
        PathTest.bestIs(other, 20, 0, 1);
    }

    /** By the lines 0 and 1 it could be back in 23, too late for the cutoff of the truck in 40. */
    private static void backAtFirstHub() {
        Routepost post = new Routepost();
        post.openHub(1, 20);
        post.openHub(2, 1);
        post.openHub(3, 1);
        post.addLine(0, 1, 20, 60, 1, 1);
        post.addLine(1, 0, 22, 60, 1, 1);
        post.addLine(0, 2, 40, 60, 1, 1);
        post.accept(0, 3333, 1, 1);
        PathTest.bestIs(post, 41, 2);
    }

    /** On each of five lines 20 minutes of cutoff, 59 of waiting and 60 of travel. */
    private static void longest() {
        Routepost post = Posts.hubsWith(6, 20);
        int[] firsts = {19, 38, 57, 16, 35};
        for (int hub = 0; hub < 5; hub++) {
            post.addLine(hub, hub + 1, firsts[hub], 60, 60, 1);
        }
        post.accept(0, 6666, 1, 1);
        PathTest.bestIs(post, 695, 0, 1, 2, 3, 4);
    }

    /**
     * 3, 3, 3, 2 and 1 lines make 147 paths, more than other 12 lines. All that come to hub 4 wait for one truck, and
     * the lowest numbers come there last.
     */
    private static void mostPaths() {
        Routepost post = Posts.hubsWith(6, 1);
        for (int line = 0; line < 11; line++) {
            post.addLine(line / 3, line / 3 + 1, 0, 5, 12 - 5 * (line % 3), 1);
        }
        post.addLine(4, 5, 10, 60, 1, 1);
        post.accept(0, 6666, 1, 1);
        PathTest.bestIs(post, 71, 0, 3, 6, 9, 11);
        post.closeLine(9);
        PathTest.bestIs(post, 71, 0, 3, 6, 10, 11);
    }

    /** Lines lead to and fro between two hubs long before the slow way is over. */
    private static void manyWaysAround() {
        Routepost post = Posts.hubsWith(4, 1);
        for (int i = 0; i < 10; i++) {
            post.addLine(i % 2, 1 - i % 2, 0, 5, 1, 1);
        }
        post.addLine(0, 2, 59, 60, 60, 1);
        post.addLine(2, 3, 59, 60, 60, 1);
        post.accept(0, 4444, 1, 1);
        PathTest.bestIs(post, 239, 10, 11);
        Routepost further = Posts.hubsWith(6, 1);
        for (int i = 0; i < 8; i++) {
            further.addLine(3 + i % 2, 4 - i % 2, 0, 5, 1, 1);
        }
        further.addLine(5, 4, 0, 5, 1, 1);
        further.addLine(4, 2, 59, 60, 60, 1);
        further.addLine(2, 1, 59, 60, 60, 1);
        further.accept(5, 2222, 1, 1);
        PathTest.bestIs(further, 239, 8, 9, 10);
    }

    private static void noPath() {
        Routepost post = Posts.hubsWith(2, 1);
        post.accept(0, 2222, 1, 1);
        for (int index : new int[] {Integer.MIN_VALUE, -1, 0, 1, Integer.MAX_VALUE}) {
            Check.refuses("pathAt(" + index + ")", post, Check.INDEX, () -> post.pathAt(0, index));
        }
        Check.same("pathSize", 0, post.pathSize(0));
        Check.same("arrival", -1, post.arrival(0));
    }
}
