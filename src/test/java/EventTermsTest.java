/** "Events", sentence by sentence. A history is written as letter, minute, @hub and, for 'l' and 'u', #line. */
final class EventTermsTest {
    private static final String LETTERS = "asmludfrh";

    private EventTermsTest() {
    }

    static void run() {
        Check.test("a parcel that has just been accepted has one event", EventTermsTest::oneEvent);
        Check.test("each with a letter, a minute and a hub", EventTermsTest::allLetters);
        Check.test("for 'l' it is the one at which the line begins", EventTermsTest::hubs);
        Check.test("A misroute comes ahead of that event", EventTermsTest::misrouteFirst);
        Check.test("a failed attempt comes ahead of that event", EventTermsTest::failedAttemptFirst);
        Check.test("scans where nothing changes have no event", EventTermsTest::noEvent);
        Check.test("'l' and 'u' add 7 times the number of their line, plus 7", EventTermsTest::lineNumbers);
        Check.test("13 times the number of its hub", EventTermsTest::hubNumbers);
        Check.test("The trace begins with 0", EventTermsTest::traceBegins);
        Check.test("the remainder, divided by 1000003", EventTermsTest::remainder);
        Check.test("a long history", EventTermsTest::longHistory);
        Check.test("there is no such event", EventTermsTest::noSuchEvent);
    }

    private static void historyIs(Routepost post, int parcel, String history) {
        String[] events = history.split(" ");
        Check.same("events", events.length, post.events(parcel));
        long trace = 0;
        for (int i = 0; i < events.length && i < post.events(parcel); i++) {
            String[] numbers = events[i].substring(1).split("[@#]");
            char letter = events[i].charAt(0);
            int minute = Integer.parseInt(numbers[0]);
            int hub = Integer.parseInt(numbers[1]);
            Check.same("eventKind(" + i + ")", letter, post.eventKind(parcel, i));
            Check.same("eventMinute(" + i + ")", minute, post.eventMinute(parcel, i));
            Check.same("eventHub(" + i + ")", hub, post.eventHub(parcel, i));
            long mark = 97L * minute + 13L * hub + LETTERS.indexOf(letter);
            if (letter == 'l' || letter == 'u') {
                mark += 7L * Integer.parseInt(numbers[2]) + 7;
            }
            trace = (31 * trace + mark) % 1000003;
        }
        Check.same("trace", trace, post.trace(parcel));
    }

    private static void oneEvent() {
        for (int minute : new int[] {0, 1, 120}) {
            Routepost post = Posts.hubsWith(6, 1);
            Posts.passTo(post, minute);
            for (int hub = 0; hub < 6; hub++) {
                post.accept(hub, 1111, 1, 1);
                historyIs(post, hub, "a" + minute + "@" + hub);
                Check.same("trace", 97 * minute + 13 * hub, post.trace(hub));
            }
        }
    }

    private static void allLetters() {
        Routepost post = Posts.hubsWith(3, 1);
        post.addLine(0, 1, 5, 60, 5, 1);
        post.addLine(1, 0, 20, 60, 5, 1);
        post.accept(0, 2222, 1, 2);
        historyIs(post, 0, "a0@0");
        post.pass(5);
        historyIs(post, 0, "a0@0 l5@0#0");
        post.pass(5);
        historyIs(post, 0, "a0@0 l5@0#0 u10@1#0");
        post.pass(1);
        post.scan(0, 1);
        historyIs(post, 0, "a0@0 l5@0#0 u10@1#0 s11@1");
        post.pass(1);
        post.scan(0, 2);
        historyIs(post, 0, "a0@0 l5@0#0 u10@1#0 s11@1 m12@2");
        post.pass(1);
        post.scan(0, 1);
        historyIs(post, 0, "a0@0 l5@0#0 u10@1#0 s11@1 m12@2 m13@1");
        post.pass(1);
        post.deliver(0, false);
        String before = "a0@0 l5@0#0 u10@1#0 s11@1 m12@2 m13@1 f14@1 r14@1";
        historyIs(post, 0, before);
        post.pass(16);
        post.scan(0, 0);
        before += " l20@1#1 u25@0#1 s30@0";
        historyIs(post, 0, before);
        post.deliver(0, false);
        historyIs(post, 0, before + " f30@0 h30@0");
    }

    private static void hubs() {
        Routepost post = Posts.hubsWith(6, 1);
        post.addLine(0, 1, 5, 60, 60, 1);
        post.addLine(4, 2, 5, 60, 60, 1);
        post.accept(4, 3333, 1, 1);
        post.pass(65);
        historyIs(post, 0, "a0@4 l5@4#1 u65@2#1");
        post.scan(0, 2);
        post.deliver(0, true);
        historyIs(post, 0, "a0@4 l5@4#1 u65@2#1 s65@2 d65@2");
    }

    private static void misrouteFirst() {
        Routepost post = Posts.hubsWith(3, 1);
        post.addLine(0, 1, 5, 60, 60, 1);
        post.accept(0, 2222, 1, 1);
        post.scan(0, 2);
        post.scan(0, 0);
        post.pass(7);
        post.scan(0, 2);
        historyIs(post, 0, "a0@0 m0@2 m0@0 l5@0#0 m7@2 h7@2");
    }

    private static void failedAttemptFirst() {
        Routepost post = Posts.hubsWith(1, 1);
        post.accept(0, 1111, 1, 1);
        post.deliver(0, false);
        historyIs(post, 0, "a0@0 f0@0");
        post.pass(1);
        post.deliver(0, false);
        historyIs(post, 0, "a0@0 f0@0 f1@0 r1@0");
        post.deliver(0, false);
        historyIs(post, 0, "a0@0 f0@0 f1@0 r1@0 f1@0");
        post.pass(1);
        post.deliver(0, false);
        historyIs(post, 0, "a0@0 f0@0 f1@0 r1@0 f1@0 f2@0 h2@0");
    }

    private static void noEvent() {
        Routepost post = Posts.hubsWith(2, 1);
        post.addLine(0, 1, 5, 60, 5, 1);
        post.accept(0, 2222, 9, 0);
        post.accept(0, 2222, 9, 1);
        post.scan(1, 0);
        post.pass(20);
        Check.same("left behind", 1, post.missed(1));
        post.addLine(0, 1, 5, 60, 5, 1);
        post.closeLine(0);
        historyIs(post, 1, "a0@0");
        historyIs(post, 0, "a0@0 l5@0#0 u10@1#0");
    }

    private static void lineNumbers() {
        Routepost post = Posts.hubsWith(2, 1);
        for (int line = 0; line < 12; line++) {
            post.addLine(0, 1, 59, 60, 60 - line, 1);
            post.accept(0, 2222, 1, 1);
            post.pass(60);
            post.pass(60);
            int leaves = 120 * line + 59;
            historyIs(post, line, "a" + 120 * line + "@0 l" + leaves + "@0#" + line + " u" + (leaves + 60 - line)
                    + "@1#" + line);
        }
    }

    private static void hubNumbers() {
        for (int to = 1; to < 6; to++) {
            Routepost post = Posts.hubsWith(6, 1);
            post.addLine(0, to, 5, 60, 5, 1);
            post.addLine(to, 0, 20, 60, 5, 1);
            post.accept(0, Posts.addressOf(to), 1, 2);
            post.pass(10);
            post.scan(0, to);
            post.deliver(0, false);
            post.pass(15);
            post.scan(0, 0);
            post.deliver(0, true);
            historyIs(post, 0, "a0@0 l5@0#0 u10@" + to + "#0 s10@" + to + " f10@" + to + " r10@" + to + " l20@" + to
                    + "#1 u25@0#1 s25@0 d25@0");
        }
    }

    private static void traceBegins() {
        Routepost post = Posts.hubsWith(2, 1);
        post.accept(0, 2222, 1, 1);
        Check.same("'a' in the minute 0 at the hub 0", 0, post.trace(0));
        post.accept(1, 2222, 1, 1);
        Check.same("each parcel by itself", 13, post.trace(1));
        post.deliver(1, true);
        Check.same("31 times 13, and 13 and 5", 421, post.trace(1));
        Check.same("the other one", 0, post.trace(0));
    }

    private static void remainder() {
        Routepost post = Posts.hubsWith(6, 1);
        Posts.passTo(post, 320);
        post.accept(4, 1111, 1, 1);
        Check.same("trace", 31092, post.trace(0));
        Posts.passTo(post, 321);
        post.accept(4, 1111, 1, 1);
        Check.same("trace", 31189, post.trace(1));
        Posts.passTo(post, 341);
        post.scan(1, 5);
        // 31 times 31189, and 97 times 341, 13 times 5 and 2: this is 1000003.
        Check.same("the divisor itself", 0, post.trace(1));
        post.scan(0, 5);
        Check.same("3007 less", 996996, post.trace(0));
        Posts.passTo(post, 10309);
        post.accept(2, 1111, 1, 1);
        Check.same("97 times 10309, and 26", 999999, post.trace(2));
        post.accept(3, 1111, 1, 1);
        Check.same("97 times 10309, and 39, less 1000003", 9, post.trace(3));
        historyIs(post, 3, "a10309@3");
    }

    /** Four ways of five lines each: there, there again behind a misroute, back, and back again. */
    private static void longHistory() {
        Routepost post = Posts.hubsWith(6, 1);
        for (int hub = 0; hub < 5; hub++) {
            post.addLine(hub, hub + 1, 0, 10, 5, 1);
        }
        for (int hub = 5; hub > 0; hub--) {
            post.addLine(hub, hub - 1, 0, 10, 5, 1);
        }
        post.accept(0, 6666, 1, 0);
        StringBuilder history = new StringBuilder("a0@0");
        walk(post, history, 0, 1);
        post.scan(0, 0);
        history.append(" m").append(post.minute()).append("@0");
        walk(post, history, 0, 1);
        for (int i = 0; i < 3; i++) {
            post.deliver(0, false);
            history.append(" f").append(post.minute()).append("@5");
        }
        history.append(" r").append(post.minute()).append("@5");
        walk(post, history, 5, -1);
        post.scan(0, 5);
        history.append(" m").append(post.minute()).append("@5");
        walk(post, history, 5, -1);
        post.deliver(0, true);
        history.append(" d").append(post.minute()).append("@0");
        Check.same("events", 68, post.events(0));
        historyIs(post, 0, history.toString());
    }

    private static void walk(Routepost post, StringBuilder history, int from, int step) {
        for (int i = 0; i < 5; i++) {
            int hub = from + i * step;
            int line = step > 0 ? hub : 10 - hub;
            int leaves = post.minute() / 10 * 10 + 10;
            Posts.passTo(post, leaves + 5);
            post.scan(0, hub + step);
            history.append(" l").append(leaves).append('@').append(hub).append('#').append(line);
            history.append(" u").append(leaves + 5).append('@').append(hub + step).append('#').append(line);
            history.append(" s").append(leaves + 5).append('@').append(hub + step);
        }
    }

    private static void noSuchEvent() {
        Routepost post = Posts.hubsWith(2, 1);
        post.accept(0, 2222, 1, 1);
        for (int count = 1; count <= 3; count++) {
            int more = count;
            for (int index : new int[] {Integer.MIN_VALUE, -1, more, more + 1, Integer.MAX_VALUE}) {
                Check.refuses("eventKind", post, Check.INDEX, () -> post.eventKind(0, index));
                Check.refuses("eventMinute", post, Check.INDEX, () -> post.eventMinute(0, index));
                Check.refuses("eventHub", post, Check.INDEX, () -> post.eventHub(0, index));
            }
            Check.same("the first one", 'a', post.eventKind(0, 0));
            Check.same("the last one", count == 1 ? 'a' : 'm', post.eventKind(0, count - 1));
            Check.same("the last one", count % 2 == 1 ? 0 : 1, post.eventHub(0, count - 1));
            Check.same("the last one", 0, post.eventMinute(0, count - 1));
            post.scan(0, count % 2);
        }
    }
}
