import java.lang.reflect.Constructor;
import java.lang.reflect.Method;
import java.lang.reflect.Modifier;
import java.util.ArrayList;
import java.util.Collections;
import java.util.List;

/** The public face, and promise 1. */
final class FaceTest {
    private static final String[] METHODS = {
        "int openHub(int,int)", "int addLine(int,int,int,int,int,int)", "int closeLine(int)",
        "int accept(int,int,int,int)", "char scan(int,int)", "char deliver(int,boolean)", "int recall(int)",
        "int pass(int)", "int minute()", "int hubs()", "int lines()", "int parcels()", "int hubOf(int)",
        "int hubByTrying(int)", "int nextDeparture(int)", "char state(int)", "int at(int)", "int rides(int)",
        "int destination(int)", "boolean isReturn(int)", "int promise(int)", "boolean isLate(int)",
        "int misroutes(int)", "int attempts(int)", "int missed(int)", "int nextLine(int)",
        "int nextLineByPaths(int)", "int pathSize(int)", "int pathAt(int,int)", "int arrival(int)",
        "int arrivalByPaths(int)", "int arrivalBySimulation(int)", "int waiting(int)", "int waitingAt(int,int)",
        "int bagsNeeded(int)", "int bagsAtLeast(int)", "int bags(int)", "int bagVolume(int,int)",
        "int riding(int)", "int events(int)", "char eventKind(int,int)", "int eventMinute(int,int)",
        "int eventHub(int,int)", "int trace(int)", "float lateShare()", "double meanTime()",
    };

    private FaceTest() {
    }

    static void run() {
        Check.test("face", FaceTest::face);
        Check.test("promise 1", FaceTest::promise1NewObject);
        Check.test("promise 1, all questions of a new object", FaceTest::promise1AllQuestions);
        Check.test("promise 1, two objects", FaceTest::promise1TwoObjects);
    }

    private static void face() {
        Class<?> kind = Routepost.class;
        Check.same("the class is public and final", true,
                Modifier.isPublic(kind.getModifiers()) && Modifier.isFinal(kind.getModifiers()));
        List<String> got = new ArrayList<>();
        for (Method method : kind.getDeclaredMethods()) {
            if (!Modifier.isPrivate(method.getModifiers())) {
                got.add(signature(method));
            }
        }
        List<String> want = new ArrayList<>(List.of(METHODS));
        Collections.sort(got);
        Collections.sort(want);
        Check.same("methods", want.toString(), got.toString());
        Constructor<?>[] constructors = kind.getDeclaredConstructors();
        Check.same("constructors", 1, constructors.length);
        Check.same("public constructors", 1, kind.getConstructors().length);
    }

    private static String signature(Method method) {
        List<String> kinds = new ArrayList<>();
        for (Class<?> kind : method.getParameterTypes()) {
            kinds.add(kind.getName());
        }
        return method.getReturnType().getName() + " " + method.getName() + "(" + String.join(",", kinds) + ")";
    }

    private static void promise1NewObject() {
        Routepost post = new Routepost();
        Check.same("hubs", 0, post.hubs());
        Check.same("lines", 0, post.lines());
        Check.same("parcels", 0, post.parcels());
        Check.same("minute", 0, post.minute());
        Check.same("hubOf(1111)", -1, post.hubOf(1111));
        Routepost other = new Routepost();
        other.openHub(1, 1);
        other.pass(3);
        Check.same("hubs of the first one", 0, post.hubs());
        Check.same("minute of the first one", 0, post.minute());
    }

    /** Neither hubs nor lines nor parcels: all that asks for one of them finds none. */
    private static void promise1AllQuestions() {
        Routepost post = new Routepost();
        Check.same("lateShare", Check.ARITHMETIC.getName(), Check.outcome(post::lateShare));
        Check.same("meanTime", Check.ARITHMETIC.getName(), Check.outcome(post::meanTime));
        Check.refuses("addLine", post, Check.NO_SUCH, () -> post.addLine(0, 1, 0, 5, 1, 1));
        Check.refuses("accept", post, Check.NO_SUCH, () -> post.accept(0, 1111, 1, 1));
        Check.refuses("scan", post, Check.NO_SUCH, () -> post.scan(0, 0));
        Check.same("hubByTrying", -1, post.hubByTrying(9999));
        Check.same("pass", 0, post.pass(120));
        Check.same("minute", 120, post.minute());
        Check.same("openHub", 0, post.openHub(1, 1));
    }

    private static void promise1TwoObjects() {
        Routepost one = Posts.allStates();
        String before = Answers.of(one);
        Routepost other = Posts.allStatesAndFull();
        other.pass(120);
        other.closeLine(0);
        Check.same("the one knows nothing of the other", before, Answers.of(one));
        Check.same("made in the same way", before, Answers.of(Posts.allStates()));
    }
}
