import java.util.Random;

/** Promises 2 to 47: long runs of drawn calls, each answered by the sorter and by the model. */
final class RandomRunsTest {
    private static final int RUNS = 60;
    private static final int CALLS = 512;

    private final Random random;
    private final Routepost post = new Routepost();
    private final Model model = new Model();
    private final Draw draw;
    private final StringBuilder calls = new StringBuilder();

    private RandomRunsTest(long seed) {
        random = new Random(seed);
        draw = new Draw(random, model);
    }

    static void run() {
        for (int i = 0; i < RUNS; i++) {
            int seed = i;
            Check.test("random run " + seed, () -> new RandomRunsTest(seed).compareAll());
        }
    }

    private void compareAll() {
        int between = 1 + random.nextInt(40);
        for (int i = 0; i < CALLS; i++) {
            if (!compareOne(i) || i % between == 0 && !compareAnswers()) {
                return;
            }
        }
        compareAnswers();
    }

    private boolean compareOne(int index) {
        String name = draw.name(index);
        Object[] arguments = draw.arguments(name);
        calls.append(name).append(java.util.Arrays.toString(arguments)).append(' ');
        String want = Answers.answer(model, name, arguments);
        String got = Answers.answer(post, name, arguments);
        Check.same(name, want, got);
        return want.equals(got);
    }

    private boolean compareAnswers() {
        String want = Answers.of(model);
        String got = Answers.of(post);
        boolean isSame = want.equals(got);
        Check.same("all answers after " + (isSame ? "" : calls), true, isSame);
        if (!isSame) {
            String[] wanted = want.split("\n");
            String[] gotten = got.split("\n");
            for (int i = 0; i < wanted.length && i < gotten.length; i++) {
                Check.same("answer", wanted[i], gotten[i]);
            }
        }
        return isSame;
    }
}
