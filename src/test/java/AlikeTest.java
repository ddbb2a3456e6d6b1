import java.util.ArrayList;
import java.util.Collections;
import java.util.List;
import java.util.Random;

/**
 * Terms, 'Two NETS are ALIKE', and promise 22: pairs of small nets that differ in few links, told by PlainRing.
 * All ports of some nodes are roots at first; join() links most of them, in one way for the image, in another
 * way behind it.
 */
public final class AlikeTest {
    private static final int RUNS = 4000;
    private static final String[] TREES = {"*", "(. .)", "[. .]"};
    private static int wrong = 0;

    public static void main(String[] args) {
        int alike = 0;
        for (int seed = 0; seed < RUNS && wrong < 5; seed++) {
            alike += play(new Random(seed), seed);
        }
        if (alike < RUNS / 20 || alike > RUNS * 19 / 20) {
            wrong++;
            System.out.println("of " + RUNS + " nets " + alike + " were alike: that tests little");
        }
        System.out.println(alike + " of " + RUNS + " alike; " + (wrong == 0 ? "all answers are as due" : wrong + " answers are not as due"));
        if (wrong != 0) {
            System.exit(1);
        }
    }

    private static int play(Random random, int seed) {
        CombinatorRing real = new CombinatorRing();
        PlainRing model = new PlainRing();
        String text = drawText(random);
        for (int i = 0; i < text.length(); i += 20) {
            int[] v = new int[5];
            for (int k = 0; k < 20; k++) {
                v[k / 4] = v[k / 4] << 8 | (i + k < text.length() ? text.charAt(i + k) : ' ');
            }
            real.feed(v[0], v[1], v[2], v[3], v[4]);
            model.feed(v[0], v[1], v[2], v[3], v[4]);
        }
        due(seed, text, real.net(text.length()), model.net(text.length()));
        List<Integer> first = drawRoots(random, model.count(6));
        int kept = first.size() % 2 + 2 * random.nextInt(2);
        List<Integer> second = new ArrayList<>(first);
        // Those behind are kept as roots in both nets; of the others two or more change places.
        int moved = first.size() - kept;
        for (int i = random.nextInt(3); i >= 0 && moved > 0; i--) {
            Collections.swap(second, random.nextInt(moved), random.nextInt(moved));
        }
        int joins = join(real, model, first, kept);
        due(seed, "image", real.image(0, false) ? 1 : 0, model.image(0, false) ? 1 : 0);
        for (int i = 0; i < joins; i++) {
            due(seed, "undo", real.undo(), model.undo());
        }
        join(real, model, second, kept);
        int want = model.likeImage(0);
        due(seed, text + " by " + first + ", then " + second + " with " + kept + " kept: likeImage(0)",
            real.likeImage(0), want);
        return want;
    }

    private static void due(int seed, String what, int got, int want) {
        if (got != want) {
            wrong++;
            System.out.println("seed " + seed + ": " + what + " answered " + got + ", due is " + want);
        }
    }

    /** Nodes mostly of one kind, each port a name of its own. */
    private static String drawText(Random random) {
        int usual = random.nextInt(3) == 0 ? 2 : 1;
        StringBuilder told = new StringBuilder();
        char name = 'a';
        for (int nodes = 2 + random.nextInt(4); nodes > 0; nodes--) {
            told.append(".~").append(TREES[random.nextInt(6) == 0 ? random.nextInt(3) : usual]).append(';');
        }
        for (int i = 0; i < told.length(); i++) {
            if (told.charAt(i) == '.') {
                told.setCharAt(i, name++);
            }
        }
        return told.toString();
    }

    private static List<Integer> drawRoots(Random random, int count) {
        List<Integer> roots = new ArrayList<>();
        for (int root = 0; root < count; root++) {
            roots.add(root);
        }
        Collections.shuffle(roots, random);
        return roots;
    }

    private static int join(CombinatorRing real, PlainRing model, List<Integer> roots, int kept) {
        int joins = 0;
        for (int i = 0; i + 1 < roots.size() - kept; i += 2) {
            due(i, "join", real.join(roots.get(i), roots.get(i + 1)), model.join(roots.get(i), roots.get(i + 1)));
            joins++;
        }
        return joins;
    }
}
