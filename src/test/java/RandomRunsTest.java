import java.util.Random;

/** Seeded random runs of 512 calls; each answer is compared with that of PlainCentre. */
public final class RandomRunsTest {
    private static final Check CHECK = new Check();
    private static final int RUNS = 600;
    private static final int CALLS = 512;
    private static final int[] WILD = {Integer.MIN_VALUE, -2, -1, 0, 1, 1000, Integer.MAX_VALUE};

    private static final String[] NAMES = {
        "write", "erase", "isWide", "septets", "parts", "signs", "octets", "octet", "submit", "state",
        "missing", "joined", "receipts", "receipt", "pass", "time", "toggleLink", "setWindow", "queued",
        "underWay", "tokens", "acknowledge", "alert", "setKeyword", "come",
    };

    private RandomRunsTest() {
    }

    public static void main(String[] args) {
        for (int seed = 0; seed < RUNS; seed++) {
            run(seed);
        }
        CHECK.end("RandomRunsTest");
    }

    private static void run(int seed) {
        Random random = new Random(seed);
        Shortmessage centre = new Shortmessage();
        PlainCentre plain = new PlainCentre();
        int[] weights = new int[NAMES.length];
        for (int i = 0; i < weights.length; i++) {
            weights[i] = 1 + random.nextInt(1 + random.nextInt(20));
        }
        // Erasing and expiring too often would leave nothing to compare.
        weights[1] = 1;
        weights[8] += 5;
        weights[21] += 10;
        int highestSign = new int[] {127, 159, 200, 999}[random.nextInt(4)];
        int longestPass = new int[] {1, 3, 20, 200}[random.nextInt(4)];
        for (int i = 0; i < CALLS; i++) {
            String name = NAMES[pick(random, weights)];
            int a = first(random, name, highestSign, longestPass);
            int b = second(random, name);
            String what = "seed " + seed + ", call " + i + ": " + name + "(" + a + ", " + b + ")";
            CHECK.due(what, Check.answer(() -> plain.call(name, a, b)), () -> call(centre, name, a, b));
        }
    }

    private static int pick(Random random, int[] weights) {
        int sum = 0;
        for (int weight : weights) {
            sum += weight;
        }
        int left = random.nextInt(sum);
        int picked = 0;
        while (left >= weights[picked]) {
            left -= weights[picked];
            picked++;
        }
        return picked;
    }

    /** A number from one below the range to one above it, seldom a wild one. */
    private static int around(Random random, int from, int to) {
        int kind = random.nextInt(40);
        if (kind == 0) {
            return WILD[random.nextInt(WILD.length)];
        }
        return kind == 1 ? from - 1 : kind == 2 ? to + 1 : from + random.nextInt(to - from + 1);
    }

    private static int first(Random random, String name, int highestSign, int longestPass) {
        switch (name) {
            case "write": return random.nextInt(30) == 0 ? around(random, 0, 999) : random.nextInt(highestSign + 1);
            case "signs": case "octets": case "octet": return around(random, 0, random.nextInt(2) == 0 ? 0 : 5);
            case "submit": case "alert": return around(random, 0, 8);
            case "state": case "missing": case "joined": return around(random, 0, random.nextInt(20));
            case "receipt": return around(random, 0, random.nextInt(20));
            case "pass": return random.nextInt(20) == 0 ? around(random, 1, 200) : 1 + random.nextInt(longestPass);
            case "setKeyword": return around(random, 1, 4);
            case "come": return around(random, 0, random.nextInt(2) == 0 ? 1 : 8);
            default: return around(random, 0, 2);
        }
    }

    private static int second(Random random, String name) {
        switch (name) {
            case "write": return around(random, 1, random.nextInt(2) == 0 ? 30 : 200);
            case "octet": return around(random, 0, random.nextInt(2) == 0 ? 10 : 139);
            case "submit": return around(random, 1, random.nextInt(3) == 0 ? 20 : 1000);
            case "joined": return around(random, 0, random.nextInt(2) == 0 ? 80 : 399);
            case "setWindow": return around(random, 1, 10);
            case "acknowledge": return random.nextInt(3) == 0 ? 0 : around(random, 0, 3);
            case "setKeyword": case "come": return around(random, -1, 6);
            default: return 0;
        }
    }

    private static Object call(Shortmessage x, String name, int a, int b) {
        switch (name) {
            case "write": return x.write(a, b);
            case "erase": return x.erase();
            case "isWide": return x.isWide();
            case "septets": return x.septets();
            case "parts": return x.parts();
            case "signs": return x.signs(a);
            case "octets": return x.octets(a);
            case "octet": return x.octet(a, b);
            case "submit": return x.submit(a, b);
            case "state": return x.state(a);
            case "missing": return x.missing(a);
            case "joined": return x.joined(a, b);
            case "receipts": return x.receipts();
            case "receipt": return x.receipt(a);
            case "pass": return x.pass(a);
            case "time": return x.time();
            case "toggleLink": return x.toggleLink(a);
            case "setWindow": return x.setWindow(a, b);
            case "queued": return x.queued(a);
            case "underWay": return x.underWay(a);
            case "tokens": return x.tokens(a);
            case "acknowledge": return x.acknowledge(a, b);
            case "alert": return x.alert(a);
            case "setKeyword": x.setKeyword(a, b); return null;
            case "come": return x.come(a, b);
            default: throw new AssertionError(name);
        }
    }
}
