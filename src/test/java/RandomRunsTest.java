import java.util.Arrays;
import java.util.Random;
import java.util.TreeMap;

/** Random runs of 512 calls (the seeds are fixed), each answer held against that of PlainRooms. */
public final class RandomRunsTest {
    private static final int CALLS = 512;
    private static final long[] WILD = {
        Long.MIN_VALUE, Long.MAX_VALUE, -3_000_001, -3_000_000, -1_000_001, -1_000_000, -100_001, -100_000, -1, 0, 1,
        10, 11, 19, 20, 59, 60, 1000, 1001, 100_000, 100_001, 1_000_000, 1_000_001, 3_000_000, 3_000_001,
    };

    private final Random random;
    /** How far places spread: small, so that labels and parts crowd each other. */
    private final int spread;
    /** All sizes and places are multiples of it, so that borders touch often when it is not 1. */
    private final int grid;
    private final int oftenLabels;
    /** So many parts and channels are made at once, so that some runs come to the limits early. */
    private final int partsFirst;
    private final int channelsFirst;
    private final ChannelRooms tested = new ChannelRooms();
    private final PlainRooms plain = new PlainRooms();
    private static final TreeMap<String, Integer> SEEN = new TreeMap<>();

    private RandomRunsTest(long seed) {
        random = new Random(seed);
        spread = 12 + random.nextInt(60);
        grid = seed % 3 == 0 ? 4 : 1;
        oftenLabels = random.nextInt(3);
        partsFirst = seed % 4 == 0 ? 30 + random.nextInt(31) : 0;
        channelsFirst = seed % 5 == 0 ? random.nextInt(21) : 0;
    }

    public static void main(String[] args) {
        for (long seed = 1; seed <= 150; seed++) {
            new RandomRunsTest(seed).run(seed);
        }
        String[] due = {
            "label 0", "label 1", "carry", "told 1", "outside 1", "array", "mirror 1", "copy", "carry with 60 parts",
            "copy with 60 parts", "array with 60 parts", "label with 60 parts",
        };
        for (String kind : due) {
            Check.isTrue("the runs seldom came to " + kind, SEEN.getOrDefault(kind, 0) > 20);
        }
        Check.finish();
    }

    private void run(long seed) {
        for (int call = 0; call < CALLS; call++) {
            String name = nextName(call);
            long[] a = random.nextInt(60) == 0 ? wild(name) : tame(name);
            Object want = plain.answer(name, a);
            Object got = answer(name, a);
            note(name + (plain.partCount() == 60 ? " with 60 parts" : ""), want);
            note(name, want);
            Check.isTrue("seed " + seed + ", call " + call + ": " + name + Arrays.toString(a) + " answered " + got
                    + ", due is " + want, want.equals(got));
        }
    }

    private static void note(String name, Object want) {
        boolean many = want instanceof Long && (Long) want > 0;
        SEEN.merge(name, 1, Integer::sum);
        SEEN.merge(name + (many ? " 1" : " 0"), 1, Integer::sum);
    }

    private String nextName(int call) {
        if (call < partsFirst || plain.partCount() < 4 + call / 16 && random.nextInt(6) == 0) {
            return "part";
        }
        if (call < partsFirst + channelsFirst) {
            return "channel";
        }
        int kind = random.nextInt(100);
        if (kind < 10 * oftenLabels) {
            return random.nextBoolean() ? "label" : "labelAt";
        }
        String[] names = {
            "put", "put", "put", "channel", "into", "into", "into", "copy", "hand", "hand", "carry", "carry", "told", "told",
            "room", "member", "member", "outside", "outside", "label", "labelAt", "labelAt", "labelAt", "array", "mirror",
            "at", "at", "at", "at", "at", "at",
        };
        String name = names[random.nextInt(names.length)];
        boolean fills = name.equals("channel") || name.equals("copy") || name.equals("array");
        return fills && random.nextInt(3) != 0 ? "at" : name;
    }

    private long[] wild(String name) {
        long[] a = tame(name);
        if (a.length > 0) {
            int i = random.nextInt(a.length);
            boolean isInt = !takesLong(name, i);
            long value = WILD[random.nextInt(WILD.length)];
            a[i] = isInt ? Math.max(Integer.MIN_VALUE, Math.min(Integer.MAX_VALUE, value)) : value;
        }
        return a;
    }

    private static boolean takesLong(String name, int i) {
        switch (name) {
            case "part": case "room": return true;
            case "put": case "copy": case "hand": case "label": return i == 1 || i == 2;
            case "array": return i >= 3;
            default: return false;
        }
    }

    private long[] tame(String name) {
        switch (name) {
            case "part": return row(size(), size());
            case "put": return put();
            case "into": return row(random.nextInt(4), anyPart(), random.nextInt(20));
            case "copy": return row(random.nextInt(4), place(), place(), random.nextInt(4));
            case "hand": return Arrays.copyOf(put(), 3);
            case "carry": return row(random.nextInt(4));
            case "told": return row(random.nextInt(4) - random.nextInt(2));
            case "room": return roomCorners();
            case "member": return row(random.nextInt(4), anyPart());
            case "outside": return row(random.nextInt(3), random.nextInt(4) - random.nextInt(2));
            case "label": return row(anyPart() % 8, size(), size());
            case "labelAt": return row(anyPart() % 8, random.nextInt(3));
            case "array": return row(random.nextInt(4), 1 + random.nextInt(3), 1 + random.nextInt(3), place(), place());
            case "mirror": return row(random.nextInt(10));
            case "at": return row(anyPart(), random.nextInt(6));
            default: return row();
        }
    }

    /** Now and then to where the part is already, so that a call changes nothing, or the turn alone. */
    private long[] put() {
        long part = anyPart();
        if (part < plain.partCount() && random.nextInt(4) == 0) {
            return row(part, (Long) plain.answer("at", row(part, 0)), (Long) plain.answer("at", row(part, 1)), random.nextInt(4));
        }
        return row(part, place(), place(), random.nextInt(4));
    }

    private static long[] row(long... values) {
        return values;
    }

    private long anyPart() {
        return random.nextInt(plain.partCount() + (random.nextInt(20) == 0 ? 2 : 0) + (plain.partCount() == 0 ? 1 : 0));
    }

    private long size() {
        return grid == 1 ? 1 + random.nextInt(9) : grid * (1 + random.nextInt(2));
    }

    private long place() {
        return (random.nextInt(2 * spread + 1) - spread) / grid * grid;
    }

    private long[] roomCorners() {
        long x = place();
        long y = place();
        return row(Math.min(x, 0) - 5, Math.min(y, 0) - 5, Math.max(x, 0) + 5, Math.max(y, 0) + 5);
    }

    private Object answer(String name, long[] a) {
        try {
            return call(name, a);
        } catch (RuntimeException e) {
            return e.getClass().getSimpleName();
        }
    }

    private Object call(String name, long[] a) {
        switch (name) {
            case "part": return (long) tested.part(a[0], a[1]);
            case "put": return number(tested.put((int) a[0], a[1], a[2], (int) a[3]));
            case "channel": return (long) tested.channel();
            case "into": return number(tested.into((int) a[0], (int) a[1], (int) a[2]));
            case "copy": return (long) tested.copy((int) a[0], a[1], a[2], (int) a[3]);
            case "hand": return number(tested.hand((int) a[0], a[1], a[2]));
            case "carry": return (long) tested.carry((int) a[0]);
            case "told": return (long) tested.told((int) a[0]);
            case "room": return (long) tested.room(a[0], a[1], a[2], a[3]);
            case "member": return number(tested.member((int) a[0], (int) a[1]));
            case "outside": return (long) tested.outside((int) a[0], (int) a[1]);
            case "label": return (long) tested.label((int) a[0], a[1], a[2]);
            case "labelAt": return tested.labelAt((int) a[0], (int) a[1]);
            case "array": return (long) tested.array((int) a[0], (int) a[1], (int) a[2], a[3], a[4]);
            case "mirror": return number(tested.mirror((int) a[0]));
            case "at": return tested.at((int) a[0], (int) a[1]);
            default: throw new UnsupportedOperationException(name);
        }
    }

    private static Object number(boolean b) {
        return b ? 1L : 0L;
    }
}
