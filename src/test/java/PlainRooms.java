import java.util.ArrayList;
import java.util.List;
import java.util.Map;
import java.util.TreeMap;
import java.util.TreeSet;

/**
 * A second program for the same document, as plain as can be and as unlike the first as can be: lists and maps,
 * rectangles turned corner by corner, labels by trying all ways. Its answers are numbers (a boolean 1 or 0) or the
 * names of exceptions.
 */
final class PlainRooms {
    private static final String INDEX = "IndexOutOfBoundsException";
    private static final String ARGUMENT = "IllegalArgumentException";
    private static final String STATE = "IllegalStateException";

    private static final class Part {
        long w;
        long h;
        long x;
        long y;
        int turn;
        int channel = -1;
        int role = -1;
        boolean byHand;

        long[] rectangle() {
            boolean odd = turn == 1 || turn == 3;
            return new long[] {x, y, x + (odd ? h : w), y + (odd ? w : h)};
        }
    }

    private static final class Channel {
        int master = -1;
        long dx;
        long dy;
        int turn;
        boolean mirrored;
        final TreeMap<Integer, Integer> members = new TreeMap<>();
    }

    private static final class Label {
        long w;
        long h;
        int spot = -1;
    }

    private final List<Part> parts = new ArrayList<>();
    private final List<Channel> channels = new ArrayList<>();
    private final List<long[]> rooms = new ArrayList<>();
    private final List<TreeSet<Integer>> roomMembers = new ArrayList<>();
    private final TreeMap<Integer, Label> labels = new TreeMap<>();
    private final TreeSet<Integer> told = new TreeSet<>();

    int partCount() {
        return parts.size();
    }

    /** Answers the call with that name; every argument is a long here. */
    Object answer(String name, long[] a) {
        switch (name) {
            case "part": return part(a[0], a[1]);
            case "put": return put(a[0], a[1], a[2], a[3]);
            case "channel": return channel();
            case "into": return into(a[0], a[1], a[2]);
            case "copy": return copy(a[0], a[1], a[2], a[3]);
            case "hand": return hand(a[0], a[1], a[2]);
            case "carry": return carry(a[0]);
            case "told": return nth(told, a[0]);
            case "room": return room(a);
            case "member": return member(a[0], a[1]);
            case "outside": return outside(a[0], a[1]);
            case "label": return label(a[0], a[1], a[2]);
            case "labelAt": return labelAt(a[0], a[1]);
            case "array": return array(a[0], a[1], a[2], a[3], a[4]);
            case "mirror": return mirror(a[0]);
            case "at": return at(a[0], a[1]);
            default: throw new IllegalStateException(name);
        }
    }

    private static boolean within(long least, long value, long most) {
        return least <= value && value <= most;
    }

    private static boolean place(long x, long y) {
        return within(-1_000_000, x, 1_000_000) && within(-1_000_000, y, 1_000_000);
    }

    private static boolean has(List<?> list, long number) {
        return within(0, number, list.size() - 1);
    }

    private static long number(boolean b) {
        return b ? 1 : 0;
    }

    private static long nth(TreeSet<Integer> set, long k) {
        return within(0, k, set.size() - 1) ? new ArrayList<>(set).get((int) k) : -1L;
    }

    private Object part(long w, long h) {
        if (!within(1, w, 1000) || !within(1, h, 1000)) {
            return ARGUMENT;
        }
        if (parts.size() == 60) {
            return -1L;
        }
        Part p = new Part();
        p.w = w;
        p.h = h;
        parts.add(p);
        return parts.size() - 1L;
    }

    private Object put(long part, long x, long y, long turn) {
        if (!has(parts, part)) {
            return INDEX;
        }
        if (!place(x, y) || !within(0, turn, 3)) {
            return ARGUMENT;
        }
        Part p = parts.get((int) part);
        boolean another = p.x != x || p.y != y || p.turn != turn;
        p.x = x;
        p.y = y;
        p.turn = (int) turn;
        return number(another);
    }

    private Object channel() {
        if (channels.size() == 20) {
            return -1L;
        }
        channels.add(new Channel());
        return channels.size() - 1L;
    }

    private Object into(long channel, long part, long role) {
        if (!has(channels, channel) || !has(parts, part)) {
            return INDEX;
        }
        if (!within(0, role, 19)) {
            return ARGUMENT;
        }
        Channel c = channels.get((int) channel);
        Part p = parts.get((int) part);
        if (c.master >= 0 || p.channel >= 0 || c.members.containsKey((int) role)) {
            return 0L;
        }
        c.members.put((int) role, (int) part);
        p.channel = (int) channel;
        p.role = (int) role;
        return 1L;
    }

    private Object copy(long master, long dx, long dy, long turn) {
        if (!has(channels, master)) {
            return INDEX;
        }
        if (!place(dx, dy) || !within(0, turn, 3)) {
            return ARGUMENT;
        }
        Channel m = channels.get((int) master);
        if (m.master >= 0 || channels.size() == 20 || parts.size() + m.members.size() > 60) {
            return -1L;
        }
        Channel c = new Channel();
        c.master = (int) master;
        c.dx = dx;
        c.dy = dy;
        c.turn = (int) turn;
        channels.add(c);
        for (int role : m.members.keySet()) {
            make(channels.size() - 1, role);
        }
        return channels.size() - 1L;
    }

    private void make(int copy, int role) {
        Channel c = channels.get(copy);
        Part original = parts.get(channels.get(c.master).members.get(role));
        Part p = new Part();
        p.w = original.w;
        p.h = original.h;
        p.channel = copy;
        p.role = role;
        long[] due = due(c, original);
        p.x = due[0];
        p.y = due[1];
        p.turn = (int) due[2];
        parts.add(p);
        c.members.put(role, parts.size() - 1);
    }

    /** x, y and turn of what a part is for a copy, by its four corners. */
    private static long[] due(Channel c, Part original) {
        long[] r = original.rectangle();
        long[][] corners = {{r[0], r[1]}, {r[0], r[3]}, {r[2], r[1]}, {r[2], r[3]}};
        long[] cos = {1, 0, -1, 0};
        long[] sin = {0, 1, 0, -1};
        long leastX = Long.MAX_VALUE;
        long leastY = Long.MAX_VALUE;
        for (long[] corner : corners) {
            long x = c.mirrored ? -corner[0] : corner[0];
            long y = corner[1];
            leastX = Math.min(leastX, cos[c.turn] * x - sin[c.turn] * y + c.dx);
            leastY = Math.min(leastY, sin[c.turn] * x + cos[c.turn] * y + c.dy);
        }
        int turn = c.mirrored ? Math.floorMod(-original.turn, 4) : original.turn;
        return new long[] {leastX, leastY, Math.floorMod(turn + c.turn, 4)};
    }

    private Object hand(long part, long x, long y) {
        if (!has(parts, part)) {
            return INDEX;
        }
        if (!place(x, y)) {
            return ARGUMENT;
        }
        Part p = parts.get((int) part);
        boolean another = p.x != x || p.y != y;
        p.x = x;
        p.y = y;
        if (p.channel >= 0 && channels.get(p.channel).master >= 0) {
            p.byHand = true;
        }
        return number(another);
    }

    private Object carry(long master) {
        if (!has(channels, master)) {
            return INDEX;
        }
        Channel m = channels.get((int) master);
        if (m.master >= 0) {
            return 0L;
        }
        told.clear();
        long changed = 0;
        for (int copy = 0; copy < channels.size(); copy++) {
            Channel c = channels.get(copy);
            for (Map.Entry<Integer, Integer> e : c.master == master ? m.members.entrySet() : new TreeMap<Integer, Integer>().entrySet()) {
                if (!c.members.containsKey(e.getKey())) {
                    if (parts.size() < 60) {
                        make(copy, e.getKey());
                        changed++;
                    }
                    continue;
                }
                int own = c.members.get(e.getKey());
                Part p = parts.get(own);
                long[] due = due(c, parts.get(e.getValue()));
                if (p.x == due[0] && p.y == due[1] && p.turn == due[2]) {
                    continue;
                }
                if (p.byHand) {
                    told.add(own);
                } else {
                    changed++;
                    p.x = due[0];
                    p.y = due[1];
                    p.turn = (int) due[2];
                }
            }
        }
        return changed;
    }

    private Object room(long[] r) {
        for (long corner : r) {
            if (!within(-3_000_000, corner, 3_000_000)) {
                return ARGUMENT;
            }
        }
        if (r[0] > r[2] || r[1] > r[3]) {
            return ARGUMENT;
        }
        if (rooms.size() == 10) {
            return -1L;
        }
        rooms.add(r.clone());
        roomMembers.add(new TreeSet<>());
        return rooms.size() - 1L;
    }

    private Object member(long room, long part) {
        if (!has(rooms, room) || !has(parts, part)) {
            return INDEX;
        }
        return number(roomMembers.get((int) room).add((int) part));
    }

    private Object outside(long room, long k) {
        if (!has(rooms, room)) {
            return INDEX;
        }
        long[] r = rooms.get((int) room);
        TreeSet<Integer> out = new TreeSet<>();
        for (int part : roomMembers.get((int) room)) {
            long[] p = parts.get(part).rectangle();
            if (!(within(r[0], p[0], r[2]) && within(r[0], p[2], r[2]) && within(r[1], p[1], r[3]) && within(r[1], p[3], r[3]))) {
                out.add(part);
            }
        }
        return nth(out, k);
    }

    private long[] labelRectangle(int part, Label label, int spot) {
        long[] r = parts.get(part).rectangle();
        long x = r[0];
        long y = r[1];
        long u = r[2];
        long v = r[3];
        long w = label.w;
        long h = label.h;
        long[][] corners = {{u, y}, {x, v}, {x - w, y}, {x, y - h}, {u, v}, {x - w, v}, {x - w, y - h}, {u, y - h}};
        return new long[] {corners[spot][0], corners[spot][1], corners[spot][0] + w, corners[spot][1] + h};
    }

    private static boolean overlap(long[] a, long[] b) {
        return Math.max(a[0], b[0]) < Math.min(a[2], b[2]) && Math.max(a[1], b[1]) < Math.min(a[3], b[3]);
    }

    private Object label(long part, long w, long h) {
        if (!has(parts, part)) {
            return INDEX;
        }
        if (!within(1, w, 1000) || !within(1, h, 1000)) {
            return ARGUMENT;
        }
        labels.remove((int) part);
        if (labels.size() == 5) {
            return 1L;
        }
        Label added = new Label();
        added.w = w;
        added.h = h;
        labels.put((int) part, added);
        int[] best = bestSpots();
        if (best == null) {
            labels.remove((int) part);
            return 1L;
        }
        int i = 0;
        for (Label l : labels.values()) {
            l.spot = best[i++];
        }
        return 0L;
    }

    /** All ways in rising order of their spots, the lowest part's counting most: the first one with the fewest changes. */
    private int[] bestSpots() {
        List<Integer> owners = new ArrayList<>(labels.keySet());
        int n = owners.size();
        long[][][] at = new long[n][8][];
        boolean[][] free = new boolean[n][8];
        int ways = 1;
        for (int i = 0; i < n; i++) {
            ways *= 8;
            for (int s = 0; s < 8; s++) {
                at[i][s] = labelRectangle(owners.get(i), labels.get(owners.get(i)), s);
                free[i][s] = true;
                for (Part p : parts) {
                    free[i][s] &= !overlap(at[i][s], p.rectangle());
                }
            }
        }
        int[] best = null;
        int fewest = Integer.MAX_VALUE;
        for (int way = 0; way < ways; way++) {
            int[] spots = new int[n];
            int rest = way;
            int changes = 0;
            boolean good = true;
            for (int i = n - 1; i >= 0; i--) {
                spots[i] = rest % 8;
                rest /= 8;
                int old = labels.get(owners.get(i)).spot;
                changes += old >= 0 && old != spots[i] ? 1 : 0;
                good &= free[i][spots[i]];
            }
            for (int i = 0; good && i < n; i++) {
                for (int j = 0; good && j < i; j++) {
                    good = !overlap(at[i][spots[i]], at[j][spots[j]]);
                }
            }
            if (good && changes < fewest) {
                fewest = changes;
                best = spots;
            }
        }
        return best;
    }

    private Object labelAt(long part, long axis) {
        if (!has(parts, part) || !within(0, axis, 2)) {
            return INDEX;
        }
        Label l = labels.get((int) part);
        if (l == null) {
            return STATE;
        }
        return axis == 2 ? (long) l.spot : labelRectangle((int) part, l, l.spot)[(int) axis];
    }

    private Object array(long channel, long columns, long rows, long dx, long dy) {
        if (!has(channels, channel)) {
            return INDEX;
        }
        if (!within(1, columns, 10) || !within(1, rows, 10) || !within(-100_000, dx, 100_000) || !within(-100_000, dy, 100_000)) {
            return ARGUMENT;
        }
        Channel m = channels.get((int) channel);
        long copies = columns * rows - 1;
        if (m.master >= 0 || copies > 20 - channels.size() || copies * m.members.size() > 60 - parts.size()) {
            return -1L;
        }
        for (long cell = 1; cell <= copies; cell++) {
            copy(channel, cell % columns * dx, cell / columns * dy, 0);
        }
        return copies;
    }

    private Object mirror(long channel) {
        if (!has(channels, channel)) {
            return INDEX;
        }
        Channel c = channels.get((int) channel);
        if (c.master < 0) {
            return 0L;
        }
        c.mirrored ^= true;
        for (Map.Entry<Integer, Integer> e : c.members.entrySet()) {
            Part p = parts.get(e.getValue());
            if (!p.byHand) {
                long[] due = due(c, parts.get(channels.get(c.master).members.get(e.getKey())));
                p.x = due[0];
                p.y = due[1];
                p.turn = (int) due[2];
            }
        }
        return 1L;
    }

    private Object at(long part, long what) {
        if (!has(parts, part) || !within(0, what, 5)) {
            return INDEX;
        }
        Part p = parts.get((int) part);
        return new long[] {p.x, p.y, p.turn, p.channel, p.role, number(p.byHand)}[(int) what];
    }
}
