import java.util.Arrays;

/**
 * Channels of parts and their copies, rooms and labels, as ../shared/DOC.md promises them.
 *
 * All rows and their objects are made with the object and used again, so that no later call makes any,
 * and no element of a row of objects is ever null.
 */
public final class ChannelRooms {
    public static final int NONE = -1;

    private static final int MAX_PARTS = 60;
    private static final int MAX_CHANNELS = 20;
    private static final int MAX_ROOMS = 10;
    private static final int MAX_LABELS = 5;
    private static final int ROLES = 20;
    private static final int TURNS = 4;
    private static final int SPOTS = 8;
    private static final int MAX_LINES = 10;
    private static final long MAX_SIZE = 1_000;
    private static final long MAX_PLACE = 1_000_000;
    private static final long MAX_CORNER = 3_000_000;
    private static final long MAX_STEP = 100_000;

    /** On which side of its part a label is at each spot: -1 before it, 0 even with its lower border, 1 behind it. */
    private static final int[] SPOT_X = {1, 0, -1, 0, 1, -1, -1, 1};
    private static final int[] SPOT_Y = {0, 1, 0, -1, 1, 1, -1, -1};

    private final Part[] parts = new Part[MAX_PARTS];
    private final Channel[] channels = new Channel[MAX_CHANNELS];
    private final Room[] rooms = new Room[MAX_ROOMS];
    private final Pose pose = new Pose();
    private final LabelSearch labelSearch = new LabelSearch();
    private int partCount;
    private int channelCount;
    private int roomCount;
    /** A set of parts, a bit each: 60 parts fit into a long. */
    private long toldParts;

    public ChannelRooms() {
        for (int i = 0; i < MAX_PARTS; i++) {
            parts[i] = new Part();
        }
        for (int i = 0; i < MAX_CHANNELS; i++) {
            channels[i] = new Channel();
        }
        for (int i = 0; i < MAX_ROOMS; i++) {
            rooms[i] = new Room();
        }
    }

    public int part(long w, long h) throws IllegalArgumentException {
        checkSize(w, h);
        return addPart(w, h);
    }

    public boolean put(int part, long x, long y, int turn) throws IndexOutOfBoundsException, IllegalArgumentException {
        checkPart(part);
        checkPlace(x, y);
        checkTurn(turn);
        return parts[part].moveTo(x, y, turn);
    }

    public int channel() {
        return addChannel();
    }

    public boolean into(int channel, int part, int role) throws IndexOutOfBoundsException, IllegalArgumentException {
        checkChannel(channel);
        checkPart(part);
        if (role < 0 || role >= ROLES) {
            throw new IllegalArgumentException("a role is 0 .. 19");
        }
        if (channels[channel].isCopy() || parts[part].channel != NONE || channels[channel].members[role] != NONE) {
            return false;
        }
        join(channel, part, role);
        return true;
    }

    public int copy(int master, long dx, long dy, int turn) throws IndexOutOfBoundsException, IllegalArgumentException {
        checkChannel(master);
        checkPlace(dx, dy);
        checkTurn(turn);
        if (!canBeCopied(master, 1)) {
            return NONE;
        }
        return addCopy(master, dx, dy, turn);
    }

    public boolean hand(int part, long x, long y) throws IndexOutOfBoundsException, IllegalArgumentException {
        checkPart(part);
        checkPlace(x, y);
        Part moved = parts[part];
        if (isOfCopy(moved)) {
            moved.byHand = true;
        }
        return moved.moveTo(x, y, moved.turn);
    }

    public int carry(int master) throws IndexOutOfBoundsException {
        checkChannel(master);
        if (channels[master].isCopy()) {
            return 0;
        }
        toldParts = 0;
        int changed = 0;
        for (int c = 0; c < channelCount; c++) {
            if (channels[c].master == master) {
                changed += carryTo(c);
            }
        }
        return changed;
    }

    public int told(int k) {
        return nthOf(toldParts, k);
    }

    public int room(long x0, long y0, long x1, long y1) throws IllegalArgumentException {
        if (x0 > x1 || y0 > y1) {
            throw new IllegalArgumentException("the room is turned");
        }
        if (x0 < -MAX_CORNER || y0 < -MAX_CORNER || x1 > MAX_CORNER || y1 > MAX_CORNER) {
            throw new IllegalArgumentException("a corner is within -3,000,000 .. 3,000,000");
        }
        if (roomCount >= MAX_ROOMS) {
            return NONE;
        }
        rooms[roomCount].setCorners(x0, y0, x1, y1);
        roomCount++;
        return roomCount - 1;
    }

    public boolean member(int room, int part) throws IndexOutOfBoundsException {
        checkRoom(room);
        checkPart(part);
        if (isIn(rooms[room].members, part)) {
            return false;
        }
        rooms[room].members |= 1L << part;
        return true;
    }

    public int outside(int room, int k) throws IndexOutOfBoundsException {
        checkRoom(room);
        long outsiders = 0;
        for (int p = 0; p < partCount; p++) {
            if (isIn(rooms[room].members, p) && !rooms[room].holds(parts[p])) {
                outsiders |= 1L << p;
            }
        }
        return nthOf(outsiders, k);
    }

    public int label(int part, long w, long h) throws IndexOutOfBoundsException, IllegalArgumentException {
        checkPart(part);
        checkSize(w, h);
        Part owner = parts[part];
        owner.dropLabel();
        if (countLabels() >= MAX_LABELS) {
            return 1;
        }
        owner.giveLabel(w, h);
        if (labelSearch.settle(parts, partCount)) {
            return 0;
        }
        owner.dropLabel();
        return 1;
    }

    public long labelAt(int part, int axis) throws IndexOutOfBoundsException, IllegalStateException {
        checkPart(part);
        if (axis < 0 || axis > 2) {
            throw new IndexOutOfBoundsException("there is no such axis");
        }
        Part owner = parts[part];
        if (!owner.labelled) {
            throw new IllegalStateException("the part has no label");
        }
        if (axis == 0) {
            return owner.labelX(owner.spot);
        }
        return axis == 1 ? owner.labelY(owner.spot) : owner.spot;
    }

    public int array(int channel, int columns, int rows, long dx, long dy)
            throws IndexOutOfBoundsException, IllegalArgumentException {
        checkChannel(channel);
        if (columns < 1 || columns > MAX_LINES || rows < 1 || rows > MAX_LINES) {
            throw new IllegalArgumentException("columns and rows are 1 .. 10");
        }
        if (!isWithin(dx, MAX_STEP) || !isWithin(dy, MAX_STEP)) {
            throw new IllegalArgumentException("a step is -100,000 .. 100,000");
        }
        int copies = columns * rows - 1;
        if (!canBeCopied(channel, copies)) {
            return NONE;
        }
        for (int j = 0; j < rows; j++) {
            for (int i = 0; i < columns; i++) {
                if (i > 0 || j > 0) {
                    addCopy(channel, i * dx, j * dy, 0);
                }
            }
        }
        return copies;
    }

    public boolean mirror(int channel) throws IndexOutOfBoundsException {
        checkChannel(channel);
        Channel copy = channels[channel];
        if (!copy.isCopy()) {
            return false;
        }
        copy.mirrored = !copy.mirrored;
        for (int role = 0; role < ROLES; role++) {
            int own = copy.members[role];
            if (isPart(own) && !parts[own].byHand && poseFor(copy, role)) {
                parts[own].moveTo(pose.left, pose.low, pose.turn);
            }
        }
        return true;
    }

    public long at(int part, int what) throws IndexOutOfBoundsException {
        checkPart(part);
        Part asked = parts[part];
        switch (what) {
            case 0:
                return asked.x;
            case 1:
                return asked.y;
            case 2:
                return asked.turn;
            case 3:
                return asked.channel;
            case 4:
                return asked.role;
            case 5:
                return asked.byHand ? 1 : 0;
            default:
                throw new IndexOutOfBoundsException("there is no such thing to ask of a part");
        }
    }

    private void checkPart(int part) {
        if (!isPart(part)) {
            throw new IndexOutOfBoundsException("there is no such part");
        }
    }

    private void checkChannel(int channel) {
        if (!isChannel(channel)) {
            throw new IndexOutOfBoundsException("there is no such channel");
        }
    }

    private void checkRoom(int room) {
        if (room < 0 || room >= roomCount) {
            throw new IndexOutOfBoundsException("there is no such room");
        }
    }

    private static void checkSize(long w, long h) {
        if (w < 1 || w > MAX_SIZE || h < 1 || h > MAX_SIZE) {
            throw new IllegalArgumentException("a size is 1 .. 1,000");
        }
    }

    private static void checkPlace(long x, long y) {
        if (!isWithin(x, MAX_PLACE) || !isWithin(y, MAX_PLACE)) {
            throw new IllegalArgumentException("a place is within -1,000,000 .. 1,000,000");
        }
    }

    private static void checkTurn(int turn) {
        if (turn < 0 || turn >= TURNS) {
            throw new IllegalArgumentException("a turn is 0 .. 3");
        }
    }

    private static boolean isWithin(long value, long most) {
        return value >= -most && value <= most;
    }

    private boolean isPart(int number) {
        return number >= 0 && number < partCount;
    }

    private boolean isChannel(int number) {
        return number >= 0 && number < channelCount;
    }

    private boolean isOfCopy(Part asked) {
        return isChannel(asked.channel) && channels[asked.channel].isCopy();
    }

    private int addPart(long w, long h) {
        if (partCount >= MAX_PARTS) {
            return NONE;
        }
        parts[partCount].w = w;
        parts[partCount].h = h;
        partCount++;
        return partCount - 1;
    }

    private int addChannel() {
        if (channelCount >= MAX_CHANNELS) {
            return NONE;
        }
        channelCount++;
        return channelCount - 1;
    }

    private void join(int channel, int part, int role) {
        channels[channel].members[role] = part;
        channels[channel].size++;
        parts[part].channel = channel;
        parts[part].role = role;
    }

    private boolean canBeCopied(int channel, int times) {
        Channel original = channels[channel];
        return !original.isCopy()
                && channelCount + times <= MAX_CHANNELS
                && partCount + times * original.size <= MAX_PARTS;
    }

    private int addCopy(int master, long dx, long dy, int turn) {
        int added = addChannel();
        if (added == NONE) {
            return NONE;
        }
        Channel copy = channels[added];
        copy.master = master;
        copy.dx = dx;
        copy.dy = dy;
        copy.turn = turn;
        carryTo(added);
        return added;
    }

    /** Brings one copy up to its master, and answers how many of its parts were made or changed. */
    private int carryTo(int copy) {
        int changed = 0;
        for (int role = 0; role < ROLES; role++) {
            if (poseFor(channels[copy], role) && carryPose(copy, role)) {
                changed++;
            }
        }
        return changed;
    }

    private boolean carryPose(int copy, int role) {
        int own = channels[copy].members[role];
        if (!isPart(own)) {
            return addMember(copy, role);
        }
        Part present = parts[own];
        if (!present.byHand) {
            return present.moveTo(pose.left, pose.low, pose.turn);
        }
        if (!present.isAt(pose.left, pose.low, pose.turn)) {
            toldParts |= 1L << own;
        }
        return false;
    }

    private boolean addMember(int copy, int role) {
        int added = addPart(pose.w, pose.h);
        if (added == NONE) {
            return false;
        }
        parts[added].moveTo(pose.left, pose.low, pose.turn);
        join(copy, added, role);
        return true;
    }

    /** Sets the pose to what the master's member with a role is for a copy; false when it has no such member. */
    private boolean poseFor(Channel copy, int role) {
        if (!isChannel(copy.master)) {
            return false;
        }
        int original = channels[copy.master].members[role];
        if (!isPart(original)) {
            return false;
        }
        pose.start(parts[original]);
        if (copy.mirrored) {
            pose.turnOver();
        }
        for (int quarter = 0; quarter < copy.turn; quarter++) {
            pose.turnLeft();
        }
        pose.moveBy(copy.dx, copy.dy);
        return true;
    }

    private int countLabels() {
        int count = 0;
        for (int p = 0; p < partCount; p++) {
            if (parts[p].labelled) {
                count++;
            }
        }
        return count;
    }

    private static boolean isIn(long set, int part) {
        return (set >> part & 1) == 1;
    }

    private static int nthOf(long set, int k) {
        int before = 0;
        for (int p = 0; p < MAX_PARTS; p++) {
            if (isIn(set, p)) {
                if (before == k) {
                    return p;
                }
                before++;
            }
        }
        return NONE;
    }

    private static final class Part {
        long w;
        long h;
        long x;
        long y;
        int turn;
        int channel = NONE;
        int role = NONE;
        boolean byHand;
        boolean labelled;
        long labelW;
        long labelH;
        /** NONE also for a label that has not been given a spot yet. */
        int spot = NONE;

        long right() {
            return x + (turn % 2 == 0 ? w : h);
        }

        long top() {
            return y + (turn % 2 == 0 ? h : w);
        }

        boolean isAt(long askedX, long askedY, int askedTurn) {
            return x == askedX && y == askedY && turn == askedTurn;
        }

        /** Answers whether it was elsewhere or turned otherwise. */
        boolean moveTo(long newX, long newY, int newTurn) {
            boolean changes = !isAt(newX, newY, newTurn);
            x = newX;
            y = newY;
            turn = newTurn;
            return changes;
        }

        void giveLabel(long newW, long newH) {
            labelled = true;
            labelW = newW;
            labelH = newH;
            spot = NONE;
        }

        void dropLabel() {
            labelled = false;
            spot = NONE;
        }

        long labelX(int atSpot) {
            if (atSpot < 0 || atSpot >= SPOTS || SPOT_X[atSpot] == 0) {
                return x;
            }
            return SPOT_X[atSpot] > 0 ? right() : x - labelW;
        }

        long labelY(int atSpot) {
            if (atSpot < 0 || atSpot >= SPOTS || SPOT_Y[atSpot] == 0) {
                return y;
            }
            return SPOT_Y[atSpot] > 0 ? top() : y - labelH;
        }
    }

    private static final class Channel {
        /** NONE for a master itself. */
        int master = NONE;
        long dx;
        long dy;
        int turn;
        boolean mirrored;
        int size;
        /** By role: the part, or NONE. */
        final int[] members = new int[ROLES];

        Channel() {
            Arrays.fill(members, NONE);
        }

        boolean isCopy() {
            return master != NONE;
        }
    }

    private static final class Room {
        long x0;
        long y0;
        long x1;
        long y1;
        /** A set of parts, a bit each. */
        long members;

        void setCorners(long newX0, long newY0, long newX1, long newY1) {
            x0 = newX0;
            y0 = newY0;
            x1 = newX1;
            y1 = newY1;
        }

        boolean holds(Part asked) {
            return asked.x >= x0 && asked.right() <= x1 && asked.y >= y0 && asked.top() <= y1;
        }
    }

    /** A master's member on its way to what it is for a copy: the borders are turned, so that its corner comes out right. */
    private static final class Pose {
        long w;
        long h;
        long left;
        long low;
        long right;
        long high;
        int turn;

        void start(Part original) {
            w = original.w;
            h = original.h;
            left = original.x;
            low = original.y;
            right = original.right();
            high = original.top();
            turn = original.turn;
        }

        void turnOver() {
            long oldLeft = left;
            left = -right;
            right = -oldLeft;
            turn = (TURNS - turn) % TURNS;
        }

        void turnLeft() {
            long oldLow = low;
            long oldHigh = high;
            low = left;
            high = right;
            left = -oldHigh;
            right = -oldLow;
            turn = (turn + 1) % TURNS;
        }

        void moveBy(long dx, long dy) {
            left += dx;
            right += dx;
            low += dy;
            high += dy;
        }
    }

    /**
     * Looks for the spots of all labels, the lowest part's label first and its lowest spot first, so that the first
     * way found with the fewest changes is the one due. Sets of spots are ints, a bit each. A label's spot is
     * at index label * SPOTS + spot of the rows over spots.
     */
    private static final class LabelSearch {
        private final long[] left = new long[MAX_LABELS * SPOTS];
        private final long[] low = new long[MAX_LABELS * SPOTS];
        private final long[] right = new long[MAX_LABELS * SPOTS];
        private final long[] high = new long[MAX_LABELS * SPOTS];
        /** For each label's spot and each other label: the spots of the other one that overlap it. */
        private final int[] clashes = new int[MAX_LABELS * SPOTS * MAX_LABELS];
        /** For each number of labels chosen and each label: its spots that are still open then. */
        private final int[] open = new int[(MAX_LABELS + 1) * MAX_LABELS];
        private final int[] before = new int[MAX_LABELS];
        private final int[] chosen = new int[MAX_LABELS];
        private int count;

        /** Gives every label its spot; when there is no way to do so, answers false and changes none. */
        boolean settle(Part[] parts, int partCount) {
            takeLabels(parts, partCount);
            for (int label = 0; label < count; label++) {
                open[label] = spotsFreeOfParts(label, parts, partCount);
                if (open[label] == 0) {
                    return false;
                }
            }
            findClashes();
            for (int changes = 0; changes < count; changes++) {
                if (choose(0, changes)) {
                    giveSpots(parts, partCount);
                    return true;
                }
            }
            return false;
        }

        private void takeLabels(Part[] parts, int partCount) {
            count = 0;
            for (int p = 0; p < partCount && count < MAX_LABELS; p++) {
                if (parts[p].labelled) {
                    takeLabel(parts[p]);
                }
            }
        }

        private void takeLabel(Part owner) {
            before[count] = owner.spot;
            for (int spot = 0; spot < SPOTS; spot++) {
                int at = count * SPOTS + spot;
                left[at] = owner.labelX(spot);
                low[at] = owner.labelY(spot);
                right[at] = left[at] + owner.labelW;
                high[at] = low[at] + owner.labelH;
            }
            count++;
        }

        private int spotsFreeOfParts(int label, Part[] parts, int partCount) {
            int free = 0;
            for (int spot = 0; spot < SPOTS; spot++) {
                if (isFreeOfParts(label * SPOTS + spot, parts, partCount)) {
                    free |= 1 << spot;
                }
            }
            return free;
        }

        private boolean isFreeOfParts(int at, Part[] parts, int partCount) {
            for (int p = 0; p < partCount; p++) {
                Part other = parts[p];
                if (left[at] < other.right() && other.x < right[at] && low[at] < other.top() && other.y < high[at]) {
                    return false;
                }
            }
            return true;
        }

        private void findClashes() {
            for (int label = 0; label < count; label++) {
                for (int later = label + 1; later < count; later++) {
                    for (int spot = 0; spot < SPOTS; spot++) {
                        int at = label * SPOTS + spot;
                        clashes[at * MAX_LABELS + later] = spotsMeeting(at, later);
                    }
                }
            }
        }

        private int spotsMeeting(int at, int label) {
            int meeting = 0;
            for (int spot = 0; spot < SPOTS; spot++) {
                int other = label * SPOTS + spot;
                if (left[at] < right[other] && left[other] < right[at]
                        && low[at] < high[other] && low[other] < high[at]) {
                    meeting |= 1 << spot;
                }
            }
            return meeting;
        }

        /** Chooses spots from a label on, with so many changes at most; goes no deeper than there are labels. */
        private boolean choose(int label, int changes) {
            if (label >= count) {
                return true;
            }
            for (int spot = 0; spot < SPOTS; spot++) {
                int cost = before[label] == NONE || before[label] == spot ? 0 : 1;
                boolean isOpen = (open[label * MAX_LABELS + label] >> spot & 1) == 1;
                if (isOpen && cost <= changes && leavesOpen(label, spot)) {
                    chosen[label] = spot;
                    if (choose(label + 1, changes - cost)) {
                        return true;
                    }
                }
            }
            return false;
        }

        /** Narrows the open spots of the later labels; false as soon as one of them has none left. */
        private boolean leavesOpen(int label, int spot) {
            for (int later = label + 1; later < count; later++) {
                int clash = clashes[(label * SPOTS + spot) * MAX_LABELS + later];
                int rest = open[label * MAX_LABELS + later] & ~clash;
                if (rest == 0) {
                    return false;
                }
                open[(label + 1) * MAX_LABELS + later] = rest;
            }
            return true;
        }

        private void giveSpots(Part[] parts, int partCount) {
            int label = 0;
            for (int p = 0; p < partCount && label < count; p++) {
                if (parts[p].labelled) {
                    parts[p].spot = chosen[label];
                    label++;
                }
            }
        }
    }
}
