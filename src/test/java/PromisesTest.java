/** Each promise of the document by itself: ordinary inputs, the edges that it names, and wrong inputs. */
public final class PromisesTest {
    private static final int NONE = ChannelRooms.NONE;
    private static final long MILLION = 1_000_000;

    public static void main(String[] args) {
        newObject();
        part();
        put();
        channel();
        into();
        copy();
        copyTurns();
        copyRefused();
        hand();
        carry();
        carryMakesParts();
        carryWhenFull();
        told();
        room();
        member();
        outside();
        labelSpots();
        labelFewestMoves();
        labelLowestSpots();
        labelRefused();
        labelAt();
        array();
        arrayRefused();
        mirror();
        mirrorLeavesHand();
        at();
        Check.finish();
    }

    // Promise 1
    private static void newObject() {
        ChannelRooms c = new ChannelRooms();
        Check.outOfBounds(() -> c.at(0, 0));
        Check.outOfBounds(() -> c.put(0, 0, 0, 0));
        Check.outOfBounds(() -> c.carry(0));
        Check.outOfBounds(() -> c.outside(0, 0));
        Check.outOfBounds(() -> c.labelAt(0, 0));
        Check.is(NONE, c.told(0));
        Check.is(0, c.part(1, 1));
        Check.is(0, c.channel());
        Check.is(0, c.room(0, 0, 0, 0));
        Check.fails(IllegalStateException.class, () -> c.labelAt(0, 0));
        Check.is(NONE, c.outside(0, 0));
    }

    // Promise 2
    private static void part() {
        ChannelRooms c = new ChannelRooms();
        Check.notSo(() -> c.part(0, 1));
        Check.notSo(() -> c.part(1, 0));
        Check.notSo(() -> c.part(1001, 1));
        Check.notSo(() -> c.part(1, 1001));
        Check.notSo(() -> c.part(Long.MIN_VALUE, 1));
        Check.notSo(() -> c.part(1, Long.MAX_VALUE));
        for (int i = 0; i < 60; i++) {
            Check.is(i, c.part(i % 2 == 0 ? 1 : 1000, i % 2 == 0 ? 1000 : 1));
        }
        Check.is(NONE, c.part(1, 1));
        Check.notSo(() -> c.part(0, 1));
        Check.is(0, c.at(59, 0));
        Check.outOfBounds(() -> c.at(60, 0));
    }

    // Promise 3
    private static void put() {
        ChannelRooms c = new ChannelRooms();
        c.part(4, 2);
        Check.is(false, c.put(0, 0, 0, 0));
        Check.is(true, c.put(0, 1, 0, 0));
        Check.is(true, c.put(0, 1, 2, 0));
        Check.is(true, c.put(0, 1, 2, 3));
        Check.is(false, c.put(0, 1, 2, 3));
        Check.is(true, c.put(0, -MILLION, MILLION, 3));
        Check.is(true, c.put(0, MILLION, -MILLION, 0));
        isAt(c, 0, MILLION, -MILLION, 0);
        Check.outOfBounds(() -> c.put(-1, 0, 0, 0));
        Check.outOfBounds(() -> c.put(1, 0, 0, 0));
        Check.outOfBounds(() -> c.put(1, MILLION + 1, 0, 9));
        Check.notSo(() -> c.put(0, MILLION + 1, 0, 0));
        Check.notSo(() -> c.put(0, -MILLION - 1, 0, 0));
        Check.notSo(() -> c.put(0, 0, MILLION + 1, 0));
        Check.notSo(() -> c.put(0, 0, -MILLION - 1, 0));
        Check.notSo(() -> c.put(0, 0, Long.MIN_VALUE, 0));
        Check.notSo(() -> c.put(0, 0, 0, -1));
        Check.notSo(() -> c.put(0, 0, 0, 4));
        isAt(c, 0, MILLION, -MILLION, 0);
        putIsNotByHand();
    }

    private static void putIsNotByHand() {
        ChannelRooms c = masterWithTwo();
        c.copy(0, 100, 0, 0);
        c.put(2, 7, 7, 1);
        Check.is(0, c.at(2, 5));
        Check.is(1, c.carry(0));
        isAt(c, 2, 110, 0, 0);
        c.hand(2, 8, 8);
        c.put(2, 9, 9, 0);
        Check.is(1, c.at(2, 5));
    }

    // Promise 4
    private static void channel() {
        ChannelRooms c = new ChannelRooms();
        for (int i = 0; i < 20; i++) {
            Check.is(i, c.channel());
        }
        Check.is(NONE, c.channel());
        Check.is(0, c.carry(19));
        Check.outOfBounds(() -> c.carry(20));
    }

    // Promise 5
    private static void into() {
        ChannelRooms c = new ChannelRooms();
        c.part(1, 1);
        c.part(1, 1);
        c.part(1, 1);
        c.channel();
        c.channel();
        Check.is(true, c.into(0, 0, 0));
        Check.is(false, c.into(0, 1, 0));
        Check.is(NONE, c.at(1, 3));
        Check.is(false, c.into(0, 0, 5));
        Check.is(false, c.into(1, 0, 5));
        Check.is(true, c.into(0, 1, 19));
        Check.is(2, c.copy(0, 0, 0, 0));
        Check.is(false, c.into(2, 2, 7));
        Check.is(false, c.into(1, 3, 7));
        Check.is(true, c.into(1, 2, 19));
        Check.is(1, c.at(2, 3));
        Check.is(19, c.at(2, 4));
        Check.outOfBounds(() -> c.into(-1, 0, 0));
        Check.outOfBounds(() -> c.into(3, 0, 0));
        Check.outOfBounds(() -> c.into(0, -1, 0));
        Check.outOfBounds(() -> c.into(0, 5, 0));
        Check.outOfBounds(() -> c.into(0, 5, 20));
        Check.notSo(() -> c.into(0, 0, -1));
        Check.notSo(() -> c.into(2, 0, 20));
    }

    // Promise 6
    private static void copy() {
        ChannelRooms c = new ChannelRooms();
        c.part(4, 2);
        c.part(3, 5);
        c.put(0, 10, 20, 1);
        c.put(1, -7, 3, 2);
        c.channel();
        c.into(0, 0, 9);
        c.into(0, 1, 2);
        Check.is(1, c.copy(0, 1000, -500, 0));
        isAt(c, 2, 993, -497, 2);
        isMember(c, 2, 1, 2);
        isAt(c, 3, 1010, -480, 1);
        isMember(c, 3, 1, 9);
        Check.is(0, c.at(3, 5));
        Check.is(2, c.copy(0, MILLION, -MILLION, 0));
        isAt(c, 4, MILLION - 7, 3 - MILLION, 2);
        Check.outOfBounds(() -> c.at(6, 0));
    }

    private static void copyTurns() {
        ChannelRooms c = new ChannelRooms();
        c.part(4, 2);
        c.put(0, 10, 20, 0);
        c.channel();
        c.into(0, 0, 0);
        c.copy(0, 0, 0, 1);
        isAt(c, 1, -22, 10, 1);
        c.copy(0, 0, 0, 2);
        isAt(c, 2, -14, -22, 2);
        c.copy(0, 0, 0, 3);
        isAt(c, 3, 20, -14, 3);
        c.put(0, 10, 20, 3);
        c.copy(0, 5, 6, 1);
        isAt(c, 4, -19, 16, 0);
        c.copy(0, 5, 6, 3);
        isAt(c, 5, 25, -6, 2);
    }

    private static void copyRefused() {
        ChannelRooms c = masterWithTwo();
        Check.is(1, c.copy(0, 0, 0, 0));
        Check.is(NONE, c.copy(1, 0, 0, 0));
        Check.outOfBounds(() -> c.copy(-1, 0, 0, 0));
        Check.outOfBounds(() -> c.copy(2, MILLION + 1, 0, 0));
        Check.notSo(() -> c.copy(0, MILLION + 1, 0, 0));
        Check.notSo(() -> c.copy(0, -MILLION - 1, 0, 0));
        Check.notSo(() -> c.copy(0, 0, MILLION + 1, 0));
        Check.notSo(() -> c.copy(1, 0, -MILLION - 1, 0));
        Check.notSo(() -> c.copy(0, 0, 0, 4));
        Check.notSo(() -> c.copy(0, 0, 0, -1));
        for (int i = 4; i < 59; i++) {
            c.part(1, 1);
        }
        Check.is(NONE, c.copy(0, 0, 0, 0));
        Check.is(2, c.channel());
        Check.is(59, c.part(1, 1));
        Check.is(3, c.copy(2, 0, 0, 0));
        copyRefusedForChannels();
    }

    private static void copyRefusedForChannels() {
        ChannelRooms c = masterWithTwo();
        for (int i = 1; i < 20; i++) {
            Check.is(i, c.copy(0, 0, 0, 0));
        }
        Check.is(NONE, c.copy(0, 0, 0, 0));
        Check.is(40, c.part(1, 1));

        ChannelRooms full = masterWithTwo();
        for (int i = 2; i < 58; i++) {
            full.part(1, 1);
        }
        Check.is(1, full.copy(0, 0, 0, 0));
        Check.is(1, full.at(59, 3));
        Check.is(NONE, full.copy(0, 0, 0, 0));
    }

    // Promise 7
    private static void hand() {
        ChannelRooms c = masterWithTwo();
        c.copy(0, 100, 0, 2);
        c.part(1, 1);
        Check.is(0, c.at(2, 5));
        Check.is(false, c.hand(2, c.at(2, 0), c.at(2, 1)));
        Check.is(1, c.at(2, 5));
        Check.is(true, c.hand(3, 5, c.at(3, 1)));
        Check.is(true, c.hand(3, 5, -9));
        Check.is(false, c.hand(3, 5, -9));
        Check.is(1, c.at(3, 5));
        Check.is(2, c.at(2, 2));
        isAt(c, 3, 5, -9, 3);
        Check.is(true, c.hand(0, 3, 3));
        Check.is(0, c.at(0, 5));
        Check.is(true, c.hand(4, MILLION, -MILLION));
        Check.is(0, c.at(4, 5));
        Check.outOfBounds(() -> c.hand(5, 0, 0));
        Check.outOfBounds(() -> c.hand(-1, MILLION + 1, 0));
        Check.notSo(() -> c.hand(4, MILLION + 1, 0));
        Check.notSo(() -> c.hand(4, -MILLION - 1, 0));
        Check.notSo(() -> c.hand(4, 0, MILLION + 1));
        Check.notSo(() -> c.hand(4, 0, -MILLION - 1));
        isAt(c, 4, MILLION, -MILLION, 0);
        wrongHandIsNotByHand();
    }

    private static void wrongHandIsNotByHand() {
        ChannelRooms c = masterWithTwo();
        c.copy(0, 0, 0, 0);
        Check.notSo(() -> c.hand(2, MILLION + 1, 0));
        Check.is(0, c.at(2, 5));
    }

    // Promise 8
    private static void carry() {
        ChannelRooms c = masterWithTwo();
        c.copy(0, 100, 0, 0);
        c.copy(0, 0, 100, 1);
        Check.is(0, c.carry(0));
        c.put(0, 12, 1, 1);
        Check.is(2, c.carry(0));
        isAt(c, 2, 112, 1, 1);
        isAt(c, 4, -5, 112, 2);
        Check.is(0, c.carry(0));
        c.hand(2, 1, 1);
        c.put(0, 0, 0, 0);
        c.put(1, 0, 0, 0);
        Check.is(3, c.carry(0));
        isAt(c, 2, 1, 1, 1);
        Check.is(2, c.told(0));
        Check.is(0, c.carry(1));
        Check.is(2, c.told(0));
        Check.outOfBounds(() -> c.carry(3));
        Check.outOfBounds(() -> c.carry(-1));
        Check.is(2, c.told(0));
        Check.is(3, c.channel());
        Check.is(0, c.carry(3));
        Check.is(NONE, c.told(0));
        carryOnlyOwnCopies();
    }

    private static void carryOnlyOwnCopies() {
        ChannelRooms c = masterWithTwo();
        c.part(1, 1);
        c.channel();
        c.into(1, 2, 0);
        c.copy(0, 10, 10, 0);
        c.copy(1, 10, 10, 0);
        c.put(0, 50, 50, 0);
        c.put(2, 50, 50, 0);
        Check.is(1, c.carry(1));
        isAt(c, 3, 20, 10, 0);
        isAt(c, 5, 60, 60, 0);
    }

    private static void carryMakesParts() {
        ChannelRooms c = masterWithTwo();
        c.copy(0, 100, 0, 0);
        c.copy(0, 0, 100, 1);
        c.part(6, 2);
        c.put(6, 1, 2, 1);
        c.into(0, 6, 0);
        c.put(0, 11, 0, 0);
        Check.is(4, c.carry(0));
        isAt(c, 7, 101, 2, 1);
        isMember(c, 7, 1, 0);
        isAt(c, 8, -8, 101, 2);
        isMember(c, 8, 2, 0);
        Check.is(0, c.carry(0));
        Check.outOfBounds(() -> c.at(9, 0));
        c.room(101, 2, 103, 8);
        c.member(0, 7);
        Check.is(NONE, c.outside(0, 0));
    }

    private static void carryWhenFull() {
        ChannelRooms c = masterWithTwo();
        c.copy(0, 100, 0, 0);
        c.copy(0, 0, 100, 0);
        for (int i = 6; i < 59; i++) {
            c.part(1, 1);
        }
        c.into(0, 6, 0);
        c.put(0, 11, 0, 0);
        Check.is(3, c.carry(0));
        isMember(c, 59, 1, 0);
        isAt(c, 4, 11, 100, 0);
        Check.is(0, c.carry(0));
    }

    // Promise 9
    private static void told() {
        ChannelRooms c = masterWithTwo();
        c.copy(0, 100, 0, 0);
        c.copy(0, 0, 100, 0);
        c.part(1, 1);
        c.into(0, 6, 0);
        c.carry(0);
        Check.is(NONE, c.told(0));
        c.hand(7, 5, 5);
        c.hand(2, 5, 5);
        c.hand(4, 10, 100);
        c.hand(5, 6, 6);
        Check.is(0, c.carry(0));
        Check.is(2, c.told(0));
        Check.is(5, c.told(1));
        Check.is(7, c.told(2));
        Check.is(NONE, c.told(3));
        Check.is(NONE, c.told(-1));
        Check.is(NONE, c.told(Integer.MIN_VALUE));
        Check.is(NONE, c.told(Integer.MAX_VALUE));
        c.hand(2, 110, 0);
        c.put(4, 10, 100, 1);
        Check.is(0, c.carry(0));
        Check.is(4, c.told(0));
        Check.is(5, c.told(1));
        Check.is(7, c.told(2));
        Check.is(NONE, c.told(3));
    }

    // Promise 10
    private static void room() {
        ChannelRooms c = new ChannelRooms();
        long most = 3_000_000;
        Check.is(0, c.room(-most, -most, most, most));
        Check.is(1, c.room(most, most, most, most));
        Check.is(2, c.room(-most, -most, -most, -most));
        Check.notSo(() -> c.room(1, 0, 0, 0));
        Check.notSo(() -> c.room(0, 1, 0, 0));
        Check.notSo(() -> c.room(-most - 1, 0, 0, 0));
        Check.notSo(() -> c.room(0, -most - 1, 0, 0));
        Check.notSo(() -> c.room(0, 0, most + 1, 0));
        Check.notSo(() -> c.room(0, 0, 0, most + 1));
        Check.notSo(() -> c.room(most + 1, 0, most + 1, 0));
        Check.notSo(() -> c.room(0, -most - 1, 0, -most - 1));
        Check.notSo(() -> c.room(Long.MIN_VALUE, 0, Long.MAX_VALUE, 0));
        for (int i = 3; i < 10; i++) {
            Check.is(i, c.room(0, 0, 1, 1));
        }
        Check.is(NONE, c.room(0, 0, 1, 1));
        Check.notSo(() -> c.room(1, 0, 0, 0));
        Check.is(NONE, c.outside(9, 0));
        Check.outOfBounds(() -> c.outside(10, 0));
    }

    // Promise 11
    private static void member() {
        ChannelRooms c = new ChannelRooms();
        c.room(0, 0, 0, 0);
        c.room(0, 0, 0, 0);
        for (int i = 0; i < 60; i++) {
            c.part(1, 1);
        }
        Check.is(true, c.member(0, 0));
        Check.is(false, c.member(0, 0));
        Check.is(true, c.member(1, 0));
        Check.is(true, c.member(0, 59));
        Check.is(false, c.member(0, 59));
        Check.is(true, c.member(0, 31));
        Check.is(true, c.member(0, 32));
        Check.is(0, c.outside(0, 0));
        Check.is(31, c.outside(0, 1));
        Check.is(32, c.outside(0, 2));
        Check.is(59, c.outside(0, 3));
        Check.is(NONE, c.outside(0, 4));
        Check.is(NONE, c.outside(1, 1));
        Check.outOfBounds(() -> c.member(2, 0));
        Check.outOfBounds(() -> c.member(-1, 0));
        Check.outOfBounds(() -> c.member(0, 60));
        Check.outOfBounds(() -> c.member(0, -1));
    }

    // Promise 12
    private static void outside() {
        ChannelRooms c = new ChannelRooms();
        c.room(-5, -3, 5, 3);
        c.part(10, 6);
        c.part(1, 1);
        c.member(0, 1);
        c.member(0, 0);
        c.put(0, -5, -3, 0);
        Check.is(NONE, c.outside(0, 0));
        c.put(0, -5, -3, 2);
        Check.is(NONE, c.outside(0, 0));
        c.put(0, -5, -3, 1);
        Check.is(0, c.outside(0, 0));
        c.put(0, -5, -3, 0);
        long[][] places = {{-6, 0}, {5, 0}, {0, -4}, {0, 3}};
        for (long[] place : places) {
            c.put(1, place[0], place[1], 0);
            Check.is(1, c.outside(0, 0));
        }
        c.put(1, 4, 2, 0);
        Check.is(NONE, c.outside(0, 0));
        c.put(0, -4, -3, 0);
        c.put(1, 40, 2, 0);
        Check.is(0, c.outside(0, 0));
        Check.is(1, c.outside(0, 1));
        Check.is(NONE, c.outside(0, 2));
        Check.is(NONE, c.outside(0, -1));
        Check.is(NONE, c.outside(0, Integer.MIN_VALUE));
        Check.outOfBounds(() -> c.outside(1, 0));
        Check.outOfBounds(() -> c.outside(-1, 0));
    }

    // Promise 13: the part in the middle has blocks at the spots that are to be closed
    private static void labelSpots() {
        long[][] at = {{30, 10}, {10, 20}, {7, 10}, {10, 8}, {30, 20}, {7, 20}, {7, 8}, {30, 8}};
        for (int spot = 0; spot < 8; spot++) {
            ChannelRooms c = new ChannelRooms();
            c.part(10, 20);
            c.put(0, 10, 10, 1);
            for (int other = 0; other < spot; other++) {
                block(c, at[other][0] + 1, at[other][1] + 1);
            }
            Check.is(0, c.label(0, 3, 2));
            Check.is(spot, c.labelAt(0, 2));
            Check.is(at[spot][0], c.labelAt(0, 0));
            Check.is(at[spot][1], c.labelAt(0, 1));
        }
    }

    private static void labelFewestMoves() {
        ChannelRooms c = new ChannelRooms();
        c.part(10, 10);
        c.part(10, 10);
        c.put(1, 20, 0, 0);
        c.label(0, 10, 10);
        Check.is(0, c.labelAt(0, 2));
        Check.is(0, c.label(1, 10, 10));
        Check.is(0, c.labelAt(0, 2));
        Check.is(0, c.labelAt(1, 2));
        // the label of part 0 stays at its spot though a lower one would be free again
        c.put(1, 12, 0, 0);
        Check.is(0, c.label(0, 10, 10));
        Check.is(1, c.labelAt(0, 2));
        c.put(1, 200, 0, 0);
        Check.is(0, c.label(1, 5, 5));
        Check.is(1, c.labelAt(0, 2));
        Check.is(0, c.labelAt(1, 2));
        // its own part's old spot is no spot to keep
        Check.is(0, c.label(0, 10, 10));
        Check.is(0, c.labelAt(0, 2));
        // a part that came to lie on the label of another one moves it
        c.put(1, 10, 5, 0);
        Check.is(0, c.label(1, 3, 3));
        Check.is(1, c.labelAt(0, 2));
        Check.is(0, c.labelAt(1, 2));
    }

    /** A label that others must make way for, and of two ways with one move each that of the lower spot of the lower part. */
    private static void labelLowestSpots() {
        ChannelRooms c = new ChannelRooms();
        c.part(4, 4);
        c.part(4, 4);
        c.put(1, 8, 0, 0);
        c.label(0, 4, 4);
        Check.is(0, c.labelAt(0, 2));
        // all spots of part 1 but spot 2, which the label of part 0 holds, are closed
        long[][] closed = {{12, 0}, {8, 4}, {8, -4}, {12, 4}, {4, 4}, {4, -4}, {12, -4}};
        for (long[] corner : closed) {
            block(c, corner[0] + 1, corner[1] + 1);
        }
        Check.is(0, c.label(1, 4, 4));
        Check.is(1, c.labelAt(0, 2));
        Check.is(2, c.labelAt(1, 2));
        lowestPartFirst();
    }

    private static void lowestPartFirst() {
        ChannelRooms c = new ChannelRooms();
        c.part(4, 4);
        c.part(4, 4);
        c.put(1, 8, 0, 0);
        Check.is(0, c.label(1, 4, 4));
        // part 0 comes first: with no move at all it gets its lowest spot, between the two
        Check.is(0, c.label(0, 4, 4));
        Check.is(0, c.labelAt(0, 2));
        Check.is(0, c.labelAt(1, 2));
        // a block now lies on the label of part 1: its one move is due, whatever part 0 gets, and that is its lowest spot
        c.part(1, 1);
        c.put(2, 13, 1, 0);
        Check.is(0, c.label(0, 4, 4));
        Check.is(0, c.labelAt(0, 2));
        Check.is(1, c.labelAt(1, 2));
    }

    private static void labelRefused() {
        ChannelRooms c = new ChannelRooms();
        for (int i = 0; i < 6; i++) {
            c.part(4, 4);
            c.put(i, 100 * i, 0, 0);
        }
        for (int i = 0; i < 5; i++) {
            Check.is(0, c.label(i, 1000, 1));
        }
        Check.is(1, c.label(5, 1, 1));
        Check.fails(IllegalStateException.class, () -> c.labelAt(5, 0));
        Check.is(0, c.label(4, 1, 1000));
        Check.outOfBounds(() -> c.label(6, 0, 1));
        Check.outOfBounds(() -> c.label(-1, 1, 1));
        Check.notSo(() -> c.label(0, 0, 1));
        Check.notSo(() -> c.label(0, 1, 0));
        Check.notSo(() -> c.label(0, 1001, 1));
        Check.notSo(() -> c.label(5, 1, 1001));
        long[] spots = new long[4];
        for (int i = 0; i < 4; i++) {
            spots[i] = c.labelAt(i, 2);
        }
        c.put(4, 50_000, 0, 0);
        c.part(1000, 1000);
        c.put(6, 49_500, -500, 0);
        Check.is(1, c.label(4, 1, 1));
        Check.fails(IllegalStateException.class, () -> c.labelAt(4, 2));
        for (int i = 0; i < 4; i++) {
            Check.is(spots[i], c.labelAt(i, 2));
        }
        Check.is(0, c.label(5, 1, 1));
        touchingIsNotOverlapping();
        anotherLabelWithoutAnySpot();
    }

    private static void touchingIsNotOverlapping() {
        ChannelRooms c = new ChannelRooms();
        c.part(4, 4);
        c.part(4, 4);
        c.put(1, 8, 0, 0);
        Check.is(0, c.label(0, 4, 4));
        Check.is(0, c.labelAt(0, 2));
        Check.is(0, c.label(0, 5, 4));
        Check.is(1, c.labelAt(0, 2));
        twoAtTheirFirstSpots(4, -4);
        twoAtTheirFirstSpots(-4, 4);
        twoAtTheirFirstSpots(0, 8);
        twoAtTheirFirstSpots(0, -8);
    }

    /** Two parts of 4 by 4, whose labels of 4 by 8 touch each other when both are at spot 0. */
    private static void twoAtTheirFirstSpots(long x, long y) {
        ChannelRooms c = new ChannelRooms();
        c.part(4, 4);
        c.part(4, 4);
        c.put(1, x, y, 0);
        Check.is(0, c.label(0, 4, 8));
        Check.is(0, c.label(1, 4, 8));
        Check.is(0, c.labelAt(0, 2));
        Check.is(0, c.labelAt(1, 2));
    }

    /** When a label of another part has no spot left, there is no way at all, also not for a part far off. */
    private static void anotherLabelWithoutAnySpot() {
        ChannelRooms c = new ChannelRooms();
        c.part(4, 4);
        c.part(4, 4);
        c.part(1000, 1000);
        c.put(1, 9000, 0, 0);
        c.put(2, -5000, -500, 0);
        Check.is(0, c.label(0, 4, 4));
        c.put(2, -500, -500, 0);
        Check.is(1, c.label(1, 4, 4));
        Check.fails(IllegalStateException.class, () -> c.labelAt(1, 0));
        Check.is(0, c.labelAt(0, 2));
    }

    // Promise 14
    private static void labelAt() {
        ChannelRooms c = new ChannelRooms();
        c.part(4, 2);
        c.part(1, 1);
        c.put(1, 500, 0, 0);
        c.label(0, 7, 3);
        Check.is(4, c.labelAt(0, 0));
        Check.is(0, c.labelAt(0, 1));
        Check.is(0, c.labelAt(0, 2));
        c.put(0, 30, 40, 1);
        Check.is(32, c.labelAt(0, 0));
        Check.is(40, c.labelAt(0, 1));
        Check.outOfBounds(() -> c.labelAt(0, 3));
        Check.outOfBounds(() -> c.labelAt(0, -1));
        Check.outOfBounds(() -> c.labelAt(2, 0));
        Check.outOfBounds(() -> c.labelAt(-1, 0));
        Check.outOfBounds(() -> c.labelAt(1, 3));
        Check.fails(IllegalStateException.class, () -> c.labelAt(1, 0));
        Check.fails(IllegalStateException.class, () -> c.labelAt(1, 2));
    }

    // Promise 15
    private static void array() {
        ChannelRooms c = masterWithTwo();
        Check.is(5, c.array(0, 3, 2, 100, -1000));
        long[][] moves = {{100, 0}, {200, 0}, {0, -1000}, {100, -1000}, {200, -1000}};
        for (int copy = 0; copy < 5; copy++) {
            int first = 2 + 2 * copy;
            isAt(c, first, 10 + moves[copy][0], moves[copy][1], 0);
            isMember(c, first, copy + 1, 1);
            isAt(c, first + 1, moves[copy][0], 5 + moves[copy][1], 1);
            isMember(c, first + 1, copy + 1, 3);
        }
        Check.is(0, c.array(0, 1, 1, 100_000, -100_000));
        Check.is(6, c.channel());
        c.put(0, 11, 0, 0);
        Check.is(5, c.carry(0));
        Check.is(9, c.array(0, 10, 1, 100_000, 0));
        isAt(c, 12 + 16, 900_011, 0, 0);
        Check.is(1, c.array(0, 1, 2, 0, -100_000));
        Check.is(0, c.at(30, 2));
    }

    private static void arrayRefused() {
        ChannelRooms c = masterWithTwo();
        c.copy(0, 0, 0, 0);
        Check.is(NONE, c.array(1, 1, 1, 0, 0));
        Check.is(NONE, c.array(1, 2, 1, 0, 0));
        Check.outOfBounds(() -> c.array(2, 0, 1, 0, 0));
        Check.outOfBounds(() -> c.array(-1, 1, 1, 0, 0));
        Check.notSo(() -> c.array(0, 0, 1, 0, 0));
        Check.notSo(() -> c.array(0, 1, 0, 0, 0));
        Check.notSo(() -> c.array(0, 11, 1, 0, 0));
        Check.notSo(() -> c.array(1, 1, 11, 0, 0));
        Check.notSo(() -> c.array(0, 1, 1, 100_001, 0));
        Check.notSo(() -> c.array(0, 1, 1, -100_001, 0));
        Check.notSo(() -> c.array(0, 1, 1, 0, 100_001));
        Check.notSo(() -> c.array(0, 1, 1, 0, -100_001));
        Check.notSo(() -> c.array(0, 1, 1, 0, Long.MIN_VALUE));
        Check.is(NONE, c.array(0, 10, 2, 1, 1));
        Check.is(4, c.part(1, 1));
        Check.is(2, c.channel());
        Check.is(17, c.array(0, 6, 3, 1, 1));
        Check.is(NONE, c.channel());
        Check.is(0, c.array(0, 1, 1, 1, 1));
        Check.is(NONE, c.array(0, 2, 1, 1, 1));
        arrayRefusedForParts();
    }

    private static void arrayRefusedForParts() {
        ChannelRooms c = masterWithTwo();
        for (int i = 2; i < 55; i++) {
            c.part(1, 1);
        }
        Check.is(NONE, c.array(0, 2, 2, 1, 1));
        Check.is(1, c.channel());
        Check.is(55, c.part(1, 1));
        Check.is(2, c.array(0, 3, 1, 1, 1));
        Check.is(0, c.array(0, 1, 1, 1, 1));
    }

    // Promise 16
    private static void mirror() {
        ChannelRooms c = new ChannelRooms();
        c.part(4, 2);
        c.put(0, 10, 20, 1);
        c.channel();
        c.into(0, 0, 0);
        c.copy(0, 1000, 0, 0);
        c.copy(0, 1000, 0, 1);
        Check.is(true, c.mirror(1));
        isAt(c, 1, 988, 20, 3);
        Check.is(true, c.mirror(2));
        isAt(c, 2, 976, -12, 0);
        c.put(0, 10, 20, 0);
        Check.is(2, c.carry(0));
        isAt(c, 1, 986, 20, 0);
        isAt(c, 2, 978, -14, 1);
        Check.is(true, c.mirror(1));
        isAt(c, 1, 1010, 20, 0);
        c.put(0, 10, 20, 2);
        Check.is(true, c.mirror(1));
        isAt(c, 1, 986, 20, 2);
        Check.is(false, c.mirror(0));
        isAt(c, 0, 10, 20, 2);
        Check.outOfBounds(() -> c.mirror(3));
        Check.outOfBounds(() -> c.mirror(-1));
        Check.is(3, c.copy(0, 0, 0, 0));
        isAt(c, 3, 10, 20, 2);
    }

    private static void mirrorLeavesHand() {
        ChannelRooms c = masterWithTwo();
        c.copy(0, 100, 0, 0);
        c.part(1, 1);
        c.into(0, 4, 0);
        c.hand(2, 1, 1);
        c.carry(0);
        Check.is(2, c.told(0));
        c.part(1, 1);
        c.into(0, 6, 2);
        Check.is(true, c.mirror(1));
        isAt(c, 2, 1, 1, 0);
        isAt(c, 3, 97, 5, 3);
        Check.is(2, c.told(0));
        Check.is(NONE, c.told(1));
        Check.outOfBounds(() -> c.at(7, 0));
    }

    // Promise 17
    private static void at() {
        ChannelRooms c = masterWithTwo();
        c.part(1, 1);
        isAt(c, 1, 0, 5, 1);
        isMember(c, 1, 0, 3);
        isAt(c, 2, 0, 0, 0);
        isMember(c, 2, NONE, NONE);
        Check.is(0, c.at(2, 5));
        Check.outOfBounds(() -> c.at(2, 6));
        Check.outOfBounds(() -> c.at(2, -1));
        Check.outOfBounds(() -> c.at(3, 0));
        Check.outOfBounds(() -> c.at(-1, 0));
        Check.outOfBounds(() -> c.at(Integer.MAX_VALUE, Integer.MIN_VALUE));
    }

    /** A master 0 with part 0, 4 by 2 at 10, 0, as role 1, and part 1, 3 by 3 at 0, 5, turned once, as role 3. */
    private static ChannelRooms masterWithTwo() {
        ChannelRooms c = new ChannelRooms();
        c.part(4, 2);
        c.part(3, 3);
        c.put(0, 10, 0, 0);
        c.put(1, 0, 5, 1);
        c.channel();
        c.into(0, 1, 3);
        c.into(0, 0, 1);
        return c;
    }

    private static void block(ChannelRooms c, long x, long y) {
        c.put(c.part(1, 1), x, y, 0);
    }

    private static void isAt(ChannelRooms c, int part, long x, long y, int turn) {
        Check.is(x, c.at(part, 0));
        Check.is(y, c.at(part, 1));
        Check.is(turn, c.at(part, 2));
    }

    private static void isMember(ChannelRooms c, int part, int channel, int role) {
        Check.is(channel, c.at(part, 3));
        Check.is(role, c.at(part, 4));
    }
}
