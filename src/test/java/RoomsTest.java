/** Promises 10 to 12: each sentence that names a boundary case. */
public final class RoomsTest {
    private static final int NONE = Scene.NONE;
    private static final long MILLION = Scene.MILLION;
    private static final long FAR = 3_000_000;

    public static void main(String[] args) {
        Sentences.run(RoomsTest::sentences);
    }

    static void sentences(Sentences s) {
        s.below("Promise 10: room");
        s.says("A new room, a rectangle: its number;", RoomsTest::numbersRise);
        s.says("NONE when there are 10.", RoomsTest::noneWhenThereAre10);
        s.says("IllegalArgumentException, when it is turned (x0 above x1, or y0 above y1),", RoomsTest::turned);
        s.says("or a corner is not within -3,000,000 .. 3,000,000.", RoomsTest::tooFar);

        s.below("Promise 11: member");
        s.says("A part becomes a member of a room (of any number of rooms):", RoomsTest::ofAllRooms);
        s.says("whether it was not.", RoomsTest::whetherItWasNot);
        s.says("IndexOutOfBoundsException, when there is no such room,", RoomsTest::memberOfNoRoom);
        s.says("or part.", RoomsTest::noPartAsMember);

        s.below("Promise 12: outside");
        s.says("The k-th member, rising,", RoomsTest::rising);
        s.says("of a room whose RECTANGLE does not lie in it", RoomsTest::rectangleOfNow);
        s.says("(its border belongs to it);", RoomsTest::border);
        s.says("NONE, when there are not so many", RoomsTest::notSoMany);
        s.says("(or k is below 0).", RoomsTest::below0);
        s.says("IndexOutOfBoundsException, when there is no such room.", RoomsTest::outsideOfNoRoom);
    }

    private static void numbersRise() {
        ChannelRooms c = new ChannelRooms();
        Scene.partAt(c, 1, 1, 4, 4);
        for (int room = 0; room < 10; room++) {
            Check.is(room, c.room(room, room, 9, 9));
            c.member(room, 0);
        }
        for (int room = 0; room < 10; room++) {
            Check.is(room <= 4 ? NONE : 0, c.outside(room, 0));
        }
    }

    private static void noneWhenThereAre10() {
        ChannelRooms c = new ChannelRooms();
        c.part(1, 1);
        for (int room = 0; room < 10; room++) {
            Check.is(room, c.room(0, 0, 1, 1));
            c.member(room, 0);
        }
        Check.is(NONE, c.room(5, 5, 6, 6));
        Check.is(NONE, c.room(0, 0, 0, 0));
        for (int room = 0; room < 10; room++) {
            Check.is(NONE, c.outside(room, 0));
        }
        Check.noSuch(10, room -> c.outside(room, 0));
    }

    private static void turned() {
        ChannelRooms c = new ChannelRooms();
        Check.notSo(() -> c.room(1, 0, 0, 0));
        Check.notSo(() -> c.room(0, 1, 0, 0));
        Check.notSo(() -> c.room(1, 1, 0, 0));
        Check.notSo(() -> c.room(1, 0, 0, 5));
        Check.notSo(() -> c.room(0, 1, 5, 0));
        Check.notSo(() -> c.room(FAR, 0, -FAR, 0));
        Check.notSo(() -> c.room(0, FAR, 0, -FAR));
        Check.noSuch(0, room -> c.outside(room, 0));
        // one that is a line or a point is not turned
        Check.is(0, c.room(0, 0, 0, 5));
        Check.is(1, c.room(0, 0, 5, 0));
        Check.is(2, c.room(-7, 7, -7, 7));
    }

    private static void tooFar() {
        ChannelRooms c = new ChannelRooms();
        Check.onlyWithin(-FAR, FAR, x0 -> c.room(x0, 0, FAR, 0));
        Check.onlyWithin(-FAR, FAR, y0 -> c.room(0, y0, 0, FAR));
        Check.onlyWithin(-FAR, FAR, x1 -> c.room(-FAR, 0, x1, 0));
        Check.onlyWithin(-FAR, FAR, y1 -> c.room(0, -FAR, 0, y1));
        Check.notSo(() -> c.room(FAR + 1, 0, FAR + 1, 0));
        Check.notSo(() -> c.room(0, FAR + 1, 0, FAR + 1));
        Check.notSo(() -> c.room(-FAR - 1, 0, -FAR - 1, 0));
        Check.notSo(() -> c.room(0, -FAR - 1, 0, -FAR - 1));
        Check.notSo(() -> c.room(Long.MIN_VALUE, Long.MIN_VALUE, Long.MAX_VALUE, Long.MAX_VALUE));
        Check.noSuch(0, room -> c.outside(room, 0));
        Check.is(0, c.room(-FAR, -FAR, FAR, FAR));
        Check.is(1, c.room(FAR, FAR, FAR, FAR));
        Check.is(2, c.room(-FAR, -FAR, -FAR, -FAR));
    }

    private static void ofAllRooms() {
        ChannelRooms c = new ChannelRooms();
        Scene.moreParts(c, 0, 59);
        for (int room = 0; room < 10; room++) {
            c.room(5, 5, 6, 6);
            Check.is(true, c.member(room, 0));
            Check.is(true, c.member(room, 59));
        }
        for (int room = 0; room < 10; room++) {
            Scene.outsideAre(c, room, 0, 59);
        }
    }

    private static void whetherItWasNot() {
        ChannelRooms c = new ChannelRooms();
        Scene.moreParts(c, 0, 59);
        c.room(0, 0, 1, 1);
        c.room(0, 0, 1, 1);
        for (int part = 0; part < 60; part++) {
            Check.is(true, c.member(0, part));
        }
        for (int part = 0; part < 60; part++) {
            Check.is(false, c.member(0, part));
        }
        Check.is(true, c.member(1, 30));
        Check.is(false, c.member(1, 30));
        Check.is(true, c.member(1, 31));
    }

    private static void memberOfNoRoom() {
        ChannelRooms c = Scene.masterWithTwo();
        c.room(0, 0, 0, 0);
        Scene.changesNothing(c, () -> Check.noSuch(1, room -> c.member(room, 0)));
        Check.is(true, c.member(0, 0));
    }

    private static void noPartAsMember() {
        ChannelRooms c = Scene.masterWithTwo();
        c.room(0, 0, 0, 0);
        Check.noSuch(2, part -> c.member(0, part));
        Scene.outsideAre(c, 0);
        // what was no part then is no member when it comes to be one
        c.part(1, 1);
        Scene.outsideAre(c, 0);
        Check.is(true, c.member(0, 2));
        Scene.outsideAre(c, 0, 2);
    }

    private static void rising() {
        ChannelRooms c = new ChannelRooms();
        Scene.moreParts(c, 0, 59);
        c.room(5, 5, 6, 6);
        for (int part : new int[] {59, 3, 32, 0, 31, 7}) {
            c.member(0, part);
        }
        c.put(7, 5, 5, 0);
        Scene.outsideAre(c, 0, 0, 3, 31, 32, 59);
        c.put(3, 5, 5, 0);
        Scene.outsideAre(c, 0, 0, 31, 32, 59);
    }

    private static void rectangleOfNow() {
        ChannelRooms c = new ChannelRooms();
        c.part(6, 2);
        c.channel();
        c.into(0, 0, 0);
        c.copy(0, 10, 0, 0);
        c.room(0, 0, 16, 2);
        c.member(0, 0);
        c.member(0, 1);
        Scene.outsideAre(c, 0);
        c.put(0, 0, 0, 1);
        Scene.outsideAre(c, 0, 0);
        c.put(0, 1, 0, 0);
        Scene.outsideAre(c, 0);
        c.carry(0);
        Scene.outsideAre(c, 0, 1);
        c.mirror(1);
        Scene.outsideAre(c, 0);
        c.hand(0, 11, 0);
        Scene.outsideAre(c, 0, 0);
        // the place alone within, the other corner not; and the other way around
        c.put(0, 10, 1, 0);
        Scene.outsideAre(c, 0, 0);
        c.put(0, -1, -1, 0);
        Scene.outsideAre(c, 0, 0);
    }

    private static void border() {
        ChannelRooms c = new ChannelRooms();
        c.part(10, 6);
        c.room(-5, -3, 5, 3);
        c.member(0, 0);
        c.put(0, -5, -3, 0);
        Scene.outsideAre(c, 0);
        long[][] oneOff = {{-6, -3}, {-4, -3}, {-5, -4}, {-5, -2}};
        for (long[] place : oneOff) {
            c.put(0, place[0], place[1], 0);
            Scene.outsideAre(c, 0, 0);
        }
        // a part has an inside, so a room that is a line holds none, not even on its border
        c.put(0, 0, 0, 0);
        c.room(0, 0, 10, 0);
        c.room(0, 0, 0, 6);
        c.member(1, 0);
        c.member(2, 0);
        Scene.outsideAre(c, 1, 0);
        Scene.outsideAre(c, 2, 0);
        farBorder();
    }

    private static void farBorder() {
        ChannelRooms c = new ChannelRooms();
        c.part(1000, 1000);
        c.channel();
        c.into(0, 0, 0);
        c.put(0, MILLION, MILLION, 0);
        c.copy(0, MILLION, MILLION, 0);
        Scene.hasRectangle(c, 1, 2 * MILLION, 2 * MILLION, 2 * MILLION + 1000, 2 * MILLION + 1000);
        Scene.hasRectangle(c, 0, MILLION, MILLION, MILLION + 1000, MILLION + 1000);
    }

    private static void notSoMany() {
        ChannelRooms c = new ChannelRooms();
        Scene.moreParts(c, 0, 59);
        c.room(5, 5, 6, 6);
        Check.is(NONE, c.outside(0, 0));
        for (int part = 0; part < 60; part++) {
            c.member(0, part);
        }
        for (int k = 0; k < 60; k++) {
            Check.is(k, c.outside(0, k));
        }
        for (int k : new int[] {60, 61, 64, 128, 1 << 30, Integer.MAX_VALUE}) {
            Check.is(NONE, c.outside(0, k));
        }
        c.put(20, 5, 5, 0);
        Check.is(59, c.outside(0, 58));
        Check.is(NONE, c.outside(0, 59));
    }

    private static void below0() {
        ChannelRooms c = new ChannelRooms();
        c.room(5, 5, 6, 6);
        for (int k : new int[] {-1, -2, -64, Integer.MIN_VALUE, Integer.MIN_VALUE + 1}) {
            Check.is(NONE, c.outside(0, k));
        }
        c.part(1, 1);
        c.part(1, 1);
        c.member(0, 0);
        c.member(0, 1);
        for (int k : new int[] {-1, -2, -64, Integer.MIN_VALUE, Integer.MIN_VALUE + 1}) {
            Check.is(NONE, c.outside(0, k));
        }
    }

    private static void outsideOfNoRoom() {
        ChannelRooms c = new ChannelRooms();
        Scene.moreParts(c, 0, 2);
        c.room(5, 5, 6, 6);
        c.member(0, 0);
        Check.noSuch(1, room -> c.outside(room, 0));
        Check.noSuch(1, room -> c.outside(room, -1));
        c.room(5, 5, 6, 6);
        Check.is(NONE, c.outside(1, 0));
        Check.noSuch(2, room -> c.outside(room, 0));
    }
}
