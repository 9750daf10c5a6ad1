/** Promises 1, 2, 3 and 17: each sentence that names a boundary case. */
public final class PartsTest {
    private static final int NONE = Scene.NONE;
    private static final long MILLION = Scene.MILLION;

    public static void main(String[] args) {
        Sentences.run(PartsTest::sentences);
    }

    static void sentences(Sentences s) {
        s.below("Promise 1: A new object");
        s.says("No parts, channels, rooms, labels.", PartsTest::nothingAtFirst);
        s.says("No parts, channels, rooms, labels.", PartsTest::nothingOfAnotherObject);

        s.below("Promise 2: part");
        s.says("A new part: its number;", PartsTest::numbersRise);
        s.says("NONE when there are 60.", PartsTest::noneWhenThereAre60);
        s.says("IllegalArgumentException, when w or h is not so.", PartsTest::wrongSizes);

        s.below("Promise 3: put");
        s.says("A part's PLACE and TURN: whether one was another.", PartsTest::whetherOneWasAnother);
        s.says("(Not by HAND.)", PartsTest::putIsNotByHand);
        s.says("IndexOutOfBoundsException, when there is no such part;", PartsTest::putOfNoPart);
        s.says("IllegalArgumentException, when x or y is not -1,000,000 .. 1,000,000,", PartsTest::putTooFar);
        s.says("or turn not 0 .. 3.", PartsTest::putWrongTurn);

        s.below("Promise 17: at");
        s.says("Of a part: x (what 0), y (1), TURN (2),", PartsTest::placeAndTurn);
        s.says("its channel, or NONE (3), its ROLE, or NONE (4),", PartsTest::channelAndRole);
        s.says("1 when it is by HAND, else 0 (5).", PartsTest::byHand);
        s.says("IndexOutOfBoundsException, when there is no such part,", PartsTest::atOfNoPart);
        s.says("or what.", PartsTest::atNoWhat);
    }

    private static void nothingAtFirst() {
        ChannelRooms c = new ChannelRooms();
        Check.noSuch(0, part -> c.at(part, 0));
        Check.noSuch(0, part -> c.put(part, 0, 0, 0));
        Check.noSuch(0, part -> c.hand(part, 0, 0));
        Check.noSuch(0, part -> c.label(part, 1, 1));
        Check.noSuch(0, part -> c.labelAt(part, 0));
        Check.noSuch(0, channel -> c.carry(channel));
        Check.noSuch(0, channel -> c.copy(channel, 0, 0, 0));
        Check.noSuch(0, channel -> c.array(channel, 1, 1, 0, 0));
        Check.noSuch(0, channel -> c.mirror(channel));
        Check.noSuch(0, room -> c.outside(room, 0));
        Check.outOfBounds(() -> c.into(0, 0, 0));
        Check.outOfBounds(() -> c.member(0, 0));
        Check.is(NONE, c.told(0));
        Check.is(0, c.part(1, 1));
        Check.is(0, c.channel());
        Check.is(0, c.room(0, 0, 0, 0));
        Check.noLabel(c, 0);
        Check.is(NONE, c.outside(0, 0));
    }

    private static void nothingOfAnotherObject() {
        ChannelRooms other = Scene.masterWithTwo();
        other.copy(0, 0, 0, 1);
        other.hand(2, 7, 7);
        other.carry(0);
        other.label(0, 5, 5);
        other.room(0, 0, 1, 1);
        other.member(0, 0);
        nothingAtFirst();
        ChannelRooms c = new ChannelRooms();
        Check.is(NONE, c.told(0));
        c.part(1, 1);
        Scene.isAt(c, 0, 0, 0, 0);
        Scene.isMember(c, 0, NONE, NONE);
        Check.noLabel(c, 0);
        Scene.toldAre(other, 2);
        Scene.outsideAre(other, 0, 0);
    }

    private static void numbersRise() {
        ChannelRooms c = new ChannelRooms();
        Check.is(0, c.part(1, 1000));
        Check.is(1, c.part(1000, 1));
        c.channel();
        c.into(0, 0, 0);
        c.copy(0, 0, 0, 0);
        Check.is(3, c.part(3, 3));
        Scene.isMember(c, 3, NONE, NONE);
        Check.noSuch(4, part -> c.at(part, 0));
    }

    private static void noneWhenThereAre60() {
        ChannelRooms c = new ChannelRooms();
        Scene.moreParts(c, 0, 59);
        Check.is(NONE, c.part(1, 1));
        Check.is(NONE, c.part(1000, 1000));
        Check.noSuch(60, part -> c.at(part, 0));
        c.put(59, 3, 4, 1);
        Check.is(NONE, c.part(2, 2));
        Scene.isAt(c, 59, 3, 4, 1);
        Scene.hasRectangle(c, 59, 3, 4, 4, 5);

        ChannelRooms copied = Scene.masterWithTwo();
        Scene.moreParts(copied, 2, 57);
        Check.is(1, copied.copy(0, 0, 0, 0));
        Check.is(NONE, copied.part(1, 1));
    }

    private static void wrongSizes() {
        ChannelRooms c = new ChannelRooms();
        c.part(1, 1);
        Check.onlyWithin(1, 1000, w -> c.part(w, 1));
        Check.onlyWithin(1, 1000, h -> c.part(1, h));
        Check.notSo(() -> c.part(0, 0));
        Check.notSo(() -> c.part(-1, -1));
        Check.notSo(() -> c.part(1001, 1001));
        Check.notSo(() -> c.part(0, 1001));
        Check.is(1, c.part(1000, 1000));
        Check.noSuch(2, part -> c.at(part, 0));
    }

    private static void whetherOneWasAnother() {
        ChannelRooms c = new ChannelRooms();
        c.part(4, 2);
        Check.is(false, c.put(0, 0, 0, 0));
        Check.is(true, c.put(0, 1, 0, 0));
        Check.is(true, c.put(0, 1, -1, 0));
        Check.is(true, c.put(0, 1, -1, 2));
        Scene.isAt(c, 0, 1, -1, 2);
        Check.is(false, c.put(0, 1, -1, 2));
        Check.is(true, c.put(0, -1, 1, 0));
        Check.is(true, c.put(0, 1, -1, 2));
        Check.is(true, c.put(0, -MILLION, -MILLION, 0));
        Check.is(true, c.put(0, MILLION, MILLION, 3));
        Check.is(false, c.put(0, MILLION, MILLION, 3));
        Scene.isAt(c, 0, MILLION, MILLION, 3);
    }

    private static void putIsNotByHand() {
        ChannelRooms c = Scene.masterWithTwo();
        c.copy(0, 100, 0, 0);
        Check.is(false, c.put(2, 110, 0, 0));
        Scene.isByHand(c, 2, false);
        Check.is(true, c.put(2, 7, 7, 1));
        Scene.isByHand(c, 2, false);
        Check.is(1, c.carry(0));
        Scene.isAt(c, 2, 110, 0, 0);
        Scene.toldAre(c);
        c.put(2, 8, 8, 0);
        c.mirror(1);
        Scene.isAt(c, 2, 86, 0, 0);
    }

    private static void putOfNoPart() {
        ChannelRooms c = Scene.masterWithTwo();
        Scene.changesNothing(c, () -> Check.noSuch(2, part -> c.put(part, 1, 1, 1)));
    }

    private static void putTooFar() {
        ChannelRooms c = Scene.masterWithTwo();
        Scene.changesNothing(c, () -> {
            Check.onlyWithin(-MILLION, MILLION, x -> c.put(0, x, 1, 1));
            Check.onlyWithin(-MILLION, MILLION, y -> c.put(0, 1, y, 1));
            Check.notSo(() -> c.put(0, MILLION + 1, -MILLION - 1, 1));
        });
        Check.is(true, c.put(0, MILLION, -MILLION, 0));
        Check.is(true, c.put(1, -MILLION, MILLION, 0));
        Scene.isAt(c, 0, MILLION, -MILLION, 0);
        Scene.isAt(c, 1, -MILLION, MILLION, 0);
    }

    private static void putWrongTurn() {
        ChannelRooms c = Scene.masterWithTwo();
        Scene.changesNothing(c, () -> Check.onlyNumbersWithin(0, 3, turn -> c.put(0, 1, 1, turn)));
        Check.is(true, c.put(0, 10, 0, 3));
        Check.is(true, c.put(0, 10, 0, 0));
    }

    private static void placeAndTurn() {
        ChannelRooms c = new ChannelRooms();
        Scene.moreParts(c, 0, 59);
        c.put(0, -MILLION, MILLION, 3);
        c.put(59, MILLION, -MILLION, 1);
        Check.is(-MILLION, c.at(0, 0));
        Check.is(MILLION, c.at(0, 1));
        Check.is(3, c.at(0, 2));
        Check.is(MILLION, c.at(59, 0));
        Check.is(-MILLION, c.at(59, 1));
        Check.is(1, c.at(59, 2));
        Scene.isAt(c, 58, 0, 0, 0);
    }

    private static void channelAndRole() {
        ChannelRooms c = new ChannelRooms();
        Scene.moreParts(c, 0, 2);
        Scene.moreChannels(c, 0, 18);
        Scene.isMember(c, 0, NONE, NONE);
        c.into(0, 0, 0);
        c.into(18, 1, 19);
        Check.is(19, c.copy(18, 0, 0, 0));
        Scene.isMember(c, 0, 0, 0);
        Scene.isMember(c, 1, 18, 19);
        Scene.isMember(c, 2, NONE, NONE);
        Scene.isMember(c, 3, 19, 19);
    }

    private static void byHand() {
        ChannelRooms c = Scene.masterWithTwo();
        c.copy(0, 0, 0, 0);
        c.part(1, 1);
        for (int part = 0; part < 5; part++) {
            Check.is(0, c.at(part, 5));
        }
        c.hand(0, 50, 50);
        c.hand(2, 50, 50);
        c.hand(4, 50, 50);
        long[] due = {0, 0, 1, 0, 0};
        for (int part = 0; part < 5; part++) {
            Check.is(due[part], c.at(part, 5));
        }
    }

    private static void atOfNoPart() {
        ChannelRooms c = Scene.masterWithTwo();
        for (int what = 0; what < 6; what++) {
            int asked = what;
            Check.noSuch(2, part -> c.at(part, asked));
        }
        Check.outOfBounds(() -> c.at(2, 6));
    }

    private static void atNoWhat() {
        ChannelRooms c = Scene.masterWithTwo();
        Scene.changesNothing(c, () -> Check.noSuch(6, what -> c.at(0, what)));
        Check.noSuch(6, what -> c.at(1, what));
    }
}
