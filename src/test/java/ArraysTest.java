/** Promises 15 and 16: each sentence that names a boundary case. */
public final class ArraysTest {
    private static final int NONE = Scene.NONE;
    private static final long STEP = 100_000;

    public static void main(String[] args) {
        Sentences.run(ArraysTest::sentences);
    }

    static void sentences(Sentences s) {
        s.below("Promise 15: array");
        s.says("An array of a MASTER: copies with TURN 0", ArraysTest::copiesNotTurned);
        s.says("and MOVES i * dx, j * dy,", ArraysTest::moves);
        s.says("for rows j 0 .. rows - 1, in each for columns i 0 .. columns - 1,", ArraysTest::rowByRow);
        s.says("but for i and j 0:", ArraysTest::notTheMasterItself);
        s.says("how many;", ArraysTest::howMany);
        s.says("NONE, nothing made, when it is no MASTER,", ArraysTest::noArrayOfACopy);
        s.says("or one could not be made.", ArraysTest::notBeyond20Channels);
        s.says("or one could not be made.", ArraysTest::notBeyond60Parts);
        s.says("IndexOutOfBoundsException, when there is no such channel;", ArraysTest::arrayOfNoChannel);
        s.says("IllegalArgumentException, when columns or rows are not 1 .. 10,", ArraysTest::wrongColumnsOrRows);
        s.says("or dx or dy is not -100,000 .. 100,000.", ArraysTest::wrongSteps);

        s.below("Promise 16: mirror");
        s.says("A copy is MIRRORED,", ArraysTest::mirrored);
        s.says("or not any more;", ArraysTest::notAnyMore);
        s.says("its members that are not by HAND get what the MASTER's are FOR it:", ArraysTest::notThoseByHand);
        s.says("true;", ArraysTest::trueAlsoWithoutMembers);
        s.says("false for a MASTER.", ArraysTest::falseForAMaster);
        s.says("IndexOutOfBoundsException, when there is no such channel.", ArraysTest::mirrorOfNoChannel);
    }

    private static void copiesNotTurned() {
        ChannelRooms c = Scene.masterWithOne(3);
        Check.is(1, c.copy(0, 0, 0, 2));
        c.mirror(1);
        Check.is(17, c.array(0, 3, 6, 100, 100));
        for (int part = 2; part < 19; part++) {
            Check.is(3, c.at(part, 2));
            Scene.isMember(c, part, part, 0);
            Scene.isByHand(c, part, false);
        }
        // they are copies of the master, and not mirrored
        Check.is(NONE, c.copy(2, 0, 0, 0));
        c.put(0, 11, 20, 0);
        Check.is(18, c.carry(0));
        Scene.isAt(c, 2, 111, 20, 0);
        Scene.isAt(c, 4, 11, 120, 0);
        Scene.isAt(c, 18, 211, 520, 0);
    }

    private static void moves() {
        ChannelRooms c = Scene.masterWithOne(0);
        Check.is(9, c.array(0, 10, 1, STEP, -STEP));
        Check.is(9, c.array(0, 1, 10, STEP, -STEP));
        for (int i = 1; i < 10; i++) {
            Scene.isAt(c, i, 10 + i * STEP, 20, 0);
            Scene.isAt(c, 9 + i, 10, 20 - i * STEP, 0);
        }
        ChannelRooms none = Scene.masterWithOne(0);
        Check.is(3, none.array(0, 2, 2, 0, 0));
        for (int part = 1; part < 4; part++) {
            Scene.isAt(none, part, 10, 20, 0);
        }
    }

    private static void rowByRow() {
        ChannelRooms c = Scene.masterWithTwo();
        Check.is(5, c.array(0, 3, 2, -7, 1000));
        long[][] due = {{-7, 0}, {-14, 0}, {0, 1000}, {-7, 1000}, {-14, 1000}};
        for (int copy = 0; copy < 5; copy++) {
            int first = 2 + 2 * copy;
            Scene.isAt(c, first, 10 + due[copy][0], due[copy][1], 0);
            Scene.isMember(c, first, copy + 1, 1);
            Scene.isAt(c, first + 1, due[copy][0], 5 + due[copy][1], 1);
            Scene.isMember(c, first + 1, copy + 1, 3);
        }
        Check.is(6, c.channel());
    }

    private static void notTheMasterItself() {
        ChannelRooms c = Scene.masterWithTwo();
        Scene.changesNothing(c, () -> Check.is(0, c.array(0, 1, 1, 5, 5)));
        Check.is(1, c.array(0, 2, 1, 5, 5));
        Check.is(1, c.array(0, 1, 2, 5, 5));
        Scene.isAt(c, 2, 15, 0, 0);
        Scene.isAt(c, 4, 10, 5, 0);
        Check.is(3, c.channel());
        Scene.isAt(c, 0, 10, 0, 0);
        Scene.isMember(c, 0, 0, 1);
    }

    private static void howMany() {
        ChannelRooms c = new ChannelRooms();
        c.channel();
        Check.is(0, c.array(0, 1, 1, STEP, STEP));
        Check.is(19, c.array(0, 10, 2, STEP, STEP));
        Check.noSuch(0, part -> c.at(part, 0));
        Check.is(NONE, c.channel());

        ChannelRooms tall = new ChannelRooms();
        tall.channel();
        Check.is(19, tall.array(0, 2, 10, -STEP, -STEP));

        ChannelRooms some = Scene.masterWithTwo();
        Check.is(11, some.array(0, 4, 3, 1, 1));
        Check.is(24, some.part(1, 1));
    }

    private static void noArrayOfACopy() {
        ChannelRooms c = Scene.masterWithTwo();
        c.copy(0, 0, 0, 0);
        c.channel();
        c.copy(2, 0, 0, 0);
        Scene.changesNothing(c, () -> {
            Check.is(NONE, c.array(1, 1, 1, 0, 0));
            Check.is(NONE, c.array(1, 2, 2, 0, 0));
            Check.is(NONE, c.array(3, 1, 1, 0, 0));
            Check.is(NONE, c.array(3, 3, 1, 0, 0));
        });
        Check.is(4, c.channel());
    }

    private static void notBeyond20Channels() {
        ChannelRooms c = new ChannelRooms();
        c.part(1, 1);
        c.channel();
        Check.is(NONE, c.array(0, 3, 7, 1, 1));
        Check.is(NONE, c.array(0, 10, 10, 1, 1));
        Check.is(1, c.channel());
        Check.is(NONE, c.array(0, 10, 2, 1, 1));
        Check.is(2, c.channel());
        Check.is(17, c.array(0, 3, 6, 1, 1));
        Check.is(NONE, c.array(0, 2, 1, 1, 1));
        Check.is(NONE, c.array(1, 1, 2, 1, 1));
        Check.is(NONE, c.channel());
        Check.is(1, c.part(1, 1));
        // no copy is asked for, so there is none that could not be made
        Check.is(0, c.array(0, 1, 1, 1, 1));
    }

    private static void notBeyond60Parts() {
        ChannelRooms c = Scene.masterWithTwo();
        Scene.moreParts(c, 2, 54);
        Check.is(NONE, c.array(0, 2, 2, 1, 1));
        Check.is(NONE, c.array(0, 1, 4, 1, 1));
        Check.noSuch(55, part -> c.at(part, 0));
        Check.is(1, c.channel());
        Check.is(2, c.array(0, 3, 1, 1, 1));
        Scene.isMember(c, 58, 3, 3);
        Check.is(NONE, c.array(0, 2, 1, 1, 1));
        Check.is(59, c.part(1, 1));
        Check.is(NONE, c.array(0, 2, 1, 1, 1));
        Check.is(0, c.array(0, 1, 1, 1, 1));
        Check.is(1, c.array(1, 2, 1, 1, 1));

        ChannelRooms full = Scene.masterWithTwo();
        Scene.moreParts(full, 2, 53);
        Check.is(3, full.array(0, 2, 2, 1, 1));
        Scene.isMember(full, 59, 3, 3);
    }

    private static void arrayOfNoChannel() {
        ChannelRooms c = Scene.masterWithTwo();
        Scene.changesNothing(c, () -> {
            Check.noSuch(1, channel -> c.array(channel, 1, 1, 0, 0));
            Check.noSuch(1, channel -> c.array(channel, 2, 2, 1, 1));
        });
        Check.is(1, c.channel());
    }

    private static void wrongColumnsOrRows() {
        ChannelRooms c = Scene.masterWithOne(0);
        Scene.changesNothing(c, () -> {
            Check.onlyNumbersWithin(1, 10, columns -> c.array(0, columns, 1, 1, 1));
            Check.onlyNumbersWithin(1, 10, rows -> c.array(0, 1, rows, 1, 1));
            Check.notSo(() -> c.array(0, -1, -2, 1, 1));
            Check.notSo(() -> c.array(0, 0, 0, 1, 1));
        });
        Check.is(9, c.array(0, 10, 1, 1, 1));
        Check.is(9, c.array(0, 1, 10, 1, 1));
        Check.is(NONE, c.array(0, 10, 10, 1, 1));
        Check.onlyNumbersWithin(1, 10, columns -> c.array(1, columns, 1, 1, 1));
    }

    private static void wrongSteps() {
        ChannelRooms c = Scene.masterWithOne(0);
        Scene.changesNothing(c, () -> {
            Check.onlyWithin(-STEP, STEP, dx -> c.array(0, 2, 1, dx, 0));
            Check.onlyWithin(-STEP, STEP, dy -> c.array(0, 2, 1, 0, dy));
            // also where no copy would be moved by it
            Check.onlyWithin(-STEP, STEP, dx -> c.array(0, 1, 1, dx, 0));
            Check.onlyWithin(-STEP, STEP, dy -> c.array(0, 1, 1, 0, dy));
        });
        Check.is(1, c.array(0, 2, 1, STEP, -STEP));
        Check.is(1, c.array(0, 1, 2, -STEP, STEP));
        Check.is(1, c.array(0, 1, 2, STEP, -STEP));
        Check.is(1, c.array(0, 2, 1, -STEP, STEP));
        Scene.isAt(c, 1, 10 + STEP, 20, 0);
        Scene.isAt(c, 2, 10, 20 + STEP, 0);
        Scene.isAt(c, 3, 10, 20 - STEP, 0);
        Scene.isAt(c, 4, 10 - STEP, 20, 0);
        Check.onlyWithin(-STEP, STEP, dx -> c.array(1, 1, 1, dx, 0));
    }

    private static void mirrored() {
        ChannelRooms c = Scene.masterWithOne(1);
        c.copy(0, 1000, 0, 0);
        c.copy(0, 1000, 0, 0);
        Check.is(true, c.mirror(2));
        Scene.isAt(c, 2, 988, 20, 3);
        Scene.isAt(c, 1, 1010, 20, 1);
        Scene.isAt(c, 0, 10, 20, 1);
        // and stays so
        c.put(0, 10, 20, 0);
        Check.is(2, c.carry(0));
        Scene.isAt(c, 2, 986, 20, 0);
        Scene.isAt(c, 1, 1010, 20, 0);
    }

    private static void notAnyMore() {
        ChannelRooms c = Scene.masterWithOne(1);
        c.copy(0, 1000, 0, 1);
        for (int twice = 0; twice < 2; twice++) {
            Check.is(true, c.mirror(1));
            Scene.isAt(c, 1, 976, -12, 0);
            Check.is(0, c.carry(0));
            Check.is(true, c.mirror(1));
            Scene.isAt(c, 1, 976, 10, 2);
            Check.is(0, c.carry(0));
        }
    }

    /** The master's as they are now, not as they were carried on last; no part is made, and none is told. */
    private static void notThoseByHand() {
        ChannelRooms c = Scene.masterWithTwo();
        c.copy(0, 100, 0, 0);
        c.hand(2, 110, 0);
        c.put(1, 20, 5, 2);
        c.part(1, 1);
        c.into(0, 4, 0);
        Check.is(true, c.mirror(1));
        Scene.isAt(c, 2, 110, 0, 0);
        Scene.isAt(c, 3, 77, 5, 2);
        Check.noSuch(5, part -> c.at(part, 0));
        Scene.toldAre(c);
        Scene.isByHand(c, 2, true);
        Scene.isByHand(c, 3, false);
        Check.is(true, c.mirror(1));
        Scene.isAt(c, 2, 110, 0, 0);
        Scene.isAt(c, 3, 120, 5, 2);
        // one by hand is mirrored in what it is held against
        Check.is(true, c.mirror(1));
        Check.is(1, c.carry(0));
        Scene.toldAre(c, 2);
    }

    private static void trueAlsoWithoutMembers() {
        ChannelRooms c = new ChannelRooms();
        c.channel();
        c.copy(0, 0, 0, 0);
        Check.is(true, c.mirror(1));
        Check.is(true, c.mirror(1));
        Check.is(true, c.mirror(1));
        c.part(4, 2);
        c.put(0, 10, 20, 0);
        c.into(0, 0, 0);
        c.carry(0);
        Scene.isAt(c, 1, -14, 20, 0);
        // also when all members are by hand, and when none of them comes to lie elsewhere
        c.hand(1, 0, 0);
        Check.is(true, c.mirror(1));
        ChannelRooms even = new ChannelRooms();
        even.part(4, 2);
        even.put(0, -2, 0, 0);
        even.channel();
        even.into(0, 0, 0);
        even.copy(0, 0, 0, 0);
        Check.is(true, even.mirror(1));
        Scene.isAt(even, 1, -2, 0, 0);
    }

    private static void falseForAMaster() {
        ChannelRooms c = Scene.masterWithTwo();
        c.copy(0, 100, 0, 0);
        c.channel();
        Scene.changesNothing(c, () -> {
            Check.is(false, c.mirror(0));
            Check.is(false, c.mirror(2));
        });
        Check.is(0, c.carry(0));
        Check.is(3, c.copy(0, 0, 0, 0));
        Scene.isAt(c, 4, 10, 0, 0);
    }

    private static void mirrorOfNoChannel() {
        ChannelRooms c = Scene.masterWithTwo();
        c.copy(0, 100, 0, 0);
        Scene.changesNothing(c, () -> Check.noSuch(2, channel -> c.mirror(channel)));
        Scene.moreChannels(c, 2, 19);
        Check.noSuch(20, channel -> c.mirror(channel));
        Check.is(0, c.carry(0));
    }
}
