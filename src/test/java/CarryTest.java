/** Promises 8 and 9: each sentence that names a boundary case. */
public final class CarryTest {
    private static final int NONE = Scene.NONE;
    private static final long MILLION = Scene.MILLION;

    public static void main(String[] args) {
        Sentences.run(CarryTest::sentences);
    }

    static void sentences(Sentences s) {
        s.below("Promise 8: carry");
        s.says("For each copy of a MASTER, in order,", CarryTest::copiesInOrder);
        s.says("for each member of the MASTER, by rising ROLES:", CarryTest::membersByRisingRoles);
        s.says("is there no member with that ROLE, a new part (as in copy();", CarryTest::newParts);
        s.says("none, when there are 60);", CarryTest::noneWhenThereAre60);
        s.says("is it not by HAND, it gets what the MASTER's is FOR the copy;", CarryTest::getsWhatTheMastersIs);
        s.says("is it by HAND, it stays,", CarryTest::byHandStays);
        s.says("and is TOLD when its PLACE or TURN is another one than that:", CarryTest::toldWhenAnother);
        s.says("how many parts were made, or got another PLACE or TURN.", CarryTest::howMany);
        s.says("IndexOutOfBoundsException, when there is no such channel;", CarryTest::carryOfNoChannel);
        s.says("for a copy 0, TOLD stays.", CarryTest::carryOfACopy);

        s.below("Promise 9: told");
        s.says("The k-th part, rising,", CarryTest::toldRising);
        s.says("that the latest carry() of a MASTER TOLD;", CarryTest::toldByTheLatest);
        s.says("NONE, when there is none such.", CarryTest::noneTold);
    }

    /** There is room for one new part only: the first copy of this master gets it, not one before or behind it. */
    private static void copiesInOrder() {
        ChannelRooms c = Scene.masterWithTwo();
        c.channel();
        Check.is(2, c.copy(1, 0, 0, 0));
        Check.is(3, c.copy(0, 100, 0, 0));
        Check.is(4, c.copy(0, 200, 0, 0));
        Scene.moreParts(c, 6, 58);
        c.into(0, 6, 19);
        c.into(1, 7, 0);
        Check.is(1, c.carry(0));
        Scene.isMember(c, 59, 3, 19);

        ChannelRooms two = Scene.masterWithTwo();
        two.array(0, 3, 1, 100, 0);
        two.part(1, 1);
        two.into(0, 6, 0);
        Check.is(2, two.carry(0));
        Scene.isMember(two, 7, 1, 0);
        Scene.isMember(two, 8, 2, 0);
    }

    private static void membersByRisingRoles() {
        ChannelRooms c = Scene.masterWithTwo();
        c.copy(0, 100, 0, 0);
        c.copy(0, 200, 0, 0);
        int[] roles = {19, 2, 0};
        for (int i = 0; i < 3; i++) {
            c.part(1, 1);
            c.put(6 + i, 7 * i, 0, 0);
            Check.is(true, c.into(0, 6 + i, roles[i]));
        }
        Check.is(6, c.carry(0));
        long[] due = {14, 7, 0};
        for (int i = 0; i < 3; i++) {
            Scene.isAt(c, 9 + i, 100 + due[i], 0, 0);
            Scene.isMember(c, 9 + i, 1, roles[2 - i]);
            Scene.isAt(c, 12 + i, 200 + due[i], 0, 0);
            Scene.isMember(c, 12 + i, 2, roles[2 - i]);
        }
    }

    /** Also for a copy that had no part at all, that is turned, and that is mirrored. */
    private static void newParts() {
        ChannelRooms c = new ChannelRooms();
        c.channel();
        c.copy(0, 1000, 50, 1);
        c.mirror(1);
        c.copy(0, MILLION, MILLION, 0);
        c.part(4, 2);
        c.put(0, 10, 20, 1);
        c.into(0, 0, 7);
        Check.is(2, c.carry(0));
        Scene.isAt(c, 1, 976, 38, 0);
        Scene.isMember(c, 1, 1, 7);
        Scene.isByHand(c, 1, false);
        Check.noLabel(c, 1);
        Scene.isAt(c, 2, MILLION + 10, MILLION + 20, 1);
        Scene.hasRectangle(c, 1, 976, 38, 980, 40);
        Scene.hasRectangle(c, 2, MILLION + 10, MILLION + 20, MILLION + 12, MILLION + 24);
        Check.is(0, c.carry(0));
        Check.noSuch(3, part -> c.at(part, 0));
    }

    /** What there is is carried on to all the same, and a copy that got no part then still has none. */
    private static void noneWhenThereAre60() {
        ChannelRooms c = Scene.masterWithTwo();
        c.copy(0, 100, 0, 0);
        c.copy(0, 200, 0, 0);
        Scene.moreParts(c, 6, 58);
        c.into(0, 6, 0);
        c.into(0, 7, 19);
        c.put(0, 11, 0, 0);
        c.put(1, 1, 5, 1);
        Check.is(5, c.carry(0));
        Scene.isMember(c, 59, 1, 0);
        Scene.isAt(c, 2, 111, 0, 0);
        Scene.isAt(c, 3, 101, 5, 1);
        Scene.isAt(c, 4, 211, 0, 0);
        Scene.isAt(c, 5, 201, 5, 1);
        Check.is(0, c.carry(0));
        Check.is(NONE, c.part(1, 1));
        Check.noSuch(60, part -> c.at(part, 0));
        c.put(6, 9, 9, 0);
        Check.is(1, c.carry(0));
        Scene.isAt(c, 59, 109, 9, 0);
        Check.is(true, c.mirror(2));
        Scene.isAt(c, 4, 185, 0, 0);
    }

    private static void getsWhatTheMastersIs() {
        ChannelRooms c = Scene.masterWithTwo();
        c.copy(0, 100, 0, 0);
        c.copy(0, 0, 100, 1);
        c.mirror(2);
        c.put(0, 12, 1, 1);
        c.put(1, MILLION, -MILLION, 2);
        Check.is(4, c.carry(0));
        Scene.isAt(c, 2, 112, 1, 1);
        Scene.isAt(c, 3, MILLION + 100, -MILLION, 2);
        Scene.isAt(c, 4, -5, 86, 0);
        Scene.isAt(c, 5, MILLION - 3, 100 - MILLION - 3, 3);
        // one that put() moved is not by hand
        c.put(2, 0, 0, 0);
        Check.is(1, c.carry(0));
        Scene.isAt(c, 2, 112, 1, 1);
    }

    private static void byHandStays() {
        ChannelRooms c = Scene.masterWithTwo();
        c.copy(0, 100, 0, 3);
        c.hand(2, 5, 6);
        c.put(0, 50, 60, 2);
        c.put(1, 51, 61, 2);
        Check.is(1, c.carry(0));
        Scene.isAt(c, 2, 5, 6, 3);
        Scene.isMember(c, 2, 1, 1);
        Scene.isByHand(c, 2, true);
        Check.is(0, c.carry(0));
        Scene.isAt(c, 2, 5, 6, 3);
        c.mirror(1);
        c.carry(0);
        Scene.isAt(c, 2, 5, 6, 3);
    }

    /** Parts 2 and 3 are by hand where they are due; then one lies elsewhere by one, or the master's is turned alone. */
    private static void toldWhenAnother() {
        long[][] places = {{111, 0}, {109, 0}, {110, 1}, {110, -1}};
        for (long[] place : places) {
            ChannelRooms c = twoByHand();
            c.hand(2, place[0], place[1]);
            Check.is(0, c.carry(0));
            Scene.toldAre(c, 2);
        }
        for (int turn = 0; turn < 4; turn++) {
            ChannelRooms c = twoByHand();
            c.put(1, 0, 5, turn);
            Check.is(0, c.carry(0));
            Scene.toldAre(c, turn == 1 ? new int[] {} : new int[] {3});
        }
        toldOfTheMirrored();
    }

    private static ChannelRooms twoByHand() {
        ChannelRooms c = Scene.masterWithTwo();
        c.copy(0, 100, 0, 0);
        Check.is(false, c.hand(2, 110, 0));
        Check.is(false, c.hand(3, 100, 5));
        Check.is(0, c.carry(0));
        Scene.toldAre(c);
        return c;
    }

    /** What it would be for the copy as it is now counts: here it is there as long as the copy is mirrored. */
    private static void toldOfTheMirrored() {
        ChannelRooms c = Scene.masterWithTwo();
        c.copy(0, 100, 0, 0);
        c.hand(2, 86, 0);
        c.carry(0);
        Scene.toldAre(c, 2);
        c.mirror(1);
        c.carry(0);
        Scene.toldAre(c);
    }

    private static void howMany() {
        ChannelRooms c = Scene.masterWithTwo();
        c.copy(0, 100, 0, 0);
        Check.is(0, c.carry(0));
        long[][] changes = {{11, 0, 0}, {11, 1, 0}, {11, 1, 1}, {12, 2, 2}};
        for (long[] change : changes) {
            c.put(0, change[0], change[1], (int) change[2]);
            Check.is(1, c.carry(0));
            Check.is(0, c.carry(0));
        }
        c.hand(3, 0, 0);
        c.put(1, 9, 9, 0);
        Check.is(0, c.carry(0));
        c.part(1, 1);
        c.into(0, 4, 0);
        c.put(0, 0, 0, 0);
        c.copy(0, 0, 0, 2);
        c.put(4, 1, 0, 0);
        // made for the first copy and moved in it, and moved in the second; the one by hand is told alone
        Check.is(3, c.carry(0));
        Scene.toldAre(c, 3);
        howManyOfNothing();
    }

    private static void howManyOfNothing() {
        ChannelRooms c = new ChannelRooms();
        c.channel();
        Check.is(0, c.carry(0));
        c.copy(0, 0, 0, 0);
        Check.is(0, c.carry(0));
        Check.noSuch(0, part -> c.at(part, 0));
        for (int role = 0; role < 3; role++) {
            c.part(1, 1);
            c.into(0, role, role);
        }
        Check.is(17, c.array(0, 9, 2, 1, 1));
        Check.is(3, c.carry(0));
        c.put(0, 5, 5, 0);
        c.put(1, 5, 5, 0);
        c.put(2, 5, 5, 0);
        Check.is(54, c.carry(0));
    }

    private static void carryOfNoChannel() {
        ChannelRooms c = Scene.masterWithTwo();
        c.copy(0, 100, 0, 0);
        c.hand(2, 5, 5);
        c.carry(0);
        c.put(1, 7, 7, 0);
        Scene.toldAre(c, 2);
        Scene.changesNothing(c, () -> Check.noSuch(2, master -> c.carry(master)));
        Scene.toldAre(c, 2);
    }

    private static void carryOfACopy() {
        ChannelRooms c = Scene.masterWithTwo();
        c.copy(0, 100, 0, 0);
        c.copy(0, 200, 0, 0);
        c.hand(2, 5, 5);
        c.carry(0);
        c.hand(4, 6, 6);
        c.put(1, 7, 7, 0);
        c.part(1, 1);
        c.into(0, 6, 0);
        Scene.toldAre(c, 2);
        Scene.changesNothing(c, () -> {
            Check.is(0, c.carry(1));
            Check.is(0, c.carry(2));
        });
        Scene.toldAre(c, 2);
        Check.is(4, c.carry(0));
        Scene.toldAre(c, 2, 4);
    }

    /** By number, though the higher numbers have the lower roles, and are met first. */
    private static void toldRising() {
        ChannelRooms c = new ChannelRooms();
        c.channel();
        c.copy(0, 0, 0, 0);
        c.copy(0, 0, 0, 0);
        for (int part = 0; part < 9; part += 3) {
            Check.is(part, c.part(1, 1));
            c.into(0, part, 19 - part);
            c.carry(0);
        }
        for (int part : new int[] {8, 1, 7, 4, 2}) {
            c.hand(part, 9, 9);
        }
        Check.is(0, c.carry(0));
        Scene.toldAre(c, 1, 2, 4, 7, 8);
        toldUpTo59();
    }

    private static void toldUpTo59() {
        ChannelRooms c = new ChannelRooms();
        c.channel();
        for (int part = 0; part < 20; part++) {
            c.part(1, 1);
            c.into(0, part, part);
        }
        c.copy(0, 0, 0, 0);
        c.copy(0, 0, 0, 0);
        for (int part = 59; part >= 20; part--) {
            c.hand(part, 9, 9);
        }
        Check.is(0, c.carry(0));
        for (int k = 0; k < 40; k++) {
            Check.is(20 + k, c.told(k));
        }
        Check.is(NONE, c.told(40));
    }

    private static void toldByTheLatest() {
        ChannelRooms c = Scene.masterWithTwo();
        c.copy(0, 100, 0, 0);
        c.channel();
        c.part(1, 1);
        c.into(2, 4, 0);
        c.copy(2, 0, 0, 0);
        c.hand(2, 5, 5);
        c.hand(5, 5, 5);
        Scene.toldAre(c);
        c.carry(0);
        Scene.toldAre(c, 2);
        c.carry(2);
        Scene.toldAre(c, 5);
        // only a carry() tells
        c.hand(5, 0, 0);
        c.hand(3, 1, 1);
        c.mirror(1);
        c.put(2, 6, 6, 0);
        c.copy(0, 0, 0, 0);
        Scene.toldAre(c, 5);
        c.carry(2);
        Scene.toldAre(c);
        c.carry(0);
        Scene.toldAre(c, 2, 3);
        // of a master without copies, too
        Check.is(5, c.channel());
        Check.is(0, c.carry(5));
        Scene.toldAre(c);
    }

    private static void noneTold() {
        int[] wrong = {-1, -2, -64, Integer.MIN_VALUE, 2, 3, 60, 64, 1 << 30, Integer.MAX_VALUE};
        ChannelRooms c = Scene.masterWithTwo();
        Check.is(NONE, c.told(0));
        for (int k : wrong) {
            Check.is(NONE, c.told(k));
        }
        c.copy(0, 100, 0, 0);
        c.hand(2, 5, 5);
        c.hand(3, 5, 5);
        Check.is(NONE, c.told(0));
        c.carry(0);
        Scene.toldAre(c, 2, 3);
        for (int k : wrong) {
            Check.is(NONE, c.told(k));
        }
        c.hand(3, 100, 5);
        c.carry(0);
        Check.is(2, c.told(0));
        Check.is(NONE, c.told(1));
    }
}
