/** The sentences of 'What it is' and of 'Terms' that name a boundary case. */
public final class TermsTest {
    private static final int NONE = Scene.NONE;
    private static final long MILLION = Scene.MILLION;

    /** Where 4 by 2 at 10, 20 comes to lie for a copy's turns 0 .. 3, as it is, and turned over. */
    private static final long[][] LYING = {{10, 20}, {-22, 10}, {-14, -22}, {20, -14}};
    private static final long[][] LYING_MIRRORED = {{-14, 20}, {-22, -14}, {10, -22}, {20, 10}};
    /** The same for 2 by 4 at 10, 20: the part when its turn is odd. */
    private static final long[][] STANDING = {{10, 20}, {-24, 10}, {-12, -24}, {20, -12}};
    private static final long[][] STANDING_MIRRORED = {{-12, 20}, {-24, -12}, {10, -24}, {20, 10}};

    public static void main(String[] args) {
        Sentences.run(TermsTest::sentences);
    }

    static void sentences(Sentences s) {
        s.below("What it is");
        s.says("An object is used for at most 512 calls after it has been made;", TermsTest::the512thCall);
        s.below("Terms");
        s.says("PARTS, numbered from 0, at most 60,", TermsTest::atMost60Parts);
        s.says("are w by h (1 .. 1,000).", TermsTest::leastAndLargestSizes);
        s.says("A part has a PLACE x, y and a TURN 0 .. 3,", TermsTest::everyTurn);
        s.says("at first 0, 0, 0;", TermsTest::atFirst);
        s.says("its RECTANGLE is from x, y on, w by h,", TermsTest::rectangleWhenEven);
        s.says("or, when TURN is odd, h by w.", TermsTest::rectangleWhenOdd);
        s.says("CHANNELS, numbered from 0, at most 20, are MASTERS or copies.", TermsTest::atMost20Channels);
        s.says("A part is a member of one channel at most,", TermsTest::oneChannelAtMost);
        s.says("with a ROLE 0 .. 19,", TermsTest::everyRole);
        s.says("that no other member of that channel has.", TermsTest::rolesOfEachChannel);
        s.says("A copy belongs to a MASTER; it has a MOVE dx, dy, a TURN, and is MIRRORED, or not.",
                TermsTest::eachCopyItsOwn);
        s.says("What a member of the MASTER is FOR a copy:", TermsTest::eachCopyItsOwn);
        s.says("its RECTANGLE, when the copy is MIRRORED, turned over (x becomes -x)", TermsTest::turnedOver);
        s.says("and its TURN t becomes 4 - t, modulo 4;", TermsTest::turnOfTheTurnedOver);
        s.says("then turned to the left by as many quarters as the copy's TURN around 0, 0,", TermsTest::turnedToTheLeft);
        s.says("the member's TURN that much more, modulo 4;", TermsTest::turnsWrapAround);
        s.says("then moved;", TermsTest::movedAtLast);
        s.says("the PLACE is the corner of the least x and y.", TermsTest::cornerOfTheLeast);
        s.says("A part of a copy is by HAND from the call of hand() on.", TermsTest::byHandFromThenOn);
        s.says("LABELS: a part has one, or none;", TermsTest::oneLabelOrNone);
        s.says("at most 5 in all.", TermsTest::fiveLabelsInAll);
        s.says("A LABEL of w by h is at one of eight SPOTS of its part, whose RECTANGLE is from x, y to u, v now:",
                TermsTest::spotsOfNow);
        s.says("its corner of the least x and y at 0: u, y;", () -> spot(0, 30, 10));
        s.says("1: x, v;", () -> spot(1, 10, 20));
        s.says("2: x - w, y;", () -> spot(2, 7, 10));
        s.says("3: x, y - h;", () -> spot(3, 10, 8));
        s.says("4: u, v;", () -> spot(4, 30, 20));
        s.says("5: x - w, v;", () -> spot(5, 7, 20));
        s.says("6: x - w, y - h;", () -> spot(6, 7, 8));
        s.says("7: u, y - h.", () -> spot(7, 30, 8));
        s.says("The constants: `NONE = -1`: There is none.", TermsTest::none);
    }

    private static void the512thCall() {
        ChannelRooms asked = new ChannelRooms();
        asked.part(2, 1);
        for (int call = 2; call <= 511; call++) {
            Check.is(true, asked.put(0, call, 0, 0));
        }
        Check.is(511, asked.at(0, 0));

        ChannelRooms made = new ChannelRooms();
        for (int call = 1; call <= 511; call++) {
            Check.is(NONE, made.told(0));
        }
        Check.is(0, made.part(1, 1));
    }

    private static void atMost60Parts() {
        ChannelRooms c = Scene.masterWithTwo();
        Scene.moreParts(c, 2, 54);
        Check.is(1, c.copy(0, 0, 0, 0));
        Scene.isMember(c, 56, 1, 3);
        Check.is(true, c.into(0, 2, 0));
        Check.is(1, c.carry(0));
        Scene.isMember(c, 57, 1, 0);
        Scene.moreParts(c, 58, 59);
        Check.is(NONE, c.part(1, 1));
        Check.is(0, c.at(59, 0));
        Check.noSuch(60, part -> c.at(part, 0));
    }

    private static void leastAndLargestSizes() {
        ChannelRooms c = new ChannelRooms();
        Check.is(0, c.part(1, 1000));
        Check.is(1, c.part(1000, 1));
        Scene.hasRectangle(c, 0, 0, 0, 1, 1000);
        Scene.hasRectangle(c, 1, 0, 0, 1000, 1);
    }

    private static void everyTurn() {
        ChannelRooms c = new ChannelRooms();
        c.part(2, 3);
        for (int turn = 3; turn >= 0; turn--) {
            Check.is(true, c.put(0, -turn, turn, turn));
            Scene.isAt(c, 0, -turn, turn, turn);
        }
    }

    private static void atFirst() {
        ChannelRooms c = new ChannelRooms();
        for (int part = 0; part < 60; part++) {
            Check.is(part, c.part(5, 7));
            Scene.isAt(c, part, 0, 0, 0);
            c.put(part, 9, 8, 3);
        }
    }

    private static void rectangleWhenEven() {
        for (int turn = 0; turn < 4; turn += 2) {
            ChannelRooms c = new ChannelRooms();
            c.part(7, 3);
            c.put(0, -2, 5, turn);
            Scene.hasRectangle(c, 0, -2, 5, 5, 8);
            c.put(0, MILLION, -MILLION, turn);
            Scene.hasRectangle(c, 0, MILLION, -MILLION, MILLION + 7, 3 - MILLION);
        }
    }

    private static void rectangleWhenOdd() {
        for (int turn = 1; turn < 4; turn += 2) {
            ChannelRooms c = new ChannelRooms();
            c.part(7, 3);
            c.put(0, -2, 5, turn);
            Scene.hasRectangle(c, 0, -2, 5, 1, 12);
            c.put(0, -MILLION, MILLION, turn);
            Scene.hasRectangle(c, 0, -MILLION, MILLION, 3 - MILLION, MILLION + 7);
        }
    }

    private static void atMost20Channels() {
        ChannelRooms c = new ChannelRooms();
        for (int channel = 0; channel < 18; channel += 2) {
            Check.is(channel, c.channel());
            Check.is(channel + 1, c.copy(channel, 0, 0, 0));
        }
        Check.is(1, c.array(0, 2, 1, 0, 0));
        Check.is(19, c.channel());
        Check.is(NONE, c.channel());
        Check.is(NONE, c.copy(0, 0, 0, 0));
        Check.is(NONE, c.array(0, 1, 2, 0, 0));
        Check.is(true, c.mirror(18));
        Check.is(false, c.mirror(19));
        Check.noSuch(20, channel -> c.mirror(channel));
    }

    private static void oneChannelAtMost() {
        ChannelRooms c = new ChannelRooms();
        c.part(1, 1);
        c.channel();
        c.channel();
        Check.is(true, c.into(1, 0, 4));
        Check.is(false, c.into(0, 0, 4));
        Check.is(false, c.into(1, 0, 5));
        Scene.isMember(c, 0, 1, 4);
        Check.is(2, c.copy(0, 0, 0, 0));
        Check.is(1, c.part(1, 1));
    }

    private static void everyRole() {
        ChannelRooms c = new ChannelRooms();
        c.channel();
        for (int role = 0; role < 20; role++) {
            c.part(1, 1);
            Check.is(true, c.into(0, role, role));
            Scene.isMember(c, role, 0, role);
        }
        c.part(1, 1);
        for (int role = 0; role < 20; role++) {
            Check.is(false, c.into(0, 20, role));
        }
        Check.onlyNumbersWithin(0, 19, role -> c.into(0, 20, role));
        Scene.isMember(c, 20, NONE, NONE);
    }

    private static void rolesOfEachChannel() {
        ChannelRooms c = new ChannelRooms();
        Scene.moreParts(c, 0, 3);
        Scene.moreChannels(c, 0, 1);
        Check.is(true, c.into(0, 0, 0));
        Check.is(true, c.into(1, 1, 0));
        Check.is(false, c.into(0, 2, 0));
        Check.is(false, c.into(1, 2, 0));
        Check.is(true, c.into(0, 2, 19));
        Check.is(true, c.into(1, 3, 19));
        Scene.isMember(c, 2, 0, 19);
        Scene.isMember(c, 3, 1, 19);
    }

    /** Three copies of one master and one of another: each keeps its own move, turn and mirror when all are carried to. */
    private static void eachCopyItsOwn() {
        ChannelRooms c = Scene.masterWithOne(0);
        c.part(4, 2);
        c.channel();
        c.into(1, 1, 0);
        Check.is(2, c.copy(0, 100, 0, 0));
        Check.is(3, c.copy(0, 0, 1000, 1));
        Check.is(4, c.copy(1, -5, -6, 2));
        Check.is(5, c.copy(0, -100, -100, 3));
        Check.is(true, c.mirror(5));
        c.put(0, 11, 20, 0);
        c.put(1, 1, 1, 0);
        Check.is(3, c.carry(0));
        Scene.isAt(c, 2, 111, 20, 0);
        Scene.isAt(c, 3, -22, 1011, 1);
        Scene.isAt(c, 4, -9, -8, 2);
        Scene.isAt(c, 5, -80, -89, 3);
        Check.is(1, c.carry(1));
        Scene.isAt(c, 4, -10, -9, 2);
    }

    private static void turnedOver() {
        for (int turn = 0; turn < 4; turn++) {
            long[][] due = turn % 2 == 0 ? LYING_MIRRORED : STANDING_MIRRORED;
            ChannelRooms c = Scene.masterWithOne(turn);
            for (int quarters = 0; quarters < 4; quarters++) {
                Check.is(quarters + 1, c.copy(0, 0, 0, quarters));
                Check.is(true, c.mirror(quarters + 1));
                Check.is(due[quarters][0], c.at(quarters + 1, 0));
                Check.is(due[quarters][1], c.at(quarters + 1, 1));
            }
        }
    }

    private static void turnOfTheTurnedOver() {
        int[] due = {0, 3, 2, 1};
        for (int turn = 0; turn < 4; turn++) {
            ChannelRooms c = Scene.masterWithOne(turn);
            for (int quarters = 0; quarters < 4; quarters++) {
                c.copy(0, 0, 0, quarters);
                c.mirror(quarters + 1);
                Check.is((due[turn] + quarters) % 4, c.at(quarters + 1, 2));
            }
        }
    }

    private static void turnedToTheLeft() {
        for (int turn = 0; turn < 4; turn++) {
            long[][] due = turn % 2 == 0 ? LYING : STANDING;
            ChannelRooms c = Scene.masterWithOne(turn);
            for (int quarters = 0; quarters < 4; quarters++) {
                Check.is(quarters + 1, c.copy(0, 0, 0, quarters));
                Check.is(due[quarters][0], c.at(quarters + 1, 0));
                Check.is(due[quarters][1], c.at(quarters + 1, 1));
            }
        }
    }

    private static void turnsWrapAround() {
        int[][] due = {{0, 1, 2, 3}, {1, 2, 3, 0}, {2, 3, 0, 1}, {3, 0, 1, 2}};
        for (int turn = 0; turn < 4; turn++) {
            ChannelRooms c = Scene.masterWithOne(turn);
            for (int quarters = 0; quarters < 4; quarters++) {
                c.copy(0, 0, 0, quarters);
                Check.is(due[turn][quarters], c.at(quarters + 1, 2));
            }
        }
    }

    /** Neither turned nor turned over with the part; and a place beyond what put() takes is none too many. */
    private static void movedAtLast() {
        for (int quarters = 0; quarters < 4; quarters++) {
            ChannelRooms c = Scene.masterWithOne(0);
            c.copy(0, 1000, 50, quarters);
            Check.is(LYING[quarters][0] + 1000, c.at(1, 0));
            Check.is(LYING[quarters][1] + 50, c.at(1, 1));
            c.mirror(1);
            Check.is(LYING_MIRRORED[quarters][0] + 1000, c.at(1, 0));
            Check.is(LYING_MIRRORED[quarters][1] + 50, c.at(1, 1));
        }
        ChannelRooms far = Scene.masterWithOne(0);
        far.put(0, MILLION, -MILLION, 0);
        far.copy(0, MILLION, -MILLION, 0);
        Scene.isAt(far, 1, 2 * MILLION, -2 * MILLION, 0);
        far.put(0, MILLION, MILLION, 0);
        far.copy(0, -MILLION, -MILLION, 2);
        Scene.isAt(far, 2, -2 * MILLION - 4, -2 * MILLION - 2, 2);
    }

    /** A part on both sides of 0, 0 and one that touches it: the least corner is another one for each turn. */
    private static void cornerOfTheLeast() {
        ChannelRooms c = new ChannelRooms();
        c.part(10, 6);
        c.put(0, -3, -1, 0);
        c.channel();
        c.into(0, 0, 0);
        long[][] due = {{-3, -1}, {-5, -3}, {-7, -5}, {-1, -7}};
        long[][] mirrored = {{-7, -1}, {-5, -7}, {-3, -5}, {-1, -3}};
        for (int quarters = 0; quarters < 4; quarters++) {
            c.copy(0, 0, 0, quarters);
            Scene.isAt(c, quarters + 1, due[quarters][0], due[quarters][1], quarters);
            c.mirror(quarters + 1);
            Scene.isAt(c, quarters + 1, mirrored[quarters][0], mirrored[quarters][1], quarters);
        }
        c.put(0, 0, 0, 0);
        Check.is(4, c.carry(0));
        Scene.isAt(c, 1, -10, 0, 0);
        Scene.isAt(c, 2, -6, -10, 1);
        Scene.isAt(c, 3, 0, -6, 2);
        Scene.isAt(c, 4, 0, 0, 3);
    }

    private static void byHandFromThenOn() {
        ChannelRooms c = Scene.masterWithTwo();
        c.copy(0, 100, 0, 0);
        Scene.isByHand(c, 2, false);
        c.hand(2, 5, 5);
        Scene.isByHand(c, 2, true);
        c.carry(0);
        Scene.isByHand(c, 2, true);
        c.mirror(1);
        Scene.isByHand(c, 2, true);
        // also one that is where it is due, and so not told
        c.hand(2, 86, 0);
        c.carry(0);
        Scene.toldAre(c);
        Scene.isByHand(c, 2, true);
        c.put(2, 6, 6, 1);
        Scene.isByHand(c, 2, true);
        Scene.isByHand(c, 3, false);
    }

    private static void oneLabelOrNone() {
        ChannelRooms c = new ChannelRooms();
        c.part(4, 4);
        Check.noLabel(c, 0);
        Check.is(0, c.label(0, 4, 4));
        Scene.labelIsAt(c, 0, 4, 0, 0);
        Scene.block(c, 5, 1);
        Scene.block(c, 1, 5);
        Check.is(0, c.label(0, 9, 9));
        Scene.labelIsAt(c, 0, -9, 0, 2);
        // were the first label counted beside the second, there would be no room for four others
        for (int part = 3; part < 7; part++) {
            Scene.partAt(c, 4, 4, 100 * part, 0);
            Check.is(0, c.label(part, 4, 4));
        }
    }

    private static void fiveLabelsInAll() {
        ChannelRooms c = new ChannelRooms();
        for (int part = 0; part < 7; part++) {
            Scene.partAt(c, 4, 4, 100 * part, 0);
        }
        for (int part = 6; part >= 2; part--) {
            Check.is(0, c.label(part, 4, 4));
        }
        Check.is(1, c.label(0, 4, 4));
        Check.is(1, c.label(1, 4, 4));
        Check.noLabel(c, 0);
        Check.noLabel(c, 1);
        for (int part = 2; part < 7; part++) {
            Scene.labelIsAt(c, part, 100 * part + 4, 0, 0);
        }
    }

    private static void spotsOfNow() {
        ChannelRooms c = new ChannelRooms();
        c.part(20, 10);
        c.label(0, 3, 2);
        Scene.labelIsAt(c, 0, 20, 0, 0);
        c.put(0, 7, 9, 1);
        Scene.labelIsAt(c, 0, 17, 9, 0);
        c.hand(0, -MILLION, MILLION);
        Scene.labelIsAt(c, 0, 10 - MILLION, MILLION, 0);
        c.put(0, MILLION, MILLION, 2);
        Scene.labelIsAt(c, 0, MILLION + 20, MILLION, 0);
    }

    /** 20 by 10 at 10, 10, once as it is and once as 10 by 20 turned, with all spots before this one closed. */
    private static void spot(int spot, long x, long y) {
        long[][] corners = {{30, 10}, {10, 20}, {7, 10}, {10, 8}, {30, 20}, {7, 20}, {7, 8}};
        for (int turn = 0; turn < 2; turn++) {
            ChannelRooms c = new ChannelRooms();
            c.part(turn == 0 ? 20 : 10, turn == 0 ? 10 : 20);
            c.put(0, 10, 10, turn);
            for (int closed = 0; closed < spot; closed++) {
                Scene.block(c, corners[closed][0] + 1, corners[closed][1] + 1);
            }
            Check.is(0, c.label(0, 3, 2));
            Scene.labelIsAt(c, 0, x, y, spot);
        }
    }

    private static void none() {
        Check.is(-1, ChannelRooms.NONE);
        Check.is(-1, new ChannelRooms().told(0));
    }
}
