/** Promises 4 to 7: each sentence that names a boundary case. */
public final class ChannelsTest {
    private static final int NONE = Scene.NONE;
    private static final long MILLION = Scene.MILLION;

    public static void main(String[] args) {
        Sentences.run(ChannelsTest::sentences);
    }

    static void sentences(Sentences s) {
        s.below("Promise 4: channel");
        s.says("A new MASTER without members: its number;", ChannelsTest::newMaster);
        s.says("NONE when there are 20.", ChannelsTest::noneWhenThereAre20);

        s.below("Promise 5: into");
        s.says("A part becomes a member of a MASTER: true;", ChannelsTest::becomesMember);
        s.says("false, when the channel is a copy,", ChannelsTest::notIntoACopy);
        s.says("the part is a member of any channel,", ChannelsTest::notAMemberOfAny);
        s.says("or the ROLE is taken.", ChannelsTest::notATakenRole);
        s.says("IndexOutOfBoundsException, when there is no such channel,", ChannelsTest::intoNoChannel);
        s.says("or part;", ChannelsTest::noPartInto);
        s.says("IllegalArgumentException, when it is no ROLE.", ChannelsTest::noRole);

        s.below("Promise 6: copy");
        s.says("A new copy of a MASTER, not MIRRORED;", ChannelsTest::copyIsNotMirrored);
        s.says("for each member, by rising ROLES, a new part", ChannelsTest::copiedByRisingRoles);
        s.says("of its size,", ChannelsTest::copiedSize);
        s.says("with what that is FOR the copy,", ChannelsTest::copiedAsItIsForIt);
        s.says("becomes its member with that ROLE:", ChannelsTest::copiedRoles);
        s.says("the copy's number;", ChannelsTest::copyOfNothing);
        s.says("NONE, when it is a copy itself,", ChannelsTest::noCopyOfACopy);
        s.says("there are 20 channels,", ChannelsTest::noCopyWhenThereAre20);
        s.says("or there would be more than 60 parts.", ChannelsTest::noCopyBeyond60Parts);
        s.says("IndexOutOfBoundsException, when there is no such channel;", ChannelsTest::copyOfNoChannel);
        s.says("IllegalArgumentException, when dx or dy is not -1,000,000 .. 1,000,000,", ChannelsTest::copyTooFar);
        s.says("or turn not 0 .. 3.", ChannelsTest::copyWrongTurn);

        s.below("Promise 7: hand");
        s.says("A part's PLACE by HAND: whether it was another one.", ChannelsTest::whetherItWasAnother);
        s.says("(It is by HAND then, when it is a copy's member,", ChannelsTest::onlyACopysMember);
        s.says("also when it was there.)", ChannelsTest::alsoWhenItWasThere);
        s.says("IndexOutOfBoundsException, when there is no such part;", ChannelsTest::handOfNoPart);
        s.says("IllegalArgumentException, when x or y is not so.", ChannelsTest::handTooFar);
    }

    private static void newMaster() {
        ChannelRooms c = Scene.masterWithTwo();
        Check.is(1, c.channel());
        Check.is(false, c.mirror(1));
        Check.is(2, c.copy(1, 0, 0, 0));
        Check.is(2, c.part(1, 1));
        Check.is(3, c.copy(0, 0, 0, 0));
        Check.is(4, c.channel());
        for (int role = 0; role < 20; role++) {
            int part = c.part(1, 1);
            Check.is(true, c.into(4, part, role));
        }
        Scene.moreParts(c, 25, 59);
        Check.is(5, c.channel());
        Check.is(6, c.copy(5, 0, 0, 0));
    }

    private static void noneWhenThereAre20() {
        ChannelRooms c = new ChannelRooms();
        Scene.moreChannels(c, 0, 19);
        Check.is(NONE, c.channel());
        Check.is(NONE, c.channel());
        Check.noSuch(20, channel -> c.carry(channel));
        c.part(1, 1);
        Check.is(true, c.into(19, 0, 0));
        Check.is(NONE, c.channel());
        Scene.isMember(c, 0, 19, 0);

        ChannelRooms copied = Scene.masterWithTwo();
        Check.is(9, copied.array(0, 10, 1, 0, 0));
        Check.is(9, copied.array(0, 1, 10, 0, 0));
        Check.is(19, copied.channel());
        Check.is(NONE, copied.channel());
    }

    private static void becomesMember() {
        ChannelRooms c = new ChannelRooms();
        Scene.moreParts(c, 0, 59);
        Scene.moreChannels(c, 0, 19);
        c.put(59, 5, 6, 3);
        Check.is(true, c.into(0, 0, 0));
        Check.is(true, c.into(19, 59, 19));
        Scene.isMember(c, 0, 0, 0);
        Scene.isMember(c, 59, 19, 19);
        Scene.isAt(c, 59, 5, 6, 3);
        Scene.isByHand(c, 59, false);
        Check.is(true, c.into(19, 1, 18));
        Scene.isMember(c, 1, 19, 18);
    }

    private static void notIntoACopy() {
        ChannelRooms c = Scene.masterWithTwo();
        Check.is(1, c.copy(0, 0, 0, 0));
        Check.is(2, c.channel());
        Check.is(3, c.copy(2, 0, 0, 0));
        c.part(1, 1);
        Scene.changesNothing(c, () -> {
            Check.is(false, c.into(1, 4, 0));
            Check.is(false, c.into(1, 4, 1));
            Check.is(false, c.into(3, 4, 0));
            Check.is(false, c.into(3, 4, 19));
        });
        Check.is(true, c.into(2, 4, 0));
    }

    private static void notAMemberOfAny() {
        ChannelRooms c = Scene.masterWithTwo();
        c.copy(0, 0, 0, 0);
        c.channel();
        Scene.changesNothing(c, () -> {
            Check.is(false, c.into(0, 0, 1));
            Check.is(false, c.into(0, 0, 0));
            Check.is(false, c.into(2, 0, 1));
            Check.is(false, c.into(2, 1, 0));
            Check.is(false, c.into(2, 2, 5));
            Check.is(false, c.into(0, 3, 5));
        });
        // none of the refused ones took its role
        c.part(1, 1);
        Check.is(true, c.into(0, 4, 0));
        Check.is(3, c.copy(2, 0, 0, 0));
        Check.is(5, c.part(1, 1));
    }

    private static void notATakenRole() {
        ChannelRooms c = Scene.masterWithTwo();
        c.part(1, 1);
        c.part(1, 1);
        c.channel();
        Scene.changesNothing(c, () -> {
            Check.is(false, c.into(0, 2, 1));
            Check.is(false, c.into(0, 2, 3));
        });
        Check.is(true, c.into(1, 2, 1));
        Check.is(true, c.into(0, 3, 2));
        Check.is(false, c.into(0, 2, 2));
        Scene.isMember(c, 2, 1, 1);
        // the one that has the role still has it
        c.copy(0, 1000, 0, 0);
        Scene.isAt(c, 4, 1010, 0, 0);
        Scene.isMember(c, 4, 2, 1);
    }

    private static void intoNoChannel() {
        ChannelRooms c = Scene.masterWithTwo();
        c.part(1, 1);
        Scene.changesNothing(c, () -> Check.noSuch(1, channel -> c.into(channel, 2, 0)));
        // also with a part that could not become a member
        Check.noSuch(1, channel -> c.into(channel, 0, 1));
        Check.is(true, c.into(0, 2, 0));
    }

    private static void noPartInto() {
        ChannelRooms c = Scene.masterWithTwo();
        c.copy(0, 0, 0, 0);
        Scene.changesNothing(c, () -> {
            Check.noSuch(4, part -> c.into(0, part, 0));
            Check.noSuch(4, part -> c.into(0, part, 1));
            Check.noSuch(4, part -> c.into(1, part, 0));
        });
        c.part(1, 1);
        Check.is(true, c.into(0, 4, 0));
    }

    private static void noRole() {
        ChannelRooms c = Scene.masterWithTwo();
        c.copy(0, 0, 0, 0);
        c.part(1, 1);
        Scene.changesNothing(c, () -> {
            Check.onlyNumbersWithin(0, 19, role -> c.into(0, 4, role));
            Check.onlyNumbersWithin(0, 19, role -> c.into(0, 0, role));
            Check.onlyNumbersWithin(0, 19, role -> c.into(1, 4, role));
        });
        Check.is(true, c.into(0, 4, 19));
    }

    private static void copyIsNotMirrored() {
        ChannelRooms c = Scene.masterWithOne(1);
        Check.is(1, c.copy(0, 0, 0, 0));
        c.mirror(1);
        Check.is(2, c.copy(0, 0, 0, 0));
        Scene.isAt(c, 2, 10, 20, 1);
        Check.is(0, c.carry(0));
        Scene.isAt(c, 2, 10, 20, 1);
        c.mirror(2);
        Scene.isAt(c, 2, -12, 20, 3);
    }

    private static void copiedByRisingRoles() {
        ChannelRooms c = new ChannelRooms();
        c.channel();
        int[] roles = {19, 4, 0, 11};
        for (int part = 0; part < 4; part++) {
            c.part(1, 1);
            c.put(part, 100 * part, 0, 0);
            c.into(0, part, roles[part]);
        }
        Check.is(1, c.copy(0, 0, 7, 0));
        int[] originals = {2, 1, 3, 0};
        for (int i = 0; i < 4; i++) {
            Scene.isAt(c, 4 + i, 100 * originals[i], 7, 0);
            Scene.isMember(c, 4 + i, 1, roles[originals[i]]);
        }
        Check.noSuch(8, part -> c.at(part, 0));
    }

    private static void copiedSize() {
        ChannelRooms c = new ChannelRooms();
        c.channel();
        c.part(1, 1000);
        c.put(0, 5, 6, 1);
        c.into(0, 0, 0);
        c.copy(0, 0, 0, 0);
        Scene.hasRectangle(c, 1, 5, 6, 1005, 7);
        c.copy(0, 0, 0, 3);
        Scene.isAt(c, 2, 6, -1005, 0);
        Scene.hasRectangle(c, 2, 6, -1005, 7, -5);
    }

    private static void copiedAsItIsForIt() {
        ChannelRooms c = Scene.masterWithOne(0);
        c.put(0, -MILLION, MILLION, 3);
        Check.is(1, c.copy(0, -MILLION, MILLION, 0));
        Scene.isAt(c, 1, -2 * MILLION, 2 * MILLION, 3);
        Check.is(2, c.copy(0, MILLION, -MILLION, 1));
        Scene.isAt(c, 2, -4, -2 * MILLION, 0);
        Scene.isByHand(c, 1, false);
        Scene.isByHand(c, 2, false);
        Check.noLabel(c, 1);
        // the master's member stays what it is
        Scene.isAt(c, 0, -MILLION, MILLION, 3);
        Scene.isMember(c, 0, 0, 0);
    }

    private static void copiedRoles() {
        ChannelRooms c = new ChannelRooms();
        c.channel();
        for (int part = 0; part < 20; part++) {
            c.part(1, 1);
            c.into(0, part, 19 - part);
        }
        Check.is(1, c.copy(0, 0, 0, 0));
        Check.is(2, c.copy(0, 0, 0, 0));
        for (int role = 0; role < 20; role++) {
            Scene.isMember(c, 20 + role, 1, role);
            Scene.isMember(c, 40 + role, 2, role);
        }
        ChannelRooms gaps = Scene.masterWithTwo();
        gaps.part(1, 1);
        gaps.into(0, 2, 19);
        gaps.copy(0, 0, 0, 0);
        Scene.isMember(gaps, 3, 1, 1);
        Scene.isMember(gaps, 4, 1, 3);
        Scene.isMember(gaps, 5, 1, 19);
    }

    private static void copyOfNothing() {
        ChannelRooms c = new ChannelRooms();
        Check.is(0, c.channel());
        Check.is(1, c.copy(0, 0, 0, 0));
        Check.is(2, c.copy(0, 5, 5, 3));
        Check.is(3, c.channel());
        Check.noSuch(0, part -> c.at(part, 0));
        Check.is(true, c.mirror(2));
        Check.is(0, c.carry(0));
    }

    private static void noCopyOfACopy() {
        ChannelRooms c = Scene.masterWithTwo();
        c.copy(0, 5, 5, 1);
        Check.is(2, c.channel());
        Check.is(3, c.copy(2, 0, 0, 0));
        Scene.changesNothing(c, () -> {
            Check.is(NONE, c.copy(1, 0, 0, 0));
            Check.is(NONE, c.copy(3, 0, 0, 0));
        });
        Check.is(4, c.channel());
    }

    private static void noCopyWhenThereAre20() {
        ChannelRooms c = Scene.masterWithTwo();
        Scene.moreChannels(c, 1, 18);
        Check.is(19, c.copy(0, 0, 0, 0));
        Scene.changesNothing(c, () -> {
            Check.is(NONE, c.copy(0, 0, 0, 0));
            Check.is(NONE, c.copy(1, 0, 0, 0));
        });
        Check.is(4, c.part(1, 1));
        Check.noSuch(20, channel -> c.mirror(channel));
    }

    private static void noCopyBeyond60Parts() {
        ChannelRooms c = Scene.masterWithTwo();
        Scene.moreParts(c, 2, 56);
        Check.is(1, c.copy(0, 0, 0, 0));
        Check.is(NONE, c.copy(0, 0, 0, 0));
        Check.noSuch(59, part -> c.at(part, 0));
        Check.is(2, c.channel());
        Check.is(59, c.part(1, 1));
        Check.is(NONE, c.copy(0, 0, 0, 0));
        // without members there is nothing too many
        Check.is(3, c.copy(2, 0, 0, 0));

        ChannelRooms full = Scene.masterWithTwo();
        Scene.moreParts(full, 2, 57);
        Check.is(1, full.copy(0, 0, 0, 0));
        Scene.isMember(full, 59, 1, 3);
        Check.is(NONE, full.copy(0, 0, 0, 0));
    }

    private static void copyOfNoChannel() {
        ChannelRooms c = Scene.masterWithTwo();
        Scene.changesNothing(c, () -> Check.noSuch(1, master -> c.copy(master, 0, 0, 0)));
        Check.is(1, c.channel());
        Scene.moreChannels(c, 2, 19);
        Check.noSuch(20, master -> c.copy(master, 0, 0, 0));
    }

    private static void copyTooFar() {
        ChannelRooms c = Scene.masterWithTwo();
        Scene.changesNothing(c, () -> {
            Check.onlyWithin(-MILLION, MILLION, dx -> c.copy(0, dx, 0, 0));
            Check.onlyWithin(-MILLION, MILLION, dy -> c.copy(0, 0, dy, 0));
        });
        Check.is(1, c.copy(0, MILLION, -MILLION, 0));
        Check.is(2, c.copy(0, -MILLION, MILLION, 0));
        Scene.isAt(c, 2, MILLION + 10, -MILLION, 0);
        Scene.isAt(c, 4, 10 - MILLION, MILLION, 0);
        Check.onlyWithin(-MILLION, MILLION, dx -> c.copy(1, dx, 0, 0));
    }

    private static void copyWrongTurn() {
        ChannelRooms c = Scene.masterWithTwo();
        Scene.changesNothing(c, () -> Check.onlyNumbersWithin(0, 3, turn -> c.copy(0, 0, 0, turn)));
        Check.is(1, c.copy(0, 0, 0, 0));
        Check.is(2, c.copy(0, 0, 0, 3));
        Check.onlyNumbersWithin(0, 3, turn -> c.copy(1, 0, 0, turn));
    }

    private static void whetherItWasAnother() {
        ChannelRooms c = Scene.masterWithTwo();
        c.copy(0, 100, 0, 3);
        c.part(1, 1);
        for (int part = 0; part < 5; part++) {
            long turn = c.at(part, 2);
            Check.is(false, c.hand(part, c.at(part, 0), c.at(part, 1)));
            Check.is(true, c.hand(part, 77, c.at(part, 1)));
            Check.is(true, c.hand(part, 77, 78));
            Check.is(false, c.hand(part, 77, 78));
            Check.is(true, c.hand(part, 78, 77));
            Check.is(true, c.hand(part, -MILLION, MILLION));
            Scene.isAt(c, part, -MILLION, MILLION, (int) turn);
        }
    }

    private static void onlyACopysMember() {
        ChannelRooms c = Scene.masterWithTwo();
        c.copy(0, 100, 0, 0);
        c.part(1, 1);
        for (int part = 0; part < 5; part++) {
            c.hand(part, 77, 78);
            Scene.isByHand(c, part, part == 2 || part == 3);
        }
        // nor does it become so later: the master's member is carried on as ever
        c.into(0, 4, 0);
        Scene.isByHand(c, 4, false);
        Check.is(1, c.carry(0));
        Scene.isAt(c, 5, 177, 78, 0);
        Scene.isByHand(c, 5, false);
        Scene.toldAre(c, 2, 3);
    }

    private static void alsoWhenItWasThere() {
        ChannelRooms c = Scene.masterWithTwo();
        c.copy(0, 100, 0, 0);
        Check.is(false, c.hand(2, 110, 0));
        Scene.isByHand(c, 2, true);
        Scene.isByHand(c, 3, false);
        c.put(0, 11, 0, 0);
        Check.is(0, c.carry(0));
        Scene.isAt(c, 2, 110, 0, 0);
        Scene.toldAre(c, 2);
    }

    private static void handOfNoPart() {
        ChannelRooms c = Scene.masterWithTwo();
        c.copy(0, 100, 0, 0);
        Scene.changesNothing(c, () -> Check.noSuch(4, part -> c.hand(part, 1, 1)));
    }

    private static void handTooFar() {
        ChannelRooms c = Scene.masterWithTwo();
        c.copy(0, MILLION, MILLION, 0);
        Scene.changesNothing(c, () -> {
            for (int part : new int[] {0, 2}) {
                Check.onlyWithin(-MILLION, MILLION, x -> c.hand(part, x, 0));
                Check.onlyWithin(-MILLION, MILLION, y -> c.hand(part, 0, y));
            }
            // where a copy's part may lie, hand() need not be able to put it
            Check.notSo(() -> c.hand(2, c.at(2, 0), c.at(2, 1)));
        });
        Scene.isByHand(c, 2, false);
        Check.is(true, c.hand(0, MILLION, -MILLION));
        Check.is(true, c.hand(2, -MILLION, MILLION));
        Scene.isAt(c, 0, MILLION, -MILLION, 0);
        Scene.isAt(c, 2, -MILLION, MILLION, 0);
    }
}
