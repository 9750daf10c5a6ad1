/** What the tests build, and how they look at it. */
final class Scene {
    static final int NONE = ChannelRooms.NONE;
    static final long MILLION = 1_000_000;

    private Scene() {
    }

    /** A master 0 with part 0, 4 by 2 at 10, 0, as role 1, and part 1, 3 by 3 at 0, 5, turned once, as role 3. */
    static ChannelRooms masterWithTwo() {
        ChannelRooms c = new ChannelRooms();
        c.part(4, 2);
        c.part(3, 3);
        c.put(0, 10, 0, 0);
        c.put(1, 0, 5, 1);
        c.channel();
        c.into(0, 1, 3);
        c.into(0, 0, 1);
        return c;
    }

    /** A master 0 with part 0, 4 by 2 at 10, 20, turned so often, as role 0. */
    static ChannelRooms masterWithOne(int turn) {
        ChannelRooms c = new ChannelRooms();
        c.part(4, 2);
        c.put(0, 10, 20, turn);
        c.channel();
        c.into(0, 0, 0);
        return c;
    }

    /** Parts of 1 by 1 from number to number, the last one included. */
    static void moreParts(ChannelRooms c, int from, int to) {
        for (int number = from; number <= to; number++) {
            Check.is(number, c.part(1, 1));
        }
    }

    static void moreChannels(ChannelRooms c, int from, int to) {
        for (int number = from; number <= to; number++) {
            Check.is(number, c.channel());
        }
    }

    static int block(ChannelRooms c, long x, long y) {
        int part = c.part(1, 1);
        c.put(part, x, y, 0);
        return part;
    }

    static int partAt(ChannelRooms c, long w, long h, long x, long y) {
        int part = c.part(w, h);
        c.put(part, x, y, 0);
        return part;
    }

    static void isAt(ChannelRooms c, int part, long x, long y, int turn) {
        Check.is(x, c.at(part, 0));
        Check.is(y, c.at(part, 1));
        Check.is(turn, c.at(part, 2));
    }

    static void isMember(ChannelRooms c, int part, int channel, int role) {
        Check.is(channel, c.at(part, 3));
        Check.is(role, c.at(part, 4));
    }

    static void isByHand(ChannelRooms c, int part, boolean want) {
        Check.is(want ? 1 : 0, c.at(part, 5));
    }

    static void spotsAre(ChannelRooms c, int... spots) {
        for (int part = 0; part < spots.length; part++) {
            Check.is(spots[part], c.labelAt(part, 2));
        }
    }

    static void labelIsAt(ChannelRooms c, int part, long x, long y, int spot) {
        Check.is(x, c.labelAt(part, 0));
        Check.is(y, c.labelAt(part, 1));
        Check.is(spot, c.labelAt(part, 2));
    }

    static void toldAre(ChannelRooms c, int... parts) {
        for (int k = 0; k < parts.length; k++) {
            Check.is(parts[k], c.told(k));
        }
        Check.is(NONE, c.told(parts.length));
    }

    static void outsideAre(ChannelRooms c, int room, int... parts) {
        for (int k = 0; k < parts.length; k++) {
            Check.is(parts[k], c.outside(room, k));
        }
        Check.is(NONE, c.outside(room, parts.length));
    }

    /** A room just as large holds the part, and none that is shorter by one at any side; it takes five rooms. */
    static void hasRectangle(ChannelRooms c, int part, long x, long y, long u, long v) {
        int[] rooms = {
            c.room(x, y, u, v),
            c.room(x + 1, y, u, v), c.room(x, y + 1, u, v), c.room(x, y, u - 1, v), c.room(x, y, u, v - 1),
        };
        for (int i = 0; i < rooms.length; i++) {
            c.member(rooms[i], part);
            Check.is(i == 0 ? NONE : part, c.outside(rooms[i], 0));
        }
    }

    /** All that can be asked of an object without changing it. For few parts: it takes some nine calls for each. */
    static String picture(ChannelRooms c) {
        StringBuilder seen = new StringBuilder();
        for (int part = 0; isThere(c, part); part++) {
            for (int what = 0; what < 6; what++) {
                seen.append(c.at(part, what)).append(' ');
            }
            seen.append(label(c, part)).append('\n');
        }
        for (int k = 0; k == 0 || c.told(k - 1) != NONE; k++) {
            seen.append(c.told(k)).append(' ');
        }
        for (int room = 0; isRoom(c, room); room++) {
            for (int k = 0; k == 0 || c.outside(room, k - 1) != NONE; k++) {
                seen.append(c.outside(room, k)).append(' ');
            }
        }
        return seen.toString();
    }

    static void changesNothing(ChannelRooms c, Runnable calls) {
        String before = picture(c);
        calls.run();
        String after = picture(c);
        Check.isTrue("was\n" + before + "\nand is\n" + after, before.equals(after));
    }

    private static boolean isThere(ChannelRooms c, int part) {
        try {
            c.at(part, 0);
            return true;
        } catch (IndexOutOfBoundsException e) {
            return false;
        }
    }

    private static boolean isRoom(ChannelRooms c, int room) {
        try {
            c.outside(room, 0);
            return true;
        } catch (IndexOutOfBoundsException e) {
            return false;
        }
    }

    private static String label(ChannelRooms c, int part) {
        try {
            return c.labelAt(part, 0) + " " + c.labelAt(part, 1) + " " + c.labelAt(part, 2);
        } catch (IllegalStateException e) {
            return "no label";
        }
    }
}
