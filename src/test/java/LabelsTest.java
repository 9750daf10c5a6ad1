/** Promises 13 and 14: each sentence that names a boundary case. */
public final class LabelsTest {
    private static final long MILLION = Scene.MILLION;

    public static void main(String[] args) {
        Sentences.run(LabelsTest::sentences);
    }

    static void sentences(Sentences s) {
        s.below("Promise 13: label");
        s.says("A part gets a LABEL of w by h", LabelsTest::leastAndLargestLabels);
        s.says("(its old one is gone first):", LabelsTest::oldOneIsGoneFirst);
        s.says("of all ways to put all LABELS at SPOTS,", LabelsTest::everyoneMakesWay);
        s.says("where none has an inner point in common with a part's RECTANGLE,", LabelsTest::clearOfParts);
        s.says("where none has an inner point in common with a part's RECTANGLE,", LabelsTest::clearOfEveryPart);
        s.says("or another LABEL,", LabelsTest::clearOfLabels);
        s.says("that in which the fewest others change their SPOTS;", LabelsTest::fewestChange);
        s.says("that in which the fewest others change their SPOTS;", LabelsTest::oneChangeAndNotTwo);
        s.says("of several that in which the LABEL of the lowest part has the lowest SPOT,", LabelsTest::lowestPartFirst);
        s.says("of these that of the second one, and so on:", LabelsTest::thenTheSecond);
        s.says("0.", LabelsTest::alsoTheLastWay);
        s.says("When there is none such,", LabelsTest::noneSuch);
        s.says("When there is none such,", LabelsTest::noneSuchForAnother);
        s.says("or 5 others: 1,", LabelsTest::fiveOthers);
        s.says("and the part has no LABEL", LabelsTest::refusedHasNoLabel);
        s.says("(the others stay).", LabelsTest::othersStay);
        s.says("IndexOutOfBoundsException, when there is no such part;", LabelsTest::labelOfNoPart);
        s.says("IllegalArgumentException, when w or h is not 1 .. 1,000.", LabelsTest::wrongSizes);

        s.below("Promise 14: labelAt");
        s.says("Where a part's LABEL is now, x (axis 0), y (1), or its SPOT (2).", LabelsTest::whereItIsNow);
        s.says("IndexOutOfBoundsException, when there is no such part,", LabelsTest::labelAtOfNoPart);
        s.says("or axis;", LabelsTest::noAxis);
        s.says("IllegalStateException, when it has none.", LabelsTest::hasNone);
    }

    private static void leastAndLargestLabels() {
        ChannelRooms c = new ChannelRooms();
        long far = MILLION - 4;
        Scene.partAt(c, 4, 4, far, far);
        Scene.block(c, MILLION, far);
        Scene.block(c, far, MILLION);
        Check.is(0, c.label(0, 1, 1));
        Scene.labelIsAt(c, 0, far - 1, far, 2);
        Check.is(0, c.label(0, 1000, 1000));
        Scene.labelIsAt(c, 0, far - 1000, far, 2);
        c.put(0, -MILLION, -MILLION, 0);
        Scene.labelIsAt(c, 0, -MILLION - 1000, -MILLION, 2);

        ChannelRooms last = new ChannelRooms();
        Scene.moreParts(last, 0, 59);
        last.put(59, 50, 50, 0);
        Check.is(0, last.label(59, 1, 1));
        Scene.labelIsAt(last, 59, 51, 50, 0);
    }

    /** It neither stands in the way, nor counts among the five, nor is there a spot that the part would keep. */
    private static void oldOneIsGoneFirst() {
        ChannelRooms c = new ChannelRooms();
        c.part(4, 4);
        int block = Scene.block(c, 5, 1);
        Check.is(0, c.label(0, 4, 4));
        Scene.labelIsAt(c, 0, 0, 4, 1);
        Check.is(0, c.label(0, 4, 4));
        Scene.labelIsAt(c, 0, 0, 4, 1);
        c.put(block, 500, 0, 0);
        Scene.labelIsAt(c, 0, 0, 4, 1);
        Check.is(0, c.label(0, 4, 4));
        Scene.labelIsAt(c, 0, 4, 0, 0);
        for (int part = 2; part < 6; part++) {
            Scene.partAt(c, 4, 4, 1000 * part, 0);
            Check.is(0, c.label(part, 4, 4));
        }
        for (int part : new int[] {5, 0, 3}) {
            Check.is(0, c.label(part, 9, 9));
            Check.is(0, c.labelAt(part, 2));
        }
        // its size is gone too: what the small one leaves free is enough for another label now
        Scene.partAt(c, 4, 4, 5005, 0);
        Check.is(0, c.label(5, 1, 1));
    }

    /** Parts in a row with only the gaps between them free: all four others have to move, by one gap each. */
    private static void everyoneMakesWay() {
        ChannelRooms c = corridor(5);
        for (int part = 0; part < 4; part++) {
            Check.is(0, c.label(part, 4, 4));
            Check.is(0, c.labelAt(part, 2));
        }
        int end = Scene.block(c, 37, 1);
        Check.is(0, c.label(4, 4, 4));
        Scene.spotsAre(c, 2, 2, 2, 2, 2);
        c.put(end, 0, 500, 0);
        Scene.block(c, -3, 1);
        Check.is(0, c.label(0, 4, 4));
        Scene.spotsAre(c, 0, 0, 0, 0, 0);
    }

    private static void clearOfParts() {
        // a label of 4 by 4 at spot 0 is from 4, 0 to 8, 4: these only touch it
        long[][] touching = {
            {8, 1, 2, 2}, {5, 4, 2, 2}, {5, -2, 2, 2}, {8, 4, 2, 2}, {8, -2, 2, 2}, {8, -500, 1, 1000},
        };
        for (long[] other : touching) {
            Check.is(0, spotBeside(other));
        }
        // and these have inner points in common: by one at each side, within it, around it, and across it
        long[][] common = {
            {7, 1, 2, 2}, {5, 3, 2, 2}, {5, -1, 2, 2}, {7, 3, 2, 2}, {7, -1, 2, 2}, {5, 1, 1, 1}, {4, 0, 4, 4}, {3, -1, 6, 6},
            {2, 1, 10, 1}, {5, -9, 1, 20},
        };
        for (long[] other : common) {
            Check.isTrue("on a part", spotBeside(other) != 0);
        }
    }

    private static long spotBeside(long[] other) {
        ChannelRooms c = new ChannelRooms();
        c.part(4, 4);
        Scene.partAt(c, other[2], other[3], other[0], other[1]);
        Check.is(0, c.label(0, 4, 4));
        return c.labelAt(0, 2);
    }

    /** Turned ones, members of masters and of copies, the last one of 60; each where it is now. */
    private static void clearOfEveryPart() {
        ChannelRooms c = new ChannelRooms();
        c.part(4, 4);
        c.part(1, 6);
        c.put(1, 1, 1, 1);
        Check.is(0, c.label(0, 4, 4));
        Check.is(1, c.labelAt(0, 2));
        c.put(1, 9, -5, 0);
        Check.is(0, c.label(0, 4, 4));
        Check.is(0, c.labelAt(0, 2));
        c.channel();
        c.into(0, 1, 0);
        c.copy(0, -4, 0, 0);
        Check.is(0, c.label(0, 4, 4));
        Check.is(1, c.labelAt(0, 2));
        c.hand(2, 1, 5);
        Check.is(0, c.label(0, 4, 4));
        Check.is(0, c.labelAt(0, 2));
        Scene.moreParts(c, 3, 59);
        Check.is(0, c.label(0, 4, 4));
        Check.is(0, c.labelAt(0, 2));
        c.put(59, 7, 3, 0);
        Check.is(0, c.label(0, 4, 4));
        Check.is(2, c.labelAt(0, 2));
        clearOfTheFirstPart();
    }

    private static void clearOfTheFirstPart() {
        ChannelRooms c = new ChannelRooms();
        Scene.block(c, 5, 1);
        c.part(4, 4);
        Check.is(0, c.label(1, 4, 4));
        Scene.labelIsAt(c, 1, 0, 4, 1);
        c.put(0, 1, 5, 0);
        Check.is(0, c.label(1, 4, 4));
        Scene.labelIsAt(c, 1, 4, 0, 0);
        // and clear of it for the label of a part before it
        c.part(4, 4);
        c.put(1, 500, 500, 0);
        Check.is(0, c.label(2, 4, 4));
        Scene.labelIsAt(c, 2, 4, 0, 0);
    }

    private static void clearOfLabels() {
        long[][] touching = {{4, -4}, {-4, 4}, {0, 8}, {0, -8}, {4, 8}, {4, -8}};
        for (long[] place : touching) {
            ChannelRooms c = twoLabelled(place[0], place[1]);
            Scene.spotsAre(c, 0, 0);
        }
        // one less, and the second label is at another spot, as the first one stays
        long[][] common = {{3, -4}, {-3, 4}, {0, 7}, {0, -7}, {-3, 7}, {3, -7}};
        for (long[] place : common) {
            ChannelRooms c = twoLabelled(place[0], place[1]);
            Check.is(0, c.labelAt(0, 2));
            Check.isTrue("on a label", c.labelAt(1, 2) != 0);
        }
    }

    /** Two parts of 4 by 4, each with a label of 4 by 8: at their spots 0 these are as far from each other as the parts. */
    private static ChannelRooms twoLabelled(long x, long y) {
        ChannelRooms c = new ChannelRooms();
        c.part(4, 4);
        Scene.partAt(c, 4, 4, x, y);
        Check.is(0, c.label(0, 4, 8));
        Check.is(0, c.label(1, 4, 8));
        return c;
    }

    /** None changes where none has to, though lower spots have become free; a part that comes to lie on a label moves it. */
    private static void fewestChange() {
        ChannelRooms c = new ChannelRooms();
        Scene.partAt(c, 4, 4, 0, 0);
        Scene.partAt(c, 4, 4, 100, 0);
        Scene.partAt(c, 4, 4, 200, 0);
        int block = Scene.block(c, 5, 1);
        int other = Scene.block(c, 105, 1);
        c.label(0, 4, 4);
        c.label(1, 4, 4);
        Scene.spotsAre(c, 1, 1);
        c.put(block, 0, 500, 0);
        c.put(other, 0, 500, 0);
        Check.is(0, c.label(2, 4, 4));
        Scene.spotsAre(c, 1, 1, 0);
        c.put(block, 1, 5, 0);
        Check.is(0, c.label(2, 4, 4));
        Scene.spotsAre(c, 0, 1, 0);
        // the label that is given is none of the others
        Check.is(0, c.label(1, 4, 4));
        Scene.spotsAre(c, 0, 0, 0);
    }

    /** With two changes the label of part 0 would have a lower spot; one change is enough. */
    private static void oneChangeAndNotTwo() {
        ChannelRooms c = corridor(3);
        c.put(0, 0, 1000, 0);
        int block = Scene.block(c, 5, 1001);
        Check.is(0, c.label(0, 4, 4));
        Check.is(0, c.label(1, 4, 4));
        Scene.spotsAre(c, 1, 0);
        Scene.block(c, 21, 1);
        c.put(block, 0, 500, 0);
        Check.is(0, c.label(2, 4, 4));
        Scene.spotsAre(c, 1, 2, 2);
    }

    /**
     * Part 2 has two spots, one held by the label of part 0 and one by that of part 1: one of the two has to go. As
     * long as part 0 has no lower spot than the one it holds its label stays; with a lower one free its label goes there.
     */
    private static void lowestPartFirst() {
        ChannelRooms stays = contested(0);
        Check.is(0, stays.label(2, 4, 4));
        Scene.spotsAre(stays, 2, 4, 1);

        ChannelRooms goes = contested(0);
        goes.put(3, 0, 500, 0);
        Check.is(0, goes.label(2, 4, 4));
        Scene.spotsAre(goes, 0, 3, 0);
    }

    /** The same for the parts 1, 2 and 3, while the label of part 0 is far off and the same in all ways. */
    private static void thenTheSecond() {
        ChannelRooms stays = contested(1);
        Check.is(0, stays.label(3, 4, 4));
        Scene.spotsAre(stays, 0, 2, 4, 1);

        ChannelRooms goes = contested(1);
        goes.put(4, 0, 500, 0);
        Check.is(0, goes.label(3, 4, 4));
        Scene.spotsAre(goes, 0, 0, 3, 0);
        thenTheThird();
    }

    /** The labels of three parts have to change their spots, each to the lowest that the ones before it leave free. */
    private static void thenTheThird() {
        ChannelRooms c = new ChannelRooms();
        for (int part = 0; part < 4; part++) {
            Scene.partAt(c, 4, 4, 100 * part, 0);
            Check.is(0, c.label(part, 4, 4));
        }
        for (int part = 1; part < 4; part++) {
            Scene.block(c, 100 * part + 5, 1);
        }
        Scene.block(c, 201, 5);
        Check.is(0, c.label(0, 4, 4));
        Scene.spotsAre(c, 0, 1, 2, 1);
    }

    /**
     * Four parts: two beside each other, one below and one above, and blocks around. Behind 'before' parts far off the
     * first holds its spot 2, the second its spot 3, and these are the only spots of the third; the next part after
     * these three closes spot 0 of the first.
     */
    private static ChannelRooms contested(int before) {
        ChannelRooms c = new ChannelRooms();
        for (int part = 0; part < before; part++) {
            Scene.partAt(c, 4, 4, 0, -1000);
            c.label(part, 4, 4);
        }
        Scene.partAt(c, 4, 4, 8, 0);
        Scene.partAt(c, 4, 4, 0, 8);
        Scene.partAt(c, 4, 4, 0, 0);
        long[][] blocks = {
            {13, 1}, {9, 5}, {5, 9}, {1, 13}, {-3, 9}, {-3, 1}, {1, -3}, {5, 5}, {-3, 5}, {-3, -3}, {5, -3},
        };
        for (long[] block : blocks) {
            Scene.block(c, block[0], block[1]);
        }
        Check.is(0, c.label(before, 4, 4));
        Check.is(0, c.label(before + 1, 4, 4));
        Check.is(2, c.labelAt(before, 2));
        Check.is(3, c.labelAt(before + 1, 2));
        return c;
    }

    /** Spot 7, the last one, is as good as any when the others are closed. */
    private static void alsoTheLastWay() {
        ChannelRooms c = new ChannelRooms();
        c.part(4, 4);
        long[][] blocks = {{5, 1}, {1, 5}, {-3, 1}, {1, -3}, {5, 5}, {-3, 5}, {-3, -3}};
        for (long[] block : blocks) {
            Scene.block(c, block[0], block[1]);
        }
        Check.is(0, c.label(0, 4, 4));
        Scene.labelIsAt(c, 0, 4, -4, 7);
        Scene.block(c, 5, -3);
        Check.is(1, c.label(0, 4, 4));
        Check.is(0, c.label(0, 1, 1));
    }

    private static void noneSuch() {
        ChannelRooms covered = new ChannelRooms();
        covered.part(4, 4);
        Scene.partAt(covered, 6, 6, -1, -1);
        Check.is(1, covered.label(0, 1, 1));
        Check.is(1, covered.label(0, 1000, 1000));
        covered.put(1, 0, -1, 0);
        Check.is(0, covered.label(0, 1, 1));
        Check.is(2, covered.labelAt(0, 2));
        oneGapForTwo();
        oneGapLeftForTwo();
    }

    private static void oneGapForTwo() {
        ChannelRooms c = corridor(2);
        Scene.block(c, -3, 1);
        Scene.block(c, 13, 1);
        Check.is(0, c.label(0, 4, 4));
        Check.is(1, c.label(1, 4, 4));
        Check.noLabel(c, 1);
        Scene.spotsAre(c, 0);
        // of half the width both have place there, each at its end of the gap
        Check.is(0, c.label(0, 2, 4));
        Check.is(0, c.label(1, 2, 4));
        Scene.spotsAre(c, 0, 2);
    }

    /** Both had their labels before the outer gaps were closed. */
    private static void oneGapLeftForTwo() {
        ChannelRooms c = corridor(2);
        Check.is(0, c.label(0, 4, 4));
        Check.is(0, c.label(1, 4, 4));
        Scene.spotsAre(c, 0, 0);
        Scene.block(c, -3, 1);
        Scene.block(c, 13, 1);
        Check.is(1, c.label(1, 4, 4));
        Check.noLabel(c, 1);
        Scene.spotsAre(c, 0);
        Check.is(1, c.label(1, 4, 4));
        Check.is(0, c.label(0, 4, 4));
    }

    /** A part far off gets no label either as long as the label of another one has no spot left. */
    private static void noneSuchForAnother() {
        ChannelRooms c = new ChannelRooms();
        c.part(4, 4);
        Scene.partAt(c, 4, 4, 5000, 0);
        Check.is(0, c.label(0, 4, 4));
        int cover = Scene.partAt(c, 12, 12, -4, -4);
        Check.is(1, c.label(1, 4, 4));
        Check.noLabel(c, 1);
        Scene.labelIsAt(c, 0, 4, 0, 0);
        c.put(cover, 0, -500, 0);
        Check.is(0, c.label(1, 4, 4));
        Scene.spotsAre(c, 0, 0);
    }

    private static void fiveOthers() {
        ChannelRooms c = new ChannelRooms();
        for (int part = 0; part < 7; part++) {
            Scene.partAt(c, 4, 4, 100 * part, 0);
        }
        for (int part = 1; part < 6; part++) {
            Check.is(0, c.label(part, 4, 4));
        }
        Check.is(1, c.label(0, 1, 1));
        Check.is(1, c.label(6, 1, 1));
        // four others and its own are not five others
        Check.is(0, c.label(3, 1, 1));
        // and once one of the five is gone there is room for another one
        Scene.partAt(c, 6, 6, 99, -1);
        Check.is(1, c.label(1, 4, 4));
        Check.is(0, c.label(6, 4, 4));
        Check.is(1, c.label(0, 4, 4));
        Check.noLabel(c, 0);
        Check.noLabel(c, 1);
    }

    private static void refusedHasNoLabel() {
        ChannelRooms c = new ChannelRooms();
        c.part(4, 4);
        Check.is(0, c.label(0, 4, 4));
        Scene.partAt(c, 6, 6, -1, -1);
        Scene.labelIsAt(c, 0, 4, 0, 0);
        Check.is(1, c.label(0, 4, 4));
        Check.noLabel(c, 0);
        c.put(1, 500, 500, 0);
        Check.noLabel(c, 0);
        // what is not there is in nobody's way
        Scene.partAt(c, 4, 4, 0, 0);
        Check.is(0, c.label(2, 4, 4));
        Scene.labelIsAt(c, 2, 4, 0, 0);
    }

    /** Also where they could have lower spots, and where parts have come to lie on them. */
    private static void othersStay() {
        ChannelRooms c = corridor(3);
        Check.is(0, c.label(0, 4, 4));
        Check.is(0, c.label(1, 4, 4));
        Scene.block(c, 21, 1);
        Scene.block(c, -3, 1);
        Check.is(1, c.label(2, 4, 4));
        Scene.spotsAre(c, 0, 0);
        Scene.labelIsAt(c, 1, 12, 0, 0);

        ChannelRooms five = new ChannelRooms();
        for (int part = 0; part < 6; part++) {
            Scene.partAt(five, 4, 4, 100 * part, 0);
        }
        int[] blocks = new int[5];
        for (int part = 0; part < 5; part++) {
            blocks[part] = Scene.block(five, 100 * part + 5, 1);
            Check.is(0, five.label(part, 4, 4));
        }
        five.put(blocks[1], 0, 5000, 0);
        five.put(blocks[2], 201, 5, 0);
        Scene.spotsAre(five, 1, 1, 1, 1, 1);
        Scene.changesNothing(five, () -> Check.is(1, five.label(5, 4, 4)));
        Scene.partAt(five, 12, 12, 396, -4);
        Check.is(1, five.label(4, 4, 4));
        Scene.spotsAre(five, 1, 1, 1, 1);
    }

    private static void labelOfNoPart() {
        ChannelRooms c = Scene.masterWithTwo();
        c.label(0, 4, 4);
        Scene.changesNothing(c, () -> Check.noSuch(2, part -> c.label(part, 1, 1)));
        for (int part = 2; part < 7; part++) {
            Scene.partAt(c, 4, 4, 100 * part, 0);
            Check.is(part < 6 ? 0 : 1, c.label(part, 4, 4));
        }
        Check.noSuch(7, part -> c.label(part, 1, 1));
    }

    private static void wrongSizes() {
        ChannelRooms c = Scene.masterWithTwo();
        c.label(0, 4, 4);
        Scene.changesNothing(c, () -> {
            for (int part = 0; part < 2; part++) {
                int asked = part;
                Check.onlyWithin(1, 1000, w -> c.label(asked, w, 4));
                Check.onlyWithin(1, 1000, h -> c.label(asked, 4, h));
            }
            Check.notSo(() -> c.label(0, 0, 0));
            Check.notSo(() -> c.label(0, 1001, 1001));
        });
        Check.is(0, c.label(0, 1, 1000));
        Check.is(0, c.label(1, 1000, 1));
    }

    private static void whereItIsNow() {
        ChannelRooms c = new ChannelRooms();
        c.part(4, 2);
        c.put(0, 10, 20, 0);
        c.channel();
        c.into(0, 0, 0);
        c.copy(0, 100, 0, 0);
        Scene.block(c, 115, 21);
        Scene.block(c, 111, 23);
        Check.is(0, c.label(1, 7, 3));
        Scene.labelIsAt(c, 1, 103, 20, 2);
        c.put(0, 11, 21, 1);
        c.carry(0);
        Scene.labelIsAt(c, 1, 104, 21, 2);
        c.mirror(1);
        Scene.labelIsAt(c, 1, 80, 21, 2);
        c.hand(1, -MILLION, MILLION);
        Scene.labelIsAt(c, 1, -MILLION - 7, MILLION, 2);
        Check.is(0, c.label(1, 7, 3));
        Scene.labelIsAt(c, 1, 2 - MILLION, MILLION, 0);
        c.put(1, 0, 0, 0);
        Scene.labelIsAt(c, 1, 4, 0, 0);
    }

    private static void labelAtOfNoPart() {
        ChannelRooms c = Scene.masterWithTwo();
        c.label(0, 4, 4);
        for (int axis = 0; axis < 3; axis++) {
            int asked = axis;
            Check.noSuch(2, part -> c.labelAt(part, asked));
        }
        Check.outOfBounds(() -> c.labelAt(2, 3));
    }

    private static void noAxis() {
        ChannelRooms c = Scene.masterWithTwo();
        c.label(0, 4, 4);
        Scene.changesNothing(c, () -> Check.noSuch(3, axis -> c.labelAt(0, axis)));
    }

    private static void hasNone() {
        ChannelRooms c = Scene.masterWithTwo();
        Check.noLabel(c, 0);
        c.label(0, 4, 4);
        Check.noLabel(c, 1);
        Check.is(1, c.channel());
        c.copy(0, 1000, 0, 0);
        // a copy's part has not the label of the one that it was made after
        Check.noLabel(c, 2);
        Scene.labelIsAt(c, 0, 14, 0, 0);
    }

    /** Parts of 4 by 4 in a row, 4 from each other; long ones above and below close all spots but 0 and 2 of each. */
    private static ChannelRooms corridor(int howMany) {
        ChannelRooms c = new ChannelRooms();
        for (int part = 0; part < howMany; part++) {
            Scene.partAt(c, 4, 4, 8 * part, 0);
        }
        Scene.partAt(c, 1000, 1, -500, 5);
        Scene.partAt(c, 1000, 1, -500, -2);
        return c;
    }
}
