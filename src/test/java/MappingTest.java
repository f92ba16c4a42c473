/** Promises 13 to 18: the mapping of now. */
public final class MappingTest {
    private static final int[] NO_FOLDERS = {-1, 1, 20, Integer.MIN_VALUE, Integer.MAX_VALUE};
    private static final int[] NO_PERSONS = {-1, 8, 13, Integer.MIN_VALUE, Integer.MAX_VALUE};

    public static void main(String[] args) {
        nothingToMap();
        namesTheGreatestLosers();
        findsTheBitsAnew();
        theLeastLossWins();
        noGroupAndLowGroupsComeFirst();
        ownerAndNamedAreLeftOutOfTheSets();
        othersShareWhatAllOfThemHave();
        innerGroupsAndInheritedEntriesCount();
        wrongInputs();
        Check.end();
    }

    private static void give(ShareMover x, int who, int rights) {
        x.allow(0, who, true, rights, ShareMover.BOTH);
    }

    private static void mappingIs(ShareMover x, String what, int group, int bits, int named, int loss) {
        Check.is(what + ": groupOf (13)", group, x.groupOf(0));
        Check.is(what + ": bits (14)", bits, x.bits(0));
        Check.is(what + ": named (15)", named, x.named(0));
        Check.is(what + ": loss (17)", loss, x.loss(0));
        Check.is(what + ": lossWith its group (18)", loss, x.lossWith(0, group));
    }

    /** The rights of the persons 0 to 7 by the mapping, as digits. */
    private static void mappedIs(ShareMover x, String what, String due) {
        StringBuilder got = new StringBuilder();
        for (int person = 0; person < 8; person++) {
            got.append(x.mapped(person, 0));
        }
        Check.note(what + ": mapped (16)", due, got.toString());
    }

    private static void nothingToMap() {
        ShareMover x = new ShareMover();
        mappingIs(x, "new", ShareMover.NONE, 0, 0, 0);
        mappedIs(x, "new", "70000000");
        for (int group = ShareMover.NONE; group < 6; group++) {
            Check.is("new: lossWith " + group, 0, x.lossWith(0, group));
        }
    }

    private static void namesTheGreatestLosers() {
        ShareMover x = new ShareMover();
        give(x, 5, 7);
        give(x, 1, 1);
        mappingIs(x, "two", ShareMover.NONE, 0, 0b100010, 0);
        give(x, 3, 4);
        give(x, 2, 3);
        // 5 loses three rights, 2 loses two, and 1 and 3 one each, of which 1 is the lowest.
        mappingIs(x, "four", ShareMover.NONE, 0, 0b100110, 1);
        mappedIs(x, "four", "71300700");
        x.setOwner(0, 5);
        mappingIs(x, "5 owns it", ShareMover.NONE, 0, 0b1110, 0);
        mappedIs(x, "5 owns it", "01340700");
    }

    private static void findsTheBitsAnew() {
        ShareMover x = new ShareMover();
        x.setMember(4, 1, true);
        x.setMember(4, 2, true);
        give(x, 1, 6);
        give(x, 2, 1);
        give(x, 3, 7);
        give(x, 4, 7);
        // With the group 4: 3, 4 and 1 are named; 2 is alone in the group then and keeps its right.
        mappingIs(x, "alone then", 4, 10, 0b11010, 0);
        mappedIs(x, "alone then", "76177000");
        Check.is("without a group 2 loses its right", 1, x.lossWith(0, ShareMover.NONE));
        Check.is("with an empty one, too", 1, x.lossWith(0, 0));
        x.drop(0, 2);
        mappingIs(x, "no group is needed", ShareMover.NONE, 0, 0b10110, 0);
        x.setMember(4, 1, false);
        x.setMember(4, 2, false);
        for (int person = 3; person <= 7; person++) {
            x.setMember(4, person, true);
        }
        give(x, 3, 7);
        // The same with the others: 2 is alone among them when 3, 4 and 1 are named.
        mappingIs(x, "alone among the others", 4, 1, 0b11010, 0);
    }

    private static void theLeastLossWins() {
        ShareMover x = new ShareMover();
        for (int person = 1; person <= 6; person++) {
            x.setMember(1, person, true);
        }
        for (int person = 1; person <= 5; person++) {
            x.setMember(3, person, true);
        }
        give(x, 11, 6);
        give(x, 6, 2);
        // No group: 1, 2 and 3 are named; 4 and 5 lose two each, and 6 one.
        Check.is("no group (18)", 5, x.lossWith(0, ShareMover.NONE));
        // The group 1 shares the right 2: five lose one each, three of them are named.
        Check.is("group 1 (18)", 2, x.lossWith(0, 1));
        // The group 3 shares both rights, and 6 is named.
        Check.is("group 3 (18)", 0, x.lossWith(0, 3));
        mappingIs(x, "group 3", 3, 60, 0b1000000, 0);
        mappedIs(x, "group 3", "76666620");
        x.setMember(3, 7, true);
        x.allow(0, 7, false, 7, ShareMover.HERE);
        x.drop(0, 0);
        give(x, 9, 6);
        // 6 has both rights by the group 1 and is ahead of it allowed one; 7 is denied all.
        mappingIs(x, "group 1", 1, 60, 0, 0);
    }

    private static void noGroupAndLowGroupsComeFirst() {
        ShareMover x = new ShareMover();
        for (int person = 1; person <= 4; person++) {
            x.setMember(4, person, true);
            x.setMember(2, person, true);
        }
        give(x, 1, 7);
        give(x, 2, 7);
        give(x, 3, 7);
        mappingIs(x, "no group comes first", ShareMover.NONE, 0, 0b1110, 0);
        give(x, 4, 7);
        mappingIs(x, "the lowest of two", 2, 70, 0, 0);
        x.setMember(2, 4, false);
        // With the group 2 there is one more to be named, which costs nothing.
        mappingIs(x, "still without a loss", 2, 70, 0b10000, 0);
        x.setMember(2, 5, true);
        mappingIs(x, "5 spoils it", 4, 70, 0, 0);
    }

    private static void ownerAndNamedAreLeftOutOfTheSets() {
        ShareMover x = new ShareMover();
        x.setMember(0, 0, true);
        x.setMember(0, 7, true);
        give(x, 1, 3);
        give(x, 2, 3);
        give(x, 3, 3);
        give(x, 4, 3);
        give(x, 7, 2);
        // The owner in the group does not matter; 7 alone makes its bits.
        mappingIs(x, "owner in the group", 0, 20, 0b1110, 2);
        x.setMember(0, 7, false);
        // The group has the owner alone: there are none such.
        Check.is("the owner alone (18)", 3, x.lossWith(0, 0));
        mappingIs(x, "the owner alone", ShareMover.NONE, 0, 0b1110, 3);
        x.setOwner(0, 4);
        x.setMember(0, 4, true);
        mappingIs(x, "0 has nothing now", ShareMover.NONE, 0, 0b1110, 1);
        mappedIs(x, "0 has nothing now", "03337000");
    }

    private static void othersShareWhatAllOfThemHave() {
        ShareMover x = new ShareMover();
        for (int person = 0; person < 8; person++) {
            x.setMember(5, person, true);
        }
        give(x, 13, 5);
        mappingIs(x, "all others", ShareMover.NONE, 5, 0, 0);
        mappedIs(x, "all others", "75555555");
        x.allow(0, 6, true, 2, ShareMover.HERE);
        mappingIs(x, "one has more", ShareMover.NONE, 5, 1 << 6, 0);
        mappedIs(x, "one has more", "75555575");
        // All are in the group 5: the others are none.
        Check.is("group of all (18)", 0, x.lossWith(0, 5));
        x.drop(0, 0);
        x.allow(0, 1, false, 7, ShareMover.HERE);
        give(x, 13, 5);
        x.setMember(0, 1, true);
        mappingIs(x, "group of the one that is denied", 0, 5, 1 << 6, 0);
        mappedIs(x, "group of the one that is denied", "70555575");
    }

    private static void innerGroupsAndInheritedEntriesCount() {
        ShareMover x = new ShareMover();
        x.addFolder(0, 1);
        for (int person = 2; person <= 6; person++) {
            x.setMember(5, person, true);
        }
        x.nest(3, 5);
        give(x, 13, 4);
        Check.is("inherited: groupOf (13)", 3, x.groupOf(1));
        Check.is("inherited: bits (14)", 40, x.bits(1));
        Check.is("inherited: mapped (16)", 4, x.mapped(6, 1));
        Check.is("inherited: its own owner (16)", 7, x.mapped(1, 1));
        Check.is("inherited: not the parent's (16)", 0, x.mapped(0, 1));
        x.nest(3, 5);
        Check.is("taken out: groupOf (13)", 5, x.groupOf(1));
        Check.is("taken out: lossWith (18)", 2, x.lossWith(1, 3));
        x.setInherits(1, false);
        Check.is("cut: groupOf (13)", ShareMover.NONE, x.groupOf(1));
        Check.is("cut: bits (14)", 0, x.bits(1));
    }

    private static void wrongInputs() {
        ShareMover x = new ShareMover();
        for (int folder : NO_FOLDERS) {
            Check.noSuch("groupOf " + folder, () -> x.groupOf(folder));
            Check.noSuch("bits " + folder, () -> x.bits(folder));
            Check.noSuch("named " + folder, () -> x.named(folder));
            Check.noSuch("mapped on " + folder, () -> x.mapped(0, folder));
            Check.noSuch("loss " + folder, () -> x.loss(folder));
            Check.noSuch("lossWith of " + folder, () -> x.lossWith(folder, 0));
        }
        for (int person : NO_PERSONS) {
            Check.noSuch("mapped of " + person, () -> x.mapped(person, 0));
        }
        for (int group : new int[] {-2, 6, 8, Integer.MIN_VALUE, Integer.MAX_VALUE}) {
            Check.noSuch("lossWith " + group, () -> x.lossWith(0, group));
        }
    }
}
