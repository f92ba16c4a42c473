/** Promises 13 to 18: the mapping of now. What they throw is in RefusalsTest. */
public final class MappingTest {
    public static void main(String[] args) {
        Check.promisesOf(MappingTest.class);
        Check.end();
    }

    private static void give(ShareMover x, int who, int rights) {
        x.allow(0, who, true, rights, ShareMover.BOTH);
    }

    /**
     * The persons 0 to 7 have these rights, as digits, on the folder 1; the person 0 owns it, and has 7.
     * A row holds six entries, so those for 1 to 4 are in the folder 0, and inherited.
     */
    private static ShareMover persons(String rights) {
        ShareMover x = new ShareMover();
        x.addFolder(0, 0);
        for (int person = 1; person < 8; person++) {
            int digit = rights.charAt(person) - '0';
            if (digit > 0) {
                x.allow(person < 5 ? 0 : 1, person, true, digit, ShareMover.BOTH);
            }
        }
        return x;
    }

    private static void put(ShareMover x, int group, int... persons) {
        for (int person : persons) {
            x.setMember(group, person, true);
        }
    }

    private static void mappingIs(ShareMover x, String what, int group, int bits, int named, int loss) {
        mappingIs(x, what, 0, group, bits, named, loss);
    }

    private static void mappingIs(
            ShareMover x, String what, int folder, int group, int bits, int named, int loss) {
        Check.is(what + ": groupOf (13)", group, x.groupOf(folder));
        Check.is(what + ": bits (14)", bits, x.bits(folder));
        Check.is(what + ": named (15)", named, x.named(folder));
        Check.is(what + ": loss (17)", loss, x.loss(folder));
        Check.is(what + ": lossWith its group (18)", loss, x.lossWith(folder, group));
    }

    private static void mappedIs(ShareMover x, String what, String due) {
        mappedIs(x, what, 0, due);
    }

    /** The rights of the persons 0 to 7 by the mapping, as digits. */
    private static void mappedIs(ShareMover x, String what, int folder, String due) {
        StringBuilder got = new StringBuilder();
        for (int person = 0; person < 8; person++) {
            got.append(x.mapped(person, folder));
        }
        Check.note(what + ": mapped (16)", due, got.toString());
    }

    private static void promises13To18NothingToMap() {
        ShareMover x = new ShareMover();
        mappingIs(x, "new", ShareMover.NONE, 0, 0, 0);
        mappedIs(x, "new", "70000000");
        for (int group = ShareMover.NONE; group < 6; group++) {
            Check.is("new: lossWith " + group, 0, x.lossWith(0, group));
        }
    }

    private static void promises13To18TheGreatestLosersAreNamed() {
        ShareMover x = new ShareMover();
        give(x, 5, 7);
        give(x, 1, 1);
        mappingIs(x, "two", ShareMover.NONE, 0, 0b100010, 0);
        give(x, 3, 4);
        give(x, 2, 3);
        // 5 loses three rights, 2 loses two, and 1 and 3 one each, of which 1 is the lowest.
        mappingIs(x, "four", ShareMover.NONE, 0, 0b100110, 1);
        mappedIs(x, "four", "71300700");
        x.setOwner(0, 5);
        mappingIs(x, "5 owns it", ShareMover.NONE, 0, 0b1110, 0);
        mappedIs(x, "5 owns it", "01340700");
    }

    private static void promises13To18TheBitsAreFoundAnew() {
        ShareMover x = new ShareMover();
        put(x, 4, 1, 2);
        give(x, 1, 6);
        give(x, 2, 1);
        give(x, 3, 7);
        give(x, 4, 7);
        // With the group 4: 3, 4 and 1 are named; 2 is alone in the group then and keeps its right.
        mappingIs(x, "alone then", 4, 10, 0b11010, 0);
        mappedIs(x, "alone then", "76177000");
        Check.is("without a group 2 loses its right", 1, x.lossWith(0, ShareMover.NONE));
        Check.is("with an empty one, too", 1, x.lossWith(0, 0));
        x.drop(0, 2);
        mappingIs(x, "no group is needed", ShareMover.NONE, 0, 0b10110, 0);
        x.setMember(4, 1, false);
        x.setMember(4, 2, false);
        put(x, 4, 3, 4, 5, 6, 7);
        give(x, 3, 7);
        // The same with the others: 2 is alone among them when 3, 4 and 1 are named.
        mappingIs(x, "alone among the others", 4, 1, 0b11010, 0);
        // 1 loses two and is named; the others then share what each has, and nobody else is named.
        mappingIs(persons("73444444"), "one is named", 1, ShareMover.NONE, 4, 0b10, 0);
        mappedIs(persons("73444444"), "one is named", 1, "73444444");
        // 1 loses one, and all others two: three of them are named, and 1 spoils it for the rest.
        mappingIs(persons("71666666"), "the wrong ones are named", 1, ShareMover.NONE, 0, 0b11100, 7);
    }

    private static void promises13To18TheLeastLossWins() {
        ShareMover x = new ShareMover();
        put(x, 1, 1, 2, 3, 4, 5, 6);
        put(x, 3, 1, 2, 3, 4, 5);
        give(x, 11, 6);
        give(x, 6, 2);
        // No group: 1, 2 and 3 are named; 4 and 5 lose two each, and 6 one.
        Check.is("no group (18)", 5, x.lossWith(0, ShareMover.NONE));
        // The group 1 shares the right 2: five lose one each, three of them are named.
        Check.is("group 1 (18)", 2, x.lossWith(0, 1));
        // The group 3 shares both rights, and 6 is named.
        Check.is("group 3 (18)", 0, x.lossWith(0, 3));
        mappingIs(x, "group 3", 3, 60, 0b1000000, 0);
        mappedIs(x, "group 3", "76666620");
        x.setMember(3, 7, true);
        x.allow(0, 7, false, 7, ShareMover.HERE);
        x.drop(0, 0);
        give(x, 9, 6);
        // 6 has both rights by the group 1 and is ahead of it allowed one; 7 is denied all.
        mappingIs(x, "group 1", 1, 60, 0, 0);
    }

    private static void promises13To18NoGroupAndLowGroupsComeFirst() {
        ShareMover x = new ShareMover();
        put(x, 4, 1, 2, 3, 4);
        put(x, 2, 1, 2, 3, 4);
        give(x, 1, 7);
        give(x, 2, 7);
        give(x, 3, 7);
        mappingIs(x, "no group comes first", ShareMover.NONE, 0, 0b1110, 0);
        give(x, 4, 7);
        mappingIs(x, "the lowest of two", 2, 70, 0, 0);
        x.setMember(2, 4, false);
        // With the group 2 there is one more to be named, which costs nothing.
        mappingIs(x, "still without a loss", 2, 70, 0b10000, 0);
        x.setMember(2, 5, true);
        mappingIs(x, "5 spoils it", 4, 70, 0, 0);
    }

    private static void promises13To18OwnerAndNamedAreLeftOut() {
        ShareMover x = new ShareMover();
        put(x, 0, 0, 7);
        give(x, 1, 3);
        give(x, 2, 3);
        give(x, 3, 3);
        give(x, 4, 3);
        give(x, 7, 2);
        // The owner in the group does not matter; 7 alone makes its bits.
        mappingIs(x, "owner in the group", 0, 20, 0b1110, 2);
        x.setMember(0, 7, false);
        // The group has the owner alone: there are none such.
        Check.is("the owner alone (18)", 3, x.lossWith(0, 0));
        mappingIs(x, "the owner alone", ShareMover.NONE, 0, 0b1110, 3);
        x.setOwner(0, 4);
        x.setMember(0, 4, true);
        mappingIs(x, "0 has nothing now", ShareMover.NONE, 0, 0b1110, 1);
        mappedIs(x, "0 has nothing now", "03337000");
    }

    private static void promises13To18OthersShareWhatAllOfThemHave() {
        ShareMover x = new ShareMover();
        put(x, 5, 0, 1, 2, 3, 4, 5, 6, 7);
        give(x, 13, 5);
        mappingIs(x, "all others", ShareMover.NONE, 5, 0, 0);
        mappedIs(x, "all others", "75555555");
        x.allow(0, 6, true, 2, ShareMover.HERE);
        mappingIs(x, "one has more", ShareMover.NONE, 5, 1 << 6, 0);
        mappedIs(x, "one has more", "75555575");
        // All are in the group 5: the others are none.
        Check.is("group of all (18)", 0, x.lossWith(0, 5));
        x.drop(0, 0);
        x.allow(0, 1, false, 7, ShareMover.HERE);
        give(x, 13, 5);
        x.setMember(0, 1, true);
        mappingIs(x, "group of the one that is denied", 0, 5, 1 << 6, 0);
        mappedIs(x, "group of the one that is denied", "70555575");
    }

    private static void promises13To18InnerGroupsAndInheritedEntries() {
        ShareMover x = new ShareMover();
        x.addFolder(0, 1);
        put(x, 5, 2, 3, 4, 5, 6);
        x.nest(3, 5);
        give(x, 13, 4);
        mappingIs(x, "inherited", 1, 3, 40, 0, 0);
        mappedIs(x, "inherited", 1, "07444440");
        x.nest(3, 5);
        mappingIs(x, "taken out", 1, 5, 40, 0, 0);
        Check.is("taken out: lossWith (18)", 2, x.lossWith(1, 3));
        x.setInherits(1, false);
        mappingIs(x, "cut", 1, ShareMover.NONE, 0, 0, 0);
        mappedIs(x, "cut", 1, "07000000");
        mappingIs(x, "above the cut", 0, 5, 40, 0, 0);
        mappedIs(x, "above the cut", 0, "70444440");
    }

    private static void promises13To18ByEntriesSwitchedOrNot() {
        ShareMover x = persons("71110000");
        x.pass();
        x.turn(1);
        x.allow(1, 4, true, 6, ShareMover.HERE);
        // 4 loses two, 1, 2 and 3 one each; what is kept does not matter.
        mappingIs(x, "switched", 1, ShareMover.NONE, 0, 0b10110, 1);
        mappedIs(x, "switched", 1, "71106000");
        x.setOwner(1, 3);
        mappedIs(x, "switched, another owner", 1, "01176000");
    }

    /** Five share their rights in one group alone. */
    private static void promise13EachGroup() {
        for (int group = 0; group < 6; group++) {
            ShareMover x = persons("70055555");
            for (int other = 0; other < 6; other++) {
                put(x, other, 1 + other % 2);
            }
            x.setMember(group, 1 + group % 2, false);
            put(x, group, 3, 4, 5, 6, 7);
            mappingIs(x, "the group " + group, 1, group, 50, 0, 0);
        }
    }

    private static void promise13OfTwoTheLowest() {
        for (int low = 0; low < 6; low++) {
            for (int high = low + 1; high < 6; high++) {
                ShareMover x = persons("70055555");
                put(x, low, 3, 4, 5, 6, 7);
                put(x, high, 3, 4, 5, 6, 7);
                mappingIs(x, low + " and " + high, 1, low, 50, 0, 0);
                // With 6 and 7 left out, each of the two names them: the loss is the same, and so is the group.
                x.setMember(low, 7, false);
                x.setMember(low, 6, false);
                mappingIs(x, low + " names two", 1, low, 50, 0b11000000, 0);
            }
        }
        ShareMover x = persons("77777770");
        put(x, 1, 5, 6);
        put(x, 4, 1, 2);
        // Each group helps two of the six with all rights; three of the others are named, and one loses.
        Check.is("no group (18)", 9, x.lossWith(1, ShareMover.NONE));
        Check.is("the higher one (18)", 3, x.lossWith(1, 4));
        mappingIs(x, "two with the same loss", 1, 1, 70, 0b1110, 3);
    }

    private static void promise13NoGroupOfSeveralWithALoss() {
        ShareMover x = persons("77777770");
        mappingIs(x, "all groups are empty", 1, ShareMover.NONE, 0, 0b1110, 9);
        for (int group = 0; group < 6; group++) {
            put(x, group, 0);
        }
        mappingIs(x, "all groups have the owner alone", 1, ShareMover.NONE, 0, 0b1110, 9);
        for (int group = 0; group < 6; group++) {
            put(x, group, 0, 1, 2, 3, 4, 5, 6, 7);
        }
        mappingIs(x, "all groups have all", 1, ShareMover.NONE, 0, 0b1110, 9);
    }

    /** Four in the group and three others, each with rights of their own. */
    private static void promise14EachBits() {
        for (int ofGroup = 1; ofGroup <= 7; ofGroup++) {
            for (int ofOthers = 0; ofOthers <= 7; ofOthers++) {
                String rights = "7" + String.valueOf(ofOthers).repeat(3) + String.valueOf(ofGroup).repeat(4);
                ShareMover x = persons(rights);
                put(x, 3, 4, 5, 6, 7);
                boolean needed = x.lossWith(1, ShareMover.NONE) > 0;
                // Otherwise the three others are named at once, or nobody has a loss.
                boolean fourLoseMost = Integer.bitCount(ofGroup & ~ofOthers) > Integer.bitCount(ofOthers & ~ofGroup);
                Check.is("without a group " + rights, fourLoseMost, needed);
                if (needed) {
                    mappingIs(x, rights, 1, 3, 10 * ofGroup + ofOthers, 0, 0);
                }
                mappedIs(x, rights, 1, rights);
            }
        }
    }

    /** One of the group, or of the others, who has less than the rest. */
    private static void promise14EachPersonCounts() {
        for (int less = 0; less < 8; less++) {
            int owner = (less + 1) % 8;
            ShareMover x = new ShareMover();
            x.setOwner(0, owner);
            for (int person = 0; person < 8; person++) {
                x.setMember(2, person, true);
            }
            x.allow(0, less, false, 2, ShareMover.HERE);
            give(x, 10, 6);
            int named = lowestThree(less, owner);
            mappingIs(x, less + " of the others", ShareMover.NONE, 4, named, 3);
            Check.is(less + " of the group (18)", 3, x.lossWith(0, 2));
            x.setMember(1, less, true);
            mappingIs(x, less + " in a group", 1, 46, 0, 0);
        }
    }

    private static int lowestThree(int less, int owner) {
        int named = 0;
        for (int person = 0; Integer.bitCount(named) < 3; person++) {
            named |= person == less || person == owner ? 0 : 1 << person;
        }
        return named;
    }

    private static void promise14NobodyInTheGroup() {
        for (int rights = 0; rights <= 7; rights++) {
            ShareMover x = persons("7" + String.valueOf(rights).repeat(7));
            mappingIs(x, "all have " + rights, 1, ShareMover.NONE, rights, 0, 0);
            put(x, 0, 0);
            mappingIs(x, "a group of the owner", 1, ShareMover.NONE, rights, 0, 0);
            Check.is("with that group (18)", 0, x.lossWith(1, 0));
        }
    }

    private static void promise15HowManyAreNamed() {
        mappingIs(persons("70000000"), "nobody has a loss", 1, ShareMover.NONE, 0, 0, 0);
        mappingIs(persons("70000001"), "one", 1, ShareMover.NONE, 0, 0b10000000, 0);
        mappingIs(persons("70000021"), "two", 1, ShareMover.NONE, 0, 0b11000000, 0);
        mappingIs(persons("70000421"), "three", 1, ShareMover.NONE, 0, 0b11100000, 0);
        mappingIs(persons("70001421"), "three of four", 1, ShareMover.NONE, 0, 0b01110000, 1);
        mappingIs(persons("76666667"), "one, as all others share the rest", 1, ShareMover.NONE, 6, 0b10000000, 0);
        mappingIs(persons("76667777"), "three of four, as all share the rest", 1, ShareMover.NONE, 6, 0b01110000, 1);
    }

    private static void promise15OfSeveralTheLowest() {
        for (int rights = 1; rights <= 7; rights++) {
            String digit = String.valueOf(rights);
            int one = Integer.bitCount(rights);
            mappingIs(persons("7" + digit.repeat(6) + "0"), "the last has none", 1,
                    ShareMover.NONE, 0, 0b1110, 3 * one);
            mappingIs(persons("70" + digit.repeat(6)), "the first has none", 1,
                    ShareMover.NONE, 0, 0b11100, 3 * one);
            mappingIs(persons("7" + digit.repeat(3) + "0" + digit.repeat(3)), "the middle has none", 1,
                    ShareMover.NONE, 0, 0b1110, 3 * one);
        }
    }

    private static void promise15TheGreatestLossIsOfTheMostRights() {
        // Two rights that are low bits are more than one that is a high bit.
        mappingIs(persons("74443330"), "low bits", 1, ShareMover.NONE, 0, 0b01110000, 3);
        mappingIs(persons("74443370"), "three, then two, then two", 1, ShareMover.NONE, 0, 0b01110000, 3);
        mappingIs(persons("71243507"), "three, then the two lowest of two", 1,
                ShareMover.NONE, 0, 0b10110000, 3);
        mappingIs(persons("74447330"), "the greatest is the first of them", 1, ShareMover.NONE, 0, 0b01110000, 3);
    }

    private static void promise15NotTheOwner() {
        for (int owner = 0; owner < 8; owner++) {
            ShareMover x = new ShareMover();
            x.setOwner(0, owner);
            int first = owner == 0 ? 1 : 0;
            give(x, first, 1);
            give(x, owner, 7);
            mappingIs(x, "owner " + owner, ShareMover.NONE, 0, 1 << first, 0);
            Check.is("the owner's bits (16)", 7, x.mapped(owner, 0));
            Check.is("the named one's (16)", 1, x.mapped(first, 0));
        }
    }

    /** The owner 0, 1 to 3 named, 4 and 5 in the group, 6 and 7 neither. */
    private static void promise16EachPerson() {
        ShareMover x = persons("75736622");
        put(x, 5, 4, 5, 0);
        mappingIs(x, "each kind", 1, 5, 62, 0b1110, 0);
        mappedIs(x, "each kind", 1, "75736622");
        x.allow(1, 7, true, 1, ShareMover.HERE);
        // 3 and 7 lose one right each; 3 is the lower one.
        mappingIs(x, "one loses", 1, 5, 62, 0b1110, 1);
        mappedIs(x, "one loses", 1, "75736622");
        x.allow(0, 0, false, 7, ShareMover.BOTH);
        mappedIs(x, "the owner is denied all", 1, "75736622");
        x.setMember(5, 3, true);
        mappedIs(x, "a named one is in the group", 1, "75736622");
    }

    /** Rights are mapped so that nobody gains, and what somebody has less is the loss. */
    private static void promise16NobodyGains() {
        for (int folder = 0; folder < 20; folder++) {
            ShareMover x = States.full();
            int lost = 0;
            for (int person = 0; person < 8; person++) {
                int has = x.rights(person, folder);
                int given = x.mapped(person, folder);
                Check.is("gained by " + person + " on " + folder, 0, given & ~has);
                lost += Integer.bitCount(has) - Integer.bitCount(given);
            }
            Check.is("17: lost on " + folder, lost, x.loss(folder));
            Check.is("23: by a pass, too, on " + folder, 0, gainersByAPass(x, folder));
        }
    }

    private static int gainersByAPass(ShareMover x, int folder) {
        x.pass();
        if (!x.turn(folder)) {
            x.turn(folder);
        }
        return x.gainers(folder);
    }

    private static void promise17TheLeastAndTheGreatest() {
        mappingIs(persons("77777777"), "nothing is lost", 1, ShareMover.NONE, 7, 0, 0);
        mappingIs(persons("77777770"), "of six with all rights three lose them", 1,
                ShareMover.NONE, 0, 0b1110, 9);
        mappingIs(persons("77777700"), "of five", 1, ShareMover.NONE, 0, 0b1110, 6);
        mappingIs(persons("77777000"), "of four", 1, ShareMover.NONE, 0, 0b1110, 3);
        mappingIs(persons("77770000"), "of three", 1, ShareMover.NONE, 0, 0b1110, 0);
        mappingIs(persons("71111770"), "rights are counted, not persons", 1, ShareMover.NONE, 0, 0b1100010, 3);
        mappingIs(persons("71216450"), "one right each of three", 1, ShareMover.NONE, 0, 0b1010010, 3);
    }

    private static void promise18EachGroup() {
        ShareMover x = persons("77777770");
        for (int group = 0; group < 6; group++) {
            for (int person = 1; person <= group + 1; person++) {
                put(x, group, person);
            }
        }
        // Of the six with all rights the group has group + 1; three of the others are named.
        int[] due = {6, 3, 0, 0, 0, 0};
        Check.is("with NONE", 9, x.lossWith(1, ShareMover.NONE));
        for (int group = 0; group < 6; group++) {
            Check.is("with " + group, due[group], x.lossWith(1, group));
            Check.is("the whole is the least", 0, x.loss(1));
        }
        put(x, 5, 7);
        Check.is("with all", 9, x.lossWith(1, 5));
    }

    private static void promise18ItIsNotKept() {
        ShareMover x = persons("77777770");
        put(x, 4, 1, 2, 3, 4, 5, 6);
        x.lossWith(1, 0);
        mappingIs(x, "behind a lossWith", 1, 4, 70, 0, 0);
        Check.is("no mapping is kept by it", false, x.isFresh(1));
        Check.is("with NONE", 9, x.lossWith(1, ShareMover.NONE));
        mappedIs(x, "behind a lossWith", 1, "77777770");
        Check.is("on another folder", 3, x.lossWith(0, 5));
        mappedIs(x, "behind that of another folder", 1, "77777770");
    }

    /** Each folder has a mapping of its own. */
    private static void promises13To18OfEachFolder() {
        ShareMover x = new ShareMover();
        for (int number = 1; number < 20; number++) {
            x.addFolder(number - 1, 0);
        }
        for (int folder = 0; folder < 20; folder++) {
            x.allow(folder, 1 + folder % 7, true, 1 + folder % 6, ShareMover.HERE);
        }
        for (int folder = 0; folder < 20; folder++) {
            mappingIs(x, "folder " + folder, folder, ShareMover.NONE, 0, 1 << 1 + folder % 7, 0);
            Check.is("mapped on " + folder, 1 + folder % 6, x.mapped(1 + folder % 7, folder));
        }
    }
}
