/** Promises 1 and 5 to 12: a new object, the folders, their entries and the rights by them. What they throw is in RefusalsTest. */
public final class FoldersTest {
    private static final int[] RIGHTS = {4, 2, 1};

    public static void main(String[] args) {
        Check.promisesOf(FoldersTest.class);
        Check.end();
    }

    private static void rightsAre(ShareMover x, String what, int due, int person, int folder) {
        Check.is(what, due, x.rights(person, folder));
        Check.is(what + ", backwards", due, x.rightsBackwards(person, folder));
    }

    /** Twenty folders, each below the one before, all owned by the person 0. */
    private static ShareMover chain() {
        ShareMover x = new ShareMover();
        for (int number = 1; number < 20; number++) {
            x.addFolder(number - 1, 0);
        }
        return x;
    }

    private static void promise1NewObject() {
        ShareMover x = new ShareMover();
        Check.is("NONE", -1, ShareMover.NONE);
        Check.is("HERE", 0, ShareMover.HERE);
        Check.is("BELOW", 1, ShareMover.BELOW);
        Check.is("BOTH", 2, ShareMover.BOTH);
        Check.is("one folder", 1, x.folders());
        rightsAre(x, "its owner is 0", 7, 0, 0);
        for (int person = 1; person < 8; person++) {
            rightsAre(x, "no rights of " + person, 0, person, 0);
        }
        Check.is("its owner is 0", 0, x.setOwner(0, 0));
        Check.is("inherits", true, x.setInherits(0, true));
        Check.noSuch("has no entries", () -> x.drop(0, 0));
        Check.is("has no kept mapping to be fresh", false, x.isFresh(0));
        Check.badState("has no kept mapping", () -> Check.bit(x.turn(0)));
        Check.is("nobody gains", 0, x.gainers(0));
    }

    private static void promise1NoGroupIsInAnother() {
        ShareMover x = new ShareMover();
        for (int outer = 0; outer < 6; outer++) {
            Check.is("empty group", 0, x.members(outer));
            for (int inner = 0; inner < 6; inner++) {
                if (inner != outer) {
                    Check.is("was not in it", true, x.nest(outer, inner));
                    Check.is("and is not again", false, x.nest(outer, inner));
                }
            }
        }
    }

    private static void promise1NoGroupHasAPerson() {
        ShareMover x = new ShareMover();
        for (int group = 0; group < 6; group++) {
            for (int person = 0; person < 8; person++) {
                Check.is(group + " has not " + person, false, x.setMember(group, person, false));
            }
        }
    }

    private static void promise1ObjectsShareNothing() {
        ShareMover x = new ShareMover();
        ShareMover other = new ShareMover();
        x.setMember(0, 1, true);
        x.nest(1, 0);
        x.addFolder(0, 1);
        x.setOwner(0, 1);
        x.allow(0, 2, true, 7, ShareMover.HERE);
        x.pass();
        Check.is("no folders", 1, other.folders());
        Check.is("no groups", 0, other.members(0));
        Check.is("no groups in groups", true, other.nest(1, 0));
        Check.is("no owner", 0, other.setOwner(0, 0));
        Check.is("no entries", 0, other.rights(2, 0));
        Check.is("nothing kept", false, other.isFresh(0));
        Check.is("no mapping", 0, other.mapped(2, 0));
    }

    private static void promise5AddFolder() {
        ShareMover x = new ShareMover();
        Check.is("first", 1, x.addFolder(0, 7));
        Check.is("below it", 2, x.addFolder(1, 0));
        Check.is("beside it", 3, x.addFolder(0, 3));
        rightsAre(x, "owner of 1", 7, 7, 1);
        rightsAre(x, "owner of 2", 7, 0, 2);
        rightsAre(x, "the owner of the parent is nobody here", 0, 7, 2);
        x.allow(1, 5, true, 4, ShareMover.BELOW);
        rightsAre(x, "2 is below 1", 4, 5, 2);
        rightsAre(x, "3 is not below 1", 0, 5, 3);
        Check.is("inherits at first", true, x.setInherits(2, true));
        Check.noSuch("has no entries at first", () -> x.drop(2, 0));
        Check.badState("has no kept mapping", () -> Check.bit(x.turn(2)));
        x.setInherits(1, false);
        x.pass();
        x.turn(1);
        Check.is("below one that is cut and switched", 4, x.addFolder(1, 6));
        Check.is("it inherits all the same", true, x.setInherits(4, true));
        Check.is("it is not switched", 4, x.rightsNow(5, 4));
        Check.badState("and has nothing kept", () -> Check.bit(x.turn(4)));
    }

    private static void promise5UpToTwenty() {
        ShareMover x = new ShareMover();
        x.allow(0, 7, true, 3, ShareMover.BELOW);
        for (int number = 1; number < 20; number++) {
            Check.noSuch("not there yet: " + number, () -> x.addFolder(x.folders(), 0));
            Check.is("below the last one", number, x.addFolder(number - 1, number % 7));
            rightsAre(x, "its owner", 7, number % 7, number);
            rightsAre(x, "from all above it", 3, 7, number);
        }
        Check.badState("the 21st", () -> x.addFolder(0, 0));
        Check.badState("the 21st below the 20th", () -> x.addFolder(19, 7));
        Check.noSuch("no such parent goes ahead", () -> x.addFolder(20, 0));
        Check.noSuch("no such owner goes ahead", () -> x.addFolder(19, 8));
        Check.is("20 stay", 20, x.folders());
        ShareMover flat = new ShareMover();
        for (int number = 1; number < 20; number++) {
            Check.is("below the first one", number, flat.addFolder(0, 7));
        }
        rightsAre(flat, "the owner of the last", 7, 7, 19);
        Check.badState("the 21st below the first", () -> flat.addFolder(0, 0));
    }

    private static void promise6SetOwner() {
        ShareMover x = new ShareMover();
        Check.is("0 was it", 0, x.setOwner(0, 7));
        Check.is("7 was it", 7, x.setOwner(0, 7));
        rightsAre(x, "7 is it", 7, 7, 0);
        rightsAre(x, "0 is not", 0, 0, 0);
        x.allow(0, 7, false, 7, ShareMover.HERE);
        rightsAre(x, "nothing is denied to the owner", 7, 7, 0);
        Check.is("7 was it still", 7, x.setOwner(0, 1));
        rightsAre(x, "it is denied then", 0, 7, 0);
    }

    private static void promise6EachPersonAndFolder() {
        ShareMover x = chain();
        int before = 0;
        for (int owner = 7; owner >= 0; owner--) {
            Check.is("the owner before", before, x.setOwner(19, owner));
            before = owner;
            for (int person = 0; person < 8; person++) {
                rightsAre(x, "owner " + owner, person == owner ? 7 : 0, person, 19);
            }
        }
        x.setOwner(19, 3);
        Check.is("the folder above is left alone", 0, x.setOwner(18, 5));
        rightsAre(x, "the owner above is none below", 0, 5, 19);
        Check.is("nor is the other one changed", 3, x.setOwner(19, 3));
        Check.is("the first folder, too", 0, x.setOwner(0, 0));
    }

    private static void promise7SetInherits() {
        ShareMover x = new ShareMover();
        x.addFolder(0, 0);
        x.addFolder(1, 0);
        x.allow(0, 1, true, 4, ShareMover.BELOW);
        x.allow(1, 1, true, 2, ShareMover.BOTH);
        x.allow(2, 1, true, 1, ShareMover.BOTH);
        rightsAre(x, "of three levels", 7, 1, 2);
        Check.is("1 did inherit", true, x.setInherits(1, false));
        Check.is("1 does not", false, x.setInherits(1, false));
        rightsAre(x, "cut above 1", 3, 1, 2);
        rightsAre(x, "1 itself", 2, 1, 1);
        Check.is("2 did inherit", true, x.setInherits(2, false));
        rightsAre(x, "cut above 2", 1, 1, 2);
        Check.is("1 did not", false, x.setInherits(1, true));
        rightsAre(x, "2 is cut still", 1, 1, 2);
        Check.is("2 did not", false, x.setInherits(2, true));
        rightsAre(x, "all again", 7, 1, 2);
    }

    /** A cut folder gives its own entries to those below, and none from above it. */
    private static void promise7EachLevelCuts() {
        for (int cut = 1; cut < 20; cut++) {
            ShareMover x = chain();
            x.allow(cut - 1, 1, true, 4, ShareMover.BOTH);
            x.allow(cut, 1, true, 2, ShareMover.BOTH);
            rightsAre(x, "uncut at " + cut, 6, 1, 19);
            Check.is("it did", true, x.setInherits(cut, false));
            rightsAre(x, "cut at " + cut, 2, 1, 19);
            rightsAre(x, "the cut one itself", 2, 1, cut);
            rightsAre(x, "the one above it", 4, 1, cut - 1);
            Check.is("it did not", false, x.setInherits(cut, true));
            rightsAre(x, "uncut again at " + cut, 6, 1, 19);
        }
    }

    private static void promise7TheFolderWithoutParent() {
        ShareMover x = chain();
        x.allow(0, 1, true, 4, ShareMover.BOTH);
        Check.is("0 has no parent, and inherits", true, x.setInherits(0, false));
        rightsAre(x, "from 0 it comes all the same", 4, 1, 19);
        rightsAre(x, "0 has its own", 4, 1, 0);
        Check.is("0 does not any more", false, x.setInherits(0, false));
        Check.is("0 did not", false, x.setInherits(0, true));
        Check.is("0 does again", true, x.setInherits(0, true));
        rightsAre(x, "all the same", 4, 1, 0);
    }

    private static void promise8Allow() {
        ShareMover x = new ShareMover();
        for (int rights = 1; rights <= 6; rights++) {
            Check.is("entry " + rights, rights, x.allow(0, rights, true, rights, ShareMover.BOTH));
        }
        for (int person = 1; person <= 6; person++) {
            rightsAre(x, "person " + person, person, person, 0);
        }
        Check.badState("the 7th", () -> x.allow(0, 7, true, 7, ShareMover.HERE));
        rightsAre(x, "it is not there", 0, 7, 0);
        Check.is("there is room for it then", 1, x.drop(0, 0));
        Check.is("the 6th", 6, x.allow(0, 7, true, 7, ShareMover.HERE));
        Check.badState("the 7th again", () -> x.allow(0, 1, true, 1, ShareMover.HERE));
        x.addFolder(0, 0);
        Check.is("other folders have their own", 1, x.allow(1, 13, false, 7, ShareMover.BELOW));
        Check.is("a second one", 2, x.allow(1, 0, false, 1, ShareMover.HERE));
        Check.is("the last is behind the others", 1, x.drop(1, 1));
    }

    /** Somebody is a person, 0 to 7, or 8 and the number of a group. */
    private static void promise8Everybody() {
        for (int who = 0; who < 14; who++) {
            ShareMover x = new ShareMover();
            x.setOwner(0, who == 3 ? 4 : 3);
            for (int group = 0; group < 6; group++) {
                x.setMember(group, group, true);
                x.setMember(group, 6, group == 0);
                x.setMember(group, 7, group == 5);
            }
            Check.is("an entry for " + who, 1, x.allow(0, who, true, 5, ShareMover.HERE));
            for (int person = 0; person < 8; person++) {
                boolean meant = who < 8 ? person == who : (x.members(who - 8) & 1 << person) != 0;
                boolean owns = person == (who == 3 ? 4 : 3);
                rightsAre(x, who + " is for " + person, owns ? 7 : meant ? 5 : 0, person, 0);
            }
        }
    }

    private static void promise8EachRightsAndScope() {
        for (int rights = 1; rights <= 7; rights++) {
            for (int scope = 0; scope <= 2; scope++) {
                ShareMover x = new ShareMover();
                x.addFolder(0, 0);
                x.addFolder(1, 0);
                x.allow(1, 7, true, rights, scope);
                rightsAre(x, "above", 0, 7, 0);
                rightsAre(x, "here, scope " + scope, scope == ShareMover.BELOW ? 0 : rights, 7, 1);
                rightsAre(x, "below, scope " + scope, scope == ShareMover.HERE ? 0 : rights, 7, 2);
                Check.is("rights " + rights, rights, x.drop(1, 0));
            }
        }
    }

    private static void promise8BehindTheOthers() {
        for (int ahead = 1; ahead < 6; ahead++) {
            ShareMover x = new ShareMover();
            x.allow(0, 7, false, 1, ShareMover.HERE);
            for (int entry = 1; entry < ahead; entry++) {
                x.allow(0, 6, true, 7, ShareMover.HERE);
            }
            Check.is("how many then", ahead + 1, x.allow(0, 7, true, 3, ShareMover.HERE));
            rightsAre(x, "what is ahead decides", 2, 7, 0);
            Check.is("it is the last one", 3, x.drop(0, ahead));
            rightsAre(x, "it is gone", 0, 7, 0);
        }
    }

    /** The entry with the rights 1 is for the person 7, that with 2 for 6, and so on: rights and persons differ. */
    private static void allowSix(ShareMover x) {
        for (int rights = 1; rights <= 6; rights++) {
            x.allow(0, 8 - rights, true, rights, ShareMover.BOTH);
        }
    }

    private static void promise9Drop() {
        ShareMover x = new ShareMover();
        allowSix(x);
        Check.is("the last", 6, x.drop(0, 5));
        Check.is("the first", 1, x.drop(0, 0));
        Check.is("the one behind moved up", 2, x.drop(0, 0));
        Check.is("the middle one", 4, x.drop(0, 1));
        rightsAre(x, "its right is gone", 0, 4, 0);
        rightsAre(x, "the one ahead of it stays", 3, 5, 0);
        Check.is("behind it", 5, x.drop(0, 1));
        Check.is("what is left", 3, x.drop(0, 0));
        Check.noSuch("none is left", () -> x.drop(0, 0));
        Check.is("there is room again", 1, x.allow(0, 1, true, 7, ShareMover.HERE));
    }

    private static void promise9EachKindOfEntry() {
        for (int who = 0; who < 14; who++) {
            for (int rights = 1; rights <= 7; rights++) {
                ShareMover x = new ShareMover();
                x.allow(0, who, rights % 2 == 0, rights, (who + rights) % 3);
                Check.is("its rights, whoever it is for", rights, x.drop(0, 0));
            }
        }
    }

    private static void promise9EachEntryOfSix() {
        for (int dropped = 0; dropped < 6; dropped++) {
            ShareMover x = new ShareMover();
            x.addFolder(0, 0);
            x.allow(1, 1, true, 7, ShareMover.BOTH);
            allowSix(x);
            Check.is("the rights of " + dropped, dropped + 1, x.drop(0, dropped));
            for (int rights = 1; rights <= 6; rights++) {
                rightsAre(x, "who had " + rights, rights == dropped + 1 ? 0 : rights, 8 - rights, 0);
            }
            Check.noSuch("there are five", () -> x.drop(0, 5));
            for (int rights = 1; rights <= 6; rights++) {
                if (rights != dropped + 1) {
                    Check.is("those left, in their order", rights, x.drop(0, 0));
                }
            }
            Check.noSuch("none is left", () -> x.drop(0, 0));
            rightsAre(x, "the other folder is left alone", 7, 1, 1);
        }
    }

    private static void promise10Folders() {
        ShareMover x = new ShareMover();
        for (int number = 1; number < 20; number++) {
            Check.is("folders", number, x.folders());
            x.addFolder(0, 0);
        }
        Check.is("folders", 20, x.folders());
        Check.badState("the 21st", () -> x.addFolder(0, 0));
        Check.is("folders still", 20, x.folders());
    }

    private static void promises11And12TheFirstDecides() {
        ShareMover x = new ShareMover();
        x.allow(0, 1, false, 2, ShareMover.HERE);
        x.allow(0, 1, true, 6, ShareMover.BOTH);
        rightsAre(x, "denied first", 4, 1, 0);
        x.allow(0, 1, false, 7, ShareMover.BOTH);
        rightsAre(x, "what is behind decides what is left", 4, 1, 0);
        x.allow(0, 1, true, 1, ShareMover.BOTH);
        rightsAre(x, "1 is denied", 4, 1, 0);
        x.drop(0, 2);
        rightsAre(x, "1 is not denied", 5, 1, 0);
        x.drop(0, 0);
        rightsAre(x, "2 is not denied", 7, 1, 0);
        rightsAre(x, "others have nothing", 0, 2, 0);
        rightsAre(x, "the owner has all", 7, 0, 0);
    }

    private static void promises11And12EachRightAlone() {
        for (int right : RIGHTS) {
            ShareMover x = new ShareMover();
            rightsAre(x, "without entries", 0, 7, 0);
            x.allow(0, 7, false, right, ShareMover.HERE);
            rightsAre(x, "denied alone", 0, 7, 0);
            x.allow(0, 7, true, 7, ShareMover.HERE);
            rightsAre(x, "all but " + right, 7 - right, 7, 0);
            x.drop(0, 0);
            x.drop(0, 0);
            x.allow(0, 7, true, right, ShareMover.HERE);
            x.allow(0, 7, false, 7, ShareMover.HERE);
            rightsAre(x, "allowed ahead of it", right, 7, 0);
        }
    }

    /** A right that one entry has decided stays so, whatever others decide of other rights between. */
    private static void promises11And12WhatIsDecidedStays() {
        for (int denied : RIGHTS) {
            for (int between : RIGHTS) {
                if (between != denied) {
                    ShareMover x = new ShareMover();
                    x.allow(0, 7, false, denied, ShareMover.HERE);
                    x.allow(0, 7, true, between, ShareMover.HERE);
                    x.allow(0, 7, true, 7, ShareMover.HERE);
                    x.allow(0, 7, false, 7, ShareMover.HERE);
                    rightsAre(x, denied + " is denied ahead of " + between, 7 - denied, 7, 0);
                }
            }
        }
    }

    private static void promises11And12ScopesAndLevels() {
        ShareMover x = chain();
        x.allow(0, 1, true, 4, ShareMover.HERE);
        x.allow(0, 1, true, 2, ShareMover.BELOW);
        x.allow(0, 1, true, 1, ShareMover.BOTH);
        rightsAre(x, "HERE and BOTH", 5, 1, 0);
        rightsAre(x, "BELOW and BOTH", 3, 1, 1);
        rightsAre(x, "at nineteen levels", 3, 1, 19);
        x.allow(10, 1, false, 2, ShareMover.BELOW);
        rightsAre(x, "not on 10 itself", 3, 1, 10);
        rightsAre(x, "the nearer one decides", 1, 1, 19);
        x.allow(19, 1, true, 6, ShareMover.HERE);
        rightsAre(x, "its own one decides first", 7, 1, 19);
        x.allow(18, 1, true, 4, ShareMover.HERE);
        x.drop(19, 0);
        rightsAre(x, "HERE of the parent does not count", 1, 1, 19);
        x.allow(19, 1, true, 4, ShareMover.BELOW);
        rightsAre(x, "BELOW of its own does not count", 1, 1, 19);
        x.setInherits(15, false);
        rightsAre(x, "cut on the way", 0, 1, 19);
        x.allow(15, 1, true, 4, ShareMover.BOTH);
        rightsAre(x, "the one that is cut gives its own", 4, 1, 19);
    }

    /** Its own entries first, then the parent's, then those of the parent's parent. */
    private static void promises11And12TheOrder() {
        for (int nearest = 0; nearest < 3; nearest++) {
            ShareMover x = new ShareMover();
            x.addFolder(0, 0);
            x.addFolder(1, 0);
            for (int folder = 0; folder <= nearest; folder++) {
                boolean decides = folder == nearest;
                x.allow(folder, 6, decides, 7, ShareMover.BOTH);
                x.allow(folder, 7, !decides, 7, ShareMover.BOTH);
            }
            rightsAre(x, "allowed by the nearest", 7, 6, 2);
            rightsAre(x, "denied by the nearest", 0, 7, 2);
        }
    }

    /** All rows of all folders are full, and the one entry that is for 7 is the last that counts. */
    private static void promises11And12TheLastOfAllDecides() {
        ShareMover x = chain();
        for (int folder = 19; folder >= 0; folder--) {
            for (int entry = 0; entry < 6; entry++) {
                boolean last = folder == 0 && entry == 5;
                x.allow(folder, last ? 7 : 1 + entry, last, 7, ShareMover.BOTH);
            }
        }
        rightsAre(x, "the 120th entry", 7, 7, 19);
        rightsAre(x, "and its own folder", 7, 7, 0);
        x.drop(19, 0);
        x.allow(19, 7, false, 2, ShareMover.HERE);
        rightsAre(x, "one that is ahead of it", 5, 7, 19);
        rightsAre(x, "not one level above", 7, 7, 18);
    }

    private static void promises11And12Groups() {
        ShareMover x = new ShareMover();
        x.setMember(5, 7, true);
        x.nest(0, 5);
        x.allow(0, 8, false, 4, ShareMover.HERE);
        x.allow(0, 13, true, 6, ShareMover.HERE);
        x.allow(0, 7, true, 5, ShareMover.HERE);
        rightsAre(x, "denied by the outer group", 3, 7, 0);
        x.nest(0, 5);
        rightsAre(x, "taken out of it", 7, 7, 0);
        x.setMember(5, 7, false);
        rightsAre(x, "in no group", 5, 7, 0);
        x.setMember(0, 0, true);
        rightsAre(x, "the owner", 7, 0, 0);
        x.setMember(5, 5, true);
        rightsAre(x, "13 is the group 5, not a person", 6, 5, 0);
    }

    private static void promises11And12TheOwner() {
        ShareMover x = new ShareMover();
        x.addFolder(0, 7);
        for (int person = 0; person < 8; person++) {
            x.setMember(2, person, true);
        }
        x.allow(0, 10, false, 7, ShareMover.BOTH);
        x.allow(1, 7, false, 7, ShareMover.HERE);
        rightsAre(x, "denied in each way", 7, 7, 1);
        rightsAre(x, "not above", 0, 7, 0);
        rightsAre(x, "nor the owner above here", 0, 0, 1);
        rightsAre(x, "who has all there", 7, 0, 0);
    }

    private static void promises11And12SwitchedOrNot() {
        ShareMover x = new ShareMover();
        x.allow(0, 1, true, 4, ShareMover.HERE);
        x.pass();
        x.turn(0);
        x.allow(0, 1, true, 2, ShareMover.HERE);
        x.setOwner(0, 5);
        rightsAre(x, "by entries", 6, 1, 0);
        rightsAre(x, "the owner now", 7, 5, 0);
        rightsAre(x, "the owner then", 0, 0, 0);
        x.turn(0);
        rightsAre(x, "by entries, switched back", 6, 1, 0);
    }
}
