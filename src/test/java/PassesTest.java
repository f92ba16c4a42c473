/** Promises 19 to 23: passes and the switch. */
public final class PassesTest {
    private static final int[] NO_FOLDERS = {-1, 2, 20, Integer.MIN_VALUE, Integer.MAX_VALUE};
    private static final int[] NO_PERSONS = {-1, 8, 13, Integer.MIN_VALUE, Integer.MAX_VALUE};

    public static void main(String[] args) {
        promise19Pass();
        promise19KeepsRightsNotMappings();
        promise20IsFresh();
        promise21Turn();
        promise22RightsNow();
        promise22WhatIsKeptStays();
        promise23Gainers();
        wrongInputs();
        Check.end();
    }

    /** The folder 1 is below the folder 0; 2 has all rights on both, and 3 may read on 1. */
    private static ShareMover two() {
        ShareMover x = new ShareMover();
        x.addFolder(0, 1);
        x.allow(0, 2, true, 7, ShareMover.BOTH);
        x.allow(1, 3, true, 4, ShareMover.HERE);
        return x;
    }

    private static void promise19Pass() {
        ShareMover x = two();
        Check.is("both are new", 2, x.pass());
        Check.is("nothing changed", 0, x.pass());
        x.allow(1, 4, true, 1, ShareMover.HERE);
        Check.is("one changed", 1, x.pass());
        Check.is("and is kept", 0, x.pass());
        x.drop(0, 0);
        Check.is("both changed", 2, x.pass());
        x.addFolder(1, 3);
        Check.is("a new one", 1, x.pass());
        x.setOwner(2, 4);
        Check.is("another owner", 1, x.pass());
        x.allow(2, 4, false, 7, ShareMover.HERE);
        Check.is("what changes nobody's rights", 0, x.pass());
        x.turn(0);
        Check.is("the switch does not matter", 0, x.pass());
    }

    private static void promise19KeepsRightsNotMappings() {
        ShareMover x = new ShareMover();
        for (int person = 1; person <= 5; person++) {
            x.setMember(3, person, true);
            x.allow(0, person, true, 7, ShareMover.HERE);
        }
        x.pass();
        Check.is("the group 3", 3, x.groupOf(0));
        for (int person = 1; person <= 5; person++) {
            x.setMember(1, person, true);
        }
        Check.is("another group", 1, x.groupOf(0));
        Check.is("with the same rights", 0, x.pass());
        x.setMember(1, 5, false);
        x.setMember(3, 5, false);
        Check.is("and one named", 1 << 5, x.named(0));
        Check.is("with the same rights still", 0, x.pass());
        // Two persons change places: each set of bits is as before, and the persons are others.
        x.drop(0, 4);
        x.allow(0, 6, true, 7, ShareMover.HERE);
        Check.is("two have other rights, one folder", 1, x.pass());
    }

    private static void promise20IsFresh() {
        ShareMover x = two();
        Check.is("nothing is kept", false, x.isFresh(0));
        x.pass();
        Check.is("kept", true, x.isFresh(0));
        Check.is("kept of the other", true, x.isFresh(1));
        x.allow(1, 3, true, 2, ShareMover.HERE);
        Check.is("changed", false, x.isFresh(1));
        Check.is("not changed", true, x.isFresh(0));
        x.drop(1, 1);
        Check.is("changed back", true, x.isFresh(1));
        x.turn(1);
        x.setOwner(1, 6);
        Check.is("another owner, switched or not", false, x.isFresh(1));
        x.pass();
        Check.is("mended", true, x.isFresh(1));
        Check.is("2 is not there yet", 2, x.addFolder(1, 6));
        Check.is("new folders are not fresh", false, x.isFresh(2));
        x.setMember(0, 5, true);
        Check.is("a group that has no rights", true, x.isFresh(0));
        x.allow(0, 8, true, 1, ShareMover.HERE);
        Check.is("a group that has one", false, x.isFresh(0));
        x.setMember(0, 5, false);
        Check.is("the group is empty", true, x.isFresh(0));
    }

    private static void promise21Turn() {
        ShareMover x = two();
        Check.badState("nothing is kept", () -> Check.bit(x.turn(0)));
        x.pass();
        Check.is("switched", true, x.turn(0));
        Check.is("and back", false, x.turn(0));
        Check.is("and again", true, x.turn(0));
        x.drop(0, 0);
        Check.is("the other folder is not", 0, x.rightsNow(2, 1));
        Check.is("this one is", 7, x.rightsNow(2, 0));
        x.addFolder(0, 4);
        Check.badState("nothing is kept for the new one", () -> Check.bit(x.turn(2)));
        Check.noSuch("no such folder goes ahead", () -> Check.bit(x.turn(3)));
        x.pass();
        Check.is("kept for the new one", true, x.turn(2));
        Check.is("a folder that is not fresh can be switched", true, turnStale());
    }

    private static boolean turnStale() {
        ShareMover x = two();
        x.pass();
        x.setOwner(0, 5);
        return x.turn(0);
    }

    private static void promise22RightsNow() {
        ShareMover x = two();
        Check.is("by entries", 7, x.rightsNow(2, 0));
        x.pass();
        x.drop(0, 0);
        Check.is("by entries still", 0, x.rightsNow(2, 0));
        x.turn(0);
        Check.is("by the kept mapping", 7, x.rightsNow(2, 0));
        Check.is("by entries there", 0, x.rights(2, 0));
        Check.is("by the mapping of now", 0, x.mapped(2, 0));
        x.turn(0);
        Check.is("by entries again", 0, x.rightsNow(2, 0));
        x.turn(0);
        x.pass();
        Check.is("by what is kept now", 0, x.rightsNow(2, 0));
    }

    private static void promise22WhatIsKeptStays() {
        ShareMover x = new ShareMover();
        for (int person = 1; person <= 5; person++) {
            x.setMember(2, person, true);
        }
        x.allow(0, 10, true, 6, ShareMover.HERE);
        x.pass();
        x.turn(0);
        x.setOwner(0, 7);
        Check.is("the owner then", 7, x.rightsNow(0, 0));
        Check.is("the owner now", 0, x.rightsNow(7, 0));
        x.setMember(2, 5, false);
        x.setMember(2, 6, true);
        Check.is("in the group then", 6, x.rightsNow(5, 0));
        Check.is("in the group now", 0, x.rightsNow(6, 0));
        // A loss stays a loss: of five without a group three are named.
        ShareMover y = new ShareMover();
        for (int person = 1; person <= 5; person++) {
            y.allow(0, person, true, 4, ShareMover.HERE);
        }
        y.pass();
        y.turn(0);
        Check.is("named", 4, y.rightsNow(3, 0));
        Check.is("lost", 0, y.rightsNow(4, 0));
        Check.is("by entries", 4, y.rights(4, 0));
    }

    private static void promise23Gainers() {
        ShareMover x = two();
        Check.is("nobody by entries", 0, x.gainers(0));
        x.pass();
        x.turn(0);
        x.turn(1);
        Check.is("nobody by the mapping", 0, x.gainers(0));
        x.allow(0, 4, true, 7, ShareMover.BOTH);
        Check.is("nobody if somebody has more by entries", 0, x.gainers(0));
        x.drop(0, 0);
        Check.is("2 has what was dropped", 4, x.gainers(0));
        Check.is("2 on the folder below, too", 4, x.gainers(1));
        x.drop(1, 0);
        x.allow(1, 3, true, 3, ShareMover.HERE);
        Check.is("3 has one right less, and more others", 12, x.gainers(1));
        x.pass();
        x.drop(1, 0);
        x.allow(1, 3, true, 4, ShareMover.HERE);
        Check.is("3 has two rights less, and a higher one", 8, x.gainers(1));
        x.setOwner(0, 7);
        Check.is("the owner then", 1, x.gainers(0));
        x.turn(1);
        Check.is("nobody when it is switched back", 0, x.gainers(1));
        x.pass();
        Check.is("nobody after a pass", 0, x.gainers(0));
    }

    private static void wrongInputs() {
        ShareMover x = two();
        x.pass();
        for (int folder : NO_FOLDERS) {
            Check.noSuch("isFresh " + folder, () -> Check.bit(x.isFresh(folder)));
            Check.noSuch("turn " + folder, () -> Check.bit(x.turn(folder)));
            Check.noSuch("rightsNow on " + folder, () -> x.rightsNow(0, folder));
            Check.noSuch("gainers " + folder, () -> x.gainers(folder));
        }
        for (int person : NO_PERSONS) {
            Check.noSuch("rightsNow of " + person, () -> x.rightsNow(person, 0));
        }
    }
}
