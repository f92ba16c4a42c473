/** Promises 19 to 23: passes and the switch. What they throw is in RefusalsTest. */
public final class PassesTest {
    private static final int CHANGES = 9;

    public static void main(String[] args) {
        Check.promisesOf(PassesTest.class);
        Check.end();
    }

    /**
     * On the folder 1, which is owned by 5, 2 has 6 by the group 0 and from the folder above, and 3
     * has 3 by the group 1. Each change matters to the folder 1, and none to the folder 0.
     */
    private static ShareMover changeable() {
        ShareMover x = new ShareMover();
        x.addFolder(0, 5);
        x.setMember(0, 2, true);
        x.setMember(1, 3, true);
        x.allow(0, 8, true, 6, ShareMover.BELOW);
        x.allow(1, 9, true, 3, ShareMover.HERE);
        return x;
    }

    private static void change(ShareMover x, int kind) {
        switch (kind) {
            case 0 -> x.setMember(1, 4, true);
            case 1 -> x.setMember(0, 2, false);
            case 2 -> x.nest(0, 1);
            case 3 -> x.setOwner(1, 6);
            case 4 -> x.setInherits(1, false);
            case 5 -> x.allow(1, 7, true, 1, ShareMover.HERE);
            case 6 -> x.allow(0, 7, true, 1, ShareMover.BELOW);
            case 7 -> x.drop(1, 0);
            default -> x.drop(0, 0);
        }
    }

    private static String now(ShareMover x, int folder) {
        StringBuilder text = new StringBuilder();
        for (int person = 0; person < 8; person++) {
            text.append(x.rightsNow(person, folder));
        }
        return text.toString();
    }

    /** The folder 1 is below the folder 0; 2 has all rights on both, and 3 may read on 1. */
    private static ShareMover two() {
        ShareMover x = new ShareMover();
        x.addFolder(0, 1);
        x.allow(0, 2, true, 7, ShareMover.BOTH);
        x.allow(1, 3, true, 4, ShareMover.HERE);
        return x;
    }

    private static void promise19Pass() {
        ShareMover x = two();
        Check.is("both are new", 2, x.pass());
        Check.is("nothing changed", 0, x.pass());
        x.allow(1, 4, true, 1, ShareMover.HERE);
        Check.is("one changed", 1, x.pass());
        Check.is("and is kept", 0, x.pass());
        x.drop(0, 0);
        Check.is("both changed", 2, x.pass());
        x.addFolder(1, 3);
        Check.is("a new one", 1, x.pass());
        x.setOwner(2, 4);
        Check.is("another owner", 1, x.pass());
        x.allow(2, 4, false, 7, ShareMover.HERE);
        Check.is("what changes nobody's rights", 0, x.pass());
        x.turn(0);
        Check.is("the switch does not matter", 0, x.pass());
    }

    private static void promise19OneFolderAndTwenty() {
        ShareMover x = new ShareMover();
        Check.is("the one folder of a new object", 1, x.pass());
        Check.is("not again", 0, x.pass());
        for (int number = 1; number < 20; number++) {
            x.addFolder(number - 1, 0);
        }
        Check.is("all but that one", 19, x.pass());
        Check.is("none", 0, x.pass());
        x.allow(0, 7, true, 7, ShareMover.BELOW);
        Check.is("all below it", 19, x.pass());
        x.allow(19, 6, true, 1, ShareMover.BOTH);
        Check.is("the last", 1, x.pass());
        x.allow(0, 5, true, 1, ShareMover.HERE);
        Check.is("the first", 1, x.pass());
        x.setMember(5, 4, true);
        x.allow(0, 13, true, 7, ShareMover.BOTH);
        Check.is("all twenty", 20, x.pass());
        Check.is("none again", 0, x.pass());
    }

    private static void promises19And20EachPersonAndRight() {
        for (int person = 0; person < 8; person++) {
            for (int right = 1; right <= 4; right *= 2) {
                ShareMover x = new ShareMover();
                x.setOwner(0, (person + 1) % 8);
                x.pass();
                x.allow(0, person, true, right, ShareMover.HERE);
                Check.is("20: not fresh by " + person, false, x.isFresh(0));
                Check.is("one right more of " + person, 1, x.pass());
                x.drop(0, 0);
                Check.is("20: not fresh without " + person, false, x.isFresh(0));
                Check.is("one right less of " + person, 1, x.pass());
                Check.is("20: fresh", true, x.isFresh(0));
                Check.is("as before", 0, x.pass());
            }
        }
    }

    /** Six have all rights and 7 none: 1, 2 and 3 are named, and the others lose theirs. */
    private static ShareMover lossy() {
        ShareMover x = new ShareMover();
        x.addFolder(0, 0);
        for (int person = 1; person < 7; person++) {
            x.allow(person < 4 ? 0 : 1, person, true, 7, ShareMover.BOTH);
        }
        x.pass();
        return x;
    }

    private static void promise19OnlyRightsByTheMapping() {
        ShareMover x = lossy();
        x.drop(1, 1);
        Check.is("5 had them by entries alone", 0, x.pass());
        x.drop(1, 0);
        x.drop(1, 0);
        Check.is("4 and 6, too", 0, x.pass());
        x.drop(0, 0);
        Check.is("1 had them by the mapping of both", 2, x.pass());
    }

    private static void promise19ComparesWithThePassBefore() {
        ShareMover x = new ShareMover();
        x.pass();
        x.allow(0, 1, true, 7, ShareMover.HERE);
        x.drop(0, 0);
        Check.is("changed and changed back", 0, x.pass());
        x.turn(0);
        x.allow(0, 1, true, 7, ShareMover.HERE);
        Check.is("switched", 1, x.pass());
        x.turn(0);
        Check.is("switched back", 0, x.pass());
        x.drop(0, 0);
        Check.is("once", 1, x.pass());
        Check.is("and not twice", 0, x.pass());
    }

    private static void promise19KeepsRightsNotMappings() {
        ShareMover x = new ShareMover();
        for (int person = 1; person <= 5; person++) {
            x.setMember(3, person, true);
            x.allow(0, person, true, 7, ShareMover.HERE);
        }
        x.pass();
        Check.is("the group 3", 3, x.groupOf(0));
        for (int person = 1; person <= 5; person++) {
            x.setMember(1, person, true);
        }
        Check.is("another group", 1, x.groupOf(0));
        Check.is("with the same rights", 0, x.pass());
        x.setMember(1, 5, false);
        x.setMember(3, 5, false);
        Check.is("and one named", 1 << 5, x.named(0));
        Check.is("with the same rights still", 0, x.pass());
        // Two persons change places: each set of bits is as before, and the persons are others.
        x.drop(0, 4);
        x.allow(0, 6, true, 7, ShareMover.HERE);
        Check.is("two have other rights, one folder", 1, x.pass());
    }

    private static void promise20IsFresh() {
        ShareMover x = two();
        Check.is("nothing is kept", false, x.isFresh(0));
        x.pass();
        Check.is("kept", true, x.isFresh(0));
        Check.is("kept of the other", true, x.isFresh(1));
        x.allow(1, 3, true, 2, ShareMover.HERE);
        Check.is("changed", false, x.isFresh(1));
        Check.is("not changed", true, x.isFresh(0));
        x.drop(1, 1);
        Check.is("changed back", true, x.isFresh(1));
        x.turn(1);
        x.setOwner(1, 6);
        Check.is("another owner, switched or not", false, x.isFresh(1));
        x.pass();
        Check.is("mended", true, x.isFresh(1));
        Check.is("2 is not there yet", 2, x.addFolder(1, 6));
        Check.is("new folders are not fresh", false, x.isFresh(2));
        x.setMember(0, 5, true);
        Check.is("a group that has no rights", true, x.isFresh(0));
        x.allow(0, 8, true, 1, ShareMover.HERE);
        Check.is("a group that has one", false, x.isFresh(0));
        x.setMember(0, 5, false);
        Check.is("the group is empty", true, x.isFresh(0));
    }

    private static void promise20EachChange() {
        for (int kind = 0; kind < CHANGES; kind++) {
            ShareMover x = changeable();
            Check.is("not yet kept", false, x.isFresh(1));
            x.pass();
            Check.is("kept", true, x.isFresh(1));
            change(x, kind);
            Check.is("changed by " + kind, false, x.isFresh(1));
            Check.is("the other one is", true, x.isFresh(0));
            x.pass();
            Check.is("mended", true, x.isFresh(1));
        }
    }

    private static void promise20OnlyRightsByTheMapping() {
        ShareMover x = lossy();
        x.drop(1, 1);
        Check.is("5 had rights by entries alone", true, x.isFresh(1));
        x.drop(0, 2);
        Check.is("3 had them by the mapping", false, x.isFresh(1));
        x.allow(1, 3, true, 7, ShareMover.HERE);
        Check.is("3 has them again", true, x.isFresh(1));
        Check.is("not above", false, x.isFresh(0));
    }

    private static void promise21Turn() {
        ShareMover x = two();
        Check.badState("nothing is kept", () -> Check.bit(x.turn(0)));
        x.pass();
        Check.is("switched", true, x.turn(0));
        Check.is("and back", false, x.turn(0));
        Check.is("and again", true, x.turn(0));
        x.drop(0, 0);
        Check.is("the other folder is not", 0, x.rightsNow(2, 1));
        Check.is("this one is", 7, x.rightsNow(2, 0));
        x.addFolder(0, 4);
        Check.badState("nothing is kept for the new one", () -> Check.bit(x.turn(2)));
        Check.noSuch("no such folder goes ahead", () -> Check.bit(x.turn(3)));
        x.pass();
        Check.is("kept for the new one", true, x.turn(2));
        Check.is("a folder that is not fresh can be switched", true, turnStale());
    }

    private static boolean turnStale() {
        ShareMover x = two();
        x.pass();
        x.setOwner(0, 5);
        return x.turn(0);
    }

    private static void promise21EachFolderOfItsOwn() {
        ShareMover x = new ShareMover();
        for (int number = 1; number < 20; number++) {
            x.addFolder(number - 1, 0);
        }
        x.pass();
        x.allow(0, 7, true, 7, ShareMover.BOTH);
        for (int folder = 0; folder < 20; folder += 19) {
            Check.is("by entries", 7, x.rightsNow(7, folder));
            Check.is("switched", true, x.turn(folder));
            Check.is("by the mapping", 0, x.rightsNow(7, folder));
            Check.is("not below or above", 7, x.rightsNow(7, folder == 0 ? 1 : 18));
            Check.is("and back", false, x.turn(folder));
            Check.is("by entries again", 7, x.rightsNow(7, folder));
        }
        for (int folder = 0; folder < 20; folder++) {
            Check.is("all are switched", true, x.turn(folder));
        }
        for (int folder = 19; folder >= 0; folder--) {
            Check.is("all are switched back", false, x.turn(folder));
        }
    }

    private static void promise21NothingElseChanges() {
        ShareMover x = changeable();
        x.pass();
        x.setOwner(1, 4);
        int loss = x.loss(1);
        Check.is("switched", true, x.turn(1));
        Check.is("not fresh still", false, x.isFresh(1));
        Check.is("the owner by entries", 7, x.rights(4, 1));
        Check.is("the owner by the mapping of now", 7, x.mapped(4, 1));
        Check.is("the owner then", 7, x.rightsNow(5, 1));
        Check.is("the loss", loss, x.loss(1));
        Check.is("inherits", true, x.setInherits(1, true));
        Check.is("the owner", 4, x.setOwner(1, 4));
        Check.is("its entry", 3, x.drop(1, 0));
    }

    private static void promise22RightsNow() {
        ShareMover x = two();
        Check.is("by entries", 7, x.rightsNow(2, 0));
        x.pass();
        x.drop(0, 0);
        Check.is("by entries still", 0, x.rightsNow(2, 0));
        x.turn(0);
        Check.is("by the kept mapping", 7, x.rightsNow(2, 0));
        Check.is("by entries there", 0, x.rights(2, 0));
        Check.is("by the mapping of now", 0, x.mapped(2, 0));
        x.turn(0);
        Check.is("by entries again", 0, x.rightsNow(2, 0));
        x.turn(0);
        x.pass();
        Check.is("by what is kept now", 0, x.rightsNow(2, 0));
    }

    private static void promise22WhatIsKeptStays() {
        ShareMover x = new ShareMover();
        for (int person = 1; person <= 5; person++) {
            x.setMember(2, person, true);
        }
        x.allow(0, 10, true, 6, ShareMover.HERE);
        x.pass();
        x.turn(0);
        x.setOwner(0, 7);
        Check.is("the owner then", 7, x.rightsNow(0, 0));
        Check.is("the owner now", 0, x.rightsNow(7, 0));
        x.setMember(2, 5, false);
        x.setMember(2, 6, true);
        Check.is("in the group then", 6, x.rightsNow(5, 0));
        Check.is("in the group now", 0, x.rightsNow(6, 0));
        // A loss stays a loss: of five without a group three are named.
        ShareMover y = new ShareMover();
        for (int person = 1; person <= 5; person++) {
            y.allow(0, person, true, 4, ShareMover.HERE);
        }
        y.pass();
        y.turn(0);
        Check.is("named", 4, y.rightsNow(3, 0));
        Check.is("lost", 0, y.rightsNow(4, 0));
        Check.is("by entries", 4, y.rights(4, 0));
    }

    private static void promise22EachPersonAndFolder() {
        ShareMover x = new ShareMover();
        for (int number = 1; number < 20; number++) {
            x.addFolder(number - 1, number % 8);
        }
        for (int folder = 0; folder < 20; folder += 19) {
            for (int person = 0; person < 8; person++) {
                int due = person == folder % 8 ? 7 : 0;
                Check.is("by entries " + person, due, x.rightsNow(person, folder));
            }
        }
        x.pass();
        x.setOwner(0, 7);
        x.setOwner(19, 0);
        x.turn(0);
        x.turn(19);
        Check.note("the owner then, of the first", "70000000", now(x, 0));
        Check.note("the owner then, of the last", "00070000", now(x, 19));
        x.turn(0);
        x.turn(19);
        Check.note("the owner now, of the first", "00000007", now(x, 0));
        Check.note("the owner now, of the last", "70000000", now(x, 19));
    }

    private static void promise22LaterChangesDoNotMatter() {
        for (int kind = 0; kind < CHANGES; kind++) {
            ShareMover x = changeable();
            x.pass();
            String entries = now(x, 1);
            x.turn(1);
            String kept = now(x, 1);
            Check.note("without a loss " + kind, entries, kept);
            change(x, kind);
            Check.note("what is kept stays " + kind, kept, now(x, 1));
            x.turn(1);
            Check.is("by entries it does not " + kind, false, kept.equals(now(x, 1)));
        }
    }

    private static void promise22APassIsForSwitchedFoldersToo() {
        ShareMover x = changeable();
        x.pass();
        x.turn(1);
        Check.note("then", "00630700", now(x, 1));
        x.setOwner(1, 4);
        x.drop(0, 0);
        Check.note("kept", "00630700", now(x, 1));
        x.pass();
        Check.note("kept by the next pass", "00037000", now(x, 1));
        Check.is("switched still", false, x.turn(1));
    }

    private static void promise23NobodyAndEverybody() {
        ShareMover x = new ShareMover();
        Check.is("nobody on a new object", 0, x.gainers(0));
        for (int person = 0; person < 8; person++) {
            x.setMember(5, person, true);
        }
        x.allow(0, 13, true, 7, ShareMover.HERE);
        x.pass();
        x.turn(0);
        Check.is("nobody by a fresh mapping", 0, x.gainers(0));
        x.drop(0, 0);
        Check.is("all but the owner", 0b11111110, x.gainers(0));
        x.setOwner(0, 7);
        Check.is("all but the new owner", 0b01111111, x.gainers(0));
        x.allow(0, 13, true, 5, ShareMover.HERE);
        Check.is("all, by one right", 0b01111111, x.gainers(0));
        x.allow(0, 13, true, 2, ShareMover.HERE);
        Check.is("nobody again", 0, x.gainers(0));
    }

    private static void promise23EachPersonAndRight() {
        for (int person = 0; person < 8; person++) {
            for (int right = 1; right <= 4; right *= 2) {
                ShareMover x = new ShareMover();
                x.setOwner(0, (person + 1) % 8);
                x.allow(0, person, true, 7, ShareMover.HERE);
                x.pass();
                x.turn(0);
                x.allow(0, person, false, right, ShareMover.HERE);
                Check.is("allowed first", 0, x.gainers(0));
                x.drop(0, 0);
                x.allow(0, person, true, 7, ShareMover.HERE);
                Check.is("one right of " + person, 1 << person, x.gainers(0));
                x.pass();
                Check.is("mended", 0, x.gainers(0));
            }
        }
    }

    private static void promise23OnlyIfSwitched() {
        ShareMover x = new ShareMover();
        x.addFolder(0, 0);
        x.allow(0, 6, true, 4, ShareMover.BOTH);
        x.pass();
        x.turn(1);
        x.drop(0, 0);
        Check.is("not switched", 0, x.gainers(0));
        Check.is("switched", 1 << 6, x.gainers(1));
        Check.is("back", false, x.turn(1));
        Check.is("switched back", 0, x.gainers(1));
        x.addFolder(1, 3);
        Check.is("nothing kept", 0, x.gainers(2));
    }

    private static void promise23ByEntriesNotByTheMapping() {
        ShareMover x = lossy();
        Check.is("by entries 4 to 6 have what the mapping takes", 0, x.gainers(1));
        // What is kept has 1 to 3 named; of those who have all rights now, these are 0 to 2.
        x.turn(1);
        x.setOwner(1, 7);
        x.drop(1, 2);
        x.allow(1, 0, true, 7, ShareMover.HERE);
        Check.is("by the mapping of now 3 has none", 0, x.mapped(3, 1));
        Check.is("by entries 3 has all", 7, x.rights(3, 1));
        Check.is("nobody gains", 0, x.gainers(1));
    }

    private static void promise23Gainers() {
        ShareMover x = two();
        Check.is("nobody by entries", 0, x.gainers(0));
        x.pass();
        x.turn(0);
        x.turn(1);
        Check.is("nobody by the mapping", 0, x.gainers(0));
        x.allow(0, 4, true, 7, ShareMover.BOTH);
        Check.is("nobody if somebody has more by entries", 0, x.gainers(0));
        x.drop(0, 0);
        Check.is("2 has what was dropped", 4, x.gainers(0));
        Check.is("2 on the folder below, too", 4, x.gainers(1));
        x.drop(1, 0);
        x.allow(1, 3, true, 3, ShareMover.HERE);
        Check.is("3 has one right less, and more others", 12, x.gainers(1));
        x.pass();
        x.drop(1, 0);
        x.allow(1, 3, true, 4, ShareMover.HERE);
        Check.is("3 has two rights less, and a higher one", 8, x.gainers(1));
        x.setOwner(0, 7);
        Check.is("the owner then", 1, x.gainers(0));
        x.turn(1);
        Check.is("nobody when it is switched back", 0, x.gainers(1));
        x.pass();
        Check.is("nobody after a pass", 0, x.gainers(0));
    }

    /** An object is used for at most 512 calls: this one is filled by the first, and asked by the rest. */
    private static void promises19And23UpToThe512thCall() {
        ShareMover x = new ShareMover();
        int calls = 0;
        for (int number = 1; number < 20; number++) {
            x.addFolder(number - 1, number % 8);
            calls++;
        }
        for (int pair = 0; pair < 48; pair++) {
            x.setMember(pair / 8, pair % 8, pair % 3 != 0);
            calls++;
        }
        for (int group = 0; group < 5; group++) {
            x.nest(group, group + 1);
            calls++;
        }
        for (int entry = 0; entry < 120; entry++) {
            x.allow(entry / 6, entry % 14, true, 1 + entry % 7, ShareMover.BELOW);
            calls++;
        }
        x.pass();
        calls++;
        for (; calls < 511; calls++) {
            Check.is("nobody gains, call " + calls, 0, x.gainers(calls % 20));
        }
        Check.is("the 512th call", 0, x.pass());
    }
}
