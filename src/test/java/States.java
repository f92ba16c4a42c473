/** Objects to begin with. */
final class States {
    private States() {
    }

    /** Three folders, of which 1 is switched and not fresh and 2 has no kept mapping; two groups, one in the other. */
    static ShareMover few() {
        ShareMover x = new ShareMover();
        x.addFolder(0, 3);
        x.setMember(0, 1, true);
        x.setMember(0, 2, true);
        x.setMember(4, 5, true);
        x.nest(0, 4);
        x.allow(0, 8, true, 6, ShareMover.BOTH);
        x.allow(0, 6, true, 1, ShareMover.HERE);
        x.allow(1, 2, false, 4, ShareMover.HERE);
        x.allow(1, 7, true, 5, ShareMover.BELOW);
        x.pass();
        x.turn(1);
        x.allow(1, 12, false, 2, ShareMover.BOTH);
        x.addFolder(1, 7);
        x.setInherits(0, false);
        return x;
    }

    /** All 20 folders, each with 6 entries and below the one before; each group in the one before. */
    static ShareMover full() {
        ShareMover x = new ShareMover();
        for (int group = 0; group < 6; group++) {
            x.setMember(group, group, true);
            x.setMember(group, 7, group > 3);
        }
        for (int group = 0; group < 5; group++) {
            x.nest(group, group + 1);
        }
        for (int folder = 0; folder < 20; folder++) {
            if (folder == 19) {
                x.pass();
            }
            if (folder > 0) {
                x.addFolder(folder - 1, folder % 8);
            }
            for (int entry = 0; entry < 6; entry++) {
                int mix = folder * 5 + entry * 3;
                x.allow(folder, mix % 14, mix % 5 != 0, 1 + mix % 7, (folder + entry) % 3);
            }
        }
        for (int folder = 0; folder < 19; folder += 2) {
            x.turn(folder);
        }
        x.setInherits(7, false);
        x.setOwner(12, 2);
        x.setMember(3, 6, true);
        return x;
    }
}
