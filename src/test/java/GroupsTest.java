/** Promises 2 to 4: setMember, nest and members. What they throw is in RefusalsTest. */
public final class GroupsTest {
    public static void main(String[] args) {
        Check.promisesOf(GroupsTest.class);
        Check.end();
    }

    private static void badNest(ShareMover x, int group, int inner) {
        Check.badState("nest " + group + " " + inner, () -> Check.bit(x.nest(group, inner)));
    }

    private static void promise2SetMember() {
        ShareMover x = new ShareMover();
        Check.is("had 7 first", false, x.setMember(5, 7, true));
        Check.is("had 7 again", true, x.setMember(5, 7, true));
        Check.is("has 7", 1 << 7, x.members(5));
        Check.is("had 7 before it went", true, x.setMember(5, 7, false));
        Check.is("had 7 after it went", false, x.setMember(5, 7, false));
        Check.is("has nobody", 0, x.members(5));
        Check.is("had 0", false, x.setMember(0, 0, true));
        Check.is("had 1", false, x.setMember(0, 1, true));
        Check.is("has 0 and 1", 3, x.members(0));
        Check.is("others are left alone", 0, x.members(1));
    }

    private static void promise2EachGroupAndPerson() {
        for (int group = 0; group < 6; group++) {
            for (int person = 0; person < 8; person++) {
                String pair = group + " " + person;
                ShareMover x = new ShareMover();
                Check.is("taking what is not had: " + pair, false, x.setMember(group, person, false));
                Check.is("had: " + pair, false, x.setMember(group, person, true));
                for (int other = 0; other < 6; other++) {
                    Check.is("members " + other, other == group ? 1 << person : 0, x.members(other));
                }
                Check.is("had it: " + pair, true, x.setMember(group, person, true));
                Check.is("twice is once: " + pair, true, x.setMember(group, person, false));
                Check.is("gone: " + pair, 0, x.members(group));
                Check.is("had it no more: " + pair, false, x.setMember(group, person, true));
            }
        }
    }

    private static void promise2EmptyAndFull() {
        ShareMover x = new ShareMover();
        for (int person = 0; person < 8; person++) {
            Check.is("filled", false, x.setMember(2, person, true));
            Check.is("persons up to it", (2 << person) - 1, x.members(2));
        }
        for (int person = 0; person < 8; person++) {
            Check.is("emptied", true, x.setMember(2, person, false));
            Check.is("persons behind it", 255 & ~((2 << person) - 1), x.members(2));
        }
    }

    private static void promise2OnlyTheGroupItself() {
        ShareMover x = new ShareMover();
        x.setMember(0, 4, true);
        x.nest(1, 0);
        Check.is("a person of an inner group is not had", false, x.setMember(1, 4, false));
        Check.is("but is in the group", 16, x.members(1));
        Check.is("it is had then, too", false, x.setMember(1, 4, true));
        Check.is("and is in it, by two ways", 16, x.members(1));
        Check.is("the inner one had it all the time", true, x.setMember(0, 4, false));
        Check.is("the outer one has it still", 16, x.members(1));
        Check.is("the inner one does not", 0, x.members(0));
        Check.is("the outer one had it", true, x.setMember(1, 4, false));
        Check.is("nobody is left", 0, x.members(1));
    }

    private static void promise3Nest() {
        ShareMover x = new ShareMover();
        x.setMember(1, 4, true);
        x.setMember(2, 5, true);
        Check.is("nest 0 1", true, x.nest(0, 1));
        Check.is("nest 1 2", true, x.nest(1, 2));
        Check.is("4 and 5 are in 0", 48, x.members(0));
        Check.is("2 goes into 0 itself, too, though it was in it deeper", true, x.nest(0, 2));
        Check.is("1 is taken out of 0", false, x.nest(0, 1));
        Check.is("5 stays in 0", 32, x.members(0));
        Check.is("4 and 5 stay in 1", 48, x.members(1));
        Check.is("2 is taken out of 0", false, x.nest(0, 2));
        Check.is("0 is empty", 0, x.members(0));
        Check.is("1 can have 0 now", true, x.nest(2, 0));
        Check.is("5 goes", true, x.setMember(2, 5, false));
        Check.is("2 has what 0 has", 0, x.members(2));
    }

    private static void promise3EachPair() {
        for (int outer = 0; outer < 6; outer++) {
            for (int inner = 0; inner < 6; inner++) {
                if (outer != inner) {
                    nestAndTakeOut(outer, inner);
                }
            }
        }
    }

    private static void nestAndTakeOut(int outer, int inner) {
        String pair = outer + " " + inner;
        ShareMover x = new ShareMover();
        x.setMember(inner, 7, true);
        Check.is("put in " + pair, true, x.nest(outer, inner));
        for (int group = 0; group < 6; group++) {
            Check.is("members " + group, group == outer || group == inner ? 128 : 0, x.members(group));
        }
        badNest(x, inner, outer);
        Check.is("taken out " + pair, false, x.nest(outer, inner));
        Check.is("outer " + pair, 0, x.members(outer));
        Check.is("inner " + pair, 128, x.members(inner));
        Check.is("the other way round now " + pair, true, x.nest(inner, outer));
        Check.is("outer is inner " + pair, 0, x.members(outer));
        badNest(x, outer, inner);
    }

    private static void promise3AllPairs() {
        ShareMover x = new ShareMover();
        for (int outer = 0; outer < 6; outer++) {
            x.setMember(outer, outer, true);
            for (int inner = outer + 1; inner < 6; inner++) {
                Check.is("nest " + outer + " " + inner, true, x.nest(outer, inner));
            }
        }
        for (int outer = 0; outer < 6; outer++) {
            Check.is("all from it on", 63 & ~((1 << outer) - 1), x.members(outer));
            for (int inner = 0; inner <= outer; inner++) {
                badNest(x, outer, inner);
            }
        }
        for (int outer = 0; outer < 6; outer++) {
            for (int inner = outer + 1; inner < 6; inner++) {
                Check.is("nest back " + outer + " " + inner, false, x.nest(outer, inner));
            }
            Check.is("itself alone", 1 << outer, x.members(outer));
        }
    }

    private static void promise3TakesOutOnlyTheOneItself() {
        ShareMover x = new ShareMover();
        x.setMember(5, 6, true);
        x.nest(3, 4);
        x.nest(4, 5);
        Check.is("in it deeper alone: it is put in", true, x.nest(3, 5));
        Check.is("in it itself: it is taken out", false, x.nest(3, 5));
        Check.is("it is in it deeper still", 64, x.members(3));
        badNest(x, 5, 3);
        Check.is("the middle one is taken out", false, x.nest(3, 4));
        Check.is("and all in it", 0, x.members(3));
        Check.is("which it still has", 64, x.members(4));
        Check.is("5 can have 3 now", true, x.nest(5, 3));
    }

    private static void promise3NestRefusesCircles() {
        ShareMover x = new ShareMover();
        for (int group = 0; group < 6; group++) {
            badNest(x, group, group);
        }
        for (int group = 0; group < 5; group++) {
            Check.is("nest " + group, true, x.nest(group, group + 1));
        }
        for (int outer = 1; outer < 6; outer++) {
            for (int inner = 0; inner < outer; inner++) {
                badNest(x, outer, inner);
            }
        }
        x.setMember(5, 3, true);
        Check.is("at five levels", 8, x.members(0));
        Check.is("cut in the middle", false, x.nest(2, 3));
        Check.is("5 can have 0 then", true, x.nest(5, 0));
        Check.is("and 3 has what 5 has", 8, x.members(3));
        Check.is("0 has it no more", 0, x.members(0));
        badNest(x, 2, 3);
    }

    /** In each order of the six groups, the first is refused in each of the others. */
    private static void promise3CirclesAtAnyDepth() {
        for (int[] row : ROWS) {
            ShareMover x = new ShareMover();
            for (int depth = 1; depth < 6; depth++) {
                Check.is("one level more", true, x.nest(row[depth - 1], row[depth]));
                badNest(x, row[depth], row[0]);
            }
            for (int depth = 1; depth < 6; depth++) {
                Check.is("cut at " + depth, false, x.nest(row[depth - 1], row[depth]));
                Check.is("no circle then", true, x.nest(row[5], row[0]));
                Check.is("taken out again", false, x.nest(row[5], row[0]));
                Check.is("joined again", true, x.nest(row[depth - 1], row[depth]));
                badNest(x, row[5], row[0]);
            }
        }
    }

    private static final int[][] ROWS = {
        {0, 1, 2, 3, 4, 5}, {5, 4, 3, 2, 1, 0}, {0, 5, 1, 4, 2, 3}, {3, 2, 4, 1, 5, 0}, {2, 0, 4, 5, 3, 1},
    };

    private static void promise3RefusedCallsChangeNothing() {
        ShareMover x = new ShareMover();
        x.setMember(0, 1, true);
        x.nest(3, 0);
        badNest(x, 0, 3);
        badNest(x, 3, 3);
        Check.is("3 is as before", 2, x.members(3));
        Check.is("0 is as before", 2, x.members(0));
        Check.is("0 was in 3 still", false, x.nest(3, 0));
    }

    private static void promise4Members() {
        ShareMover x = new ShareMover();
        x.setMember(1, 2, true);
        x.setMember(0, 6, true);
        x.nest(5, 1);
        x.nest(5, 0);
        x.nest(1, 0);
        Check.is("of two groups, by two ways", 68, x.members(5));
        x.setMember(0, 6, false);
        Check.is("gone from below", 4, x.members(5));
        x.setMember(5, 2, true);
        x.nest(5, 1);
        Check.is("its own one stays", 4, x.members(5));
    }

    private static void promise4EmptyAndFull() {
        ShareMover x = new ShareMover();
        for (int group = 0; group < 6; group++) {
            Check.is("empty at first", 0, x.members(group));
        }
        x.nest(0, 5);
        Check.is("an empty group in it", 0, x.members(0));
        for (int person = 0; person < 8; person++) {
            x.setMember(person % 2 == 0 ? 0 : 5, person, true);
        }
        Check.is("all", 255, x.members(0));
        Check.is("the odd ones", 170, x.members(5));
    }

    private static void promise4AtAnyDepth() {
        for (int[] row : ROWS) {
            ShareMover x = new ShareMover();
            x.setMember(row[5], 7, true);
            x.setMember(row[0], 0, true);
            for (int depth = 1; depth < 6; depth++) {
                x.nest(row[depth - 1], row[depth]);
            }
            Check.is("from five levels below", 129, x.members(row[0]));
            for (int depth = 1; depth < 6; depth++) {
                Check.is("not from above", 128, x.members(row[depth]));
            }
            x.nest(row[2], row[3]);
            Check.is("cut in the middle", 1, x.members(row[0]));
            Check.is("above the cut", 0, x.members(row[2]));
            Check.is("below the cut", 128, x.members(row[3]));
        }
    }
}
