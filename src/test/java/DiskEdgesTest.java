/** The edges of promises 5 (fail), 6 (replace), 7 (rebuild), 16 (position) and 19 (spares). */
public final class DiskEdgesTest {
    private static final Due DUE = new Due("DiskEdgesTest");
    private static final int[] FAR_OUTSIDE = {Integer.MIN_VALUE, Integer.MAX_VALUE};

    public static void main(String[] args) {
        failTakesTheFirstAndTheLastDisk();
        failTakesADiskThatIsRebuilding();
        failWorksWhileDownAndBroken();
        failRefusesAMissingDisk();
        failMakesNoAct();
        replaceTakesTheFirstAndTheLastDisk();
        replaceWorksWhileDownAndBroken();
        replaceUsesUpTheSpares();
        replaceRefusesADiskThatIsThere();
        replaceBeginsAtTheFirstStripe();
        rebuildEndsWithTheLastStripe();
        rebuildTakesTheLeastPosition();
        rebuildTakesTheLeastNumberAmongEqualOnes();
        rebuildReadsWhatIsThere();
        rebuildMakesTwoActs();
        rebuildRefusesDownThenBrokenThenIdle();
        positionGoesFromNoneToAllStripes();
        positionKnowsItsDisks();
        sparesGoDownByReplaceAlone();
        DUE.end();
    }

    /** "false when there is no such disk" */
    private static void failTakesTheFirstAndTheLastDisk() {
        for (int n = 4; n <= 10; n++) {
            DualParityArray x = new DualParityArray(n, 2, 0);
            DUE.is("fail(-1) of " + n, x.fail(-1), false);
            DUE.is("fail(" + n + ") of " + n, x.fail(n), false);
            for (int d : FAR_OUTSIDE) {
                DUE.is("fail(" + d + ")", x.fail(d), false);
            }
            for (int d = 0; d < n; d++) {
                DUE.is("position(" + d + ") after those", x.position(d), 2);
            }
            DUE.is("fail(0) of " + n, x.fail(0), true);
            DUE.is("fail(last) of " + n, x.fail(n - 1), true);
            DUE.is("position(0)", x.position(0), DualParityArray.GONE);
            DUE.is("position(last)", x.position(n - 1), DualParityArray.GONE);
            DUE.is("position(1)", x.position(1), 2);
        }
    }

    /** "(also one that is REBUILDING;)" */
    private static void failTakesADiskThatIsRebuilding() {
        for (int steps = 0; steps <= 3; steps++) {
            DualParityArray x = new DualParityArray(5, 3, 1);
            x.fail(2);
            x.replace(2);
            for (int i = 0; i < steps; i++) {
                x.rebuild();
            }
            DUE.is("fail(2) after " + steps + " steps", x.fail(2), true);
            DUE.is("position(2)", x.position(2), DualParityArray.GONE);
            DUE.is("peek(2, 0)", x.peek(2, 0), DualParityArray.BAD);
            DUE.is("fail(2) again", x.fail(2), false);
            DUE.is("spares()", x.spares(), 0);
        }
    }

    /** "whatever state the array is in" */
    private static void failWorksWhileDownAndBroken() {
        DualParityArray x = new DualParityArray(5, 2, 0);
        x.arm(4);
        x.write(0, 7);
        for (int d = 0; d < 5; d++) {
            DUE.is("fail(" + d + ")", x.fail(d), true);
            DUE.is("mode()", x.mode(), d < 2 ? 1 : 3);
            DUE.is("logged()", x.logged(), 0);
        }
    }

    /** "false when .. it is MISSING already" */
    private static void failRefusesAMissingDisk() {
        DualParityArray x = new DualParityArray(4, 2, 1);
        for (int d = 0; d < 4; d++) {
            DUE.is("fail(" + d + ")", x.fail(d), true);
            DUE.is("fail(" + d + ") again", x.fail(d), false);
        }
        x.replace(3);
        DUE.is("fail(3) when a spare is there", x.fail(3), true);
    }

    private static void failMakesNoAct() {
        DualParityArray x = new DualParityArray(4, 2, 1);
        x.arm(0);
        x.fail(0);
        x.replace(0);
        DUE.is("mode() with a stop armed", x.mode(), 4);
        DUE.is("reads()", x.reads(), 0);
        DUE.is("writes()", x.writes(), 0);
    }

    /** "false, changing nothing, when there is no such disk" */
    private static void replaceTakesTheFirstAndTheLastDisk() {
        for (int n = 4; n <= 10; n++) {
            DualParityArray x = new DualParityArray(n, 2, 4);
            x.fail(0);
            x.fail(n - 1);
            DUE.is("replace(-1) of " + n, x.replace(-1), false);
            DUE.is("replace(" + n + ") of " + n, x.replace(n), false);
            for (int d : FAR_OUTSIDE) {
                DUE.is("replace(" + d + ")", x.replace(d), false);
            }
            DUE.is("spares()", x.spares(), 4);
            DUE.is("replace(0) of " + n, x.replace(0), true);
            DUE.is("replace(last) of " + n, x.replace(n - 1), true);
            DUE.is("spares()", x.spares(), 2);
            DUE.is("position(0)", x.position(0), 0);
            DUE.is("position(last)", x.position(n - 1), 0);
        }
    }

    /** "whatever state the array is in" */
    private static void replaceWorksWhileDownAndBroken() {
        DualParityArray x = new DualParityArray(5, 2, 4);
        x.fail(0);
        x.crash();
        DUE.is("replace(0) while DOWN", x.replace(0), true);
        x.restart();
        x.fail(1);
        x.fail(2);
        DUE.is("replace(1) while BROKEN", x.replace(1), true);
        x.crash();
        DUE.is("replace(2) while DOWN and BROKEN", x.replace(2), true);
        DUE.is("mode()", x.mode(), 3);
        DUE.is("spares()", x.spares(), 1);
    }

    /** "there is one spare less .. false, changing nothing, when .. no spare is left" */
    private static void replaceUsesUpTheSpares() {
        for (int spares = 0; spares <= 4; spares++) {
            DualParityArray x = new DualParityArray(4, 2, spares);
            for (int i = 0; i < spares; i++) {
                x.fail(1);
                DUE.is("replace(1)", x.replace(1), true);
                DUE.is("spares()", x.spares(), spares - i - 1);
            }
            x.fail(1);
            DUE.is("replace(1) without a spare", x.replace(1), false);
            DUE.is("spares()", x.spares(), 0);
            DUE.is("position(1)", x.position(1), DualParityArray.GONE);
            DUE.is("replace(1) again", x.replace(1), false);
            DUE.is("spares() again", x.spares(), 0);
        }
    }

    /** "false, changing nothing, when .. it is not MISSING" */
    private static void replaceRefusesADiskThatIsThere() {
        DualParityArray x = new DualParityArray(4, 2, 2);
        DUE.is("replace(1) when PRESENT", x.replace(1), false);
        DUE.is("position(1)", x.position(1), 2);
        x.fail(1);
        x.replace(1);
        x.rebuild();
        DUE.is("replace(1) when REBUILDING", x.replace(1), false);
        DUE.is("position(1)", x.position(1), 1);
        x.rebuild();
        DUE.is("replace(1) when PRESENT again", x.replace(1), false);
        DUE.is("spares()", x.spares(), 1);
    }

    /** "d is REBUILDING with position 0", also when it had come further before. */
    private static void replaceBeginsAtTheFirstStripe() {
        DualParityArray x = new DualParityArray(4, 3, 2);
        x.writeRun(0, 6, 80);
        x.fail(1);
        x.replace(1);
        x.rebuild();
        x.rebuild();
        x.fail(1);
        x.replace(1);
        DUE.is("position(1)", x.position(1), 0);
        DUE.is("peek(1, 0)", x.peek(1, 0), DualParityArray.BAD);
        DUE.is("read(0)", x.read(0), 80);
        DUE.is("rebuild()", x.rebuild(), 2);
        DUE.is("peek(1, 0)", x.peek(1, 0), 80);
    }

    /** "a second act makes its position s + 1, or the disk PRESENT when s is S - 1" */
    private static void rebuildEndsWithTheLastStripe() {
        for (int stripes : new int[] {1, 2, 16}) {
            DualParityArray x = new DualParityArray(6, stripes, 1);
            x.writeRun(0, 4 * stripes, 300);
            x.fail(5);
            x.replace(5);
            for (int s = 0; s < stripes; s++) {
                DUE.is("scrub of the stripe at the position", x.scrub(s), DualParityArray.DEGRADED);
                DUE.is("rebuild() of stripe " + s + " of " + stripes, x.rebuild(), stripes - s - 1);
                DUE.is("position(5)", x.position(5), s + 1);
                DUE.is("scrub of the stripe before the position", x.scrub(s), 0);
            }
            DUE.is("rebuild() of none", x.rebuild(), DualParityArray.IDLE);
            DUE.is("replace(5) when PRESENT", x.replace(5), false);
            DUE.is("faults()", x.faults(), 0);
        }
    }

    /** "the REBUILDING disk with the least position": not that of the least number, and no MISSING one. */
    private static void rebuildTakesTheLeastPosition() {
        DualParityArray x = new DualParityArray(6, 3, 3);
        x.fail(0);
        x.replace(0);
        x.rebuild();
        x.rebuild();
        x.fail(5);
        DUE.is("a MISSING disk is passed over", x.rebuild(), 0);
        DUE.is("position(0)", x.position(0), 3);
        x.fail(0);
        x.replace(0);
        x.rebuild();
        x.replace(5);
        DUE.is("rebuild() of disk 5", x.rebuild(), 2);
        DUE.is("position(0)", x.position(0), 1);
        DUE.is("position(5)", x.position(5), 1);
    }

    /** "(among equal ones that with the least number)" */
    private static void rebuildTakesTheLeastNumberAmongEqualOnes() {
        for (int first = 0; first < 4; first++) {
            for (int second = first + 1; second < 4; second++) {
                DualParityArray x = new DualParityArray(4, 2, 2);
                x.fail(second);
                x.replace(second);
                x.fail(first);
                x.replace(first);
                // The stripes left, and the positions of both.
                int[][] due = {{1, 1, 0}, {1, 1, 1}, {0, 2, 1}, {0, 2, 2}};
                for (int[] row : due) {
                    DUE.is("rebuild()", x.rebuild(), row[0]);
                    DUE.is("position(" + first + ")", x.position(first), row[1]);
                    DUE.is("position(" + second + ")", x.position(second), row[2]);
                }
                DUE.is("rebuild() of none", x.rebuild(), DualParityArray.IDLE);
            }
        }
    }

    /** "All available cells of stripe s are read" */
    private static void rebuildReadsWhatIsThere() {
        for (int n = 4; n <= 10; n++) {
            DualParityArray x = new DualParityArray(n, 2, 2);
            x.fail(1);
            x.replace(1);
            x.rebuild();
            DUE.is("reads() with one rebuilding of " + n, x.reads(), n - 1);
            x.fail(2);
            x.replace(2);
            x.rebuild();
            DUE.is("reads() with the other before it of " + n, x.reads(), 2 * n - 2);
            x.rebuild();
            DUE.is("reads() with two lost cells of " + n, x.reads(), 3 * n - 4);
        }
    }

    /** "one act writes the value .. a second act makes its position s + 1 .. TORN when the array stopped on the way" */
    private static void rebuildMakesTwoActs() {
        for (int k = 0; k <= 2; k++) {
            DualParityArray x = new DualParityArray(5, 2, 1);
            x.writeRun(0, 6, 700);
            long before = x.peek(3, 0);
            int writes = x.writes();
            x.fail(3);
            x.replace(3);
            x.arm(k);
            int reads = x.reads();
            DUE.is("rebuild(), arm(" + k + ")", x.rebuild(), k < 2 ? DualParityArray.TORN : 1);
            DUE.is("mode(), arm(" + k + ")", x.mode(), k < 2 ? 1 : 4);
            DUE.is("writes(), arm(" + k + ")", x.writes(), writes + (k == 0 ? 0 : 1));
            DUE.is("reads(), arm(" + k + ")", x.reads(), reads + 4);
            DUE.is("position(3), arm(" + k + ")", x.position(3), k < 2 ? 0 : 1);
            DUE.is("peek(3, 0), arm(" + k + ")", x.peek(3, 0), k < 2 ? DualParityArray.BAD : before);
            DUE.is("logged(), arm(" + k + ")", x.logged(), -1);
            if (k < 2) {
                DUE.is("restart()", x.restart(), 0);
                DUE.is("rebuild() again", x.rebuild(), 1);
                DUE.is("peek(3, 0)", x.peek(3, 0), before);
            }
        }
    }

    /** "DOWN when the array is DOWN; else BROKEN when it is BROKEN; else IDLE when no disk is REBUILDING" */
    private static void rebuildRefusesDownThenBrokenThenIdle() {
        DualParityArray x = new DualParityArray(5, 2, 4);
        DUE.is("rebuild() with all PRESENT", x.rebuild(), DualParityArray.IDLE);
        x.fail(0);
        x.fail(1);
        DUE.is("rebuild() with two MISSING", x.rebuild(), DualParityArray.IDLE);
        x.crash();
        DUE.is("rebuild() while DOWN, none REBUILDING", x.rebuild(), DualParityArray.DOWN);
        x.replace(0);
        DUE.is("rebuild() while DOWN, one REBUILDING", x.rebuild(), DualParityArray.DOWN);
        x.restart();
        x.fail(0);
        x.fail(2);
        DUE.is("rebuild() while BROKEN, none REBUILDING", x.rebuild(), DualParityArray.BROKEN);
        x.replace(2);
        DUE.is("rebuild() while BROKEN, one REBUILDING", x.rebuild(), DualParityArray.BROKEN);
        x.crash();
        DUE.is("rebuild() while DOWN and BROKEN", x.rebuild(), DualParityArray.DOWN);
        DUE.is("reads()", x.reads(), 0);
        DUE.is("writes()", x.writes(), 0);
        DUE.is("position(2)", x.position(2), 0);
    }

    /** "S when disk d is PRESENT, its position when it is REBUILDING, GONE when it is MISSING" */
    private static void positionGoesFromNoneToAllStripes() {
        for (int stripes : new int[] {1, 16}) {
            DualParityArray x = new DualParityArray(4, stripes, 1);
            DUE.is("position(0) when PRESENT", x.position(0), stripes);
            x.fail(0);
            DUE.is("position(0) when MISSING", x.position(0), DualParityArray.GONE);
            x.replace(0);
            for (int s = 0; s < stripes; s++) {
                DUE.is("position(0) when REBUILDING", x.position(0), s);
                x.rebuild();
            }
            DUE.is("position(0) when PRESENT again", x.position(0), stripes);
            x.crash();
            DUE.is("position(0) while DOWN", x.position(0), stripes);
        }
    }

    /** "BAD when there is no such disk" */
    private static void positionKnowsItsDisks() {
        for (int n = 4; n <= 10; n++) {
            DualParityArray x = new DualParityArray(n, 3, 0);
            DUE.is("position(-1) of " + n, x.position(-1), DualParityArray.BAD);
            DUE.is("position(0) of " + n, x.position(0), 3);
            DUE.is("position(last) of " + n, x.position(n - 1), 3);
            DUE.is("position(" + n + ") of " + n, x.position(n), DualParityArray.BAD);
            for (int d : FAR_OUTSIDE) {
                DUE.is("position(" + d + ")", x.position(d), DualParityArray.BAD);
            }
        }
    }

    /** "How many spares are left." */
    private static void sparesGoDownByReplaceAlone() {
        DualParityArray x = new DualParityArray(4, 1, 1);
        x.fail(0);
        DUE.is("spares() after fail", x.spares(), 1);
        x.replace(0);
        DUE.is("spares() after replace", x.spares(), 0);
        x.rebuild();
        DUE.is("spares() after rebuild", x.spares(), 0);
        x.fail(0);
        DUE.is("spares() when the spare fails", x.spares(), 0);
        x.crash();
        DUE.is("spares() while DOWN", x.spares(), 0);
    }
}
