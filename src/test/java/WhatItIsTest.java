// The section 'What it is': no single promise says these things, they follow if the promises hold together.
public final class WhatItIsTest {
    private static final int RUNS = 3000;

    public static void main(String[] args) {
        Check.runAll(WhatItIsTest.class);
    }

    // "so that nobody ever finds it taken"

    private static void nobodyEverFindsAThingTaken() {
        int taken = 0;
        for (int run = 1; run <= RUNS; run++) {
            Driver driven = Driver.driven(run);
            Check.equal("found taken in run " + run, driven.foundTaken, 0);
            taken += driven.taken;
        }
        Check.isTrue("things were taken", taken > RUNS);
    }

    // "how long it can be kept [waiting by less urgent ones] [..] is worked out beforehand"

    private static void nobodyIsKeptLongerThanWorkedOut() {
        int justSoLong = 0;
        for (int run = 1; run <= RUNS; run++) {
            Driver driven = Driver.driven(run);
            Check.equal("kept longer in run " + run, driven.keptLonger, 0);
            justSoLong += driven.keptJustSoLong;
        }
        Check.isTrue("some are kept just so long", justSoLong > 0);
    }

    // "and how late it can end, is worked out beforehand"

    private static void nobodyEndsLaterThanWorkedOut() {
        int justSoLate = 0;
        for (int run = 1; run <= RUNS; run++) {
            Driver driven = Driver.driven(run);
            Check.equal("ended later in run " + run, driven.endedLater, 0);
            justSoLate += driven.endedJustSoLate;
        }
        Check.isTrue("some end just so late", justSoLate > 0);
    }
}
