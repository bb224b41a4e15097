/** Promises 14 to 19: rests, gain, all, group, goes, drawn. */
public final class AtRestTest {
    private static final int NONE = NobodyChecks.NONE, UNKNOWN = NobodyChecks.UNKNOWN,
        OUTSIDE = NobodyChecks.OUTSIDE, STATE = NobodyChecks.STATE;

    public static void main(String[] args) {
        rests();
        gain();
        all();
        allOfMany();
        group();
        groupOfLikeOnes();
        goes();
        drawn();
        refusals();
        refusalsWithoutQuestion();
        Due.end();
    }

    /** Both see what is so; to answer the same is paid with 10, to look costs 3. */
    private static NobodyChecks twoWhoSee() {
        NobodyChecks x = Due.asked("1:100,100;1:0,0");
        x.pay(1, 10, 0, 0, 0);
        x.cost(0, 3);
        x.cost(1, 3);
        return x;
    }

    private static void rests() {
        NobodyChecks x = twoWhoSee();
        for (int profile = 0; profile < 16; profile++) {
            boolean same = profile % 4 == profile / 4;
            Due.due("rests " + profile, x.rests(0, profile, 0), same ? 1 : 0);
            Due.due("first of " + profile, x.rests(0, profile, 1), same ? NONE : 0);
            Due.due("best of " + profile, x.rests(0, profile, 2), same ? NONE : profile / 4);
        }
        // Whoever looks, looks for nothing; 2 and 3 are WORTH the same, and 2 is less.
        x.pay(0, 5, 0, 0, 0);
        Due.due("first", x.rests(1, 2 + 4, 1), 1);
        Due.due("best is the least of like ones", x.rests(1, 2 + 4, 2), 2);
        Due.due("whoever has one of like ones rests", x.rests(1, 15, 0), 1);
    }

    private static void gain() {
        NobodyChecks x = twoWhoSee();
        Due.due("0 if it rests", x.gain(0, 0, 0, 0), 0);
        Due.due("0 of 1", x.gain(0, 0, 0, 1), 1);
        // 0 is TRUE and 1 answers 0: 5 less 3; best is to answer 0, too: 10.
        Due.due("gain of 0", x.gain(0, 8, 0, 0), 8);
        Due.due("gain of 0", x.gain(0, 8, 0, 1), 1);
        // 1 gets 5 and does not look; best is TRUE: 10 less 3.
        Due.due("gain of 1", x.gain(0, 8, 1, 0), 2);
        x.pay(1, 5, 0, 0, 0);
        Due.due("a half above", x.gain(1, 0, 0, 0), 1);
        Due.due("a half below", x.gain(1, 0, 0, 1), 2);
    }

    private static void all() {
        NobodyChecks x = twoWhoSee();
        Due.due("RESTS", x.all(0, 0), 4);
        Due.due("RICHER", x.all(0, 1), 2);
        Due.due("0th", x.all(0, 10), 0);
        Due.due("1st", x.all(0, 11), 5);
        Due.due("2nd", x.all(0, 12), 10);
        Due.due("3rd", x.all(0, 13), 15);
        Due.due("no 4th", x.all(0, 14), NONE);
        Due.due("no 89th", x.all(0, 99), NONE);
        x.cost(0, 0);
        x.cost(1, 0);
        Due.due("without COST none is RICHER", x.all(0, 1), 0);
        Due.due("without COST as many rest", x.all(0, 0), 4);
        // One who does not rest may well be richer, but is not counted.
        x.pay(2, 0, 9, 0, 0);
        Due.due("RICHER are of RESTS alone", x.all(1, 1) <= x.all(1, 0) ? 1 : 0, 1);
    }

    private static void allOfMany() {
        NobodyChecks x = Due.asked("1:50,50,50,50");
        x.pay(0, 7, 0, 0, 0);
        Due.due("all rest", x.all(0, 0), 256);
        Due.due("none is RICHER", x.all(0, 1), 0);
        Due.due("0th", x.all(0, 10), 0);
        Due.due("89th", x.all(0, 99), 89);
        x.cost(3, 1);
        Due.due("3 does not look", x.all(0, 0), 128);
        Due.due("all are RICHER", x.all(0, 1), 128);
        Due.due("the least", x.all(0, 10), 128);
    }

    private static void group() {
        NobodyChecks x = twoWhoSee();
        Due.due("both gain together", x.group(0, 0, 0), 3);
        Due.due("if both answer 0", x.group(0, 0, 1), 10);
        Due.due("both gain together", x.group(0, 5, 0), 3);
        Due.due("if both answer 0", x.group(0, 5, 1), 10);
        Due.due("none gains", x.group(0, 10, 0), NONE);
        Due.due("none gains", x.group(0, 10, 1), NONE);
        // 0 TURNED, 1 TRUE: 0 alone gains by TRUE, 2 or 3; the least PROFILE is told, not the best.
        Due.due("one gains alone", x.group(0, 1, 0), 1);
        Due.due("the least PROFILE", x.group(0, 1, 1), 0);
        // 0 answers 0, 1 answers 1: TRUE is WORTH 5 less 3, 3 is WORTH 10.
        Due.due("one gains alone", x.group(0, 14, 0), 1);
        Due.due("the least PROFILE", x.group(0, 14, 1), 12);
    }

    private static void groupOfLikeOnes() {
        NobodyChecks x = Due.asked("1:50,50,50,50");
        x.pay(0, 7, 0, 0, 0);
        x.cost(1, 2);
        x.cost(2, 2);
        Due.due("the least set", x.group(0, 0, 0), 2);
        Due.due("the least PROFILE", x.group(0, 0, 1), 8);
        Due.due("then the next", x.group(0, 8, 0), 4);
        Due.due("its PROFILE", x.group(0, 8, 1), 40);
        Due.due("then none", x.group(0, 40, 0), NONE);
        // Each of it takes another WAY: who answers 1 at no COST has none better.
        Due.due("none", x.group(0, 0b11111111, 0), NONE);
    }

    private static void goes() {
        NobodyChecks x = twoWhoSee();
        for (int profile = 0; profile < 16; profile++) {
            int other = profile / 4;
            Due.due("LAST of " + profile, x.goes(0, profile, 0), 5 * other);
            Due.due("steps of " + profile, x.goes(0, profile, 1), profile % 4 == other ? 0 : 1);
            Due.due("ROUND of " + profile, x.goes(0, profile, 2), 0);
        }
        x.pay(0, 5, 0, 0, 0);
        Due.due("LAST", x.goes(1, 0, 0), 10);
        Due.due("steps", x.goes(1, 0, 1), 2);
        Due.due("LAST where one rests", x.goes(1, 3, 0), 11);
        Due.due("steps where one rests", x.goes(1, 3, 1), 1);
        NobodyChecks four = Due.asked("1:50,50,50,50");
        four.pay(0, 7, 0, 0, 0);
        for (int person = 0; person < 4; person++) {
            four.cost(person, 1);
        }
        Due.due("LAST of four", four.goes(0, 0, 0), 170);
        Due.due("steps of four", four.goes(0, 0, 1), 4);
        Due.due("LAST of four", four.goes(0, 255, 0), 255);
    }

    private static void drawn() {
        NobodyChecks x = twoWhoSee();
        Due.due("drawn", x.drawn(0), 4);
        x.pay(0, 5, 0, 0, 0);
        Due.due("truth does not rest", x.drawn(1), 0);
        x.cost(0, 0);
        x.cost(1, 0);
        Due.due("all rest, truth alone is truth", x.drawn(1), 1);
        Due.due("drawn without COST", x.drawn(0), 4);
        // TRUE is then WORTH 5 as are 2 and 3: who is TURNED takes TRUE, the least of like ones.
        x.cost(0, 5);
        Due.due("0 rests at the line", x.rests(0, 0, 0), 1);
        Due.due("truth alone and TURNED come to it", x.drawn(0), 2);
        x.cost(0, 6);
        Due.due("0 does not rest", x.drawn(0), 0);
    }

    private static void refusals() {
        NobodyChecks x = twoWhoSee();
        int[] wrongPays = {-1, 1, 8, Integer.MIN_VALUE, Integer.MAX_VALUE};
        for (int pay : wrongPays) {
            Due.due("rests of " + pay, x.rests(pay, 99, 99), UNKNOWN);
            Due.due("gain of " + pay, x.gain(pay, 99, 0, 99), UNKNOWN);
            Due.due("all of " + pay, x.all(pay, 5), UNKNOWN);
            Due.due("group of " + pay, x.group(pay, 99, 99), UNKNOWN);
            Due.due("goes of " + pay, x.goes(pay, 99, 99), UNKNOWN);
            Due.due("drawn of " + pay, x.drawn(pay), UNKNOWN);
        }
        int[] wrongProfiles = {-1, 16, Integer.MIN_VALUE, Integer.MAX_VALUE};
        for (int profile : wrongProfiles) {
            Due.due("rests at " + profile, x.rests(0, profile, 0), OUTSIDE);
            Due.due("gain at " + profile, x.gain(0, profile, 0, 0), OUTSIDE);
            Due.due("group at " + profile, x.group(0, profile, 0), OUTSIDE);
            Due.due("goes at " + profile, x.goes(0, profile, 0), OUTSIDE);
        }
        int[] wrongWhats = {-1, 3, Integer.MIN_VALUE, Integer.MAX_VALUE};
        for (int what : wrongWhats) {
            Due.due("rests, what " + what, x.rests(0, 0, what), OUTSIDE);
            Due.due("gain, part " + what, x.gain(0, 0, 0, what), OUTSIDE);
            Due.due("group, what " + what, x.group(0, 0, what), OUTSIDE);
            Due.due("goes, what " + what, x.goes(0, 0, what), OUTSIDE);
        }
        Due.due("gain, part 2", x.gain(0, 0, 0, 2), OUTSIDE);
        Due.due("group, what 2", x.group(0, 0, 2), OUTSIDE);
        Due.due("gain of nobody", x.gain(0, 0, 2, 0), UNKNOWN);
        Due.due("gain of nobody", x.gain(0, 16, -1, 0), UNKNOWN);
        int[] wrongAll = {-1, 2, 9, 100, Integer.MIN_VALUE, Integer.MAX_VALUE};
        for (int what : wrongAll) {
            Due.due("all, what " + what, x.all(0, what), OUTSIDE);
        }
    }

    private static void refusalsWithoutQuestion() {
        NobodyChecks x = new NobodyChecks();
        x.pay(0, 5, 0, 0, 0);
        Due.due("rests", x.rests(0, 0, 9), STATE);
        Due.due("all", x.all(0, 9), STATE);
        Due.due("group", x.group(0, 0, 9), STATE);
        Due.due("goes", x.goes(0, 0, 9), STATE);
        Due.due("drawn", x.drawn(0), STATE);
        Due.due("rests of no pay", x.rests(1, 0, 9), UNKNOWN);
        Due.due("drawn of no pay", x.drawn(1), UNKNOWN);
        Due.due("gain: there is no person", x.gain(0, 0, 0, 0), UNKNOWN);
    }
}
