import java.util.ArrayList;
import java.util.List;

/** 'Terms' of the document, 2: AT REST, GAIN, RESTS, RICHER, GROUPS, GOES, DRAWN, each by what WORTH is told. */
final class TermsOfRest {
    private static final int NONE = NobodyChecks.NONE;

    /** A sentence about a PROFILE under a PAY of a sample. */
    private interface OfProfile {
        void held(Sample sample, int pay, int profile);
    }

    private interface OfPay {
        void held(Sample sample, int pay);
    }

    private TermsOfRest() {
    }

    static void hold() {
        Document.says("======== 2 AT REST: nobody is WORTH more with another WAY, the others being as they are.");
        eachProfile((sample, pay, profile) -> due(sample, pay, profile, sample.x().rests(pay, profile, 0),
            sample.first(pay, profile) == NONE ? 1 : 0));
        gain();
        Document.says("FIRST: the least PERSON that does not rest.");
        eachProfile((sample, pay, profile) -> due(sample, pay, profile, sample.x().rests(pay, profile, 1),
            sample.first(pay, profile)));
        best();
        rests();
        richer();
        groupGains();
        smallest();
        goes();
        drawn();
    }

    private static void eachPay(OfPay sentence) {
        for (Sample sample : Sample.ALL) {
            for (int pay = 0; pay < sample.pays(); pay++) {
                sentence.held(sample, pay);
            }
        }
    }

    /** Of 256 PROFILES every third one. */
    private static void eachProfile(OfProfile sentence) {
        eachPay((sample, pay) -> {
            for (int profile = 0; profile < sample.profiles(); profile += sample.persons == 4 ? 3 : 1) {
                sentence.held(sample, pay, profile);
            }
        });
    }

    private static void due(Sample sample, int pay, int profile, long got, long want) {
        Document.due(sample.name(pay) + ", PROFILE " + profile, got, want);
    }

    private static void gain() {
        Document.says("GAIN of a PERSON: how much more its best WAY is WORTH (0, if it rests).");
        eachProfile((sample, pay, profile) -> {
            for (int person = 0; person < sample.persons; person++) {
                Plain.Part most = sample.worth(pay, profile, person);
                for (int way = 0; way < 4; way++) {
                    Plain.Part tried = sample.worth(pay, Sample.withWay(profile, person, way), person);
                    most = tried.isMoreThan(most) ? tried : most;
                }
                Plain.Part want = most.less(sample.worth(pay, profile, person));
                due(sample, pay, profile, sample.x().gain(pay, profile, person, 0), want.part(0));
                due(sample, pay, profile, sample.x().gain(pay, profile, person, 1), want.part(1));
                if (sample.personRests(pay, profile, person)) {
                    due(sample, pay, profile, sample.x().gain(pay, profile, person, 0), 0);
                }
            }
        });
    }

    private static void best() {
        Document.says("BEST: the least of its WAYS of greatest WORTH.");
        eachProfile((sample, pay, profile) -> {
            int first = sample.first(pay, profile);
            due(sample, pay, profile, sample.x().rests(pay, profile, 2), first == NONE ? NONE : sample.best(pay, profile, first));
        });
    }

    private static List<Integer> restsOf(Sample sample, int pay) {
        List<Integer> found = new ArrayList<>();
        for (int profile = 0; profile < sample.profiles(); profile++) {
            if (sample.x().rests(pay, profile, 0) == 1) {
                found.add(profile);
            }
        }
        return found;
    }

    private static void rests() {
        Document.says("RESTS: all PROFILES at rest, in order.");
        eachPay((sample, pay) -> {
            List<Integer> found = restsOf(sample, pay);
            Document.due(sample.name(pay) + ": how many", sample.x().all(pay, 0), found.size());
            for (int i = 0; i < 90; i++) {
                Document.due(sample.name(pay) + ": " + i, sample.x().all(pay, 10 + i), i < found.size() ? found.get(i) : NONE);
            }
        });
    }

    private static void richer() {
        Document.says("RICHER: those of them by which all together are WORTH more than by truth (all TRUE).");
        eachPay((sample, pay) -> {
            int counted = 0;
            for (int profile : restsOf(sample, pay)) {
                counted += sample.together(pay, profile).isMoreThan(sample.together(pay, 0)) ? 1 : 0;
            }
            Document.due(sample.name(pay), sample.x().all(pay, 1), counted);
        });
    }

    /** Who has another WAY in the other PROFILE, as bits. */
    private static int changed(Sample sample, int profile, int other) {
        int set = 0;
        for (int person = 0; person < sample.persons; person++) {
            set += Sample.wayOf(profile, person) != Sample.wayOf(other, person) ? 1 << person : 0;
        }
        return set;
    }

    private static boolean gains(Sample sample, int pay, int profile, int other) {
        int set = changed(sample, profile, other);
        for (int person = 0; person < sample.persons; person++) {
            if ((set >> person & 1) == 1 && !sample.isMore(pay, person, other, profile)) {
                return false;
            }
        }
        return set != 0;
    }

    private static void groupGains() {
        Document.says("A GROUP GAINS from a PROFILE: each of its PERSONS takes another WAY, all at once, the others being as they "
            + "are, and each of it is WORTH more.");
        eachProfile((sample, pay, profile) -> {
            int set = sample.x().group(pay, profile, 0), other = sample.x().group(pay, profile, 1);
            boolean none = set == NONE && other == NONE;
            Document.holds(sample.name(pay) + ", PROFILE " + profile + ": " + set + ", " + other,
                none || (set == changed(sample, profile, other) && gains(sample, pay, profile, other)));
        });
    }

    private static void smallest() {
        Document.says("THE SMALLEST: fewest PERSONS, of like ones the least set (as bits); of PROFILES that come of it so the "
            + "least.");
        eachProfile((sample, pay, profile) -> {
            int least = Integer.MAX_VALUE;
            for (int other = 0; other < sample.profiles(); other++) {
                int set = changed(sample, profile, other);
                int rank = (Integer.bitCount(set) * 16 + set) * 256 + other;
                if (rank < least && gains(sample, pay, profile, other)) {
                    least = rank;
                }
            }
            boolean none = least == Integer.MAX_VALUE;
            due(sample, pay, profile, sample.x().group(pay, profile, 0), none ? NONE : least / 256 % 16);
            due(sample, pay, profile, sample.x().group(pay, profile, 1), none ? NONE : least % 256);
        });
    }

    /** LAST, how many steps, and whether it goes ROUND. */
    private static int[] travelled(Sample sample, int pay, int start) {
        List<Integer> been = new ArrayList<>();
        int profile = start;
        while (!been.contains(profile)) {
            been.add(profile);
            int first = sample.first(pay, profile);
            if (first == NONE) {
                return new int[] {profile, been.size() - 1, 0};
            }
            profile = Sample.withWay(profile, first, sample.best(pay, profile, first));
        }
        return new int[] {profile, been.size(), 1};
    }

    private static void goes() {
        Document.says("GOES: from a PROFILE, again and again the least PERSON that does not rest takes BEST: until all rest, or a "
            + "PROFILE comes again (ROUND):");
        eachProfile((sample, pay, profile) ->
            due(sample, pay, profile, sample.x().goes(pay, profile, 2), travelled(sample, pay, profile)[2]));
        Document.says("LAST: the PROFILE where it rests, or that came again; how many steps until then.");
        eachProfile((sample, pay, profile) -> {
            int[] want = travelled(sample, pay, profile);
            due(sample, pay, profile, sample.x().goes(pay, profile, 0), want[0]);
            due(sample, pay, profile, sample.x().goes(pay, profile, 1), want[1]);
        });
    }

    private static void drawn() {
        Document.says("DRAWN: how many of all PROFILES come to truth so.");
        eachPay((sample, pay) -> {
            int counted = 0;
            for (int profile = 0; profile < sample.profiles(); profile++) {
                counted += sample.x().goes(pay, profile, 0) == 0 ? 1 : 0;
            }
            Document.due(sample.name(pay), sample.x().drawn(pay), counted);
        });
    }
}
