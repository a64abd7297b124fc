/** Terms: asking. */
final class AskingBoundaries extends Sentences {
    static void all() {
        oneTermMore();
        votesForItselfAndWaitsAnew();
        inTheOrderOfNumbers();
        takesOverIfGreater();
        followsWithoutVote();
        votesInTheSameTerm();
        gaveAnotherVote();
        noLongerTale();
        whoVotesWaitsAnew();
        leadsWithMajority();
        takesOverFromOneWhoIsReached();
        doesNotLead();
        asksNoMore();
    }

    private static void oneTermMore() {
        sentence(TERMS, "Asking. To ask for votes makes the term of a driver 1 more");
        LogRaft x = crewOf(2);
        x.cut(0, 1);
        for (int term = 1; term <= 12; term++) {
            x.ask(0);
            due("term", x.driverOf(0, 1), term);
        }
        due("of one who is not reached", x.driverOf(1, 1), 0);
    }

    private static void votesForItselfAndWaitsAnew() {
        sentence(TERMS, "the driver asks then, votes for itself, and has waited 0 beats.");
        LogRaft x = crewOf(2);
        x.cut(0, 1);
        x.beats(8);
        x.ask(1);
        due("asks", numbers(x, 1), "[1, 1, 9, 0, 1, 0, 0, 1, 0, 1, 0]");
    }

    private static void inTheOrderOfNumbers() {
        sentence(TERMS, "Each driver who is reached, by the numbers");
        LogRaft x = crewOf(5);
        cutFrom(x, 3, 0, 1, 2, 4);
        x.ask(3);
        x.ask(3);
        x.tie(2, 3);
        due("driver 3 has a greater term", x.ask(2), 0);
        due("0 and 1 are asked ahead", x.driverOf(0, 4) * 10 + x.driverOf(1, 4), 22);
        due("4 would come behind", x.driverOf(4, 4), NONE);
        x = crewOf(5);
        cutFrom(x, 0, 1, 2, 3, 4);
        x.ask(0);
        x.ask(0);
        x.tie(0, 4);
        due("driver 0 has a greater term", x.ask(4), 0);
        due("all others would come behind", x.driverOf(1, 1) + x.driverOf(2, 1) + x.driverOf(3, 1), 0);
    }

    private static void takesOverIfGreater() {
        sentence(TERMS, "first takes over the term of the asking one, if it is greater");
        LogRaft x = crewOf(3);
        x.cut(0, 1);
        x.ask(1);
        due("term 1", x.driverOf(2, 1), 1);
        x.cut(0, 2);
        x.ask(0);
        x.tie(0, 1);
        x.tie(0, 2);
        due("a term 1 greater", x.ask(0), 3);
        due("is taken over", x.driverOf(1, 1) * 10 + x.driverOf(2, 1), 22);
        cutFrom(x, 1, 0, 2);
        for (int i = 0; i < 5; i++) {
            x.ask(1);
        }
        x.tie(1, 2);
        due("a term 6 greater", x.ask(1), 2);
        due("is taken over", x.driverOf(2, 1), 8);
    }

    private static void followsWithoutVote() {
        sentence(TERMS, "such a driver becomes a follower without a vote given in this term.");
        LogRaft x = crewOf(3);
        x.ask(0);
        x.shout(0, 'a');
        x.ask(1);
        due("a leader with a longer tale", x.driverOf(0, 0) * 10 + x.driverOf(0, 1), 2);
        due("its vote", x.driverOf(0, 4), NONE);
        x = crewOf(3);
        cutFrom(x, 0, 1, 2);
        x.ask(0);
        x.tie(0, 1);
        due("one who asks in the same term", x.ask(1), 2);
        due("goes on asking", x.driverOf(0, 0) * 10 + x.driverOf(0, 1), 11);
        due("and keeps its vote", x.driverOf(0, 4), 0);
    }

    /** Driver 1 takes over the term 2 from driver 3, but has a longer tale, and so gave no vote in it. */
    private static void votesInTheSameTerm() {
        sentence(TERMS, "Then it votes for the asking one, if it has the same term");
        LogRaft x = crewOf(4);
        x.ask(0);
        x.shout(0, 'a');
        x.cut(0, 3);
        x.send(0);
        x.cut(2, 3);
        due("a shorter tale", x.ask(3), 1);
        due("no vote in its term", x.driverOf(1, 1) * 10 + x.driverOf(1, 4), 19);
        due("another one in the same term", x.ask(2), 3);
        due("its vote", x.driverOf(1, 4), 2);
        due("leads", x.leader(), 2);
    }

    private static void gaveAnotherVote() {
        sentence(TERMS, "gave no other vote in it");
        LogRaft x = crewOf(3);
        x.cut(0, 1);
        x.ask(0);
        due("a vote was given", x.ask(1), 1);
        due("it stays", x.driverOf(2, 4), 0);
        due("in the next term", x.ask(1), 2);
        due("it is a new one", x.driverOf(2, 4), 1);
        due("the votes in all", x.account(10), 2 + 1 + 2);
    }

    private static void noLongerTale() {
        sentence(TERMS, "and has no longer tale");
        LogRaft x = crewOf(3);
        x.ask(0);
        x.shout(0, 'a');
        x.send(0);
        due("tales of the same length", x.ask(1), 3);
        x.cut(1, 2);
        x.shout(1, 'b');
        due("a tale one line longer", x.ask(0), 2);
        due("gives no vote", x.driverOf(1, 4), NONE);
        due("one that is not longer", x.driverOf(2, 4), 0);
        x.shout(0, 'c');
        due("the same number of lines", x.driverOf(0, 5) * 10 + x.driverOf(1, 5), 22);
        due("and a greater term", x.ask(1), 1);
        due("give no vote", x.driverOf(0, 4), NONE);
    }

    private static void whoVotesWaitsAnew() {
        sentence(TERMS, "who votes has waited 0 beats.");
        LogRaft x = crewOf(4);
        x.beats(8);
        x.cut(1, 2);
        x.ask(1);
        due("votes", x.driverOf(0, 3), 0);
        due("is not reached", x.driverOf(2, 3), 8);
        x = crewOf(3);
        x.ask(0);
        x.shout(0, 'a');
        x.cut(0, 2);
        x.send(0);
        x.wash(0);
        x.beats(5);
        due("a shorter tale", x.ask(2), 1);
        due("no vote", x.driverOf(1, 1) * 10 + x.driverOf(1, 4), 19);
        due("who does not vote waits on", x.driverOf(1, 3), 5);
    }

    private static void leadsWithMajority() {
        sentence(TERMS, "With votes of a majority the driver leads.");
        LogRaft x = crewOf(4);
        cutFrom(x, 0, 2, 3);
        due("half of the votes", x.ask(0), 2);
        due("asks on", x.driverOf(0, 0), 1);
        due("never led", x.driverOf(0, 10) + x.account(6), 0);
        x.tie(0, 2);
        due("one vote more", x.ask(0), 3);
        due("leads", x.driverOf(0, 0), 2);
        due("led once", x.driverOf(0, 10) * 10 + x.account(6), 11);
    }

    private static void takesOverFromOneWhoIsReached() {
        sentence(TERMS, "If one who is reached has a greater term than the asking one, the asking one takes over this term as a"
            + " follower without a vote given in it");
        LogRaft x = crewOf(2);
        x.cut(0, 1);
        x.ask(1);
        x.beats(4);
        x.tie(0, 1);
        due("the same term", x.ask(0), 1);
        due("is no greater one", numbers(x, 0), "[1, 1, 9, 0, 0, 0, 0, 1, 1, 1, 0]");
        x.cut(0, 1);
        x.ask(1);
        x.ask(1);
        x.tie(0, 1);
        due("a term 1 greater", x.ask(0), 0);
        due("is taken over", numbers(x, 0), "[0, 3, 9, 0, -1, 0, 0, 1, 1, 2, 0]");
        due("from one who asks on", numbers(x, 1), "[1, 3, 9, 0, 1, 0, 0, 1, 1, 3, 0]");
    }

    private static void doesNotLead() {
        sentence(TERMS, "does not lead");
        LogRaft x = crewOf(5);
        cutFrom(x, 4, 0, 1, 2, 3);
        x.ask(4);
        x.ask(4);
        x.tie(0, 4);
        due("four votes and a greater term", x.ask(0), 0);
        due("all voted", x.account(10), 2 + 4);
        due("follows", x.driverOf(0, 0), 0);
        due("nobody leads", x.leader(), NOTHING);
        due("nobody came to lead", x.account(6), 0);
    }

    private static void asksNoMore() {
        sentence(TERMS, "and asks no more drivers.");
        LogRaft x = crewOf(5);
        cutFrom(x, 2, 0, 1, 3, 4);
        x.ask(2);
        x.ask(2);
        x.tie(0, 2);
        x.beats(3);
        due("the third has a greater term", x.ask(0), 0);
        due("ahead of it", numbers(x, 1), "[0, 1, 9, 0, 0, 0, 0, 1, 3, 0, 0]");
        due("behind it", numbers(x, 3), "[0, 0, 9, 3, -1, 0, 0, 1, 3, 0, 0]");
        due("behind it", numbers(x, 4), "[0, 0, 9, 3, -1, 0, 0, 1, 3, 0, 0]");
    }
}
