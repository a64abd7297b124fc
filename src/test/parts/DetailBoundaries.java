/** Terms: details. */
final class DetailBoundaries extends Sentences {
    static void all() {
        washedAwayKeepsEverything();
        washedAwayDoesNotWait();
        comesBackAsFollower();
        followerAsSoonAsItIsWashedAway();
        goesOnWaiting();
        earlierVotesAreForgotten();
        ownVoteCounts();
        takingOverKeepsTheTale();
        writtenAtTheEndOfTheLeaderAlone();
        othersGetItBySending();
        aloneLeads();
        aloneAgrees();
        earlierTerms();
        leaderAmongThoseAboard();
        lookedAtWhenAllWereAsked();
        agreesNothing();
        isCounted();
        keepWhatTheyGot();
        notReachedDoesNotCount();
        inTheNextTerm();
        wholeNumbers();
    }

    private static void washedAwayKeepsEverything() {
        sentence(TERMS, "Details. A driver who is washed away keeps everything");
        LogRaft x = sailing();
        x.cut(0, 2);
        x.shout(0, 'c');
        x.send(0);
        x.wash(0);
        due("one who led", numbers(x, 0), "[0, 1, 3, 0, 0, 3, 3, 0, 0, 1, 1]");
        due("its tale", told(x, 0), "f1:a1b1c1|");
        x.beats(2);
        x.wash(2);
        due("one who waited", numbers(x, 2), "[0, 1, 7, 2, 0, 2, 2, 0, 0, 0, 0]");
        due("the ropes", x.account(3), 1);
    }

    private static void washedAwayDoesNotWait() {
        sentence(TERMS, "does not wait");
        LogRaft x = crew(3, 9);
        x.beats(2);
        x.wash(0);
        due("the beat in which it would ask", x.beats(1), 0);
        due("waited", x.driverOf(0, 3), 2);
        due("many beats", x.beats(20) - x.driverOf(1, 9), 0);
        due("never asked", x.driverOf(0, 9), 0);
    }

    private static void comesBackAsFollower() {
        sentence(TERMS, "and comes back as a follower who has waited 0 beats");
        LogRaft x = crew(5, 9, 9);
        x.beats(4);
        x.wash(0);
        x.back(0);
        due("waited", x.driverOf(0, 3), 0);
        due("the beats from then on", x.beats(4), 0);
        due("the fifth of them", x.beats(1), 1);
        x.wash(0);
        x.back(0);
        due("one who led", numbers(x, 0), "[0, 1, 5, 0, 0, 0, 0, 1, 2, 1, 1]");
    }

    private static void followerAsSoonAsItIsWashedAway() {
        sentence(TERMS, "one who led, or asked, is a follower as soon as it is washed away.");
        LogRaft x = crewOf(2);
        x.ask(0);
        x.wash(0);
        due("one who led", x.driverOf(0, 0), 0);
        due("nobody leads", x.leader(), NOTHING);
        x.ask(1);
        due("asks", x.driverOf(1, 0), 1);
        x.wash(1);
        due("one who asked", x.driverOf(1, 0), 0);
        due("its line", told(x, 1), "f2:|");
    }

    private static void goesOnWaiting() {
        sentence(TERMS, "A driver who asks and has not got enough votes goes on waiting, and asks again in a new term.");
        LogRaft x = crew(3, 9, 9);
        cutFrom(x, 0, 1, 2);
        due("asks", x.beats(3), 1);
        due("waits", x.beats(2), 0);
        due("asks still", numbers(x, 0), "[1, 1, 3, 2, 0, 0, 0, 1, 0, 1, 0]");
        due("asks again", x.beats(1), 1);
        due("in a new term", numbers(x, 0), "[1, 2, 3, 0, 0, 0, 0, 1, 0, 2, 0]");
    }

    private static void earlierVotesAreForgotten() {
        sentence(TERMS, "Votes of an earlier term are forgotten.");
        LogRaft x = crewOf(4);
        cutFrom(x, 0, 2, 3);
        due("two votes", x.ask(0), 2);
        x.cut(0, 1);
        x.tie(0, 2);
        due("two again, not three", x.ask(0), 2);
        due("no majority", x.driverOf(0, 0), 1);
        due("those of its term", toldVotes(x, 0), "0,2");
        due("one who voted votes anew", x.ask(1), 2);
        due("for itself", toldVotes(x, 1), "1,3");
        due("the next time", x.ask(1), 3);
        due("for itself and others", toldVotes(x, 1), "1,2,3");
        due("what is left of the other's", toldVotes(x, 0), "0");
    }

    private static void ownVoteCounts() {
        sentence(TERMS, "A driver who asks counts its own vote.");
        LogRaft x = crewOf(5);
        x.cut(2, 0);
        x.cut(2, 1);
        due("two others and itself", x.ask(2), 3);
        due("are a majority", x.driverOf(2, 0), 2);
        due("votes in all", x.account(10), 3);
        due("told", toldVotes(x, 2), "2,3,4");
    }

    private static void takingOverKeepsTheTale() {
        sentence(TERMS, "To take over a term keeps the tale and what is agreed.");
        LogRaft x = sailing();
        x.shout(0, 'c');
        x.ask(1);
        due("a leader who is asked", told(x, 0), "f2:a1b1|c1");
        x.wash(1);
        x.ask(0);
        x.shout(0, 'd');
        x.cut(0, 2);
        x.ask(2);
        x.tie(0, 2);
        due("a leader who sends", x.send(0), 0);
        due("its tale", told(x, 0), "f4:a1b1|c1d3");
        x.cut(0, 2);
        x.ask(2);
        x.ask(2);
        x.tie(0, 2);
        due("one who asks", x.ask(0), 0);
        due("its tale", told(x, 0), "f6:a1b1|c1d3");
    }

    private static void writtenAtTheEndOfTheLeaderAlone() {
        sentence(TERMS, "A line that is shouted is written at the end of the tale of its leader alone");
        LogRaft x = sailing();
        due("line", x.shout(0, 'c'), 3);
        due("the leader's", told(x, 0), "l1:a1b1|c1");
        due("another one's", told(x, 1), "f1:a1b1|");
        due("another one's", told(x, 2), "f1:a1b1|");
    }

    private static void othersGetItBySending() {
        sentence(TERMS, "others get it by sending.");
        LogRaft x = sailing();
        x.shout(0, 'c');
        x.cut(0, 2);
        x.send(0);
        due("one who is reached", told(x, 1), "f1:a1b1|c1");
        due("one who is not", told(x, 2), "f1:a1b1|");
        x.tie(0, 2);
        x.beats(1);
        due("by a beat", told(x, 2), "f1:a1b1c1|");
    }

    private static void aloneLeads() {
        sentence(TERMS, "With one driver alone, asking makes it lead");
        LogRaft x = crew(3);
        due("asks", x.ask(0), 1);
        due("leads", x.driverOf(0, 0), 2);
        x = crew(3);
        due("by beats", x.beats(20), 1);
        due("leads", x.leader(), 0);
        x = crew(3, 3);
        x.wash(1);
        x.ask(0);
        due("beside a washed one it is not alone", x.driverOf(0, 0), 1);
    }

    private static void aloneAgrees() {
        sentence(TERMS, "and sending agrees its lines of its own term.");
        LogRaft x = crew(9);
        x.ask(0);
        shoutAll(x, 0, "ab");
        due("nothing yet", x.agreed(), 0);
        due("sends", x.send(0), 1);
        due("both lines", told(x, 0), "l1:a1b1|");
        x.shout(0, 'c');
        x.wash(0);
        x.back(0);
        x.ask(0);
        x.send(0);
        due("not the one of the term before", told(x, 0), "l2:a1b1|c1");
    }

    private static void earlierTerms() {
        sentence(TERMS, "Lines of earlier terms are agreed with a later one of the leader's own term.");
        LogRaft x = crew(9);
        x.ask(0);
        shoutAll(x, 0, "ab");
        x.wash(0);
        x.back(0);
        x.ask(0);
        x.send(0);
        due("alone", told(x, 0), "l2:|a1b1");
        x.shout(0, 'c');
        x.send(0);
        due("with a later one", told(x, 0), "l2:a1b1c2|");
    }

    private static void leaderAmongThoseAboard() {
        sentence(TERMS, "The leader of the latest term is looked for among those who are aboard.");
        LogRaft x = crewOf(3);
        x.ask(0);
        cutFrom(x, 0, 1, 2);
        x.ask(1);
        due("the later one", x.leader(), 1);
        x.wash(1);
        due("the earlier one", x.leader(), 0);
        x.back(1);
        due("still", x.leader(), 0);
        x.wash(0);
        due("neither", x.leader(), NOTHING);
    }

    private static void lookedAtWhenAllWereAsked() {
        sentence(TERMS, "Whether a driver leads is looked at when all who are reached were asked.");
        LogRaft x = crewOf(3);
        cutFrom(x, 2, 0, 1);
        x.ask(2);
        x.ask(2);
        x.tie(0, 2);
        due("a majority ahead of a greater term", x.ask(0), 0);
        due("two votes were given", x.account(10), 2 + 2);
        due("did not come to lead", x.driverOf(0, 10) + x.account(6), 0);
        due("follows", x.driverOf(0, 0), 0);
        x = crewOf(3);
        due("with a majority those behind are asked too", x.ask(0), 3);
        due("the last one", x.driverOf(2, 4), 0);
    }

    /** Driver 0 leads the term 1 and sends to 1 and 2, but driver 3 has the term 2. */
    private static LogRaft endedSending() {
        LogRaft x = crewOf(4);
        cutFrom(x, 3, 0, 1, 2);
        x.ask(3);
        x.ask(3);
        x.ask(0);
        x.shout(0, 'a');
        x.tie(0, 3);
        due("ends", x.send(0), 0);
        return x;
    }

    private static void agreesNothing() {
        sentence(TERMS, "A sending that ends by a greater term agrees nothing");
        LogRaft x = endedSending();
        due("three of four have it", x.holders(0, 1), 3);
        due("agreed", x.agreed(), 0);
    }

    private static void isCounted() {
        sentence(TERMS, "and is counted");
        LogRaft x = endedSending();
        due("sendings", x.account(9), 1);
        due("refused then", x.send(0), REFUSED);
        due("and not counted", x.account(9), 1);
    }

    private static void keepWhatTheyGot() {
        sentence(TERMS, "drivers who were done ahead keep what they got.");
        LogRaft x = endedSending();
        due("the second", told(x, 1), "f1:|a1");
        due("the third", told(x, 2), "f1:|a1");
        due("the fourth", told(x, 3), "c2:|");
    }

    private static void notReachedDoesNotCount() {
        sentence(TERMS, "Drivers who are not reached in a sending do not count for what is agreed.");
        LogRaft x = crewOf(5);
        x.ask(0);
        x.shout(0, 'a');
        cutFrom(x, 0, 3, 4);
        x.cut(0, 2);
        due("one is reached", x.send(0), 2);
        x.cut(0, 1);
        x.tie(0, 2);
        due("another one is reached", x.send(0), 2);
        due("three have it, but not in one sending", x.holders(0, 1), 3);
        due("not agreed", x.agreed(), 0);
        x.tie(0, 1);
        due("both", x.send(0), 3);
        due("agreed", x.agreed(), 1);
    }

    private static void inTheNextTerm() {
        sentence(TERMS, "Whether a driver would vote, or could lead, is told as if the other one, or it, asked in the next term.");
        LogRaft x = crewOf(3);
        x.cut(0, 1);
        x.ask(0);
        due("gave its vote in the term that would be", x.wouldVote(2, 1), false);
        due("in the next one it would", x.wouldVote(2, 0), true);
        due("could not lead", x.couldLead(1), 1);
        x.ask(1);
        due("in the next one it could", x.couldLead(1), 2);
        due("would vote then", x.wouldVote(2, 1), true);
        due("nothing was done", x.driverOf(2, 4), 0);
        LogRaft y = crewOf(3);
        cutFrom(y, 0, 1, 2);
        y.ask(0);
        y.ask(0);
        y.cut(1, 2);
        y.ask(2);
        y.tie(0, 1);
        due("takes over the term 2", y.ask(1), 0);
        due("which is the next one of another", y.driverOf(1, 1) - y.driverOf(2, 1), 1);
        due("gave no vote in it", y.wouldVote(1, 2), true);
        due("gave its vote in it to itself", y.wouldVote(0, 2), false);
        y.tie(1, 2);
        due("could get the one", y.couldLead(2), 2);
        y.tie(0, 2);
        due("but not the other one", y.couldLeadAgain(2), 2);
    }

    private static void wholeNumbers() {
        sentence(TERMS, "All numbers are whole, but where it is said");
        LogRaft x = crewOf(2);
        x.ask(0);
        x.shout(0, 'a');
        due("the mean is not", String.valueOf(x.meanTale()), "0.5");
        x.shout(0, 'b');
        x.wash(1);
        x.back(1);
        x.send(0);
        x.shout(0, 'c');
        due("the share is not", String.valueOf(x.agreedShare()), "0.4");
    }
}
