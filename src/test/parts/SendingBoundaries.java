/** Terms: sending and beats. */
final class SendingBoundaries extends Sentences {
    static void all() {
        inTheOrderOfNumbers();
        greaterTerm();
        sendsNoMore();
        takesOverIfLess();
        followsAndWaitsAnew();
        alikeLinesStay();
        inTermsAndLetters();
        noLineOfTheLeaderBehind();
        furtherLinesAreCutOff();
        notFurtherThanItsLines();
        notLessThanBefore();
        lineOfItsOwnTerm();
        leaderIncluded();
        onlyIfFurther();
        whoWasReachedHasTheLine();
        inABeatByTheNumbers();
        asManyBeatsAsItsPatience();
        beatsFromZero();
    }

    private static void inTheOrderOfNumbers() {
        sentence(TERMS, "Sending. When a leader sends, this is done for each other driver who is reached, by the numbers.");
        LogRaft x = crewOf(5);
        cutFrom(x, 3, 0, 1, 2, 4);
        x.ask(3);
        x.ask(3);
        x.ask(2);
        x.shout(2, 'a');
        x.tie(2, 3);
        due("the fourth has a greater term", x.send(2), 0);
        due("ahead of it", x.driverOf(0, 5) * 10 + x.driverOf(1, 5), 11);
        due("behind it", x.driverOf(4, 5), 0);
    }

    private static void greaterTerm() {
        sentence(TERMS, "One with a greater term makes the leader a follower in that term, without a vote given in it");
        LogRaft x = crewOf(3);
        cutFrom(x, 2, 0, 1);
        x.ask(2);
        x.ask(0);
        x.tie(0, 2);
        due("the same term", x.driverOf(0, 1) * 10 + x.driverOf(2, 1), 11);
        due("is no greater one", x.send(0), 3);
        x.cut(0, 2);
        x.ask(2);
        x.tie(0, 2);
        due("a term 1 greater", x.send(0), 0);
        due("is taken over", numbers(x, 0), "[0, 2, 9, 0, -1, 0, 0, 1, 2, 1, 1]");
        due("from one who asks on", numbers(x, 2), "[1, 2, 9, 0, 2, 0, 0, 1, 1, 2, 0]");
    }

    private static void sendsNoMore() {
        sentence(TERMS, "and the leader sends no more.");
        LogRaft x = crewOf(4);
        cutFrom(x, 1, 0, 2, 3);
        x.ask(1);
        x.ask(1);
        x.ask(0);
        x.shout(0, 'a');
        x.beats(2);
        x.shout(0, 'b');
        x.tie(0, 1);
        x.cut(0, 2);
        x.beats(1);
        due("the first one it meets", x.driverOf(0, 1), 2);
        due("behind it", x.driverOf(3, 5), 1);
        due("refused then", x.send(0), REFUSED);
    }

    private static void takesOverIfLess() {
        sentence(TERMS, "Otherwise this driver takes over the term, if it is less, without a vote given in it");
        LogRaft x = crewOf(3);
        x.cut(0, 2);
        x.ask(0);
        due("a term 1 less", x.driverOf(2, 1), 0);
        x.tie(0, 2);
        x.send(0);
        due("is taken over", x.driverOf(2, 1), 1);
        due("no vote", x.driverOf(2, 4), NONE);
        due("the same term", x.driverOf(1, 1), 1);
        due("keeps its vote", x.driverOf(1, 4), 0);
        x = crewOf(3);
        x.cut(0, 2);
        x.ask(2);
        x.ask(0);
        x.ask(0);
        x.tie(0, 2);
        x.send(0);
        due("a vote of the term before", x.driverOf(2, 4), NONE);
    }

    private static void followsAndWaitsAnew() {
        sentence(TERMS, "becomes a follower, and has waited 0 beats; and");
        LogRaft x = crewOf(3);
        cutFrom(x, 2, 0, 1);
        x.ask(2);
        x.ask(0);
        x.beats(8);
        due("asks in the same term", numbers(x, 2), "[1, 1, 9, 8, 2, 0, 0, 1, 0, 1, 0]");
        x.tie(0, 2);
        x.send(0);
        due("follows then", numbers(x, 2), "[0, 1, 9, 0, 2, 0, 0, 1, 1, 1, 0]");
    }

    private static void alikeLinesStay() {
        sentence(TERMS, "up to the last line such that both tales are alike up to there");
        LogRaft x = sailing();
        x.shout(0, 'c');
        x.cut(0, 1);
        x.cut(0, 2);
        x.ask(1);
        x.shout(1, 'c');
        x.tie(0, 1);
        x.send(1);
        due("the first two", told(x, 0), "f2:a1b1|c2");
        due("one was cut off", x.account(8), 1);
    }

    /** Driver 2 has the letters of driver 1, but of another term, from the first line on. */
    private static void inTermsAndLetters() {
        sentence(TERMS, "line by line, in terms and letters, they stay");
        LogRaft x = crewOf(3);
        x.ask(2);
        shoutAll(x, 2, "ab");
        cutFrom(x, 2, 0, 1);
        x.ask(1);
        shoutAll(x, 1, "ab");
        due("alike in letters alone", x.alike(1, 2), 0);
        x.tie(1, 2);
        x.send(1);
        due("written anew", told(x, 2), "f2:|a2b2");
        due("cut off", x.account(8), 2);
        due("again", x.send(1), 3);
        due("they stay", x.account(8), 2);
    }

    private static void noLineOfTheLeaderBehind() {
        sentence(TERMS, "if there is a line of the leader behind that");
        LogRaft x = crewOf(3);
        x.ask(0);
        shoutAll(x, 0, "ab");
        x.cut(0, 2);
        due("leads with an empty tale", x.ask(2), 2);
        x.tie(0, 2);
        x.send(2);
        due("no line of the leader", told(x, 0), "f2:|a1b1");
        due("nothing is cut off", x.account(8), 0);
        x.shout(2, 'c');
        x.send(2);
        due("one line of the leader", told(x, 0), "f2:|c2");
        due("two are cut off", x.account(8), 2);
    }

    private static void furtherLinesAreCutOff() {
        sentence(TERMS, "all further lines of this driver are cut off, and all further ones of the leader are written there.");
        LogRaft x = crewOf(3);
        x.ask(0);
        shoutAll(x, 0, "abcdefghijkl");
        cutFrom(x, 0, 1, 2);
        x.ask(1);
        x.shout(1, 'z');
        x.tie(0, 1);
        due("twelve against one", x.send(1), 3);
        due("one line then", told(x, 0), "f2:|z2");
        due("twelve are cut off", x.account(8), 12);
        shoutAll(x, 1, "yxwvutsrqpo");
        x.send(1);
        due("eleven are written", told(x, 0), "f2:z2|y2x2w2v2u2t2s2r2q2p2o2");
        due("none more is cut off", x.account(8), 12);
    }

    private static void notFurtherThanItsLines() {
        sentence(TERMS, "Then the driver knows the tale agreed as far as the leader knows it, but not further than its own lines go");
        LogRaft x = sailing();
        x.shout(0, 'c');
        x.wash(2);
        x.send(0);
        x.shout(0, 'd');
        x.back(2);
        x.cut(0, 1);
        due("the leader knows", x.driverOf(0, 6), 3);
        x.send(0);
        due("as far as the leader knew", told(x, 2), "f1:a1b1c1|d1");
        due("not as far as it knows then", x.driverOf(0, 6), 4);
    }

    private static void notLessThanBefore() {
        sentence(TERMS, "and not less far than before.");
        LogRaft x = sailing();
        x.shout(0, 'c');
        x.send(0);
        due("one who knows more", x.driverOf(0, 6), 3);
        due("the leader who knows less", x.ask(1) + x.driverOf(1, 6), 5);
        x.send(1);
        due("after the sending", x.driverOf(0, 6), 3);
        due("who knew as much", x.driverOf(2, 6), 2);
    }

    private static void lineOfItsOwnTerm() {
        sentence(TERMS, "the leader knows its tale agreed up to the greatest line of its own term");
        LogRaft x = crewOf(3);
        x.ask(0);
        shoutAll(x, 0, "ab");
        x.cut(0, 2);
        x.wash(1);
        x.send(0);
        due("held by the leader alone", x.agreed(), 0);
        x.back(1);
        x.send(0);
        due("the greatest one", x.driverOf(0, 6), 2);
        x.shout(0, 'c');
        x.send(0);
        due("one more", x.driverOf(0, 6), 3);
        LogRaft y = crewOf(3);
        y.ask(0);
        shoutAll(y, 0, "ab");
        y.wash(2);
        y.wash(0);
        y.back(0);
        y.ask(0);
        y.send(0);
        due("lines of an earlier term alone", y.agreed(), 0);
        y.shout(0, 'c');
        y.send(0);
        due("behind them one of its own", y.agreed(), 3);
    }

    private static void leaderIncluded() {
        sentence(TERMS, "the leader included, as the leader saw it while sending");
        LogRaft x = crewOf(5);
        x.ask(4);
        x.shout(4, 'a');
        cutFrom(x, 4, 0, 1);
        due("two others and the leader", x.send(4), 3);
        due("are a majority", x.agreed(), 1);
        x.shout(4, 'b');
        x.cut(4, 2);
        due("one other and the leader", x.send(4), 2);
        due("are none", x.agreed(), 1);
    }

    private static void onlyIfFurther() {
        sentence(TERMS, "if this is further than before");
        LogRaft x = sailing();
        due("before", x.driverOf(0, 6), 2);
        x.send(0);
        due("the same line again", x.driverOf(0, 6), 2);
        x.ask(1);
        x.send(1);
        due("no line of its own term", x.driverOf(1, 6), 2);
        x.shout(1, 'c');
        x.send(1);
        due("further", x.driverOf(1, 6), 3);
        x.cut(1, 0);
        x.cut(1, 2);
        x.send(1);
        due("a sending to nobody", x.driverOf(1, 6), 3);
    }

    private static void whoWasReachedHasTheLine() {
        sentence(TERMS, "a driver who was reached has the line then.");
        LogRaft x = crewOf(3);
        x.ask(0);
        x.shout(0, 'a');
        x.cut(0, 2);
        x.send(0);
        due("the one who was reached", told(x, 1), "f1:|a1");
        due("with it, agreed at once", told(x, 0), "l1:a1|");
        due("the one who was not", told(x, 2), "f1:|");
    }

    private static void inABeatByTheNumbers() {
        sentence(TERMS, "Beats. When a beat goes by, each driver who is aboard, by the numbers: one who leads sends");
        LogRaft x = crew(1, 1, 1);
        due("three ask in one beat", x.beats(1), 3);
        due("the last one leads", x.leader(), 2);
        due("in the term", x.account(4), 3);
        x.wash(0);
        x.wash(1);
        due("the last one alone", x.beats(1), 0);
        due("sends", x.account(9), 1);
        x.wash(2);
        due("nobody is aboard", x.beats(1), 0);
        due("nobody sends", x.account(9), 1);
        due("nobody waits", x.driverOf(0, 3) + x.driverOf(1, 3) + x.driverOf(2, 3), 0);
        x = crew(1, 9);
        x.beats(1);
        x.shout(0, 'a');
        due("the first one", x.beats(1), 0);
        due("sends ahead of the second one's waiting", x.driverOf(1, 3) * 10 + x.driverOf(1, 5), 11);
    }

    private static void asManyBeatsAsItsPatience() {
        sentence(TERMS, "another one waits a beat more, and asks for votes if that is as many beats as its patience.");
        LogRaft x = crew(9, 4, 9);
        x.wash(0);
        x.wash(2);
        due("one beat less", x.beats(3), 0);
        due("waited", x.driverOf(1, 3), 3);
        due("as many", x.beats(1), 1);
        due("has waited 0", x.driverOf(1, 3), 0);
        due("asks", x.driverOf(1, 0), 1);
        due("as many again", x.beats(4), 1);
        due("a beat more", x.beats(1), 0);
        due("waited", x.driverOf(1, 3), 1);
    }

    private static void beatsFromZero() {
        sentence(TERMS, "Beats are numbered from 0.");
        LogRaft x = crewOf(1);
        due("at first", x.account(0), 0);
        x.beats(1);
        due("then", x.account(0), 1);
        x.beats(20);
        due("later", x.account(0), 21);
    }
}
