/** Terms: texts; and the promises of append, read and fault. */
final class TextBoundaries extends Sentences {
    /** Twelve commands in 60 signs, as many as there can be of both. */
    private static final String FULL = "beat;beat;beat;beat;beat;beat;beat;beat;beat;beat;beat;beat";

    static void all() {
        atMostSixtySigns();
        codes();
        signsOfTheGrammar();
        oneCommand();
        furtherCommands();
        simpleCommands();
        shoutCommand();
        ropeCommands();
        beatCommand();
        letters();
        commandsAreCalls();
        oneBeatIfNoneAreTold();
        faultAtTheFirstSign();
        faultAtTheEnd();
        letterByLetter();
        appendLength();
        appendCode();
        appendFull();
        readAllOrNone();
        readEmptiesTheInput();
        readCount();
        readFault();
        readRefused();
        latestFault();
        faultPosition();
        noFault();
    }

    private static void dueFault(String text, int position) {
        LogRaft x = new LogRaft();
        due("read of '" + text + "'", readText(x, text), BAD);
        due("fault of '" + text + "'", x.fault(), position);
    }

    /** A text without a fault, whether its commands are refused or not. */
    private static void dueNoFault(String text) {
        LogRaft x = new LogRaft();
        due("read of '" + text + "' is BAD", readText(x, text) == BAD, false);
        due("fault of '" + text + "'", x.fault(), NOTHING);
    }

    private static void atMostSixtySigns() {
        sentence(TERMS, "Texts. The input has at most 60 characters");
        LogRaft x = crewOf(2);
        x.cut(0, 1);
        type(x, FULL.substring(0, 55));
        type(x, "ask ");
        due("one less", x.account(11), 59);
        due("the sixtieth", x.append('0'), 60);
        due("one more", x.append(';'), BAD);
        due("characters", x.account(11), 60);
        due("twelve commands", x.read(), 12);
        due("the last one was done", x.driverOf(0, 9), 2);
    }

    private static void codes() {
        sentence(TERMS, "with codes from 32 to 126.");
        LogRaft x = new LogRaft();
        due("31", x.append((char) 31), BAD);
        due("32", x.append((char) 32), 1);
        due("126", x.append((char) 126), 2);
        due("127", x.append((char) 127), BAD);
        due("characters", x.account(11), 2);
    }

    private static void signsOfTheGrammar() {
        sentence(TERMS, "Its grammar is as follows, with terminals in quotes, where braces mean repetition and brackets an"
            + " optional part:");
        dueFault("\"beat\"", 0);
        dueFault("{beat}", 0);
        dueFault("beat [1]", 5);
        dueFault("beat | beat", 5);
    }

    private static void oneCommand() {
        sentence(TERMS, "text = command");
        dueFault("", 0);
        dueFault(";", 0);
        dueFault(" beat", 0);
        due("one command", readText(new LogRaft(), "beat"), 1);
    }

    private static void furtherCommands() {
        sentence(TERMS, "{ \";\" command");
        due("two", readText(new LogRaft(), "beat;beat"), 2);
        due("twelve", readText(new LogRaft(), FULL), 12);
        dueFault("beat;", 5);
        dueFault("beat;;beat", 5);
        dueFault("beat; beat", 5);
        dueFault("beat ;beat", 5);
        dueFault("beat,beat", 4);
        dueFault("beatbeat", 4);
        dueFault(";beat", 0);
        dueFault(FULL + ";", 60);
        dueFault(FULL + " ", 60);
    }

    private static void simpleCommands() {
        sentence(TERMS, "`command = \"driver \" digit | \"ask \" digit | \"send \" digit");
        dueSimple("driver");
        dueSimple("ask");
        dueSimple("send");
        sentence(TERMS, "\"wash \" digit | \"back \" digit");
        dueSimple("wash");
        dueSimple("back");
    }

    private static void dueSimple(String word) {
        int end = word.length();
        dueNoFault(word + " 0");
        dueNoFault(word + " 9");
        dueFault(word + " /", end + 1);
        dueFault(word + " :", end + 1);
        dueFault(word, end);
        dueFault(word + " ", end + 1);
        dueFault(word + "0", end);
        dueFault(word + "  0", end + 1);
        dueFault(word + " 00", end + 2);
        dueFault(word + " 0 ", end + 2);
        dueFault(word + " -1", end + 1);
    }

    private static void shoutCommand() {
        sentence(TERMS, "\"shout \" digit \" \" letter");
        dueNoFault("shout 0 a");
        dueNoFault("shout 9 z");
        dueFault("shout", 5);
        dueFault("shout ", 6);
        dueFault("shout /", 6);
        dueFault("shout :", 6);
        dueFault("shout 0", 7);
        dueFault("shout 0a", 7);
        dueFault("shout 0 ", 8);
        dueFault("shout 0  a", 8);
        dueFault("shout 00 a", 7);
        dueFault("shout 0 ab", 9);
        dueFault("shout a 0", 6);
    }

    private static void ropeCommands() {
        sentence(TERMS, "\"cut \" digit digit | \"tie \" digit digit");
        for (String word : new String[] {"cut", "tie"}) {
            dueNoFault(word + " 00");
            dueNoFault(word + " 99");
            dueFault(word, 3);
            dueFault(word + " ", 4);
            dueFault(word + "01", 3);
            dueFault(word + " /0", 4);
            dueFault(word + " :0", 4);
            dueFault(word + " 0", 5);
            dueFault(word + " 0/", 5);
            dueFault(word + " 0:", 5);
            dueFault(word + " 0 1", 5);
            dueFault(word + " 012", 6);
        }
    }

    private static void beatCommand() {
        sentence(TERMS, "\"beat\" [ \" \" digit ]");
        dueNoFault("beat");
        dueNoFault("beat 0");
        dueNoFault("beat 9");
        dueFault("beat ", 5);
        dueFault("beat /", 5);
        dueFault("beat :", 5);
        dueFault("beat  1", 5);
        dueFault("beat1", 4);
        dueFault("beats", 4);
        dueFault("beat 10", 6);
        dueFault("beat ;beat", 5);
    }

    private static void letters() {
        sentence(TERMS, "A letter is one from \"a\" to \"z\".");
        LogRaft x = crewOf(1);
        x.ask(0);
        due("the least and the greatest", readText(x, "shout 0 a;shout 0 z"), 2);
        due("the tale", told(x, 0), "l1:|a1z1");
        dueFault("shout 0 `", 8);
        dueFault("shout 0 {", 8);
        dueFault("shout 0 A", 8);
        dueFault("shout 0 Z", 8);
        dueFault("shout 0 1", 8);
    }

    private static void commandsAreCalls() {
        sentence(TERMS, "The commands are the calls of driver, ask, send, shout, wash, back, cut, tie and beats");
        LogRaft x = new LogRaft();
        due("driver", readText(x, "driver 1;driver 9;driver 8"), 3);
        due("the least and the greatest patience", x.driverOf(0, 2) * 10 + x.driverOf(1, 2), 19);
        due("cut and tie", readText(x, "cut 01;cut 12;tie 10"), 3);
        due("a rope", x.reaches(0, 1), true);
        due("another one", x.reaches(1, 2), false);
        due("ask and shout", readText(x, "ask 2;shout 2 q"), 2);
        due("the tale", told(x, 2), "l1:|q1");
        due("send", readText(x, "send 2"), 1);
        due("was sent", x.driverOf(0, 5), 1);
        due("wash and back", readText(x, "wash 1;wash 2;back 1"), 3);
        due("aboard", x.driverOf(1, 7) * 10 + x.driverOf(2, 7), 10);
        due("beat", readText(x, "beat 9"), 1);
        due("nine beats", x.account(0), 9);
    }

    private static void oneBeatIfNoneAreTold() {
        sentence(TERMS, "of one beat if none are told.");
        LogRaft x = new LogRaft();
        due("none", readText(x, "beat"), 1);
        due("beats", x.account(0), 1);
        due("none behind others", readText(x, "beat 5;beat"), 2);
        due("beats", x.account(0), 7);
        due("zero are told", readText(x, "beat 0"), REFUSED);
    }

    private static void faultAtTheFirstSign() {
        sentence(TERMS, "The fault position of a text is the index of its first character that cannot continue such a text");
        dueFault("~", 0);
        dueFault("0", 0);
        dueFault("ask x ask", 4);
        dueFault(FULL.substring(0, 55) + "beat!", 59);
        dueFault("beat;beat;xxxx;yyyy", 10);
    }

    private static void faultAtTheEnd() {
        sentence(TERMS, "or its length if it ends too early");
        dueFault("", 0);
        dueFault("a", 1);
        dueFault("ask", 3);
        dueFault("ask ", 4);
        dueFault("ask 1;", 6);
        dueFault(FULL.substring(0, 55) + "bea", 58);
        dueFault(FULL.substring(0, 55) + "ask ", 59);
        dueFault(FULL.substring(0, 50) + "ask 0;wash", 60);
    }

    private static void letterByLetter() {
        sentence(TERMS, "words are looked at letter by letter.");
        dueFault("Driver 1", 0);
        dueFault("drivex 1", 5);
        dueFault("as 0", 2);
        dueFault("sxnd 0", 1);
        dueFault("shend 0", 2);
        dueFault("seout 0 a", 2);
        dueFault("sendx", 4);
        dueFault("bxat", 1);
        dueFault("baat", 2);
        dueFault("beck 0", 2);
        dueFault("cat 01", 1);
        dueFault("toe 01", 1);
        dueFault("wave 0", 2);
        dueFault("beat;asx", 7);
    }

    private static void appendLength() {
        sentence(3, "Returns the length of the input then");
        LogRaft x = new LogRaft();
        for (int i = 1; i <= 60; i++) {
            due("append", x.append('x'), i);
        }
        x.read();
        due("into an empty one again", x.append('x'), 1);
    }

    private static void appendCode() {
        sentence(3, "BAD if its code is out of range");
        LogRaft x = new LogRaft();
        int[] codes = {0, 1, 10, 31, 127, 128, 255, 256, 256 + 'b', 32767, 32768, 65535};
        for (int code : codes) {
            due("append " + code, x.append((char) code), BAD);
        }
        due("length", x.account(11), 0);
        due("the least", x.append(' '), 1);
        due("the greatest", x.append('~'), 2);
    }

    private static void appendFull() {
        sentence(3, "or there are 60.");
        LogRaft x = new LogRaft();
        type(x, FULL);
        due("the sixtieth", x.append(';'), 60);
        due("one more", x.append('b'), BAD);
        due("once more", x.append(';'), BAD);
        due("both", x.append((char) 127), BAD);
        due("length", x.account(11), 60);
        due("they are as they were", x.read(), BAD);
        due("they end too early", x.fault(), 60);
    }

    private static void readAllOrNone() {
        sentence(13, "Carries out the commands of the input, one after the other, all of them or none.");
        LogRaft x = sailing();
        String before = numbers(x, 0) + numbers(x, 1) + numbers(x, 2) + accounts(x);
        dueRefused("the last one fails", readText(x, "shout 0 c;cut 01;send 0;beat 9;wash 2;ask 1;wash 2"), x, 8, 6);
        due("none is done", numbers(x, 0) + numbers(x, 1) + numbers(x, 2) + accounts(x), before);
        due("the rope", x.reaches(0, 1), true);
        due("each one stands on those before", readText(x, "wash 2;back 2;cut 12;tie 12"), 4);
        due("a driver who came just now", readText(new LogRaft(), "driver 1;ask 0;shout 0 a;send 0"), 4);
    }

    private static void readEmptiesTheInput() {
        sentence(13, "The input is empty then, whatever is returned.");
        LogRaft x = new LogRaft();
        String[] texts = {"beat", "", "x", "ask 0", "wash 9;beat", "driver 9;send 0"};
        for (String text : texts) {
            readText(x, text);
            due("after '" + text + "'", x.account(11), 0);
            due("the next sign", x.append('?'), 1);
            x.read();
        }
    }

    private static void readCount() {
        sentence(13, "Returns the number of commands");
        for (int many = 1; many <= 12; many++) {
            due("commands", readText(new LogRaft(), FULL.substring(0, many * 5 - 1)), many);
        }
    }

    private static void readFault() {
        sentence(13, "BAD, where the fault position is kept");
        LogRaft x = new LogRaft();
        due("an empty text", x.read(), BAD);
        due("its fault", x.fault(), 0);
        due("a fault behind a command that would be refused", readText(x, "ask 0;?"), BAD);
        due("its fault", x.fault(), 6);
        due("no reason", x.reason(0, false), NOTHING);
        due("no change", x.account(12), 0);
    }

    private static void readRefused() {
        sentence(13, "REFUSED for 8 or 9.");
        LogRaft x = crewOf(1);
        dueRefused("a refused command", readText(x, "send 0"), x, 8, 0);
        dueRefused("another code", readText(x, "beat;send 1"), x, 9, 1);
        dueRefused("a refused one ahead of another code", readText(x, "send 0;send 1"), x, 8, 0);
        dueRefused("another code ahead of a refused one", readText(x, "send 1;send 0"), x, 9, 0);
        due("an asking that takes over a term is no error", readText(x, "ask 0"), 1);
    }

    private static void latestFault() {
        sentence(14, "Returns the fault position of the latest text that had a fault.");
        LogRaft x = new LogRaft();
        readText(x, "beat x");
        due("one", x.fault(), 5);
        readText(x, "by");
        due("a later one", x.fault(), 1);
        readText(x, "beat");
        due("behind it a good one", x.fault(), 1);
        readText(x, "ask 0");
        due("behind it a refused one", x.fault(), 1);
        x.read();
        due("behind it an empty one", x.fault(), 0);
    }

    private static void faultPosition() {
        sentence(14, "Returns the position");
        dueFault("", 0);
        dueFault(FULL + "?", 59);
        dueFault(FULL + ";", 60);
    }

    private static void noFault() {
        sentence(14, "NOTHING if none had one.");
        LogRaft x = new LogRaft();
        due("no text", x.fault(), NOTHING);
        type(x, "?");
        due("a text that was not read", x.fault(), NOTHING);
        x = crewOf(1);
        readText(x, "beat");
        due("a good one", x.fault(), NOTHING);
        readText(x, "back 0");
        readText(x, "back 1");
        due("refused ones", x.fault(), NOTHING);
        due("a bad sign", x.append((char) 127), BAD);
        due("is no text", x.fault(), NOTHING);
    }
}
