/** Boundary cases of promises 12 to 14, and of what the description says of texts. */
public final class TextBoundsTest {
    private static final int LONGEST = 120;
    private static final String FIFTEEN = "path;repeat 9;repeat 5;";
    private static final String SIXTEEN = "path;repeat 9;repeat 6;";
    private static final Check check = new Check();

    public static void main(String[] args) {
        longestText();
        appendCharacterErrors();
        clearText();
        sequenceOfItems();
        nodesItem();
        noneItem();
        fullItem();
        pathItem();
        ringItem();
        starItem();
        edgeItem();
        repeatItem();
        repeatTakesTheLastRound();
        longestTokens();
        spaces();
        oneDigitNumbers();
        beginsWithFourNodes();
        positionByGrammar();
        positionOfOtherCharacters();
        positionOfWrongNumbers();
        positionOfRepeatWithoutRound();
        positionWithoutRoom();
        firstErrorCounts();
        edgesToldAgain();
        lastTokenIsRead();
        textEndsTooSoon();
        loadAnswers();
        loadReplacesAll();
        failedLoadKeepsAll();
        check.end();
    }

    private static String spaced(String begin, int length) {
        StringBuilder text = new StringBuilder(begin);
        while (text.length() < length) {
            text.append(' ');
        }
        return text.toString();
    }

    private static void good(String text, int rounds, int nodes, int edges) {
        ChangingRounds x = new ChangingRounds();
        Check.write(x, text);
        check.due("load of '" + text + "'", x.load(), rounds);
        check.due("nodes of '" + text + "'", x.count(0), nodes);
        check.due("rounds of '" + text + "'", x.count(1), rounds);
        check.due("edges of '" + text + "'", x.count(2), edges);
        check.due("text behind '" + text + "'", x.count(4), 0);
    }

    private static void bad(String text, int position) {
        ChangingRounds x = new ChangingRounds();
        Check.write(x, text);
        check.due("load of '" + text + "'", x.load(), -10 - position);
        check.due("text kept of '" + text + "'", x.count(4), text.length());
        check.due("rounds behind '" + text + "'", x.count(1), 0);
        check.due("saved behind '" + text + "'", x.count(5), 0);
    }

    private static void longestText() {
        check.says("A schedule can be read from a text of at most 120 characters, which is built "
                + "one character at a time");
        ChangingRounds x = new ChangingRounds();
        for (int length = 1; length <= LONGEST; length++) {
            check.due("append", x.appendCharacter(length < LONGEST ? ' ' : 'a'), length);
        }
        check.due("append 121", x.appendCharacter(';'), Check.CAPACITY);
        check.due("append 121 again", x.appendCharacter(' '), Check.CAPACITY);
        check.due("length", x.count(4), LONGEST);
        check.due("the last character is read", x.load(), -10 - 119);
        good(spaced("full", 119) + ";", 1, 4, 6);
        good(spaced("", 115) + "path;", 1, 4, 3);
        good(spaced("", 120), 0, 4, 0);
        good("none;".repeat(15) + spaced("", 40) + "full;", 16, 4, 6);
        good("01 ".repeat(39) + "23;", 1, 4, 2);
        bad("01 ".repeat(40), 120);
        bad(";".repeat(120), 0);
        bad("a".repeat(120), 0);
        bad("1".repeat(120), 0);
    }

    private static void appendCharacterErrors() {
        check.says("Returns the new length of the text; INVALID_ARGUMENT if character is out of "
                + "range; CAPACITY_EXCEEDED if the text has 120 characters.");
        check.range("character", 0, 255, c -> new ChangingRounds().appendCharacter(c));
        // Low bits that make a good character do not make a number one.
        check.due("256 + ;", new ChangingRounds().appendCharacter(256 + ';'), Check.INVALID);
        check.due("65536 + ;", new ChangingRounds().appendCharacter(65536 + ';'), Check.INVALID);
        ChangingRounds x = new ChangingRounds();
        Check.write(x, spaced("path", 119));
        check.due("the last place", x.appendCharacter(255), 120);
        check.due("no place", x.appendCharacter(0), Check.CAPACITY);
        check.says("If several error codes apply, the one that is named first in the description "
                + "of the method is returned;");
        check.due("too large without room", x.appendCharacter(256), Check.INVALID);
        check.due("too small without room", x.appendCharacter(-1), Check.INVALID);
    }

    private static void clearText() {
        check.says("Returns the previous length of the text.");
        ChangingRounds x = new ChangingRounds();
        check.due("empty", x.clearText(), 0);
        x.appendCharacter('p');
        check.due("one", x.clearText(), 1);
        check.due("empty again", x.clearText(), 0);
        Check.write(x, spaced("path;", 121));
        check.due("full", x.clearText(), LONGEST);
        check.due("room again", x.appendCharacter(';'), 1);
        x.clearText();
        check.due("nothing is left to read", x.load(), 0);
    }

    private static void sequenceOfItems() {
        check.says("a sequence of items, perhaps empty, each of which ends with \";\"");
        good("", 0, 4, 0);
        good(" ", 0, 4, 0);
        good("none;", 1, 4, 0);
        good("none;none;", 2, 4, 0);
        bad("none", 4);
        bad("none;none", 9);
        bad(";", 0);
        bad("none;;", 5);
        bad(";none;", 0);
        bad("none none;", 5);
        // A full schedule takes no empty item either.
        bad(SIXTEEN + ";", SIXTEEN.length());
        good(SIXTEEN + "   ", 16, 4, 48);
    }

    private static void nodesItem() {
        check.says("\"nodes\" N only as the first item");
        good("nodes 2;", 0, 2, 0);
        good("nodes 8;", 0, 8, 0);
        good(" nodes 4;", 0, 4, 0);
        bad("nodes 1;", 6);
        bad("nodes 9;", 6);
        bad("nodes 0;", 6);
        bad("nodes 10;", 6);
        bad("nodes 8;nodes 8;", 8);
        bad("none;nodes 8;", 5);
        bad(SIXTEEN + "nodes 4;", SIXTEEN.length());
        bad("nodes 4;none;nodes 4;", 13);
    }

    private static void noneItem() {
        check.says("\"none\" a round without edges");
        good("nodes 2;none;", 1, 2, 0);
        good("nodes 8;none;", 1, 8, 0);
    }

    private static void fullItem() {
        check.says("\"full\" a round with all edges");
        good("nodes 2;full;", 1, 2, 1);
        good("nodes 3;full;", 1, 3, 3);
        good("nodes 8;full;", 1, 8, 28);
    }

    private static void pathItem() {
        check.says("\"path\" a round with the edges between i and i + 1");
        check.edges(check.loaded("nodes 2;path;"), 0, "01");
        check.edges(check.loaded("nodes 3;path;"), 0, "01 12");
        check.edges(check.loaded("nodes 8;path;"), 0, "01 12 23 34 45 56 67");
    }

    private static void ringItem() {
        check.says("\"ring\" the same, and the edge between the last node and node 0 (if there are "
                + "at least 3 nodes)");
        good("nodes 2;ring;", 1, 2, 1);
        check.edges(check.loaded("nodes 2;ring;"), 0, "01");
        check.edges(check.loaded("nodes 3;ring;"), 0, "01 12 20");
        check.edges(check.loaded("nodes 8;ring;"), 0, "01 12 23 34 45 56 67 70");
    }

    private static void starItem() {
        check.says("\"star\" NODE a round with the edges from a node to all others");
        check.edges(check.loaded("nodes 2;star 1;"), 0, "01");
        check.edges(check.loaded("star 0;"), 0, "01 02 03");
        check.edges(check.loaded("star 3;"), 0, "30 31 32");
        check.edges(check.loaded("nodes 8;star 7;"), 0, "70 71 72 73 74 75 76");
        bad("star 4;", 5);
        bad("nodes 2;star 2;", 13);
        bad("nodes 8;star 8;", 13);
        bad("nodes 8;star 9;", 13);
    }

    private static void edgeItem() {
        check.says("EDGE { EDGE } a round with these edges; an EDGE is a number of two digits, the "
                + "numbers of two different nodes");
        check.edges(check.loaded("01;"), 0, "01");
        check.edges(check.loaded("32;"), 0, "23");
        check.edges(check.loaded("nodes 2;10;"), 0, "01");
        check.edges(check.loaded("nodes 8;07 76;"), 0, "07 67");
        good("01 02 03 12 13 23;", 1, 4, 6);
        bad("00;", 0);
        bad("33;", 0);
        bad("34;", 0);
        bad("43;", 0);
        bad("44;", 0);
        bad("nodes 8;78;", 8);
        bad("nodes 8;87;", 8);
        bad("nodes 8;77;", 8);
        bad("nodes 2;12;", 8);
        bad("1;", 0);
        bad("012;", 0);
        bad("01 11;", 3);
        bad("01 1;", 3);
        bad("01 123;", 3);
        bad("01 14;", 3);
        bad("01 none;", 3);
    }

    private static void repeatItem() {
        check.says("\"repeat\" COUNT the last round is added again so many times, 1 to 9");
        good("path;repeat 1;", 2, 4, 6);
        good("path;repeat 9;", 10, 4, 30);
        bad("path;repeat 0;", 12);
        bad("path;repeat 10;", 12);
        bad("path;repeat 09;", 12);
        good(FIFTEEN + "repeat 1;", 16, 4, 48);
        bad(FIFTEEN + "repeat 2;", FIFTEEN.length() + 7);
        bad(FIFTEEN + "repeat 9;", FIFTEEN.length() + 7);
        bad(SIXTEEN + "repeat 1;", SIXTEEN.length() + 7);
        bad(SIXTEEN + "repeat 0;", SIXTEEN.length() + 7);
    }

    private static void repeatTakesTheLastRound() {
        check.says("the last round is added again so many times");
        ChangingRounds x = check.loaded("full;01;repeat 1;none;repeat 2;star 1;repeat 1;");
        String[] due = {"01 02 03 12 13 23", "01", "01", "", "", "", "10 12 13", "10 12 13"};
        check.due("rounds", x.count(1), due.length);
        for (int round = 0; round < due.length; round++) {
            check.edges(x, round, due[round]);
        }
        // The rounds are of their own: a change of one leaves the others alone.
        x.setEdge(7, 0, 3, 1);
        check.due("the copy", x.round(7, 0), 4);
        check.due("the first one", x.round(6, 0), 3);
    }

    private static void longestTokens() {
        check.says("Tokens are words (longest sequences of letters a to z), numbers (longest "
                + "sequences of digits) and \";\".");
        good("nodes8;path;star7;01;repeat9;", 12, 8, 24);
        bad("nonenone;", 0);
        bad("nonea;", 0);
        bad("nonez;", 0);
        bad("anone;", 0);
        bad("znone;", 0);
        for (String other : new String[] {"mone", "nona", "gull", "fulk", "bath", "patg", "sing",
            "rink", "ttar 1", "staq 1", "modes 4", "nodet 4", "full;sepeat 1", "full;repeas 1"}) {
            bad(other + ";", other.startsWith("full;") ? 5 : 0);
        }
        bad("0112;", 0);
        bad("011;", 0);
        bad("01 1223;", 3);
        bad("star01;", 4);
        bad("stars 1;", 0);
        bad("repeat 1;", 0);
        bad("none;repeats 1;", 5);
        bad("01a;", 2);
        bad("none0;", 4);
    }

    private static void spaces() {
        check.says("Spaces (code 32) may stand before, between and behind tokens; they are "
                + "necessary only between two numbers.");
        good("  nodes  5  ;  star  4  ;  01  12  ;  repeat  2  ;  ", 4, 5, 10);
        good("nodes5;star4;01 12;repeat2;", 4, 5, 10);
        bad("no ne;", 0);
        bad("0 1;", 0);
        bad("path;re peat 1;", 5);
        for (int code : new int[] {0, 9, 10, 13, 31, 33, 127, 128, 160, 255}) {
            bad((char) code + "path;", 0);
            bad("path" + (char) code + ";", 4);
            bad("path;" + (char) code, 5);
            bad("01" + (char) code + "12;", 2);
        }
    }

    private static void oneDigitNumbers() {
        check.says("N, NODE and COUNT are numbers of one digit.");
        bad("nodes 04;", 6);
        bad("nodes 004;", 6);
        bad("nodes 44;", 6);
        bad("star 00;", 5);
        bad("star 11;", 5);
        bad("none;repeat 01;", 12);
        bad("none;repeat 11;", 12);
        bad("nodes 99999999999999999999;", 6);
        bad("star 4294967297;", 5);
        bad("none;repeat 4294967297;", 12);
        bad("nodes;", 5);
        bad("star;", 4);
        bad("none;repeat;", 11);
        bad("nodes x;", 6);
        bad("star x;", 5);
        bad("none;repeat x;", 12);
        bad("nodes 4 4;", 8);
        bad("star 1 1;", 7);
        bad("none;repeat 1 1;", 14);
    }

    private static void beginsWithFourNodes() {
        check.says("The text is read from left to right, beginning with 4 nodes and no rounds.");
        ChangingRounds x = check.loaded("nodes 8;full;");
        Check.write(x, "star 4;");
        check.due("no node 4", x.load(), -15);
        x.clearText();
        Check.write(x, "repeat 1;");
        check.due("no round to repeat", x.load(), -10);
        x.clearText();
        Check.write(x, "star 3;");
        check.due("one round", x.load(), 1);
        check.due("4 nodes", x.count(0), 4);
        check.edges(x, 0, "30 31 32");
    }

    private static void positionByGrammar() {
        check.says("The error position is the offset (from 0) of the first character of the first "
                + "token that is not allowed where it stands: by the grammar;");
        bad("x;", 0);
        bad(" x;", 1);
        bad("none;   xyz;", 8);
        bad("none  12;", 6);
        bad("none  none;", 6);
        bad("nodes  ;", 7);
        bad("nodes  none;", 7);
        bad("nodes 4  4;", 9);
        bad("nodes 4  none;", 9);
        bad("star  ;", 6);
        bad("star  star;", 6);
        bad("star 1  2;", 8);
        bad("star 1  none;", 8);
        bad("01  none;", 4);
        bad("none;repeat  ;", 13);
        bad("none;repeat  none;", 13);
        bad("none;repeat 1  1;", 15);
        bad("none;repeat 1  none;", 15);
        bad("none;  ;", 7);
        bad("nodes 4;  ;", 10);
        bad("nodes 4;  nodes 4;", 10);
    }

    private static void positionOfOtherCharacters() {
        check.says("any other character;");
        for (char other : "!\"/:@AZ[`{~,.-+".toCharArray()) {
            bad(other + "", 0);
            bad(" " + other, 1);
            bad("none" + other + ";", 4);
            bad("nodes " + other + "4;", 6);
            bad("nodes 4" + other, 7);
            bad("star" + other + "1;", 4);
            bad("01" + other, 2);
            bad("none;" + other, 5);
            bad("no" + other + "ne;", 0);
        }
    }

    private static void positionOfWrongNumbers() {
        check.says("a number that is not as described;");
        bad("nodes 1;full;", 6);
        bad("nodes  9;full;", 7);
        bad("star  4;full;", 6);
        bad("  00;full;", 2);
        bad("01 12  23  34;", 11);
        bad("01 12  2  34;", 7);
        bad("none;repeat  0;", 13);
    }

    private static void positionOfRepeatWithoutRound() {
        check.says("the word \"repeat\" if there is no round;");
        bad("repeat 1;", 0);
        bad("  repeat 1;", 2);
        bad("repeat", 0);
        bad("repeat;", 0);
        bad("repeat 0;", 0);
        bad("nodes 4;repeat 1;", 8);
        bad("nodes 4;  repeat 10;", 10);
        good("none;repeat 1;", 2, 4, 0);
    }

    private static void positionWithoutRoom() {
        check.says("the word, the first EDGE, or the COUNT of an item with which there would be "
                + "more than 16 rounds.");
        int end = SIXTEEN.length();
        for (String word : new String[] {"none", "full", "path", "ring", "star"}) {
            bad(SIXTEEN + word + (word.equals("star") ? " 0;" : ";"), end);
            bad(SIXTEEN + "  " + word, end + 2);
            good(FIFTEEN + word + (word.equals("star") ? " 0;" : ";"), 16, 4, 45 + edges(word));
        }
        bad(SIXTEEN + "star 9;", end);
        bad(SIXTEEN + "star;", end);
        good(FIFTEEN + "01 12;", 16, 4, 47);
        bad(SIXTEEN + "01 12;", end);
        bad(SIXTEEN + " 01 12 99;", end + 1);
        bad(SIXTEEN + " 01", end + 1);
        good(FIFTEEN + "repeat 1;", 16, 4, 48);
        bad(SIXTEEN + "repeat  1;", end + 8);
        bad(SIXTEEN + "repeat  1", end + 8);
        bad(SIXTEEN + "repeat  ;", end + 8);
        bad(SIXTEEN + "repeat  x;", end + 8);
        bad(SIXTEEN + "repeat  ", end + 8);
        bad("none;".repeat(7) + "repeat 9;none;", 35 + 9);
        bad("none;".repeat(8) + "repeat 9;", 40 + 7);
        good("none;".repeat(7) + "repeat 9;", 16, 4, 0);
    }

    private static int edges(String word) {
        switch (word) {
            case "none": return 0;
            case "full": return 6;
            case "ring": return 4;
            default: return 3;
        }
    }

    private static void firstErrorCounts() {
        check.says("the first token that is not allowed where it stands");
        bad("x y;", 0);
        bad("none x !", 5);
        bad("nodes 9 9;", 6);
        bad("01 00 11;", 3);
        bad("none;repeat 0;repeat 0;", 12);
        bad("! none;", 0);
        bad(SIXTEEN + "none;!", SIXTEEN.length());
    }

    private static void edgesToldAgain() {
        check.says("An EDGE may be told several times.");
        good("01 01;", 1, 4, 1);
        good("01 10;", 1, 4, 1);
        good("01 10 01 12 21;", 1, 4, 2);
        good("nodes 2;" + "01 ".repeat(36) + "10;", 1, 2, 1);
    }

    private static void lastTokenIsRead() {
        check.says("The last token of the text is read as it stands, too;");
        bad("non", 0);
        bad("none;non", 5);
        bad("none;repea", 5);
        bad("nodes 9", 6);
        bad("nodes 1", 6);
        bad("nodes 44", 6);
        bad("star 4", 5);
        bad("0", 0);
        bad("012", 0);
        bad("01 1", 3);
        bad("01 11", 3);
        bad("none;repeat 0", 12);
        bad("none;repeat 10", 12);
        bad("none;nodes", 5);
        bad("repeat", 0);
        bad(SIXTEEN + "none", SIXTEEN.length());
        bad(SIXTEEN + "star", SIXTEEN.length());
        bad(SIXTEEN + "01", SIXTEEN.length());
        bad(FIFTEEN + "repeat 2", FIFTEEN.length() + 7);
        bad("none;!", 5);
        bad(spaced("", 119) + "x", 119);
        bad(spaced("none;", 119) + ";", 119);
    }

    private static void textEndsTooSoon() {
        check.says("if the text ends where another token must come, the error position is the "
                + "length of the text.");
        String[] texts = {"none", "nodes", "nodes 4", "star", "star 1", "01", "01 12",
            "none;repeat", "none;repeat 1", "nodes 4;none", SIXTEEN + "repeat"};
        for (String text : texts) {
            bad(text, text.length());
            bad(text + " ", text.length() + 1);
            bad(text + "   ", text.length() + 3);
            bad(spaced(text, LONGEST), LONGEST);
        }
        // Behind an item no other one must come.
        good("none;   ", 1, 4, 0);
        good(spaced("nodes 8;", LONGEST), 0, 8, 0);
    }

    private static void loadAnswers() {
        check.says("Returns the number of rounds; -10 minus the error position if the text is not "
                + "a schedule (then nothing changes, and the text is kept).");
        good("", 0, 4, 0);
        good(SIXTEEN, 16, 4, 48);
        bad("!", 0);
        bad(spaced("", 119) + "!", 119);
        bad(spaced("none", 120), 120);
    }

    private static void loadReplacesAll() {
        check.says("Reads the text as a schedule, in place of the present one; the value of each "
                + "node becomes its number. The text becomes empty.");
        ChangingRounds x = check.loaded("nodes 8;full;repeat 9;repeat 6;");
        x.setValue(0, 99);
        x.setValue(7, 0);
        check.due("load of the empty text", x.load(), 0);
        check.due("nodes", x.count(0), 4);
        check.due("rounds", x.count(1), 0);
        check.due("value(0)", x.value(0), 0);
        Check.write(x, "nodes 8;none;");
        check.due("load", x.load(), 1);
        check.due("text", x.count(4), 0);
        check.due("edges", x.count(2), 0);
        check.due("value(7)", x.value(7), 7);
        check.due("the text is not read again", x.load(), 0);
        check.due("rounds then", x.count(1), 0);
    }

    private static void failedLoadKeepsAll() {
        check.says("(then nothing changes, and the text is kept)");
        ChangingRounds x = check.loaded("nodes 5;ring;");
        x.setValue(4, 44);
        Check.write(x, "nodes 3;full;full");
        check.due("the end is missing", x.load(), -10 - 17);
        check.due("once more", x.load(), -10 - 17);
        check.due("nodes", x.count(0), 5);
        check.due("value(4)", x.value(4), 44);
        check.edges(x, 0, "01 12 23 34 40");
        check.due("text", x.count(4), 17);
        check.due("the end", x.appendCharacter(';'), 18);
        check.due("load of the whole", x.load(), 2);
        check.due("nodes then", x.count(0), 3);
    }
}
