/** Promises 12 to 14: the text and its reader. */
public final class TextTest {
    private static final Check check = new Check();

    public static void main(String[] args) {
        appendCharacter();
        clearText();
        emptyTexts();
        goodTexts();
        numbersOfNodes();
        grammarErrors();
        numberErrors();
        roomErrors();
        otherCharacters();
        endsOfText();
        loadReplacesAll();
        failedLoadChangesNothing();
        check.end();
    }

    /** A text that is read, with the rounds, the nodes and the edges that it has. */
    private static void good(String text, int rounds, int nodes, int edges) {
        ChangingRounds x = new ChangingRounds();
        Check.write(x, text);
        check.due("load of '" + text + "'", x.load(), rounds);
        check.due("nodes of '" + text + "'", x.count(0), nodes);
        check.due("edges of '" + text + "'", x.count(2), edges);
        check.due("text left of '" + text + "'", x.count(4), 0);
        check.due("saved by '" + text + "'", x.count(5), 1);
    }

    private static void bad(String text, int position) {
        ChangingRounds x = new ChangingRounds();
        Check.write(x, text);
        check.due("load of '" + text + "'", x.load(), -10 - position);
        check.due("text kept of '" + text + "'", x.count(4), text.length());
        check.due("saved by '" + text + "'", x.count(5), 0);
    }

    private static void appendCharacter() {
        ChangingRounds x = new ChangingRounds();
        check.due("character -1", x.appendCharacter(-1), Check.INVALID);
        check.due("character 256", x.appendCharacter(256), Check.INVALID);
        check.due("low character", x.appendCharacter(Integer.MIN_VALUE), Check.INVALID);
        check.due("high character", x.appendCharacter(Integer.MAX_VALUE), Check.INVALID);
        check.due("65536 + 59", x.appendCharacter(65536 + 59), Check.INVALID);
        check.due("character 0", x.appendCharacter(0), 1);
        check.due("character 255", x.appendCharacter(255), 2);
        for (int length = 3; length <= 120; length++) {
            check.due("append", x.appendCharacter(' '), length);
        }
        check.due("append 121", x.appendCharacter(' '), Check.CAPACITY);
        check.due("wrong before no room", x.appendCharacter(256), Check.INVALID);
        check.due("length", x.count(4), 120);
        check.due("clear 120", x.clearText(), 120);
        check.due("append after clear", x.appendCharacter(' '), 1);
    }

    private static void clearText() {
        ChangingRounds x = new ChangingRounds();
        Check.write(x, "full;");
        check.due("clearText", x.clearText(), 5);
        check.due("length", x.count(4), 0);
        check.due("clearText again", x.clearText(), 0);
        check.due("clearText saves nothing", x.count(5), 0);
        check.due("load of nothing", x.load(), 0);
    }

    private static void emptyTexts() {
        good("", 0, 4, 0);
        good("   ", 0, 4, 0);
        good("nodes 7;", 0, 7, 0);
    }

    private static void goodTexts() {
        good("none;", 1, 4, 0);
        good("full;", 1, 4, 6);
        good("path;", 1, 4, 3);
        good("ring;", 1, 4, 4);
        good("star 3;", 1, 4, 3);
        good("star0;", 1, 4, 3);
        good("  star  1  ;  ", 1, 4, 3);
        good("nodes6;ring;star5;", 2, 6, 11);
        good("nodes 2;ring;", 1, 2, 1);
        good("nodes 3;ring;", 1, 3, 3);
        good("01 12 23;", 1, 4, 3);
        good("01 10 01;", 1, 4, 1);
        good("10;", 1, 4, 1);
        good("01;repeat 1;", 2, 4, 2);
        good("path;repeat9;none;repeat 5;", 16, 4, 30);
        good("path;repeat 1;repeat 2;", 4, 4, 12);
        good("nodes 8;67 70;", 1, 8, 2);
        good("nodes 8;full;repeat 9;repeat 6;", 16, 8, 448);
        ChangingRounds x = check.loaded("nodes 5;star 2;ring;14 03;");
        check.due("star edge", x.edge(0, 2, 4), 1);
        check.due("no star edge", x.edge(0, 0, 1), 0);
        check.due("ring closes", x.edge(1, 4, 0), 1);
        check.due("ring goes on", x.edge(1, 2, 3), 1);
        check.due("ring has no chord", x.edge(1, 1, 3), 0);
        check.due("edge 1 4", x.edge(2, 4, 1), 1);
        check.due("edge 0 3", x.edge(2, 0, 3), 1);
        check.due("two edges", x.round(2, 0), 2);
        ChangingRounds path = check.loaded("nodes 3;path;");
        check.due("path is open", path.edge(0, 0, 2), 0);
    }

    private static void numbersOfNodes() {
        for (int nodes = 2; nodes <= 8; nodes++) {
            good("nodes " + nodes + ";full;", 1, nodes, nodes * (nodes - 1) / 2);
        }
        bad("nodes 0;", 6);
        bad("nodes 1;", 6);
        bad("nodes 9;", 6);
        bad("nodes 04;", 6);
        bad("nodes 44;", 6);
        bad("nodes ;", 6);
        bad("nodes four;", 6);
        bad("nodes 4 4;", 8);
        bad("nodes 4 path;", 8);
        bad("nodes 4;nodes 4;", 8);
        bad("none;nodes 4;", 5);
    }

    private static void grammarErrors() {
        bad(";", 0);
        bad(" ;", 1);
        bad("path;;", 5);
        bad("pat;", 0);
        bad("paths;", 0);
        bad("pathring;", 0);
        bad("path ring;", 5);
        bad("path 1;", 5);
        bad("none 01;", 5);
        bad("star;", 4);
        bad("star star;", 5);
        bad("star 1 2;", 7);
        bad("01 path;", 3);
        bad("01path;", 2);
        bad("01 12 nodes;", 6);
        bad("repeat 1;", 0);
        bad("nodes 4;repeat 1;", 8);
        bad("path;repeat;", 11);
        bad("path;repeat x;", 12);
        bad("path;repeat 1 1;", 14);
        bad("full; x", 6);
        bad("a;", 0);
        bad("bath;", 0);
        bad("patha;", 0);
        bad("pathz;", 0);
        bad("zpath;", 0);
        bad("nodez 4;", 0);
        bad("odes 4;", 0);
    }

    private static void numberErrors() {
        bad("0;", 0);
        bad("012;", 0);
        bad("0112;", 0);
        bad("11;", 0);
        bad("04;", 0);
        bad("40;", 0);
        bad("01 04;", 3);
        bad("01 12 2;", 6);
        bad("01 12 123;", 6);
        bad("nodes 2;02;", 8);
        bad("star 4;", 5);
        bad("star 01;", 5);
        bad("nodes 3;star 3;", 13);
        bad("path;repeat 0;", 12);
        bad("path;repeat 10;", 12);
        bad("path;repeat 01;", 12);
        bad("99999999999999999999;", 0);
        bad("star 99999999999999999999;", 5);
    }

    private static void roomErrors() {
        String full = "path;repeat 9;repeat 6;";
        int end = full.length();
        good(full, 16, 4, 48);
        bad(full + "none;", end);
        bad(full + "full;", end);
        bad(full + "path;", end);
        bad(full + "ring;", end);
        bad(full + "star 1;", end);
        bad(full + "star", end);
        bad(full + "01 12;", end);
        bad(full + " 01", end + 1);
        bad(full + "repeat 1;", end + 7);
        bad(full + "repeat ;", end + 7);
        bad(full + "repeat", end + 6);
        bad(full + "nodes 4;", end);
        bad("path;repeat 9;repeat 7;", 21);
        bad("path;repeat 9;repeat 7", 21);
        bad("none;none;none;none;none;none;none;none;repeat 9;", 47);
        good("none;none;none;none;none;none;none;none;repeat 8;", 16, 4, 0);
        good("none;none;none;none;none;none;none;none;"
                + "none;none;none;none;none;none;none;none;", 16, 4, 0);
        bad("none;none;none;none;none;none;none;none;"
                + "none;none;none;none;none;none;none;none;01;", 80);
    }

    private static void otherCharacters() {
        bad("!", 0);
        bad("Path;", 0);
        bad("pAth;", 0);
        bad("path!;", 4);
        bad("path;!", 5);
        bad("path,", 4);
        bad("path;\t", 5);
        bad("path\n;", 4);
        bad("01,12;", 2);
        bad("star -1;", 5);
        bad("nodes_4;", 5);
        bad("path;" + (char) 0, 5);
        bad("path;" + (char) 255, 5);
        bad("path;" + (char) 160, 5);
        bad("`", 0);
        bad("{", 0);
        bad("/", 0);
        bad(":", 0);
        bad("path" + ':', 4);
        bad("star 1:", 6);
        bad("star 1/", 6);
        bad("path`;", 4);
        bad("path{;", 4);
    }

    private static void endsOfText() {
        bad("ring", 4);
        bad("ring  ", 6);
        bad("nod", 0);
        bad("nodes", 5);
        bad("nodes ", 6);
        bad("nodes 4", 7);
        bad("star", 4);
        bad("star 1", 6);
        bad("star 4", 5);
        bad("01", 2);
        bad("01 ", 3);
        bad("01 1", 3);
        bad("01 12", 5);
        bad("1", 0);
        bad("path;repeat", 11);
        bad("path;repeat 3", 13);
        bad("path;rep", 5);
        StringBuilder longest = new StringBuilder("path");
        while (longest.length() < 120) {
            longest.append(' ');
        }
        bad(longest.toString(), 120);
        longest.setCharAt(119, ';');
        good(longest.toString(), 1, 4, 3);
        StringBuilder edges = new StringBuilder("01");
        while (edges.length() < 119) {
            edges.append(" 12");
        }
        edges.append(';');
        bad(edges.substring(0, 119), 119);
        good(edges.toString().replace("  ", " "), 1, 4, 2);
    }

    private static void loadReplacesAll() {
        ChangingRounds x = check.loaded("nodes 6;full;full;");
        x.setValue(1, 77);
        Check.write(x, "path;");
        check.due("load", x.load(), 1);
        check.due("nodes begin with 4", x.count(0), 4);
        check.due("rounds", x.count(1), 1);
        check.due("edges", x.count(2), 3);
        check.due("value", x.value(1), 1);
        check.due("saved", x.count(5), 3);
        check.due("undo", x.undo(), 2);
        check.due("nodes then", x.count(0), 6);
        check.due("value then", x.value(1), 77);
        check.due("edges then", x.count(2), 30);
    }

    private static void failedLoadChangesNothing() {
        ChangingRounds x = check.loaded("nodes 6;full;full;");
        x.setValue(1, 77);
        Check.write(x, "nodes 3;path;oops");
        check.due("load", x.load(), -23);
        check.due("load again", x.load(), -23);
        check.due("nodes", x.count(0), 6);
        check.due("edges", x.count(2), 30);
        check.due("value", x.value(1), 77);
        check.due("text", x.count(4), 17);
        check.due("saved", x.count(5), 2);
    }
}
