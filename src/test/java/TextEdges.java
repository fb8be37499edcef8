/** The text, its items, tokens and faults, sentence by sentence of the terms. */
final class TextEdges extends Edge {
    private TextEdges() {
    }

    static void run() {
        at("Terms");
        length();
        island();
        shipItems();
        manItems();
        callItems();
        boardItems();
        words();
        figures();
        blanks();
        faultOfWords();
        faultOfTooMany();
        faultOfNumbers();
        faultOfWhoIsNotThere();
        faultOfBytes();
        faultOfTheEnd();
        whatIsRead();
        whatIsNotRead();
    }

    private static void reads(String text, int items) {
        due("'" + text + "'", typed(text).read(), items);
    }

    private static void faults(String text, int place) {
        due("'" + text + "'", typed(text).read(), -10 - place);
    }

    private static void length() {
        test("THE ISLAND is told by a TEXT (150 bytes at most)", "one of 150 whose last byte counts", () ->
            reads(padded("island;ship 0;man 0 1", 148) + "0;", 3));
        test("THE ISLAND is told by a TEXT (150 bytes at most)", "the least is 7", () -> {
            reads("island;", 1);
            faults("island", 6);
        });
    }

    private static void island() {
        String words = "of ITEMS, each ended by ; : island (once, first of all);";
        test(words, "alone", () -> reads("island;", 1));
        test(words, "not ended", () -> faults("island ship 0;", 7));
        test(words, "ended twice", () -> faults("island;;", 7));
        test(words, "twice", () -> faults("island;island;", 7));
        test(words, "not first", () -> faults("ship 0;island;", 0));
        test(words, "not at all", () -> faults("man 0 1 9;", 0));
        test(words, "an item that is not ended, ahead of another", () -> faults("island;ship 0 man 0 1 9;", 14));
        test(words, "the last item not ended", () -> faults("island;ship 0", 13));
    }

    private static void shipItems() {
        test("ship KIND;", "kinds 0 and 5 are the ends", () -> {
            reads("island;ship 0;ship 5;", 3);
            faults("island;ship 6;", 12);
            faults("island;ship 10;", 12);
            faults("island;ship 99;", 12);
        });
        test("ship KIND;", "no kind, two kinds", () -> {
            faults("island;ship;", 11);
            faults("island;ship 1 2;", 14);
        });
        test("ship KIND;", "kinds and calls of what is read", () -> {
            LeftBehind x = told("island;ship 5;ship 0;ship 3;");
            due("kinds", 100 * x.about(0, 0) + 10 * x.about(1, 0) + x.about(2, 0), 503);
            due("calls", x.count(4), 0);
        });
    }

    private static void manItems() {
        String words = "man KIND SKILL h (KINDS as numbers, too; ABOARD SHIP h, or on THE ISLAND: 9);";
        test(words, "kinds 0 and 5 are the ends", () -> {
            reads("island;man 0 1 9;man 5 1 9;", 3);
            faults("island;man 6 1 9;", 11);
            faults("island;man 10 1 9;", 11);
        });
        test(words, "skills 1 and 9 are the ends", () -> {
            reads("island;man 0 1 9;man 0 9 9;", 3);
            faults("island;man 0 0 9;", 13);
            faults("island;man 0 10 9;", 13);
        });
        test(words, "ship 0, and the last, are the ends", () -> {
            reads("island;ship 0;man 0 1 0;", 3);
            faults("island;ship 0;man 0 1 1;", 22);
            reads("island;ship 0;ship 0;ship 0;man 0 1 2;", 5);
            faults("island;ship 0;ship 0;ship 0;man 0 1 3;", 36);
        });
        test(words, "9 is the island, 8 and 10 are nothing", () -> {
            reads("island;man 0 1 9;", 2);
            faults("island;man 0 1 8;", 15);
            faults("island;man 0 1 10;", 15);
            faults("island;ship 0;ship 0;ship 0;man 0 1 8;", 36);
        });
        test(words, "too few numbers, too many", () -> {
            faults("island;man;", 10);
            faults("island;man 0;", 12);
            faults("island;man 0 1;", 14);
            faults("island;man 0 1 9 9;", 17);
        });
        test(words, "where they are, what they are", () -> {
            LeftBehind x = told("island;ship 0;man 5 9 9;man 4 1 0;");
            due("kinds", 10 * x.of(0, 0) + x.of(1, 0), 54);
            due("skills", 10 * x.of(0, 1) + x.of(1, 1), 91);
            due("the island", x.of(0, 2), NONE);
            due("aboard", x.of(1, 2), 0);
        });
    }

    private static void callItems() {
        test("call h;", "ship 0, and the last, are the ends", () -> {
            reads("island;ship 0;man 0 1 0;call 0;", 4);
            faults("island;ship 0;man 0 1 0;call 1;", 29);
            reads("island;ship 0;ship 0;ship 0;man 0 1 2;call 2;", 6);
            faults("island;ship 0;ship 0;ship 0;man 0 1 2;call 3;", 43);
            faults("island;ship 0;man 0 1 0;call 9;", 29);
        });
        test("call h;", "no number, two numbers", () -> {
            faults("island;ship 0;man 0 1 0;call;", 28);
            faults("island;ship 0;man 0 1 0;call 0 0;", 31);
        });
        test("call h;", "it is a call: of like ones the least number, and calls are one more", () -> {
            LeftBehind x = told("island;ship 0;man 0 2 0;man 4 9 0;man 4 9 0;call 0;call 0;call 0;");
            due("nobody aboard", x.about(0, 2), 0);
            due("calls", x.about(0, 1), 3);
            LeftBehind y = told("island;ship 0;man 0 2 0;man 4 9 0;man 4 9 0;call 0;");
            due("one left", y.about(0, 2), 5);
        });
    }

    private static void boardItems() {
        String there = "island;ship 0;ship 0;man 0 1 9;man 0 1 9;";
        test("board h m.", "ship 0, and the last, are the ends", () -> {
            reads(there + "board 0 0;board 1 1;", 7);
            faults(there + "board 2 0;", 47);
            faults(there + "board 9 0;", 47);
        });
        test("board h m.", "man 0, and the last, are the ends", () -> {
            reads(there + "board 1 0;board 0 1;", 7);
            faults(there + "board 0 2;", 49);
            faults(there + "board 0 9;", 49);
        });
        test("board h m.", "too few numbers, too many", () -> {
            faults(there + "board;", 46);
            faults(there + "board 0;", 48);
            faults(there + "board 0 0 0;", 51);
        });
        test("board h m.", "he is aboard her", () -> {
            LeftBehind x = told(there + "board 1 0;");
            due("he", x.of(0, 2), 1);
            due("the other", x.of(1, 2), NONE);
        });
        test("board h m.", "man 7, the last of all", () -> {
            StringBuilder text = new StringBuilder("island;ship0;");
            for (int m = 0; m < 8; m++) {
                text.append("man0 1 9;");
            }
            reads(text + "board0 7;", 11);
            faults(text + "board0 8;", 92);
        });
    }

    private static void words() {
        String words = "TOKENS: words of letters a .. z (a KIND is told as its number),";
        test(words, "the bytes about a and z begin no word", () -> {
            faults("`sland;", 0);
            faults("{sland;", 0);
            faults("island;`", 7);
            faults("island;{", 7);
            faults("island`", 6);
            faults("island{", 6);
        });
        test(words, "words with a and with z that are none", () -> {
            faults("islanda;", 0);
            faults("islandz;", 0);
            faults("aisland;", 0);
            faults("zisland;", 0);
        });
        test(words, "no great letters", () -> {
            faults("Island;", 0);
            faults("islanD;", 0);
            faults("island;Ship 0;", 7);
        });
        test(words, "a kind's name is none", () -> {
            faults("island;ship plain;", 12);
            faults("island;ship boat;", 12);
            faults("island;man cook 1 9;", 11);
        });
        test(words, "a word ends where no letter is", () -> {
            reads("island;ship0;man0 1 0;call0;board0 0;", 5);
            faults("islandship 0;", 0);
            faults("island;shipship 0;", 7);
        });
    }

    private static void figures() {
        String words = "figures (1 or 2 are one number), ; ;";
        test(words, "one figure", () -> reads("island;ship 5;", 2));
        test(words, "two figures are one number", () -> {
            reads("island;ship 05;man 05 09 00;man 00 01 09;call 00;board 00 00;", 6);
            LeftBehind x = told("island;ship 05;man 04 09 00;");
            due("kind", x.about(0, 0), 5);
            due("kind, skill", 10 * x.of(0, 0) + x.of(0, 1), 49);
            due("ship", x.of(0, 2), 0);
        });
        test(words, "two figures are not two numbers", () -> {
            faults("island;man 0 19;", 13);
            faults("island;man 01 9;", 15);
            faults("island;ship 0;man 0 1 9;board 00;", 32);
        });
        test(words, "the first figure is the ten", () -> {
            faults("island;ship 50;", 12);
            faults("island;man 0 90 9;", 13);
            faults("island;man 0 1 90;", 15);
        });
        test(words, "three are none", () -> faults("island;ship 005;", 12));
        test(words, "the bytes about 0 and 9 begin no number", () -> {
            faults("island;ship /;", 12);
            faults("island;ship :;", 12);
            faults("island;ship 0/;", 13);
            faults("island;ship 0:;", 13);
        });
        test(words, "the bytes about ; end nothing", () -> {
            faults("island:", 6);
            faults("island<", 6);
        });
    }

    private static void blanks() {
        String words = "blanks (32), any number, ahead of, between and behind TOKENS";
        test(words, "none", () -> reads("island;ship0;man0 1 0;call0;board0 0;", 5));
        test(words, "one everywhere", () -> reads(" island ; ship 0 ; man 0 1 0 ; call 0 ; board 0 0 ; ", 5));
        test(words, "as many as there is room for, ahead", () -> reads(padded("", 143) + "island;", 1));
        test(words, "as many as there is room for, between", () -> reads(padded("island", 149) + ";", 1));
        test(words, "as many as there is room for, behind", () -> reads(padded("island;", 150), 1));
        test(words, "not within a word, not within a number", () -> {
            faults("is land;", 0);
            faults("island;sh ip 0;", 7);
            faults("island;ship 0 5;", 14);
        });
        test(words, "31, 33, and what else looks blank, are no blanks", () -> {
            faults("island" + (char) 31 + ";", 6);
            faults("island!;", 6);
            faults("\tisland;", 0);
            faults("island;\n", 7);
            faults("island;" + (char) 0, 7);
        });
        test("(needed only between two words, two numbers).", "two words", () -> {
            faults("islandship0;", 0);
            faults("island ship0;", 7);
        });
        test("(needed only between two words, two numbers).", "two numbers", () -> {
            reads("island;man0 1 9;", 2);
            faults("island;man01 9;", 14);
            faults("island;man0 19;", 12);
            faults("island;man019;", 10);
        });
        test("(needed only between two words, two numbers).", "a number and a word", () -> {
            reads("island;ship0;man0 1 9;board0 0;", 4);
            faults("island;ship0man0 1 9;", 12);
        });
    }

    private static void faultOfWords() {
        String first = "FAULT: the place of the first byte of the first TOKEN that can not stand there";
        test(first, "of two the first", () -> faults("island;ship 6;ship 7;", 12));
        test(first, "its first byte, not its last, not the blanks ahead of it", () -> {
            faults("island;  ships 0;", 9);
            faults("island;ship   06 ;", 14);
            faults("island;ship   10;", 14);
        });
        test(first, "by place, not by reason", () -> faults("island;ship 0;man 0 1 1;!", 22));
        test("a word that is none,", "too short, too long, another", () -> {
            faults("islan;", 0);
            faults("islands;", 0);
            faults("i;", 0);
            faults("island;shi 0;", 7);
            faults("island;ships 0;", 7);
            faults("island;ma 0 1 9;", 7);
            faults("island;mans 0 1 9;", 7);
            faults("island;cal 0;", 7);
            faults("island;calls 0;", 7);
            faults("island;boar 0 0;", 7);
            faults("island;boards 0 0;", 7);
            faults("island;x;", 7);
        });
        test("a word that is none,", "one letter another, at each place of each word", () -> {
            String there = "island;ship 0;man 0 1 0;call 0;board 0 0;";
            reads(there, 5);
            for (String word : new String[] {"island", "ship", "man", "call", "board"}) {
                int at = there.indexOf(word);
                for (int i = at; i < at + word.length(); i++) {
                    faults(there.substring(0, i) + "x" + there.substring(i + 1), at);
                }
            }
        });
        test("a word that is none,", "cut off by the text's end", () -> {
            faults("islan", 0);
            faults("island;shi", 7);
        });
        test("a word that is none,", "where a number is due, where ; is due", () -> {
            faults("island;ship x;", 12);
            faults("island x;", 7);
        });
        test("island again,", "at once, and at the end", () -> {
            faults("island;island;", 7);
            faults("island;ship 0;man 0 1 0; island;", 25);
        });
        test("anything ahead of it,", "an item, a number, ; and a byte", () -> {
            faults("ship 0;island;", 0);
            faults("0 island;", 0);
            faults(" ;island;", 1);
            faults("!island;", 0);
            faults("call;", 0);
            faults("board;", 0);
        });
    }

    private static void faultOfTooMany() {
        String ships = "island;ship 0;ship 0;ship 0;";
        test("a 4th ship,", "the 3rd is none, the 4th is, at its word", () -> {
            reads(ships, 4);
            faults(ships + "ship 0;", 28);
            faults(ships + " ship 0;", 29);
        });
        test("a 4th ship,", "whatever follows its word", () -> {
            faults(ships + "ship 6;", 28);
            faults(ships + "ship", 28);
            faults(ships + "ship;", 28);
        });
        StringBuilder men = new StringBuilder("island;");
        for (int m = 0; m < 8; m++) {
            men.append("man 0 1 9;");
        }
        test("a 9th man at its word,", "the 8th is none, the 9th is, at its word", () -> {
            reads(men.toString(), 9);
            faults(men + "man 0 1 9;", 87);
            faults(men + " man 0 1 9;", 88);
        });
        test("a 9th man at its word,", "whatever follows it", () -> {
            faults(men + "man 6 1 9;", 87);
            faults(men + "man", 87);
            faults(men + "man;", 87);
        });
        test("a 9th man at its word,", "what is on the island that is read into counts for nothing", () -> {
            LeftBehind x = crowded();
            x.clear();
            type(x, "island;ship 0;man 0 1 0;");
            due(x.read(), 3);
        });
    }

    private static void faultOfNumbers() {
        String run = "a run of three figures or more (at its first one),";
        test(run, "two is none", () -> reads("island;ship 00;", 2));
        test(run, "three, four", () -> {
            faults("island;ship 000;", 12);
            faults("island;ship 0000;", 12);
            faults("island;ship  005", 13);
        });
        test(run, "as many as there is room for", () -> faults("island;ship " + "0".repeat(138), 12));
        test(run, "in each place", () -> {
            faults("island;man 000 1 9;", 11);
            faults("island;man 0 001 9;", 13);
            faults("island;man 0 1 009;", 15);
            faults("island;ship 0;man 0 1 0;call 000;", 29);
            faults("island;ship 0;man 0 1 9;board 000 0;", 30);
            faults("island;ship 0;man 0 1 9;board 0 000;", 32);
            faults("000;", 0);
            faults("island;000", 7);
        });
        String told = "a number not as told,";
        test(told, "one over each end", () -> {
            faults("island;ship 6;", 12);
            faults("island;man 6 1 9;", 11);
            faults("island;man 0 0 9;", 13);
            faults("island;man 0 10 9;", 13);
            faults("island;man 0 1 10;", 15);
        });
        test(told, "no number where one is due", () -> {
            faults("island;ship;", 11);
            faults("island;ship call;", 12);
            faults("island;ship -1;", 12);
        });
        test(told, "a number where none is due", () -> {
            faults("5;", 0);
            faults("island 5;", 7);
            faults("island;5;", 7);
            faults("island;ship 5 5;", 14);
        });
    }

    private static void faultOfWhoIsNotThere() {
        String ship = "also a SHIP that is not there yet,";
        test(ship, "none is", () -> {
            faults("island;man 0 1 0;", 15);
            faults("island;call 0;", 12);
            faults("island;man 0 1 9;board 0 0;", 23);
        });
        test(ship, "one is, not two", () -> {
            faults("island;ship 0;man 0 1 1;", 22);
            faults("island;ship 0;man 0 1 0;call 1;", 29);
            faults("island;ship 0;man 0 1 9;board 1 0;", 30);
        });
        test(ship, "she comes behind it", () -> {
            faults("island;man 0 1 0;ship 0;", 15);
            faults("island;ship 0;man 0 1 0;call 1;ship 0;", 29);
        });
        test(ship, "she is there now, but not in the text", () -> {
            LeftBehind x = crowded();
            x.clear();
            type(x, "island;man 0 1 0;");
            due(x.read(), -25);
        });
        String nobody = "a SHIP with nobody ABOARD (call),";
        test(nobody, "nobody ever was", () -> faults("island;ship 0;call 0;", 19));
        test(nobody, "the last one was left", () -> {
            reads("island;ship 0;man 0 1 0;call 0;", 4);
            faults("island;ship 0;man 0 1 0;call 0;call 0;", 36);
        });
        test(nobody, "he is on the island, or aboard another", () -> {
            faults("island;ship 0;man 0 1 9;call 0;", 29);
            faults("island;ship 0;ship 0;man 0 1 1;call 0;", 36);
        });
        test(nobody, "he boards her again", () -> reads("island;ship 0;man 0 1 0;call 0;board 0 0;call 0;", 6));
        String man = "a MAN who is not there yet, or not on THE ISLAND (board),";
        test(man, "nobody is", () -> faults("island;ship 0;board 0 0;", 22));
        test(man, "one is, not two", () -> faults("island;ship 0;man 0 1 9;board 0 1;", 32));
        test(man, "he comes behind it", () -> faults("island;ship 0;man 0 1 9;board 0 1;man 0 1 9;", 32));
        test(man, "he is aboard her, or another", () -> {
            faults("island;ship 0;man 0 1 0;board 0 0;", 32);
            faults("island;ship 0;ship 0;man 0 1 0;board 1 0;", 39);
        });
        test(man, "he boarded ahead of it", () -> faults("island;ship 0;man 0 1 9;board 0 0;board 0 0;", 42));
        test(man, "he was left ahead of it", () -> reads("island;ship 0;man 0 1 0;call 0;board 0 0;", 5));
    }

    private static void faultOfBytes() {
        String words = "a byte that begins none, too);";
        test(words, "0 and 127", () -> {
            faults("" + (char) 0, 0);
            faults("island;" + (char) 127, 7);
        });
        test(words, "each byte that begins none, ahead of island", () -> {
            for (int c = 0; c <= 127; c++) {
                LeftBehind x = bare();
                x.type(c);
                due("byte " + c, x.read(), c == ' ' ? -11 : -10);
            }
        });
        test(words, "each byte where a number is due", () -> {
            for (int c = 0; c <= 127; c++) {
                boolean kind = c >= '0' && c <= '5';
                due("byte " + c, typed("island;ship" + (char) c).read(), byteDue(c, kind));
            }
        });
        test(words, "behind a word, behind a number, behind ;", () -> {
            faults("island!;", 6);
            faults("island;!", 7);
            faults("island;ship!0;", 11);
            faults("island;ship 0!;", 13);
            faults("island;ship 0.;", 13);
        });
    }

    /** Behind the word ship: a kind or a blank, and the text ends too early; a letter, and the word is none. */
    private static int byteDue(int c, boolean kind) {
        if (kind || c == ' ') {
            return -22;
        }
        return c >= 'a' && c <= 'z' ? -17 : -21;
    }

    private static void faultOfTheEnd() {
        String words = "the TEXT's length, if it ends too early (an empty one, too).";
        test(words, "an empty one", () -> faults("", 0));
        test(words, "one of blanks", () -> {
            faults(" ", 1);
            faults(padded("", 150), 150);
        });
        test(words, "behind a word, behind a number, and behind blanks", () -> {
            faults("island", 6);
            faults("island  ", 8);
            faults("island;ship", 11);
            faults("island;ship 0", 13);
            faults("island;ship 0 ", 14);
        });
        test(words, "a text cut off anywhere", () -> {
            String text = "island;ship 0;man 0 1 0;call 0;board 0 0;";
            String[] tokens = {"island", "ship", "man", "call", "board"};
            int[] starts = {0, 7, 14, 24, 31};
            for (int cut = 0; cut < text.length(); cut++) {
                String start = text.substring(0, cut);
                int due = -10 - cut;
                for (int i = 0; i < tokens.length; i++) {
                    if (cut > starts[i] && cut < starts[i] + tokens[i].length()) {
                        due = -10 - starts[i];
                    }
                    if (cut > 0 && cut == starts[i]) {
                        due = i;
                    }
                }
                due("'" + start + "'", typed(start).read(), due);
            }
        });
    }

    private static void whatIsRead() {
        String words = "AN ISLAND that is read takes the place of all but IMAGES, THE TEXT, THE FRACTION, STATUS";
        test(words, "the ships and the men", () -> {
            LeftBehind x = crowded();
            due("items", x.read(), 5);
            due("ships", x.count(1), 1);
            due("men", x.count(0), 2);
            due("ship 1", x.about(1, 0), BAD);
            due("calls", x.count(4), 1);
            due("on the island", x.count(2), 2);
        });
        test(words, "an island on which nobody is, too", () -> {
            LeftBehind x = crowded();
            x.clear();
            type(x, "island;");
            due("items", x.read(), 1);
            for (int what = 0; what <= 8; what++) {
                due("count " + what, x.count(what), 0);
            }
        });
        test(words, "images", () -> {
            LeftBehind x = busy();
            x.image(1);
            long kept = x.digest();
            x.read();
            due("from 1", x.from(1), 1);
            due("it is as kept", x.digest(), kept);
            due("from 0", x.from(0), 1);
        });
        test(words, "no image either", () -> {
            LeftBehind x = typed("island;");
            x.read();
            due("0", x.from(0), NO);
            due("1", x.from(1), NO);
        });
        test(words, "the text", () -> {
            LeftBehind x = busy();
            x.read();
            due("how long", x.count(9), 34);
            due("again", x.read(), 4);
        });
        test(words, "the fraction", () -> {
            LeftBehind x = busy();
            x.read();
            due(10 * x.part(0) + x.part(1), 12);
        });
        test(words, "status", () -> {
            LeftBehind x = crowded();
            x.ship(6);
            x.calls(0);
            x.calls(0);
            x.ship(0);
            x.read();
            due(100 * x.status(0) + 10 * x.status(1) + x.status(2), 111);
        });
    }

    private static void whatIsNotRead() {
        String none = "(SEEN ones, NOTES, MARKS none; nothing to undo).";
        test(none, "of full rows", () -> {
            LeftBehind x = crowded();
            x.read();
            due("seen", x.count(5), 0);
            due("notes", x.count(6), 0);
            due("marks", x.count(7), 0);
            due("steps", x.count(8), 0);
            due("undo", x.undo(), NO);
        });
        test(none, "calls and boardings of the text", () -> {
            LeftBehind x = told("island;ship 0;man 0 1 0;call 0;board 0 0;");
            due("steps", x.count(8), 0);
            due("undo", x.undo(), NO);
        });
        test(none, "rows take as many as ever", () -> {
            LeftBehind x = crowded();
            x.read();
            for (int i = 1; i <= 6; i++) {
                due("note", x.note(0, 1, 0, 0), i);
                due("mark", x.mark(0, 1, 0, 0), i);
                due("seen", x.seen(0, 0, 0, 0), i <= 5 ? i : FULL);
            }
            due("skills", x.skilled(1, 0), 9);
        });
    }
}
