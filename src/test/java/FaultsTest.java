/**
 * "THE COUNTER is told by a TEXT (150 bytes at most) of ITEMS, each ended by ;": what is read, and the
 * FAULT of a TEXT case by case. Behind a FAULT all stays, STATUS too.
 */
public final class FaultsTest {
    private static final int NONE = BorrowedVoice.NONE;
    private static final String PEOPLE_OF_SIX = "one 0 0 0;".repeat(6);

    private static final Due due = new Due("FaultsTest");

    public static void main(String[] args) {
        endsTooEarly();
        everyBeginning();
        noWord();
        counterOnceFirstOfAll();
        aheadOfCounter();
        seventhOne();
        threeFiguresOrMore();
        numbersNotAsTold();
        notThereYet();
        noVoiceToLeave();
        notAtTheCounter();
        theFirstOfTwo();
        everyByte();
        mostBytes();
        staysBehindAFault();
        tokensAndBlanks();
        itemsAsTold();
        takesThePlaceOfAll();
        bytesThatWereCleared();
        due.end();
    }

    private static void fault(String sentence, String text, int place) {
        String run = Script.RICH + ", clear, " + Script.typed(text);
        Script.stays(due, sentence + ": '" + text + "'", run, "read", -10 - place, NONE);
    }

    private static void reads(String sentence, String text, int items, String... more) {
        Script.run(due, sentence + ": '" + text + "'", Script.RICH, "clear", Script.typed(text), "read = " + items,
                String.join(", ", more));
    }

    private static void endsTooEarly() {
        String sentence = "the TEXT's length, if it ends too early";
        fault("an empty one, too", "", 0);
        fault(sentence, " ", 1);
        fault(sentence, "   ", 3);
        fault(sentence, " ".repeat(150), 150);
        fault(sentence, "counter", 7);
        fault(sentence, "counter  ", 9);
        fault(sentence, "  counter", 9);
        fault(sentence, "counter;one", 11);
        fault(sentence, "counter;one ", 12);
        fault(sentence, "counter;one 5", 13);
        fault(sentence, "counter;one 5 9", 15);
        fault(sentence, "counter;one 5 9 9", 17);
        fault(sentence, "counter;one 5 9 9  ", 19);
        fault(sentence, "counter;leave", 13);
        fault(sentence, "counter;one 0 0 0;leave 0", 25);
        fault(sentence, "counter;lend", 12);
        fault(sentence, "counter;one 0 0 0;leave 0;lend 0", 32);
        fault(sentence, "counter;one 0 0 0;leave 0;lend 0 0", 34);
    }

    /** Cut behind each byte: inside a word it is none, behind a token it ends too early, behind ; it is whole. */
    private static void everyBeginning() {
        String text = "counter;one 1 2 3;leave 0;lend 0 0;";
        int[] want = {-10, -10, -10, -10, -10, -10, -10, -17, 1, -18, -18, -21, -22, -23, -24, -25, -26, -27, 2,
            -28, -28, -28, -28, -33, -34, -35, 3, -36, -36, -36, -40, -41, -42, -43, -44, 4};
        for (int length = 0; length <= text.length(); length++) {
            if (want[length] > 0) {
                reads("cut behind an ITEM", text.substring(0, length), want[length]);
            } else {
                fault("cut", text.substring(0, length), -10 - want[length]);
            }
        }
    }

    private static void noWord() {
        String sentence = "a word that is none";
        fault(sentence, "counte;", 0);
        fault(sentence, "counters;", 0);
        fault(sentence, "xounter;", 0);
        fault(sentence, "acounter;", 0);
        fault(sentence, "coun ter;", 0);
        fault(sentence, "counter;two 0 0 0;", 8);
        fault(sentence, "counter;on 0 0 0;", 8);
        fault(sentence, "counter;ones 0 0 0;", 8);
        fault(sentence, "counter;xne 0 0 0;", 8);
        fault(sentence, "counter; lent 0 0;", 9);
        fault(sentence, "counter;one 0 0 0;lends 0 0;", 18);
        fault(sentence, "counter;one 0 0 0;leav 0;", 18);
        fault(sentence, "counter;one 0 0 0;oneleave 0;", 18);
        fault("a word in a number's place", "counter;one x 0 0;", 12);
        fault("a word in a number's place", "counter;one 0 one 0;", 14);
        fault("a word in a number's place", "counter;one 0 0 x", 16);
        fault("a word in a number's place", "counter;leave leave", 14);
        fault("a word in the place of ;", "counter one", 8);
        fault("a word in the place of ;", "counter;one 0 0 0 one 0 0 0;", 18);
        fault("a word in the place of ;", "counter;one 0 0 0x;", 17);
        fault("a ; in a word's place", "counter;;", 8);
        fault("a ; in a word's place", "counter;one 0 0 0; ;", 19);
        fault("a ; in a number's place", "counter;one;", 11);
        fault("a ; in a number's place", "counter;one 0 0;", 15);
        fault("a number in a word's place", "counter;1 0 0;", 8);
        fault("a number in a word's place", "counter; 12", 9);
        fault("a number in the place of ;", "counter 1;", 8);
        fault("a number in the place of ;", "counter;one 0 0 0 0;", 18);
        fault("a number in the place of ;", "counter;one 0 0 0;leave 0 0;", 26);
        fault("a number in the place of ;", "counter;one 0 0 0;leave 0;lend 0 0 0;", 35);
    }

    private static void counterOnceFirstOfAll() {
        fault("counter again", "counter;counter;", 8);
        fault("counter again", "counter;  counter", 10);
        fault("counter again", "counter;one 0 0 0;counter;", 18);
        fault("counter again", "counter;one counter", 12);
        fault("counter again", "counter counter;", 8);
    }

    private static void aheadOfCounter() {
        String sentence = "anything ahead of it";
        fault(sentence, "one 0 0 0;", 0);
        fault(sentence, " one 0 0 0;counter;", 1);
        fault(sentence, "leave 0;counter;", 0);
        fault(sentence, "lend 0 0;counter;", 0);
        fault(sentence, ";counter;", 0);
        fault(sentence, "  ;", 2);
        fault(sentence, "1counter;", 0);
        fault(sentence, "12", 0);
        fault(sentence, "123", 0);
    }

    private static void seventhOne() {
        String sentence = "a 7th one at its word";
        reads("6 of them", "counter;" + PEOPLE_OF_SIX, 7, "count 0 = 6");
        fault(sentence, "counter;" + PEOPLE_OF_SIX + "one 0 0 0;", 68);
        fault(sentence, "counter;" + PEOPLE_OF_SIX + " one 6 0 0;", 69);
        fault(sentence, "counter;" + PEOPLE_OF_SIX + "one", 68);
        fault(sentence, "counter;" + PEOPLE_OF_SIX + "one;", 68);
        fault(sentence, "counter;" + PEOPLE_OF_SIX + "leave 0;one 0 0 0;", 76);
        fault("a word that is none there", "counter;" + PEOPLE_OF_SIX + "ones", 68);
        reads("other ITEMS behind 6", "counter;" + PEOPLE_OF_SIX + "leave 5;lend 5 4;", 9, "of 4 1 = 5");
    }

    private static void threeFiguresOrMore() {
        String sentence = "a run of three figures or more (at its first one)";
        fault(sentence, "counter;one 000 0 0;", 12);
        fault(sentence, "counter;one 0 005 0;", 14);
        fault(sentence, "counter;one 0 0 001;", 16);
        fault(sentence, "counter;one 0 0 000", 16);
        fault(sentence, "counter;one 0 0 1234567890123456789012345678901234567890;", 16);
        fault(sentence, "counter;one 0 0 " + "0".repeat(134), 16);
        fault(sentence, "counter;one 0 0 0 123;", 18);
        fault(sentence, "counter;one 123x", 12);
        fault(sentence, "counter;000", 8);
        fault(sentence, "counter;one 0 0 0;leave 000;", 24);
        fault(sentence, "counter;one 0 0 0;leave 0;lend 000 0;", 31);
        fault(sentence, "counter;one 0 0 0;leave 0;lend 0 000;", 33);
        reads("figures (1 or 2 are one number)", "counter;one 05 09 00;one 5 0 09;leave 01;lend 01 00;", 5,
                "about 0 0 = 5, about 0 1 = 9, of 0 0 = 0, of 0 1 = 1, about 1 1 = 0, of 1 0 = 9");
        fault("1 or 2 are one number, not two", "counter;one 00 0;", 16);
    }

    private static void numbersNotAsTold() {
        String sentence = "a number not as told";
        reads("the least", "counter;one 0 0 0;", 2, "about 0 0 = 0, about 0 1 = 0, of 0 0 = 0");
        reads("the most", "counter;one 5 9 9;", 2, "about 0 0 = 5, about 0 1 = 9, of 0 0 = 9");
        for (int number = 6; number <= 99; number++) {
            fault(sentence + ", a KIND", "counter;one " + number + " 0 0;", 12);
        }
        for (int number = 10; number <= 99; number++) {
            fault(sentence + ", a SORT", "counter;one 0 " + number + " 0;", 14);
            fault(sentence + ", WANTS", "counter;one 0 0 " + number + ";", 16);
        }
        fault("no number below 0", "counter;one -1 0 0;", 12);
        fault("no number below 0", "counter;one 0 0 -1;", 16);
    }

    private static void notThereYet() {
        String sentence = "also of one that is not there yet";
        fault(sentence, "counter;leave 0;", 14);
        fault(sentence, "counter;leave 0;one 0 0 0;", 14);
        fault(sentence, "counter;lend 0 0;", 13);
        fault(sentence, "counter;one 0 0 0;leave 1;one 0 0 0;", 24);
        fault(sentence, "counter;one 0 0 0;leave 0;lend 1 0;", 31);
        fault(sentence, "counter;one 0 0 0;leave 0;lend 0 1;", 33);
        fault(sentence, "counter;one 0 0 0;leave 0;lend 0 99;", 33);
        fault("those that were there ahead of it", "counter;one 0 0 0;leave 3;", 24);
        for (int number = 6; number <= 99; number++) {
            fault("never there", "counter;" + PEOPLE_OF_SIX + "leave " + number + ";", 74);
            fault("never there", "counter;" + PEOPLE_OF_SIX + "leave 0;lend " + number + " 0;", 81);
            fault("never there", "counter;" + PEOPLE_OF_SIX + "leave 0;lend 0 " + number + ";", 83);
        }
    }

    private static void noVoiceToLeave() {
        String sentence = "of one who has no VOICE to leave";
        fault(sentence, "counter;one 0 0 0;leave 0;leave 0;", 32);
        fault(sentence, "counter;one 0 0 0;leave 0;leave 00", 32);
        fault(sentence, "counter;one 0 0 0;one 0 0 0;leave 0;lend 0 1;leave 0;", 51);
        reads("who has one again", "counter;one 0 0 0;one 0 0 0;leave 0;lend 0 1;leave 1;lend 1 0;leave 0;", 8,
                "dumb = 3, count 2 = 2");
    }

    private static void notAtTheCounter() {
        String sentence = "a VOICE that is not at THE COUNTER";
        fault(sentence, "counter;one 0 0 0;lend 0 0;", 23);
        fault(sentence, "counter;one 0 0 0;one 0 0 0;lend 1 0;", 33);
        fault(sentence, "counter;one 0 0 0;leave 0;lend 0 0;lend 0 0;", 40);
        fault(sentence, "counter;one 0 0 0;one 0 0 0;leave 0;lend 0 1;lend 0 0;", 50);
    }

    private static void theFirstOfTwo() {
        String sentence = "the first TOKEN that can not stand there";
        fault(sentence, "counter;one 6 10 10", 12);
        fault(sentence, "counter;one 0 10 10", 14);
        fault(sentence, "counter;lend 0 x;", 13);
        fault(sentence, "counter;one 0 0 0;lend 0 9;", 23);
        fault(sentence, "counter;one 0 0 0;leave 9", 24);
        fault(sentence, "counter;two;three", 8);
        fault(sentence, "counter;one 0 0 0;leave 0;leave 0", 32);
    }

    /** Each of the 128 bytes where a word, a number, a ; is due, and inside a word. */
    private static void everyByte() {
        for (int c = 0; c <= 127; c++) {
            char sign = (char) c;
            boolean figure = sign >= '0' && sign <= '9';
            String inAWordsPlace = "counter;" + sign;
            if (sign == ' ') {
                reads("blanks (32) between", inAWordsPlace, 1);
            } else {
                fault("a byte in a word's place", inAWordsPlace, 8);
            }
            String inANumbersPlace = "counter;one 1 " + sign + " 1;";
            if (figure) {
                reads("a figure", inANumbersPlace, 2, "about 0 1 = " + (sign - '0'));
            } else {
                fault("a byte in a number's place", inANumbersPlace, sign == ' ' ? 17 : 14);
            }
            String inAStopsPlace = "counter;one 1 1 0" + sign;
            if (sign == ';') {
                reads("a ;", inAStopsPlace, 2);
            } else {
                fault("a byte in the place of ;", inAStopsPlace, sign == ' ' || figure ? 18 : 17);
            }
            boolean endsTheWord = !(sign >= 'a' && sign <= 'z');
            if (sign != ';') {
                fault("a byte behind a word", "counter" + sign + "x",
                        sign == ' ' ? 8 : endsTheWord ? 7 : 0);
            }
        }
    }

    private static void mostBytes() {
        String all = "counter;one 0 0 0;leave 0;" + "lend 0 0;leave 0;".repeat(6) + "    " + "lend 0 0;leave 0;";
        due.is("one byte less than the most", all.length(), 149);
        reads("a TEXT of 150 bytes", all + " ", 17, "count 6 = 150, dumb = 1");
        reads("a TEXT of 150 bytes that ends by ;", " " + all, 17, "count 6 = 150, type 59 = -4, read = 17");
        fault("a FAULT at the last byte of 150", all + "x", 149);
        fault("a FAULT at the last byte of 150", all + ";", 149);
        fault("a FAULT behind 150 bytes", "  " + all.substring(0, 148), 150);
        String stops = ";".repeat(142);
        fault("as many TOKENS as can be", "counter;" + stops, 8);
    }

    private static void staysBehindAFault() {
        Script.run(due, "-10 less the FAULT: all stays", "one 0 5 5, evening 2, leave 0, evening 1",
                Script.typed("counter;one 1 2 3"), "read = -27, count 0 = 1, count 1 = 3, count 2 = 1, count 5 = 3",
                "count 6 = 17, status 0 = 0, status 1 = 0, status 2 = 0, read = -27, undo = 2, type 59 = 18, read = 2",
                "count 0 = 1, count 1 = 0, count 5 = 0, about 0 0 = 1, about 0 1 = 2, of 0 0 = 3, read = 2");
        Script.run(due, "ITEMS ahead of the FAULT are not kept", "one 0 5 5, one 0 6 6",
                Script.typed("counter;one 1 1 1;one 2 2 2;one 3 3 3;leave 0;leave 0;"), "read = -62, count 0 = 2",
                "about 0 0 = 0, dumb = 0");
    }

    private static void tokensAndBlanks() {
        reads("blanks (32) between", "  counter   ;   one   0   1   2   ;   ", 2, "about 0 1 = 1, of 0 0 = 2");
        reads("none needed ahead of ;", "counter;one 0 1 2;leave 0;lend 0 0;", 4);
        reads("a word ends where a figure comes", "counter;one5 9 9;leave0;lend0 0;", 4, "about 0 0 = 5");
        fault("a blank ends a number", "counter;one 0 0 0 5;", 18);
        fault("no other byte is a blank", "counter;\tone 0 0 0;", 8);
        fault("no other byte is a blank", "counter;one 0 0 0;\n", 18);
        fault("words of letters a .. z", "Counter;", 0);
        fault("words of letters a .. z", "counter;One 0 0 0;", 8);
        fault("words of letters a .. z", "counter;one 0 0 0;leavE 0;", 18);
    }

    private static void itemsAsTold() {
        reads("how many ITEMS", "counter;", 1, "count 0 = 0, count 1 = 0, count 4 = 0, count 5 = 0, dumb = 0");
        reads("lend: what one had goes to THE COUNTER", "counter;one 0 1 1;one 0 2 2;one 0 3 3;leave 0;lend 0 2;", 6,
                "of 0 1 = -1, of 2 1 = 0, about 2 2 = -1, of 1 1 = 1, about 0 3 = 0, about 0 4 = 0, about 2 3 = 0");
        reads("with one's own again", "counter;one 0 1 1;leave 0;lend 0 0;", 4, "of 0 1 = 0, own = 0, count 5 = 0");
    }

    private static void takesThePlaceOfAll() {
        Script.run(due, "takes the place of all but IMAGES, THE TEXT, THE FRACTION, STATUS", Script.RICH,
                "undo, undo, undo, undo, undo, undo, undo, undo = -3, evening 9, leave 9 = -2, read = 3, count 0 = 1,",
                "count 1 = 0, count 2 = 1, count 3 = 0, count 4 = 0, count 5 = 0, count 6 = 26, part 0 = 91,",
                "part 1 = 100, status 0 = 1, status 1 = 1, undo = -3, from 0 = 1, count 0 = 4, count 1 = 3,",
                "from 1 = 1, count 1 = 5, count 4 = 2, read = 3, count 4 = 0");
        Script.run(due, "USED, SLIPPED of those that were there", "one 0 1 1, one 0 2 2, leave 0, lend 0 1, evening 3 = 3",
                Script.typed("counter;one 0 3 3;one 0 4 4;"), "read = 3, about 0 2 = 0, about 0 3 = 0, about 0 4 = 0",
                "about 1 2 = 1, about 1 3 = 0, count 3 = 0");
        Script.run(due, "a COUNTER with nobody", "one 0 1 1, note 0 0 0 0 0, evening 3", Script.typed("counter;"),
                "read = 1, count 0 = 0, count 1 = 0, count 4 = 0, count 5 = 0, lents 0 0 = -3, one 1 1 1 = 0");
        Script.run(due, "more may come and be undone", Script.typed("counter;one 0 3 3;"),
                "read = 2, one 0 4 4 = 1, leave 0 = 0, evening 5 = 0, undo = 0, undo = 0, undo = -3, dumb = 0");
    }

    /** Bytes that were typed and cleared are no part of a shorter text. */
    private static void bytesThatWereCleared() {
        Script.run(due, "THE TEXT is empty", Script.typed("counter;one 0 0 0;"), "clear = 18, count 6 = 0, read = -10",
                Script.typed("counte"), "read = -10, type 114 = 7, read = -17, type 59 = 8, read = 1, count 0 = 0",
                Script.typed("one 0 0 0"), "read = -27, clear = 17, clear = 0, read = -10");
        Script.run(due, "THE TEXT is empty", Script.typed("counter;one 0 0 000;"), "clear = 20",
                Script.typed("counter;one 0 0 0"), "read = -27, type 48 = 18, read = -28, type 48 = 19, read = -26");
    }
}
