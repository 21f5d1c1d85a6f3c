/** Terms of RULES, and promises 4 and 5: each sentence that names a boundary, with a test of its own. */
public final class RulesEdgesTest {
    private static final int NO_TOKEN = 1;
    private static final int CANNOT_COME = 2;
    private static final int NOT_AS_TOLD = 3;
    private static final int TOLD_TWICE = 4;

    private static final Due due = new Due();

    public static void main(String[] args) {
        eachByteAlone();
        eachByteBehindAWord();
        eachByteBehindANumber();
        blanksBetweenOrNot();
        oneToFourDigits();
        wordsAndNumbersGoOn();
        reserveGoesTo9999();
        partGoesTo100();
        rotGoesTo50();
        lossIsBuyerOrPool();
        gradeGoesTo3();
        emptyTextStands();
        noTokenAtItsFirstByte();
        eachTokenThatCannotCome();
        wordsWithOneLetterChanged();
        theEndIsHowManyBytesThereAre();
        numberNotAsToldAtIt();
        twiceAtItsWord();
        twiceOfOneGradeAtTheGrade();
        notTwice();
        ofOneTokenTheLeast();
        firstAlongTheText();
        fullTape();
        whatIsNotToldAnymore();
        howMany();
        theyStayBehindAFault();
        tapeIsEmptyThen();
        faultOfTheLatest();
        due.finish("RulesEdgesTest");
    }

    private static void stands(String text, int rules) {
        FruitHalls x = new FruitHalls();
        due.same("rules of '" + text + "'", rules, Due.rules(x, text));
        due.same("fault of '" + text + "'", 0, x.fault());
        due.same("count(3) of '" + text + "'", rules, x.count(3));
    }

    private static void fails(String text, int place, int kind) {
        FruitHalls x = new FruitHalls();
        due.same("rules of '" + text + "'", -1 - place, Due.rules(x, text));
        due.same("fault of '" + text + "'", kind, x.fault());
        due.same("count(3) of '" + text + "'", 0, x.count(3));
    }

    private static boolean isBlank(int sign) {
        return sign == 32 || sign == 10;
    }

    private static boolean isLetter(int sign) {
        return sign >= 97 && sign <= 122;
    }

    private static boolean isDigit(int sign) {
        return sign >= 48 && sign <= 57;
    }

    /** "WORDS (small letters), NUMBERS (1 to 4 digits), ; with blanks (32, 10)": no other byte is any of these. */
    private static void eachByteAlone() {
        for (int sign = 0; sign < 256; sign++) {
            String text = "" + (char) sign;
            if (isBlank(sign)) {
                stands(text, 0);
            } else {
                boolean token = isLetter(sign) || isDigit(sign) || sign == ';';
                fails(text, 0, token ? CANNOT_COME : NO_TOKEN);
            }
        }
    }

    private static void eachByteBehindAWord() {
        for (int sign = 0; sign < 256; sign++) {
            String text = "rot" + (char) sign + "1;";
            if (isBlank(sign)) {
                stands(text, 1);
            } else if (isLetter(sign) || isDigit(sign)) {
                fails(text, 0, NO_TOKEN);
            } else {
                fails(text, 3, sign == ';' ? CANNOT_COME : NO_TOKEN);
            }
        }
    }

    private static void eachByteBehindANumber() {
        for (int sign = 0; sign < 256; sign++) {
            String text = "rot 1" + (char) sign + ";";
            if (isBlank(sign) || isDigit(sign)) {
                stands(text, 1);
            } else if (isLetter(sign)) {
                fails(text, 4, NO_TOKEN);
            } else if (sign == ';') {
                fails(text, 6, CANNOT_COME);
            } else {
                fails(text, 5, NO_TOKEN);
            }
        }
    }

    /** "with blanks (32, 10) between or not". */
    private static void blanksBetweenOrNot() {
        stands("rot 1;loss pool;part 0 1;", 3);
        stands("rot 1 ; loss pool ; part 0 1 ; ", 3);
        stands("\n\n rot\n \n1\n;\nloss\npool\n;\npart\n0\n1\n;\n\n", 3);
        fails("losspool;", 0, CANNOT_COME);
        fails("rot 1; loss" + (char) 160 + "pool;", 11, NO_TOKEN);
        fails("ro t 1;", 0, CANNOT_COME);
        fails("rot 1 0;", 6, CANNOT_COME);
    }

    /** "NUMBERS (1 to 4 digits)". */
    private static void oneToFourDigits() {
        stands("reserve 0 9;", 1);
        stands("reserve 0 9999;", 1);
        fails("reserve 0 99999;", 10, NO_TOKEN);
        stands("rot 0;", 1);
        stands("rot 0000;", 1);
        fails("rot 00000;", 4, NO_TOKEN);
        fails("rot ;", 4, CANNOT_COME);
        stands("part 0003 0100;", 1);
        fails("part 00003 1;", 5, NO_TOKEN);
        fails("rot 4294967296;", 4, NO_TOKEN);
        fails("rot 0000000000000000000000000000000000000001;", 4, NO_TOKEN);
    }

    /** "a WORD, NUMBER goes on as long as small letters and digits do; where it is not as told .. it is no TOKEN". */
    private static void wordsAndNumbersGoOn() {
        fails("rot5;", 0, NO_TOKEN);
        fails("5rot;", 0, NO_TOKEN);
        fails("rot 5a;", 4, NO_TOKEN);
        fails("rot a5;", 4, NO_TOKEN);
        fails("rot 5a5;", 4, NO_TOKEN);
        fails("loss buyer5;", 5, NO_TOKEN);
        fails("loss 5buyer;", 5, NO_TOKEN);
        fails("reserve0 5;", 0, NO_TOKEN);
        fails("part 0 5 x9", 9, NO_TOKEN);
        fails("rotrot 5;", 0, CANNOT_COME);
        fails("rot 5;rot5;", 6, NO_TOKEN);
    }

    /** "'reserve' GRADE NUMBER (0 to 9999)", and it is in force. */
    private static void reserveGoesTo9999() {
        for (int number = 0; number <= 9999; number++) {
            FruitHalls x = new FruitHalls();
            due.same("reserve 1 " + number, 1, Due.rules(x, "reserve 1 " + number + ";"));
        }
        fails("reserve 1 10000;", 10, NO_TOKEN);
        FruitHalls x = new FruitHalls();
        Due.rules(x, "reserve 1 9999;");
        x.lot(0, 0, 1, 1, 0);
        due.same("a LIMIT of 9998", 0, Due.sellAt(x, 1, 9998));
        due.same("a LIMIT of 9999", 1, Due.sellAt(x, 1, 9999));
        due.same("its PRICE", 9999, x.sale(0, 4));
    }

    /** "'part' GRADE NUMBER (0 to 100)". */
    private static void partGoesTo100() {
        for (int number = 0; number <= 9999; number++) {
            FruitHalls x = new FruitHalls();
            due.same("part 2 " + number, number <= 100 ? 1 : -1 - 7, Due.rules(x, "part 2 " + number + ";"));
            due.same("fault of part 2 " + number, number <= 100 ? 0 : NOT_AS_TOLD, x.fault());
        }
        FruitHalls x = new FruitHalls();
        Due.rules(x, "part 2 100;");
        x.lot(0, 0, 2, 1, 0);
        x.lot(1, 0, 3, 1, 0);
        Due.sellAt(x, 2, 100);
        Due.sellAt(x, 3, 1);
        due.same("100 parts of 101", 100, x.pay(0, 0));
        due.same("1 part of 101", 1, x.pay(1, 0));
        Due.rules(x, "part 2 0;");
        due.same("no part", 0, x.pay(0, 0));
        due.same("the only part", 101, x.pay(1, 0));
    }

    /** "'rot' NUMBER (0 to 50)". */
    private static void rotGoesTo50() {
        for (int number = 0; number <= 9999; number++) {
            FruitHalls x = new FruitHalls();
            due.same("rot " + number, number <= 50 ? 1 : -1 - 4, Due.rules(x, "rot " + number + ";"));
            due.same("fault of rot " + number, number <= 50 ? 0 : NOT_AS_TOLD, x.fault());
            if (number <= 50) {
                x.lot(0, 0, 0, 100, 0);
                x.next();
                due.same("100 BOXES by rot " + number, 100 - number, x.about(0, 3));
            }
        }
    }

    /** "'loss' ( 'buyer' | 'pool' )". */
    private static void lossIsBuyerOrPool() {
        stands("loss buyer;", 1);
        stands("loss pool;", 1);
        fails("loss buye;", 5, CANNOT_COME);
        fails("loss buyers;", 5, CANNOT_COME);
        fails("loss poo;", 5, CANNOT_COME);
        fails("loss pooll;", 5, CANNOT_COME);
        fails("loss grower;", 5, CANNOT_COME);
        fails("loss ;", 5, CANNOT_COME);
        fails("loss 0;", 5, CANNOT_COME);
        fails("loss Buyer;", 5, NO_TOKEN);
        fails("loss buyer pool;", 11, CANNOT_COME);
        fails("los pool;", 0, CANNOT_COME);
        fails("losss pool;", 0, CANNOT_COME);
    }

    /** "GRADE is a NUMBER 0 to 3". */
    private static void gradeGoesTo3() {
        for (int grade = 0; grade <= 9999; grade++) {
            FruitHalls x = new FruitHalls();
            due.same("reserve " + grade, grade <= 3 ? 1 : -1 - 8, Due.rules(x, "reserve " + grade + " 5;"));
            due.same("fault of reserve " + grade, grade <= 3 ? 0 : NOT_AS_TOLD, x.fault());
            FruitHalls y = new FruitHalls();
            due.same("part " + grade, grade <= 3 ? 1 : -1 - 5, Due.rules(y, "part " + grade + " 5;"));
            due.same("fault of part " + grade, grade <= 3 ? 0 : NOT_AS_TOLD, y.fault());
        }
        fails("reserve 00004 5;", 8, NO_TOKEN);
    }

    /** "TEXT: { RULE }": none at all is one, too. */
    private static void emptyTextStands() {
        stands("", 0);
        stands(" ", 0);
        stands("\n", 0);
        stands(" ".repeat(200), 0);
        stands("\n".repeat(199), 0);
    }

    /** "1 no TOKEN (at its first byte)". */
    private static void noTokenAtItsFirstByte() {
        fails("  rot1;", 2, NO_TOKEN);
        fails("rot \n12345;", 5, NO_TOKEN);
        fails("rot 1;  %", 8, NO_TOKEN);
        fails("rot 1;loss buyer!;", 16, NO_TOKEN);
        fails("!!", 0, NO_TOKEN);
        fails("rot 1 a1b2c3", 6, NO_TOKEN);
    }

    /** "2 one that can't come": each kind of TOKEN at each place of a RULE where it can't. */
    private static void eachTokenThatCannotCome() {
        String[] aheadOfRule = {"", "rot 1;"};
        String[] noRule = {"buyer", "pool", "zz", "0", "9999", ";"};
        String[] aheadOfNumber = {"rot ", "reserve ", "part ", "reserve 0 ", "part 3 "};
        String[] noNumber = {"rot", "reserve", "part", "loss", "buyer", "pool", "zz", ";"};
        String[] aheadOfWhom = {"loss "};
        String[] noWhom = {"rot", "reserve", "part", "loss", "zz", "0", "9999", ";"};
        String[] aheadOfFinish = {"rot 1 ", "reserve 0 1 ", "part 3 1 ", "loss buyer ", "loss pool "};
        String[] noFinish = {"rot", "reserve", "part", "loss", "buyer", "pool", "zz", "0", "9999"};
        cannotCome(aheadOfRule, noRule);
        cannotCome(aheadOfNumber, noNumber);
        cannotCome(aheadOfWhom, noWhom);
        cannotCome(aheadOfFinish, noFinish);
    }

    /** A WORD is known by all of its letters. */
    private static void wordsWithOneLetterChanged() {
        String[] words = {"reserve", "part", "rot", "loss"};
        for (String word : words) {
            eachLetterChanged("", word, " 1 1;");
        }
        eachLetterChanged("loss ", "buyer", ";");
        eachLetterChanged("loss ", "pool", ";");
    }

    private static void eachLetterChanged(String ahead, String word, String behind) {
        for (int i = 0; i < word.length(); i++) {
            String changed = word.substring(0, i) + "q" + word.substring(i + 1);
            fails(ahead + changed + behind, ahead.length(), CANNOT_COME);
            String shorter = word.substring(0, i) + word.substring(i + 1);
            fails(ahead + shorter + behind, ahead.length(), CANNOT_COME);
        }
        fails(ahead + word + "q" + behind, ahead.length(), CANNOT_COME);
        fails(ahead + "q" + word + behind, ahead.length(), CANNOT_COME);
    }

    private static void cannotCome(String[] ahead, String[] tokens) {
        for (String begin : ahead) {
            for (String token : tokens) {
                fails(begin + token, begin.length(), CANNOT_COME);
                fails(begin + " \n" + token + " ;", begin.length() + 2, CANNOT_COME);
            }
        }
    }

    /** "2 .. (the end: how many bytes there are)". */
    private static void theEndIsHowManyBytesThereAre() {
        String[] unfinished = {"rot", "rot 1", "loss", "loss buyer", "reserve", "reserve 0", "reserve 0 1", "part",
            "part 0", "part 0 1", "rot 1;loss pool"};
        for (String text : unfinished) {
            fails(text, text.length(), CANNOT_COME);
            fails(text + " ", text.length() + 1, CANNOT_COME);
            fails(text + "\n \n", text.length() + 3, CANNOT_COME);
            fails(text + " ".repeat(200 - text.length()), 200, CANNOT_COME);
        }
    }

    /** "3 a NUMBER that is not as told (at it)": even if nothing comes behind it. */
    private static void numberNotAsToldAtIt() {
        fails("rot 51", 4, NOT_AS_TOLD);
        fails("rot \n 51 ;", 6, NOT_AS_TOLD);
        fails("part 0 101", 7, NOT_AS_TOLD);
        fails("part 4", 5, NOT_AS_TOLD);
        fails("reserve 4", 8, NOT_AS_TOLD);
        fails("reserve 9999 9999;", 8, NOT_AS_TOLD);
        fails("rot 0051;", 4, NOT_AS_TOLD);
        fails("part 0004 1;", 5, NOT_AS_TOLD);
        stands("rot 0050;part 0003 0100;", 2);
    }

    /** "4 a RULE told twice (at its WORD": rot and loss, whatever they say. */
    private static void twiceAtItsWord() {
        fails("rot 1;rot 1;", 6, TOLD_TWICE);
        fails("rot 1;rot 2;", 6, TOLD_TWICE);
        fails("rot 0; \n rot 0;", 9, TOLD_TWICE);
        fails("loss pool;loss pool;", 10, TOLD_TWICE);
        fails("loss buyer;loss pool;", 11, TOLD_TWICE);
        fails("rot 1;loss pool;part 0 1;reserve 0 1;rot 1;", 37, TOLD_TWICE);
        fails("loss pool;rot 1;part 0 1;reserve 0 1;loss pool;", 37, TOLD_TWICE);
        fails("rot 1;rot", 6, TOLD_TWICE);
        fails("loss pool;loss", 10, TOLD_TWICE);
    }

    /** "reserve, part: of one GRADE, at the GRADE)". */
    private static void twiceOfOneGradeAtTheGrade() {
        for (int grade = 0; grade <= 3; grade++) {
            fails("reserve " + grade + " 1;reserve " + grade + " 2;", 20, TOLD_TWICE);
            fails("part " + grade + " 1;part " + grade + " 2;", 14, TOLD_TWICE);
            fails("reserve " + grade + " 1;reserve 000" + grade, 20, TOLD_TWICE);
            fails("part " + grade + " 1;rot 1;part\n" + grade, 20, TOLD_TWICE);
        }
        fails("part 0 1;part 1 1;part 2 1;part 3 1;part 0 1;", 41, TOLD_TWICE);
        fails("reserve 3 1;reserve 2 1;reserve 3 1;", 32, TOLD_TWICE);
    }

    /** A like GRADE of reserve and of part, and another GRADE, are no RULE told twice; nor is one of the text ahead. */
    private static void notTwice() {
        stands("reserve 0 1;part 0 1;", 2);
        stands("part 3 1;reserve 3 1;", 2);
        stands("part 0 1;part 1 1;part 2 1;part 3 1;", 4);
        stands("reserve 3 1;reserve 2 1;reserve 1 1;reserve 0 1;", 4);
        FruitHalls x = new FruitHalls();
        for (int i = 0; i < 3; i++) {
            due.same("the same text again", 4, Due.rules(x, "rot 1;loss pool;part 0 1;reserve 0 1;"));
            due.same("behind a FAULT", -1 - 6, Due.rules(x, "rot 1;rot 1;"));
        }
    }

    /** "of one TOKEN the least". */
    private static void ofOneTokenTheLeast() {
        // 1 and 2: no TOKEN, where none but ; could come.
        fails("rot 1 99999", 6, NO_TOKEN);
        fails("loss pool 1a", 10, NO_TOKEN);
        // 1 and 3: too many digits, and too great.
        fails("rot 00051;", 4, NO_TOKEN);
        fails("reserve 10000 1;", 8, NO_TOKEN);
        // 1 and 4: rot told twice, but grown together with its NUMBER.
        fails("rot 1;rot1;", 6, NO_TOKEN);
        fails("part 0 1;part 00000 1;", 14, NO_TOKEN);
        // 2 and 3: a NUMBER too great for any RULE, where none can come.
        fails("rot 1 51;", 6, CANNOT_COME);
        fails("loss 9999;", 5, CANNOT_COME);
        fails("9999", 0, CANNOT_COME);
        // 2 and 4: a WORD of a RULE that was told, where none can come.
        fails("rot 1;part rot", 11, CANNOT_COME);
        fails("rot 1;part 0 1 rot", 15, CANNOT_COME);
        fails("loss pool;rot loss", 14, CANNOT_COME);
        // 3 and 4 never meet: a GRADE that was told is as told.
        fails("part 3 1;part 4 1;", 14, NOT_AS_TOLD);
    }

    /** "the first along the text", whatever its kind. */
    private static void firstAlongTheText() {
        fails("rot 51;!", 4, NOT_AS_TOLD);
        fails("! 1 51", 0, NO_TOKEN);
        fails("rot 51 51", 4, NOT_AS_TOLD);
        fails("rot 1;rot 51;", 6, TOLD_TWICE);
        fails("rot 1;rot !", 6, TOLD_TWICE);
        fails("rot 1;rot ;", 6, TOLD_TWICE);
        fails("rot 51;rot 1;", 4, NOT_AS_TOLD);
        fails("rot rot 51", 4, CANNOT_COME);
        fails("reserve 0 1;reserve 0 !", 20, TOLD_TWICE);
        fails("reserve 0 1;reserve ! 0", 20, NO_TOKEN);
        fails("reserve 4 !", 8, NOT_AS_TOLD);
        fails("part 0 1;part 0 101;", 14, TOLD_TWICE);
        fails("part 4 101;", 5, NOT_AS_TOLD);
        fails("loss pool;loss 9", 10, TOLD_TWICE);
        fails("rot 1 loss 9", 6, CANNOT_COME);
    }

    /** A tape of 200 bytes is read to its last one. */
    private static void fullTape() {
        String blanks = " ".repeat(194);
        stands(blanks + "rot 1;", 1);
        fails(blanks + " rot 1", 200, CANNOT_COME);
        fails(blanks + "rot 1!", 199, NO_TOKEN);
        fails(blanks + "rot 51", 198, NOT_AS_TOLD);
        fails(blanks + "rot1 ;", 194, NO_TOKEN);
        fails(blanks + "     5", 199, CANNOT_COME);
        fails(blanks + "     ;", 199, CANNOT_COME);
        fails("rot 1;" + " ".repeat(191) + "rot", 197, TOLD_TWICE);
        fails("a".repeat(200), 0, CANNOT_COME);
        fails("1".repeat(200), 0, NO_TOKEN);
        fails("1".repeat(199) + "a", 0, NO_TOKEN);
        fails(";".repeat(200), 0, CANNOT_COME);
        String ten = "reserve 0 1;reserve 1 1;reserve 2 1;reserve 3 1;part 0 1;part 1 1;part 2 1;part 3 1;rot 1;loss pool;";
        stands(ten + " ".repeat(200 - ten.length()), 10);
        fails(ten + " ".repeat(199 - ten.length()) + "x", 199, CANNOT_COME);
        fails(ten + "rot 1;", ten.length(), TOLD_TWICE);
    }

    /** "What is not told: reserve 0, part 1, rot 0, loss pool": what the text ahead told is over. */
    private static void whatIsNotToldAnymore() {
        FruitHalls x = new FruitHalls();
        Due.rules(x, "reserve 0 7;reserve 3 7;part 0 0;part 3 9;rot 50;loss buyer;");
        x.lot(0, 0, 0, 4, 0);
        Due.sellAt(x, 0, 9);
        x.reject(0);
        Due.sellAt(x, 0, 8);
        due.same("loss buyer", 4, x.sale(0, 6));
        due.same("part 0", 0, x.pay(0, 0));
        x.lot(1, 0, 3, 4, 0);
        due.same("reserve 7", 0, Due.sellAt(x, 3, 6));
        due.same("an empty text", 0, Due.rules(x, ""));
        due.same("loss pool again", 0, x.sale(0, 6));
        due.same("part 1 again", 32, x.pay(0, 0));
        x.next();
        due.same("rot 0 again", 4, x.about(1, 3));
        due.same("reserve 0 again", 1, Due.sellAt(x, 3, 1));
        due.same("part 1 of grade 3 again", 18, x.pay(1, 1));
    }

    /** Promise 4: "how many", 0 to 10. */
    private static void howMany() {
        String[] each = {"rot 0;", "loss pool;", "part 0 0;", "part 1 0;", "part 2 0;", "part 3 0;",
            "reserve 0 0;", "reserve 1 0;", "reserve 2 0;", "reserve 3 0;"};
        String text = "";
        for (int told = 0; told < each.length; told++) {
            stands(text, told);
            text = text + each[told];
        }
        stands(text, 10);
        for (String again : each) {
            FruitHalls x = new FruitHalls();
            due.yes("an eleventh", Due.rules(x, text + again) < 0);
            due.same("is told twice", TOLD_TWICE, x.fault());
        }
    }

    /** Promise 4: "-1 - the place of a FAULT: they stay". */
    private static void theyStayBehindAFault() {
        String[] faulty = {"!", "rot 0;!", "rot 0;loss pool;reserve 0 0;part 0 1;rot 0;", "rot 0", "rot 0;loss",
            "loss pool;rot 51;", "part 0 1;reserve 0 0;reserve 4 0;"};
        for (String text : faulty) {
            FruitHalls x = new FruitHalls();
            due.same("four RULES", 4, Due.rules(x, "reserve 0 7;part 0 3;rot 50;loss buyer;"));
            due.yes("a FAULT of '" + text + "'", Due.rules(x, text) < 0);
            due.same("count(3) stays", 4, x.count(3));
            x.lot(0, 0, 0, 2, 0);
            due.same("reserve stays", 0, Due.sellAt(x, 0, 6));
            x.next();
            due.same("rot stays", 1, x.about(0, 3));
            x.lot(1, 0, 1, 1, 0);
            Due.sellAt(x, 0, 9);
            x.reject(0);
            Due.sellAt(x, 0, 8);
            Due.sellAt(x, 1, 2);
            due.same("loss buyer stays", 1, x.sale(0, 6));
            due.same("part stays", 8, x.pay(0, 1));
        }
    }

    /** Promise 4: "The tape (empty then, here and below)". */
    private static void tapeIsEmptyThen() {
        FruitHalls x = new FruitHalls();
        Due.rules(x, "rot 1;");
        due.same("bytes behind RULES", 0, x.count(4));
        Due.rules(x, "rot 1;!");
        due.same("bytes behind a FAULT", 0, x.count(4));
        due.no("end(1)", x.end(1));
        due.same("rules() at once again", 0, x.rules());
        due.same("and it is no FAULT", 0, x.fault());
        due.same("feed begins at 0", 20, x.feed(0x21202020, 0, 0, 0, 0));
        due.same("so its place is 0", -1, x.rules());
    }

    /** Promise 5: "of the latest rules(); 0 without one and ahead of any". */
    private static void faultOfTheLatest() {
        FruitHalls x = new FruitHalls();
        due.same("ahead of any", 0, x.fault());
        Due.tape(x, "!");
        due.same("a tape that was not read", 0, x.fault());
        x.rules();
        due.same("kind 1", NO_TOKEN, x.fault());
        due.same("kind 1, told again", NO_TOKEN, x.fault());
        Due.rules(x, ";");
        due.same("kind 2", CANNOT_COME, x.fault());
        Due.rules(x, "rot 51;");
        due.same("kind 3", NOT_AS_TOLD, x.fault());
        Due.rules(x, "rot 1;rot 1;");
        due.same("kind 4", TOLD_TWICE, x.fault());
        x.cars(0);
        x.lot(9, 9, 9, 9, 9);
        due.same("other calls leave it", TOLD_TWICE, x.fault());
        Due.rules(x, "rot 1;");
        due.same("without one", 0, x.fault());
    }
}
