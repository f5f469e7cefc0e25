/** The Terms of the document, sentence by sentence, at their bounds (promise 0 stands for them). */
public final class TermsBoundsTest {
    private static final Sentences of = new Sentences("TermsBoundsTest");

    private static void borough() {
        of.say(0, "CORNERS 0 .. 8, in a ring.", """
            crier 1 = 0
            borough 1 -1,9,MIN,MAX = -2
            borough 1 8 = 0
            ring -1,9,MIN,MAX 0 = -5
            ring 0,8 0 = 0
            citizen 0 -1,9,MIN,MAX 0 = -2
            citizen 0 0,8 0 = 0 1
            ring 0..8 0 = 1 0 0 0 0 0 0 0 2
            put 0 0 -1,9 = -7
            put 0 0 8 = 0
            put 0 0 0 = 8
            hush -1,9 0 0 = -5
            hush 0,8 0 0 = 0
            # in a ring: 0 is behind 8
            crier 1 = 8
            hour = 0
            crier 1 = 0
            """);
        of.say(0, "THINGS 0 .. 9, each BAD (0 .. 99; 0 at first); sets of them are told as bits (0 .. 1023).", """
            crier 3..12 = 0
            borough 3..12 -1,100 = -2
            borough 3..12 99 = 0
            crier 3..12 = 99
            borough 3..12 0 = 99
            borough 13 0 = -2
            citizen 0 0 -1,1024 = -2
            citizen 0 0 0,1023 = 0 1
            put 0 1 -1,1024 = -7
            put 0 2 -1,1024 = -7
            put 0 1 1023 = 0
            put 0 2 1023 = 0
            told 0 1,2 = 1023
            put 0 1 0 = 1023
            put 0 2 512 = 1023
            told 0 2 = 512
            borough 2 -1,1024 = -2
            borough 2 0 = 1023
            borough 2 1023 = 0
            asks 0 0 10,-2 = -1000
            asks 0 0 0,9 = 50
            hush 0 -1,10 0 = -7
            hush 0 0,9 0 = 2
            sheet 0 0 0 = 1
            evils 0 -1,10 0 = -5
            evils 0 0,9 0 = 100
            """);
        of.say(0, "HOUR (0 .. 9999; 0 at first; in thought it may pass 9999).", """
            crier 0 = 0
            count 1 = 0
            borough 0 -1,10000,MIN,MAX = -2
            borough 0 9999 = 0
            borough 0 0 = 9999
            borough 0 9998 = 0
            hour = 0
            crier 0 = 9999
            hour = -3
            crier 0,1 = 9999 1
            # one at 2 wants all, is curious 50 till HOUR 9999 and 0 behind it, and dreads all 1; the crier is at 1:
            # he is at 2 at HOUR 10000, when nobody wishes a THING; were he there at 9999, none might be cried
            law 'curious 50-50*(9999<hour);dreads 1;goes 0;'
            borough 3..12 1 = 0
            citizen 0 2 1023 = 0
            run 1 1 = 1
            run 2 1 = 2
            run 2 20 = 4
            when 2 = 2
            when 22 = 2
            crier 0 = 9999
            borough 0 9998 = 9999
            run 2 1 = 1
            run 2 20 = 0
            """);
        of.say(0, "THE CRIER: a CORNER (0 at first), NEWS: THINGS that are still to be told (all at first).", """
            crier 1 = 0
            crier 2 = 1023
            count 2 = 10
            hour = 0
            crier 2 = 1022
            count 2 = 9
            borough 2 0 = 1022
            count 2 = 0
            crier 13 = -1
            hour = -1
            """);
        of.say(0, "PEOPLE are numbered from 0 on, 6 at most: of a KIND, with MORE (0 .. 9); AT a CORNER; WANTED: THINGS one wants to hear; "
            + "KNOWN: THINGS one knows (none as one comes); the WINDOW UP or down (UP as one comes).", """
            count 0 = 0
            told -1..6 0 = -5
            citizen -1,60 0 0 = -2
            count 0 = 0
            citizen 0 0 0 = 0
            count 0 = 1
            told 0 0..5 = 0 0 0 1 0 0
            told 1 0 = -5
            citizen 19 8 1023 = 1
            told 1 0..5 = 8 1023 0 1 1 9
            citizen 20 0 0 = 2
            citizen 39 0 0 = 3
            citizen 40 0 0 = 4
            told 5 0 = -5
            citizen 59 0 0 = 5
            told 0..5 4 = 0 1 2 3 4 5
            told 0..5 5 = 0 9 0 9 0 9
            count 0 = 6
            citizen 0 0 0 = -4
            told 6 0 = -5
            put 5 3 -1,2 = -7
            put 5 3 0 = 1
            told 5 3 = 0
            put 5 3 1 = 0
            told 5 3 = 1
            """);
    }

    private static void wishing() {
        of.say(0, "KINDS: whether one WISHES to hear a THING that isn't KNOWN to one (one that is one never WISHES to hear), it being WANTED or not, "
            + "the text saying how CURIOUS one is, how much one DREADS it;", """
            # of like CURIOUS and DREADS all but HUMMER and STRANGER wish what is WANTED; a HUMMER what isn't
            law 'curious 50;dreads 50;goes 0;'
            citizen 0,10,20,30 0 1023 = 0 1 2 3
            citizen 40 0 0 = 4
            citizen 50 0 1023 = 5
            told 0..5 6 = 1023 1023 1023 1023 1023 0
            put 0..5 2 682 = 0
            told 0..5 6 = 341 341 341 341 341 0
            put 0..5 2 1022 = 682
            told 0..5 6 = 1 1 1 1 1 0
            put 0..5 2 1023 = 1022
            told 0..5 6 = 0
            put 0..5 2 0 = 1023
            put 0..4 1 0 = 1023 1023 1023 1023 0
            put 4 1 1023 = 0
            told 0..5 6 = 0
            """);
        of.say(0, "whether one LISTENS, the WINDOW being UP or down;", """
            borough 0 1 = 0
            citizen 0,10,20,30,40,50 0 0 = 0 1 2 3 4 5
            told 0..5 7 = 1
            put 0..5 3 0 = 1
            told 0..5 7 = 0 0 0 1 0 0
            """);
        of.say(0, "how many CORNERS on one GOES, the text saying so many.", """
            law 'curious 0;dreads 0;goes 7;'
            citizen 3,13,23,33,43,53 0 0 = 0 1 2 3 4 5
            told 0..5 8 = 1007 1000 993 1000 996 1003
            """);
    }

    private static void kinds() {
        of.say(0, "0 CITIZEN: if it is WANTED, and CURIOUS is as much as one DREADS it, or more; if UP; that.", """
            citizen 9 0 7 = 0
            borough 3 49 = 0
            borough 4 50 = 0
            borough 5 51 = 0
            told 0 6 = 3
            put 0 1 0 = 7
            told 0 6 = 0
            put 0 1 1023 = 0
            told 0 6 = 1019
            told 0 7 = 1
            put 0 3 0 = 1
            told 0 7 = 0
            told 0 8 = 1000
            law 'curious 0;dreads 1;goes 0-99;'
            told 0 6 = 0
            told 0 8 = 901
            law 'curious 99;dreads 99;goes 99;'
            told 0 6 = 1023
            told 0 8 = 1099
            """);
        of.say(0, "1 MOTHER (a CITIZEN): WISHES, if it is WANTED, or CURIOUS and 10 times MORE are, together, less than one DREADS it; GOES 0.", """
            # 50 and 30 are less than 81
            citizen 13 0 0 = 0
            borough 3 79 = 0
            borough 4 80 = 0
            borough 5 81 = 0
            borough 12 99 = 0
            told 0 6 = 516
            put 0 1 1 = 0
            told 0 6 = 517
            put 0 2 517 = 0
            told 0 6 = 0
            told 0 7 = 1
            put 0 3 0 = 1
            told 0 7 = 0
            law 'curious 0;dreads bad;goes 99;'
            told 0 8 = 1000
            # MORE 9: 0 and 90 are less than 91; MORE 0: 98 is less than 99, 99 isn't
            citizen 19 1 0 = 1
            borough 3 90 = 79
            borough 4 91 = 80
            told 1 6 = 514
            citizen 10 2 0 = 2
            law 'curious 98;dreads 99;goes 0-99;'
            told 1,2 6 = 0 1023
            told 2 8 = 1000
            law 'curious 99;dreads 99;goes 0;'
            told 2 6 = 0
            """);
        of.say(0, "2 DEAF (a CITIZEN): LISTENS, if UP, but not if HOUR and MORE are alike, both modulo 3; GOES 0 less that.", """
            citizen 20,21,22,23,28,29 0 7 = 0 1 2 3 4 5
            told 0..5 7 = 0 1 1 0 1 0
            borough 0 1 = 0
            told 0..5 7 = 1 0 1 1 1 1
            borough 0 2 = 1
            told 0..5 7 = 1 1 0 1 0 1
            borough 0 3 = 2
            told 0..5 7 = 0 1 1 0 1 0
            borough 0 9998 = 3
            told 0..5 7 = 1 1 0 1 0 1
            borough 0 9999 = 9998
            told 0..5 7 = 0 1 1 0 1 0
            put 1,2 3 0 = 1
            told 0..5 7 = 0 0 0 0 1 0
            # a DEAF wishes as a CITIZEN
            borough 4 51 = 0
            told 1 6 = 5
            told 1 8 = 1000
            law 'curious 50;dreads 50;goes 99;'
            told 1 8 = 901
            law 'curious 50;dreads 50;goes 0-99;'
            told 1 8 = 1099
            """);
        of.say(0, "3 WIFE (a MOTHER): WISHES in even HOURS alone, as a MOTHER, were CURIOUS MORE more; LISTENS always.", """
            # 40 and 4 and 40 are less than 85
            law 'curious 40;dreads bad;goes 99;'
            citizen 34 0 1 = 0
            borough 4 83 = 0
            borough 5 84 = 0
            borough 6 85 = 0
            told 0 6 = 9
            borough 0 1 = 0
            told 0 6 = 0
            borough 0 9998 = 1
            told 0 6 = 9
            borough 0 9999 = 9998
            told 0 6 = 0
            told 0 7 = 1
            put 0 3 0 = 1
            told 0 7 = 1
            told 0 8 = 1000
            # MORE 9: 0 and 9 and 90 are not less than 99; MORE 0: 98 is
            law 'curious 0;dreads 99;goes 0;'
            citizen 39,38 0 0 = 1 2
            borough 0 0 = 9999
            told 1,2 6 = 0 1023
            citizen 30 0 0 = 3
            law 'curious 98;dreads 99;goes 0;'
            told 3 6 = 1023
            law 'curious 99;dreads 99;goes 0;'
            told 3 6 = 0
            """);
        of.say(0, "4 HUMMER (a DEAF): WISHES just if a DEAF doesn't; GOES MORE more than a DEAF.", """
            citizen 49 0 7 = 0
            borough 5 50 = 0
            borough 4 51 = 0
            told 0 6 = 1018
            put 0 1 0 = 7
            told 0 6 = 1023
            put 0 2 1 = 0
            told 0 6 = 1022
            told 0 7 = 0
            borough 0 1 = 0
            told 0 7 = 1
            put 0 3 0 = 1
            told 0 7 = 0
            told 0 8 = 1009
            law 'curious 50;dreads 50;goes 99;'
            told 0 8 = 910
            law 'curious 50;dreads 50;goes 0-99;'
            told 0 8 = 1108
            citizen 40 0 0 = 1
            told 1 8 = 1099
            """);
        of.say(0, "5 STRANGER (a CITIZEN): WISHES never; GOES MORE.", """
            law 'curious 99;dreads 0;goes 77;'
            citizen 50,51,59 0 1023 = 0 1 2
            citizen 55 0 0 = 3
            told 0..3 6 = 0
            told 0..3 8 = 1000 1001 1009 1005
            told 0..3 7 = 1
            put 0..3 3 0 = 1
            told 0..3 7 = 0
            """);
        of.say(0, "(Whatever isn't told is as of the KIND above.)", """
            # MOTHER and STRANGER LISTEN as a CITIZEN, a HUMMER as a DEAF; a DEAF WISHES as a CITIZEN; a WIFE GOES as a MOTHER
            law 'curious 60;dreads bad;goes 20;'
            borough 3 61 = 0
            borough 4 60 = 0
            citizen 11,51,42,22,32 0 3 = 0 1 2 3 4
            told 0..4 7 = 1
            borough 0 2 = 0
            told 0..4 7 = 1 1 0 0 1
            told 3 6 = 2
            told 4 8 = 1000
            """);
    }

    private static void tape() {
        of.say(0, "A TEXT is read from THE TAPE (160 bytes at most).", """
            # empty
            text = -100
            new
            feed 1 32 0 0 0 0 = 1
            text = -101
            # full: 134 and 26 bytes, the last one is of the TEXT
            new
            blanks 134
            tape 'curious 1;dreads 2;goes 3;'
            count 5 = 160
            feed 1 32 0 0 0 0 = -4
            count 5 = 160
            text = 1
            count 5 = 0
            citizen 0 0 0 = 0
            force 1 = 0
            asks 0..2 0 -1 = 1 2 3
            # the TEXT first, blanks behind it
            new
            tape 'curious 1;dreads 2;goes 3;'
            blanks 134
            count 5 = 160
            text = 1
            # full, and too early
            new
            blanks 135
            tape 'curious 1;dreads 2;goes 3'
            count 5 = 160
            text = -260
            new
            blanks 160
            text = -260
            new
            blanks 159
            byte 64
            text = -259
            new
            tape 'curious 1;dreads 2;goes 3;'
            blanks 133
            tape ';'
            text = -259
            # 68 ones on a full TAPE
            new
            tape 'curious 1'
            repeat 67 '+1'
            tape ';dreads 0;goes 0;'
            count 5 = 160
            text = 1
            force 1 = 0
            citizen 0 0 0 = 0
            asks 0 0 0 = 68
            # 161 bytes
            new
            tape 'curious 1'
            repeat 67 '+1'
            tape ';dreads 0;goes 0'
            feed 2 32 59 0 0 0 = -4
            feed 1 59 0 0 0 0 = 160
            feed 5,4,3,2,1 32 32 32 32 32 = -4
            text = 1
            """);
        of.say(0, "TOKENS, each as long as can be: WORDS (as many letters a .. z as stand there), NUMBERS (as many digits as stand there; more than 4 are too long), "
            + "SIGNS ( ) ; + - * < = ; blanks (32, 10) may stand between.", """
            text 'curious1;dreads2;goes3;' = 1
            text '\\n curious\\n1 ;\\n\\ndreads  2 ; \\n goes\\n-\\n3\\n;\\n ' = 2
            text 'curious(1)+2-3*4<5=6' = -118
            fine '(1+2-3)*4<5'
            fine 'bad*more'
            fault '' 'curiousbad;dreads 0;goes 0;'
            fault '' 'cur ious 0;dreads 0;goes 0;'
            fault 'curious ' 'badmore;dreads 0;goes 0;'
            fault 'curious ' 'no t 1;dreads 0;goes 0;'
            fault 'curious ' 'a;dreads 0;goes 0;'
            fault 'curious ' 'z;dreads 0;goes 0;'
            fault 'curious 1;' 'dreadsz 0;goes 0;'
            fault 'curious 1;' 'adreads 0;goes 0;'
            wrong 'bad ' 'more'
            wrong 'bad' '1'
            wrong '1' 'bad'
            wrong '1 ' '2'
            wrong '1\\n' '2'
            wrong '1<' '=2'
            # NUMBERS of 4 and of 5 digits
            fine '9999'
            fine '0000'
            fine '9'
            fine '1+9999'
            wrong '' '10000'
            wrong '' '00000'
            wrong '1+' '99999'
            wrong '1*' '123456789012345678901234567890'
            says '0099' = 99
            says '9999-9998' = 1
            says '12' = 12
            """);
        bytesThatBeginNone();
    }

    /** Each byte but a letter, a digit, a SIGN and the two blanks is a FAULT where it stands. */
    private static void bytesThatBeginNone() {
        StringBuilder rows = new StringBuilder();
        for (int b = 0; b < 256; b++) {
            boolean isOther = b != 10 && "abcdefghijklmnopqrstuvwxyz0123456789();+-*<= ".indexOf(b) < 0;
            if (isOther) {
                rows.append("new\ntape 'curious 1+'\nbyte ").append(b).append("\ntape '1;dreads 0;goes 0;'\ntext = -110\n");
                rows.append("byte ").append(b).append("\ntape 'curious 1;dreads 0;goes 0;'\ntext = -100\n");
                rows.append("tape 'curious 1;dreads 0;goes 0;'\nbyte ").append(b).append("\ntext = -126\n");
                rows.append("count 3 = 1\n");
            }
        }
        rows.append("new\ntape 'curious 1+'\nbyte 32\ntape '1;dreads 0;goes 0;'\ntext = 1\n");
        rows.append("tape 'curious 1+'\nbyte 10\ntape '1;dreads 0;goes 0;'\ntext = 2\n");
        of.say(0, ", also of a byte that begins none,", rows.toString());
    }

    private static void grammar() {
        of.say(0, "TEXT: curious E ; dreads E ; goes E ;", """
            text 'curious 1 ; dreads 2 ; goes 3 ;' = 1
            fault '' 'dreads 2;goes 3;'
            fault '' '1;dreads 2;goes 3;'
            fault '' 'curiou 1;dreads 2;goes 3;'
            fault '' ';'
            fault 'curious 1;' 'goes 3;'
            fault 'curious 1;' 'curious 1;dreads 2;goes 3;'
            fault 'curious 1;' ';dreads 2;goes 3;'
            fault 'curious 1;dreads 2;' 'curious 3;'
            fault 'curious 1;dreads 2;' 'dreads 2;goes 3;'
            fault 'curious 1;dreads 2;' '3;'
            fault 'curious 1;dreads 2;goes 3;' 'curious'
            fault 'curious 1;dreads 2;goes 3;' ';'
            fault 'curious 1;dreads 2;goes 3;' '3'
            fault 'curious 1;dreads 2;goes 3; \\n' 'x'
            fault 'curious ' ';dreads 2;goes 3;'
            fault 'curious 1;dreads ' ';goes 3;'
            fault 'curious 1;dreads 2;goes ' ';'
            fault 'curious 1 ' 'dreads 2;goes 3;'
            fault 'curious 1;dreads 2 ' 'goes 3;'
            fault 'curious ' 'curious;dreads 2;goes 3;'
            fault 'curious ' 'dreads;dreads 2;goes 3;'
            fault 'curious ' 'goes;dreads 2;goes 3;'
            """);
        of.say(0, "E: AND { or AND }.", """
            fine '1 or 2'
            fine '1 or 2 or 3 or 4'
            fine '1 and 2 or 3 and 4 or not 5'
            wrong '' 'or 1'
            wrong '1 or ' 'or 2'
            wrong '1 ' 'not 2'
            says '1 or 0' = 1
            says '0 or 0' = 0
            says '0 or 0 or 1' = 1
            says '1 or 1 and 0' = 1
            says '0 and 1 or 1' = 1
            """);
        of.say(0, "AND: NOT { and NOT }.", """
            fine '1 and 2'
            fine '1 and 2 and 3 and 4'
            fine 'not 1 and not 2'
            wrong '' 'and 1'
            wrong '1 and ' 'and 2'
            wrong '1 and ' 'or 2'
            says '1 and 1' = 1
            says '1 and 0' = 0
            says '0 and 1' = 0
            says '1 and 1 and 0' = 0
            says 'not 0 and 0' = 0
            """);
        of.say(0, "NOT: not NOT, or SUM, perhaps < or = and a SUM.", """
            fine 'not 1'
            fine 'not not 1'
            fine '1 < 2'
            fine '1 = 2'
            fine 'not 1 = 2'
            fine '(1 < 2) < 3'
            fine '1 = (2 = 3)'
            wrong '1 < 2 ' '< 3'
            wrong '1 < 2 ' '= 3'
            wrong '1 = 2 ' '< 3'
            wrong '1 = 2 ' '= 3'
            wrong '' '< 3'
            wrong '1 < ' 'not 3'
            wrong '1 = ' '= 3'
            wrong 'not ' 'and 1'
            says 'not 5 = 0' = 1
            says 'not not 7' = 1
            says 'not 0 < 0' = 1
            says '1 + 1 < 1 + 2' = 1
            """);
        of.say(0, "SUM: TERM { + or - TERM }.", """
            fine '1 + 2'
            fine '1 - 2 + 3 - 4'
            fine '1 - -2'
            wrong '' '+ 1'
            wrong '1 + ' '+ 2'
            wrong '1 - ' '* 2'
            wrong '1 + ' 'not 2'
            says '9 - 4 - 3' = 2
            says '9 - 4 + 3' = 8
            says '1 + 2 * 3' = 7
            """);
        of.say(0, "TERM: ONE { * ONE }.", """
            fine '1 * 2'
            fine '1 * 2 * 3'
            fine '2 * -3'
            fine '(1) * (2)'
            wrong '' '* 1'
            wrong '1 * ' '* 2'
            wrong '1 * ' '+ 2'
            wrong '(1) ' '(2)'
            says '2 * 3 * 4' = 24
            says '-2 * 3' = -6
            says '2 * -3' = -6
            """);
        of.say(0, "ONE: a NUMBER, a NAME, - ONE, ( E ).", """
            fine '7'
            fine 'bad'
            fine '-7'
            fine '--7'
            fine '-(7)'
            fine '(1 or 2 and not 3 < 4)'
            wrong '' ')'
            wrong '(' ')'
            wrong '- ' 'not 1'
            wrong '-' '+1'
            wrong '1' ')'
            wrong '(1' ';'
            wrong '(1 ' '2)'
            wrong '(1)' ')'
            wrong 'bad ' '(1)'
            says '-7' = -7
            says '--7' = 7
            says '-(3 - 5)' = 2
            says '(1 or 1) and 0' = 0
            """);
        of.say(0, "NAMES: bad corner known wanted hour more.", """
            says 'bad' = 44
            says 'corner' = 8
            says 'known' = 5
            says 'wanted' = 3
            says 'hour' = 36
            says 'more' = 7
            says 'bad-corner*known+wanted' = 7
            wrong '' 'news'
            wrong '' 'badd'
            wrong '' 'ba'
            wrong '' 'window'
            wrong '' 'kind'
            wrong '' 'curious'
            """);
        of.say(0, "An E is an int (32 bits, wrapping): of or, and, not, <, = 1 or 0 (what is not 0 is true).", """
            # 9999*9999*21+9999*4790+8416 is 2147483647; 1 more is -2147483648
            says '9999*9999*21+9999*4790+8416<0' = 0
            says '9999*9999*21+9999*4790+8417<0' = 1
            says '9999*9999*22<0' = 1
            says '0-9999*9999*21-9999*4790-8417<0' = 1
            says '0-9999*9999*21-9999*4790-8418<0' = 0
            says '-(9999*9999*21+9999*4790+8417)<0' = 1
            says '8192*8*8192*8=0' = 1
            says '8192*8*8192*4<0' = 1
            says '8192*8*8192*8+5' = 5
            says '9999*9999*9999-(9999*9999*9999-5)' = 5
            says '9999*9999*22' = -99
            says '0-9999*9999*22' = 99
            says '7 or 0' = 1
            says '0 or 0-7' = 1
            says '7 and 0-7' = 1
            says '8192*8*8192*8 or 0' = 0
            says 'not 7' = 0
            says 'not (0-7)' = 0
            says 'not 0' = 1
            says '3<4' = 1
            says '4<4' = 0
            says '0-1<0' = 1
            says '4=4' = 1
            says '4=0-4' = 0
            says '(3<4)+(4=4)' = 2
            """);
    }

    private static void fault() {
        of.say(0, "FAULT: the place of the first byte of the first TOKEN that can't stand there (the text's size, if it ends too early)", """
            fault '' 'or'
            fault 'curious 1;dreads 2;goes 3; ' 'goes 3; @ 12345'
            wrong '1 + ' 'or @ 12345'
            wrong '1 ' '2 or @'
            # a ; or a ) where there is more to come
            wrong '' ';'
            wrong '1 or ' ';'
            wrong '1 and ' ';'
            wrong 'not ' ';'
            wrong '1 < ' ';'
            wrong '1 = ' ';'
            wrong '1 + ' ';'
            wrong '1 - ' ';'
            wrong '1 * ' ';'
            wrong '- ' ';'
            wrong '( ' ';'
            wrong '(1 ' ';'
            wrong '(1 or ' ')'
            wrong '(1 and ' ')'
            wrong '(not ' ')'
            wrong '(1 < ' ')'
            wrong '(1 = ' ')'
            wrong '(1 + ' ')'
            wrong '(1 - ' ')'
            wrong '(1 * ' ')'
            wrong '(- ' ')'
            # .. and what may follow them in a TEXT
            fault 'curious 1 or ' ';dreads 2;goes 3;'
            fault 'curious 1;dreads 2 < ' ';goes 3;'
            fault 'curious 1;dreads 2;goes 3 and ' ';'
            """);
        endsTooEarly();
        of.say(0, "of a WORD that is neither KEY nor NAME, a NUMBER that is too long,", """
            wrong '' 'dread'
            wrong '1+' 'x'
            wrong 'bad ' 'x'
            wrong '(' 'nots 1)'
            wrong '1 ' 'xor 2'
            fault '' 'x'
            fault 'curious 1;' 'x 1;'
            fault 'curious 1;dreads 1;' 'go 1;'
            fault 'curious 1;dreads 1;goes 1;' 'end'
            wrong '' '00001'
            wrong '1+' '99999'
            wrong '1 ' '12345'
            fault '' '12345'
            fault 'curious 1;dreads 1;goes 1;' '12345'
            """);
        of.say(0, "a ( , a not, a - ahead of a ONE while 5 of these are open (a ( till its ) , not and - till what they belong to ends).", """
            # 5 of a sort, and 6
            fine '(((((1)))))'
            wrong '(((((' '(1))))))'
            fine 'not not not not not 1'
            wrong 'not not not not not ' 'not 1'
            fine '-----1'
            wrong '-----' '-1'
            # each as the last one
            wrong '(((((' 'not 1)))))'
            wrong '(((((' '-1)))))'
            wrong 'not not not not not ' '(1)'
            wrong 'not not not not not ' '-1'
            wrong '-----' '(1)'
            wrong '-----' 'not 1'
            # each as the first one
            fine 'not ((((1))))'
            wrong 'not ((((' '(1)))))'
            fine '-((((1))))'
            wrong '-((((' '(1)))))'
            fine '(not not not not 1)'
            wrong '(not not not not ' 'not 1)'
            fine '(----1)'
            wrong '(----' '-1)'
            fine 'not ----1'
            wrong 'not ----' '-1'
            fine '-(not not not 1)'
            wrong '-(not not not ' 'not -1)'
            wrong '-(not not not ' 'not 1)'
            fine 'not -(not -1)'
            wrong 'not -(not -' '(1))'
            wrong 'not -(not -' '-1)'
            # what has ended is open no more
            fine '(((((1)))))+(((((1)))))*(((((1)))))<(((((1)))))'
            fine '-----1------1*-----1=-----1'
            fine 'not not not not not 1 and not not not not not 1 or not not not not not 1'
            fine '-1*(((((1)))))'
            fine '-1-(((((1)))))'
            fine '-(1)<(((((1)))))'
            fine 'not 1 and (((((1)))))'
            fine 'not 1 or (((((1)))))'
            fine '(not 1)+(((((1)))))'
            fine '((((1)+(2))))'
            fine '((((1)+(2)*(-3))))'
            # what has not ended is open still
            wrong 'not 1<((((' '(1)))))'
            wrong 'not 1+((((' '(1)))))'
            wrong 'not 1*((((' '-1))))'
            wrong 'not 1=-(((' '(1))))'
            wrong '((((1)+(2)*(-' '-3))))'
            wrong '-((((1*' '-1))))'
            # a - between two TERMS is none of these
            fine '(((((1-1-1)))))'
            wrong '(((((1-' '-1)))))'
            fine '-----1-1'
            """);
    }

    /** A TEXT cut behind any of its TOKENS has its FAULT where it ends, blanks counted. */
    private static void endsTooEarly() {
        String[] tokens = {"curious", "1", "or", "bad", "and", "not", "3", "<", "known", "+", "5", "-", "hour", "*", "-", "(", "more", "=", "corner", ")", ";",
            "dreads", "(", "wanted", ")", ";", "goes", "0", ";"};
        StringBuilder rows = new StringBuilder();
        StringBuilder text = new StringBuilder();
        for (String token : tokens) {
            rows.append("fault '").append(text).append("' ''\n");
            rows.append("fault '").append(text).append(" ' ''\n");
            rows.append("fault '").append(text).append(" \\n ' ''\n");
            text.append(text.length() == 0 ? "" : " ").append(token);
        }
        rows.append("new\ntext '").append(text).append("' = 1\n");
        of.say(0, "(the text's size, if it ends too early)", rows.toString());
    }

    private static void texts() {
        of.say(0, "TEXTS are numbered from 0 on, 6 at most; TEXT 0, at first, and THE LAW: curious 50 ; dreads bad ; goes 0 ;", """
            count 3,4 = 1 0
            force -1,1 = -2
            force 0 = 0
            citizen 0 3 0 = 0
            borough 3 99 = 0
            asks 0 0 -1..9 = 50
            asks 1 0 -1,0,1 = 0 99 0
            asks 2 0 -1,0 = 0
            text 'curious 1;dreads 1;goes 1;' = 1
            text 'curious 2;dreads 2;goes 2;' = 2
            text 'curious 3;dreads 3;goes 3;' = 3
            text 'curious 4;dreads 4;goes 4;' = 4
            count 3 = 5
            force 5 = -2
            text 'curious 5;dreads 5;goes 5;' = 5
            count 3,4 = 6 0
            text 'curious 6;dreads 6;goes 6;' = -4
            count 3,5 = 6 26
            force 6 = -2
            asks 0 0 0 = 50
            force 5,4,3,2,1 = 0 5 4 3 2
            asks 0..2 0 0 = 1
            force 5 = 1
            asks 0..2 0 0 = 5
            force 0 = 5
            asks 0..2 0 0 = 50 99 0
            """);
        of.say(0, "(curious, dreads 0 .. 99, goes -99 .. 99, else the bound),", """
            citizen 0 0 0 = 0
            law 'curious 99;dreads 0;goes 99;'
            asks 0..2 0 0 = 99 0 99
            law 'curious 100;dreads 0-1;goes 100;'
            asks 0..2 0 0 = 99 0 99
            law 'curious 0-1;dreads 100;goes -100;'
            asks 0..2 0 0 = 0 99 -99
            law 'curious 9999*9999*22;dreads 0-9999*9999*22;goes 9999*9999*22;'
            asks 0..2 0 0 = 0 99 -99
            law 'curious 9999*9999*21;dreads 98;goes -98;'
            asks 0..2 0 0 = 99 98 -98
            new
            # wishes go by the bounds: 0 for 0-5 is as much as 0 for 0-4, and 99 for 100 as much as 99 for 9999
            citizen 0 0 1023 = 0
            law 'curious 0-5;dreads 0-4;goes 0-99;'
            told 0 6 = 1023
            told 0 8 = 901
            asks 0..2 0 0 = 0 0 -99
            law 'curious 100;dreads 9999;goes 98;'
            told 0 6 = 1023
            told 0 8 = 1098
            """);
        of.say(0, "of one of PEOPLE and a THING (of goes none): bad: how BAD it is (of none 0); corner: the CORNER one is AT; known: how many THINGS are KNOWN; "
            + "wanted: how many are WANTED; hour: HOUR; more: MORE.", """
            law 'curious bad;dreads corner*10+more;goes known*10-wanted;'
            citizen 0 0 0 = 0
            citizen 9 8 1023 = 1
            citizen 4 3 5 = 2
            asks 0 0 -1..9 = 0
            borough 3 99 = 0
            borough 12 1 = 0
            asks 0 0 -1,0,1,9 = 0 99 0 1
            asks 1 0..2 0 = 0 89 34
            asks 2 0..2 0 = 0 -10 -2
            put 0..2 2 1023 = 0
            asks 2 0..2 0 = 99 90 98
            put 2 2 512 = 1023
            asks 2 2 -1 = 8
            law 'curious hour;dreads hour-9900;goes hour-9999;'
            borough 0 99 = 0
            asks 0..2 0 0 = 99 0 -99
            borough 0 9998 = 99
            asks 0..2 0 0 = 99 98 -1
            borough 0 9999 = 9998
            asks 0..2 0 0 = 99 99 0
            # of goes none: bad is 0 for it, however bad things are
            law 'curious 0;dreads 0;goes 5-bad;'
            told 0 8 = 1005
            asks 2 0 -1,0,1,9 = 5 -94 5 4
            hour = -3
            borough 0 0 = 9999
            hour = 0
            told 0..2 0 = 5 4 8
            """);
    }

    private static void crying() {
        of.say(0, "A THING MAY be cried AT a CORNER, if nobody who is AT it and LISTENS WISHES to hear it.", """
            # nobody there; one elsewhere; one who doesn't wish; one whose WINDOW is down; the last of six
            ring 0 2,3 = 1023
            citizen 0 1 1023 = 0
            ring 0,1 2 = 1023 0
            put 0 0 0 = 1
            ring 0,1 2 = 0 1023
            put 0 1 1 = 1023
            ring 0 2 = 1022
            put 0 2 1 = 0
            ring 0 2 = 1023
            put 0 2 0 = 1
            put 0 3 0 = 1
            ring 0 2 = 1023
            put 0 3 1 = 0
            borough 3 51 = 0
            ring 0 2 = 1023
            citizen 50 0 1023 = 1
            citizen 0 0 0 = 2
            citizen 0 0 0 = 3
            citizen 0 0 0 = 4
            citizen 0 0 512 = 5
            ring 0 2 = 511
            borough 2 768 = 1023
            ring 0 2,3 = 511 256
            """);
        of.say(0, "An HOUR: the least THING of NEWS that MAY be cried AT the CORNER of THE CRIER, if there is one, is CRIED: it isn't of NEWS any more, "
            + "and KNOWN to all who are AT it and LISTEN (told with it);", """
            citizen 0 0 1 = 0
            citizen 0 0 2 = 1
            citizen 0 0 0 = 2
            citizen 0 1 0 = 3
            put 2 3 0 = 1
            borough 2 1019 = 1023
            # 0 and 1 are wished, 2 isn't of NEWS: 3, to 0 and 1 alone
            hour = 3
            crier 2 = 1011
            told 0..3 2 = 8 8 0 0
            # the last THING; then none
            new
            borough 2 512 = 1023
            hour = 9
            crier 2 = 0
            hour = -1
            crier 2 = 0
            # no THING may be cried: all is as it was but the hour and the crier
            new
            citizen 0 0 1023 = 0
            hour = -1
            crier 0..2 = 1 1 1023
            told 0 2 = 0
            # six hear it, nobody else is asked
            new
            citizen 0,10,21,30,41,50 0 0 = 0 1 2 3 4 5
            put 4 1 1 = 0
            borough 2 1 = 1023
            hour = 0
            told 0..5 2 = 1
            """);
        of.say(0, "then one by one, by numbers: THINGS that are KNOWN to any other one AT one's CORNER, and that one WISHES to hear, are KNOWN to one;", """
            # at 5, where nothing is cried: 0 has 1 and 3, of which 1 wants 3, 2 wants both; 3 is at 6
            citizen 0 5 0 = 0
            citizen 0 5 8 = 1
            citizen 0 5 10 = 2
            citizen 0 6 1023 = 3
            put 0 2 10 = 0
            put 1,2 3 0 = 1
            hour = 0
            told 0..3 2 = 10 8 10 0
            # the first hears from the last
            new
            citizen 0 5 1 = 0
            citizen 0 5 0 = 1
            put 1 2 513 = 0
            hour = 0
            told 0,1 2 = 1 513
            # not from oneself, not what one doesn't wish
            new
            citizen 40 5 0 = 0
            citizen 50 5 1023 = 1
            put 1 2 3 = 0
            hour = 0
            told 0,1 2 = 3 3
            # what is cried in the hour is told on in it
            new
            citizen 0 0 0 = 0
            citizen 0 0 1 = 1
            put 1 3 0 = 1
            hour = 0
            told 0,1 2 = 1 1
            # nobody, one alone
            new
            hour = 0
            citizen 0 3 1023 = 0
            hour = 1
            told 0 2 = 0
            """);
        of.say(0, "then one by one, by numbers, one is AT the CORNER so many on as one GOES (round);", """
            # past 8, and backwards past 0
            law 'curious 0;dreads 0;goes 1;'
            citizen 0,20 7 0 = 0 1
            citizen 0,20 8 0 = 2 3
            citizen 0,20 0 0 = 4 5
            hour = 0
            told 0..5 0 = 8 6 0 7 1 8
            law 'curious 0;dreads 0;goes 98;'
            hour = 1
            # 98 is 8 on, or 1 back
            told 0..5 0 = 7 7 8 8 0 0
            law 'curious 0;dreads 0;goes 99;'
            hour = 2
            told 0..5 0 = 7 7 8 8 0 0
            law 'curious 0;dreads 0;goes 0-98;'
            hour = 3
            # 98 back is 1 on
            told 0..5 0 = 8 6 0 7 1 8
            law 'curious 0;dreads 0;goes 0-99;'
            hour = 4
            told 0..5 0 = 8 6 0 7 1 8
            # HUMMER: 98 back and 9 on is 89 back is 1 on; 99 and 9 is 108 is 0; STRANGER: 9 is 0
            new
            law 'curious 0;dreads 0;goes 98;'
            citizen 49,40,59,58,19,39 8 0 = 0 1 2 3 4 5
            hour = 0
            told 0..5 0 = 0 0 8 7 8 8
            law 'curious 0;dreads 0;goes 0-99;'
            hour = 1
            told 0..5 0 = 0 0 8 6 8 8
            """);
        of.say(0, "THE CRIER is AT the next one (behind 8 is 0). (All told as it is then.) At last HOUR is 1 more.", """
            borough 1 7 = 0
            hour = 0
            crier 0,1 = 1 8
            hour = 1
            crier 0,1 = 2 0
            borough 0 9998 = 2
            hour = 2
            crier 0,1 = 9999 1
            # as it is then: by the first cry one knows 1 more, wishes more, gets more, and goes by what is known at last,
            # and by the HOUR that has not ended yet
            new
            law 'curious known;dreads 1;goes known+10*hour;'
            borough 3..12 9 = 0
            citizen 0 0 6 = 0
            citizen 50 0 0 = 1
            put 1 2 6 = 0
            put 1 3 0 = 1
            hour = 0
            told 0 2 = 7
            told 0 0 = 3
            hour = 1
            # 10 and 3 are 13, from 3 on: 16, that is 7
            told 0 0 = 7
            """);
    }

    private static void quarters() {
        of.say(0, "QUARTERS by a SEED (0 .. 99999), in thought: ten HOURS, ahead of each two LOTS: to who is numbered LOT modulo 6, if there is one, "
            + "THING (the other LOT modulo 10) is WANTED, if it isn't, or not, if it is. "
            + "LOTS: the first is (SEED and 1) times 48271 modulo 2147483647, each further one the last times 48271 modulo 2147483647.", """
            drawn -1,100000,MIN,MAX 0 = -2
            drawn 0,99999 0 = 10
            drawn 0,99999 1 = 0
            # One who goes with the crier and wants all: only what is turned can be cried, in that hour at first.
            # SEED 0, by six: 1 0 1 5 5 1 .., by ten: 4 7 3 5 1 7 ..
            law 'curious 50;dreads 0;goes 1;'
            citizen 0 0 1023 = 0
            drawn 0 0,1 = 1 895
            crier 0..2 = 0 0 1023
            told 0 0..2 = 0 1023 0
            # the same as number 1
            put 0 3 0 = 1
            put 0 1 0 = 1023
            citizen 0 0 1023 = 1
            drawn 0 0,1 = 3 871
            """);
        of.say(0, "AN IMAGE keeps where all PEOPLE are, WANTED, KNOWN, WINDOWS, how many there are, how BAD THINGS are, all of THE CRIER, HOUR, THE LAW.", """
            citizen 0 1 2 = 0
            citizen 59 8 1023 = 1
            put 1 2 512 = 0
            put 1 3 0 = 1
            borough 0 9999 = 0
            borough 1 8 = 0
            borough 2 0 = 1023
            borough 3 99 = 0
            borough 12 98 = 0
            text 'curious 1;dreads 1;goes 1;' = 1
            force 1 = 0
            image = 2
            put 0 0..2 7 = 1 2 0
            put 0 3 0 = 1
            put 1 0..2 0 = 8 1023 512
            put 1 3 1 = 0
            borough 0..12 1 = 9999 8 0 99 0 0 0 0 0 0 0 0 98
            citizen 30 0 0 = 2
            force 0 = 1
            back = 2
            count 0..5 = 2 9999 0 2 1 0
            crier 0..12 = 9999 8 0 99 0 0 0 0 0 0 0 0 98
            told 0 0..5 = 1 2 0 1 0 0
            told 1 0..5 = 8 1023 512 0 5 9
            told 2 0 = -5
            """);
    }

    private static void sheets() {
        of.say(0, "SHEETS 0 .. 3 are rows of numbers, or missing (as all are at first): of sort 0 bytes, 1 shorts, 2 ints, 40 at most.", """
            judge -1..4 = -2 -11 -11 -11 -11 -2
            cell 0..3 0 0 = -11
            sheet -1,4 0 1 = -2
            sheet 0..3 -2,3 1 = -2
            sheet 0..3 0..2 41 = -2
            sheet 0..3 0..2 40 = 1
            cell 0..3 0,39 7 = 1
            cell 0..3 40 7 = -12
            sheet 0..3 0..2 0 = 1
            cell 0..3 0 7 = -12
            judge 0..3 = -1
            sheet 0..3 -1 0 = 1
            judge 0..3 = -11
            """);
        of.say(0, "REFUSALS, of several the first one told (a -1 that is an answer comes behind the refusal of a number): "
            + "NONE there is no such thing; BAD a number is not as told; STATE as told; FULL.", """
            # -1s that are answers, and the same calls with a number that is not as told
            borough 2 0 = 1023
            crier 13,14 = -1 -2
            hour = -1
            when 20 = -7
            windows 0 0 = -1
            windows -1,41 0 = -7
            windows 0 2 = -7
            citizen 30 0 1023 = 0
            borough 0 0 = 1
            when 20,29,30,19 = -1 -1 -7 -7
            hush 0 0 0,1 = -1
            hush 0 0 2 = -7
            hush 0 10 0 = -7
            hush 9 0 0 = -5
            row 0 2 = 1
            judge 0 = 0
            evils 0 0 1 = -1
            evils 0 0 2 = -7
            evils 0 10 1 = -5
            evils 1 0 1 = -11
            evils 4 0 1 = -2
            row 0 2 = 0
            judge 0,1,4 = -1 -11 -2
            # FULL behind BAD, STATE alone
            back = -3
            citizen 0 0 0 = 1
            citizen 0 0 0 = 2
            citizen 0 0 0 = 3
            citizen 0 0 0 = 4
            citizen 0 0 0 = 5
            citizen 0 0 0 = -4
            citizen 60 0 0 = -2
            blanks 160
            feed 1 0 0 0 0 0 = -4
            feed 1 0 0 0 0 256 = -2
            borough 0 9999 = 0
            hour = -3
            """);
        of.say(0, "The host's: -11 nothing there, -12 a place outside, -13 of another sort or KIND, -14 a size below 0.", """
            cell 0 0 0 = -11
            copy 0 0 1 0 0 = -11
            peopleBy 0 0 0 0 = -11
            taken 0,6 0 = -11
            sheet 0 0 1 = 1
            sheet 1 1 1 = 1
            cell 0 1 0 = -12
            copy 0 2 0 0 0 = -12
            peopleBy 0 0 0 1 = -12
            taken 12 0 = -12
            copy 0 0 1 0 0 = -13
            peopleBy 0 1 0 0 = -13
            citizen 0 0 0 = 0
            taken 0 1 = -13
            taken 6 0 = -13
            sheet 0 0 -1 = -14
            """);
        of.say(0, "They change nothing, but where it is told. What is asked changes nothing, but where it is told.", """
            # every call, refused in every way, and every one that asks; Sentences makes a twin without these
            law 'curious 50;dreads bad;goes 0;'
            citizen 0,11,22,33,54 0 5 = 0 1 2 3 4
            borough 0 9999 = 0
            # THINGS 0 and 2 are wished at 0 by CITIZEN, MOTHER and DEAF; in 9999 THING 1 is cried there, then 0, 2, 3 .. 8, and 9 at 0 again
            tape 'curious 5'
            row 0 2 = 2 1 3
            sheet 1 0 21 = 1
            count -1..6 = -2 5 9999 10 2 1 9 -2
            borough -1,13 0 = -2
            borough 0..3 -1 = -2
            crier 0..14 = 9999 0 1023 0 0 0 0 0 0 0 0 0 0 1 -2
            feed 0,6 0 0 0 0 0 = -2
            feed 1 0 0 0 0 256 = -2
            force -1,2 = -2
            asks 0..3 0 0 = 50 0 0 -1000
            citizen 60 0 0 = -2
            citizen 0 9 0 = -2
            citizen 0 0 1024 = -2
            put 5 0 0 = -5
            put 0 4 0 = -7
            put 0 0..3 1024 = -7
            told 0 0..9 = 0 5 0 1 0 0 5 1 1000 -7
            hour = -3
            run 40 0,1 = 0 10
            run 41 0 = -2
            when 10,11 = 10 -7
            where 0..2 = 1 10 -2
            begin 40 0..2 = 0 10 -7
            windows 40 0..2 = -1 10 -7
            hush 0 0 0..2 = 7 3 -7
            round 0..3 = 2 1 0 -2
            mean 0..2 = 0 1 NO
            judge 0..2 = -1 -2 -11
            film 4 0 = -2
            film 0 21 = -7
            drawn 0 2 = -2
            drawn 100000 0 = -2
            odds 0 41 0 0 = NO
            back = -3
            sheet 0 3 0 = -2
            sheet 0 0 -1 = -14
            cell 0 3 0 = -12
            cell 2 0 0 = -11
            copy 0 0 1 0 1 = -13
            copy 0 1 0 0 3 = -12
            peopleBy 0 1 0 1 = -13
            peopleBy 0 2 4 1 = -12
            taken 0..7 1 = -13 1 -13 3 -13 -11 -13 -13
            """);
    }

    public static void main(String[] args) {
        borough();
        wishing();
        kinds();
        tape();
        grammar();
        fault();
        texts();
        crying();
        quarters();
        sheets();
        of.end(0);
    }
}
