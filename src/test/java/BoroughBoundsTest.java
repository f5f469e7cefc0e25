/** Promises 1 to 12, sentence by sentence, at their bounds. */
public final class BoroughBoundsTest {
    private static final Sentences of = new Sentences("BoroughBoundsTest");

    private static void newAndCount() {
        of.say(1, "Nobody but THE CRIER.", """
            count 0..5 = 0 0 10 1 0 0
            crier 0..13 = 0 0 1023 0 0 0 0 0 0 0 0 0 0 0
            told 0..5 0..8 = -5
            ring 0..8 0,1 = 0
            ring 0..8 2,3 = 1023
            asks 0..2 0 -1 = -1000
            taken 0..11 0 = -11
            judge 0..3 = -11
            back = -3
            text = -100
            """);
        of.say(2, "0 PEOPLE, 1 HOUR, 2 how many THINGS are of NEWS, 3 TEXTS, 4 THE LAW, 5 bytes of THE TAPE. BAD.", """
            count -1,6,MIN,MAX = -2
            count 0..5 = 0 0 10 1 0 0
            citizen 0 0 0 = 0
            count 0 = 1
            citizen 0 0 0 = 1
            citizen 0 0 0 = 2
            citizen 0 0 0 = 3
            citizen 0 0 0 = 4
            citizen 0 0 0 = 5
            count 0 = 6
            citizen 0 0 0 = -4
            count 0 = 6
            borough 0 9999 = 0
            count 1 = 9999
            borough 2 0 = 1023
            count 2 = 0
            borough 2 512 = 0
            count 2 = 1
            borough 2 1022 = 512
            count 2 = 9
            borough 2 1023 = 1022
            count 2 = 10
            text 'curious 1;dreads 1;goes 1;' = 1
            count 3..5 = 2 0 0
            text 'curious 1;dreads 1;goes 1;' = 2
            text 'curious 1;dreads 1;goes 1;' = 3
            text 'curious 1;dreads 1;goes 1;' = 4
            text 'curious 1;dreads 1;goes 1;' = 5
            count 3..5 = 6 0 0
            force 5 = 0
            count 4 = 5
            force 0 = 5
            count 4 = 0
            blanks 159
            count 5 = 159
            blanks 1
            count 5 = 160
            feed 1 32 0 0 0 0 = -4
            count 5 = 160
            """);
    }

    private static void boroughAndCrier() {
        of.say(3, "HOUR (what 0), the CORNER of THE CRIER (1), NEWS (2; bits), how BAD THING what less 3 is (3 .. 12) becomes v: what it was. BAD.", """
            # the least and the most of each, and 1 beyond
            borough 0 9999,0,9998 = 0 9999 0
            crier 0 = 9998
            borough 0 -1,10000,MIN,MAX = -2
            crier 0 = 9998
            borough 1 8,0,7 = 0 8 0
            borough 1 -1,9,MIN,MAX = -2
            crier 1 = 7
            borough 2 0,1023,1,1022 = 1023 0 1023 1
            borough 2 -1,1024,MIN,MAX = -2
            crier 2 = 1022
            borough 3 99,0,98 = 0 99 0
            borough 3 -1,100,MIN,MAX = -2
            borough 12 99,0,97 = 0 99 0
            borough 12 -1,100,MIN,MAX = -2
            borough 4..11 -1,100 = -2
            borough 4..11 99 = 0
            crier 3..12 = 98 99 99 99 99 99 99 99 99 97
            # what, and v with it
            borough -1,13,MIN,MAX -1,0,10000 = -2
            crier 0..2 = 9998 7 1022
            """);
        of.say(4, "What 0 .. 12 as of borough(), 13 what would be CRIED now (-1: nothing). BAD.", """
            crier -1,14,MIN,MAX = -2
            crier 0,1,2,3,12,13 = 0 0 1023 0 0 0
            borough 0 9999 = 0
            borough 1 8 = 0
            borough 2 512 = 1023
            borough 3 99 = 0
            borough 12 98 = 0
            crier 0,1,2,3,4,12,13 = 9999 8 512 99 0 98 9
            borough 2 0 = 512
            crier 13,14 = -1 -2
            borough 2 1023 = 0
            # nobody, one, six AT the CORNER
            citizen 0 8 1 = 0
            crier 13 = 0
            borough 3 50 = 99
            crier 13 = 1
            citizen 0 8 2 = 1
            citizen 0 8 4 = 2
            citizen 0 8 8 = 3
            citizen 0 8 16 = 4
            citizen 0 8 32 = 5
            crier 13 = 6
            put 5 1 992 = 32
            # all are wished but THING 9, which is 98 BAD
            crier 13 = 9
            borough 12 0 = 98
            crier 13 = -1
            put 5 3 0 = 1
            crier 13 = 5
            crier 0..2 = 9999 8 1023
            """);
    }

    private static void feed() {
        of.say(5, "The first n (1 .. 5) of five bytes (0 .. 255 each) come behind THE TAPE's, one by one: how many it has.", """
            feed 1 0 255 255 255 255 = 1
            feed 5 255 0 255 0 255 = 6
            feed 4 0 0 0 0 0 = 10
            feed 2 0 0 0 0 0 = 12
            feed 3 0 0 0 0 0 = 15
            count 5 = 15
            # the first n, in their order: 'curious1;dreads2;goes3;' is 99 117 114 105 111, 117 115 49 59, ..
            new
            feed 5 99 117 114 105 111 = 5
            feed 4 117 115 49 59 64 = 9
            feed 3 100 114 101 64 64 = 12
            feed 2 97 100 64 64 64 = 14
            feed 1 115 64 64 64 64 = 15
            feed 2 50 59 64 64 64 = 17
            feed 4 103 111 101 115 64 = 21
            feed 2 51 59 64 64 64 = 23
            text = 1
            citizen 0 0 0 = 0
            force 1 = 0
            asks 0..2 0 0 = 1 2 3
            """);
        of.say(5, "BAD: n, any of the five; FULL: they have not all room (none comes).", """
            feed 0,6,-1,MIN,MAX 0 0 0 0 0 = -2
            feed 1 -1,256,MIN,MAX 0 0 0 0 = -2
            feed 1 0 -1,256,MIN,MAX 0 0 0 = -2
            feed 1 0 0 -1,256,MIN,MAX 0 0 = -2
            feed 1 0 0 0 -1,256,MIN,MAX 0 = -2
            feed 1 0 0 0 0 -1,256,MIN,MAX = -2
            feed 5 0 0 0 0 256 = -2
            feed 0,6 256 -1 0 0 0 = -2
            count 5 = 0
            # 159 bytes: two have no room, one has
            blanks 155
            feed 4 32 32 32 32 32 = 159
            feed 2..5 32 32 32 32 32 = -4
            count 5 = 159
            feed 1 32 32 32 32 32 = 160
            feed 1..5 32 32 32 32 32 = -4
            # BAD ahead of FULL
            feed 0,6 32 32 32 32 32 = -2
            feed 1 256 0 0 0 0 = -2
            feed 1 0 -1 0 0 0 = -2
            feed 5 0 0 0 0 256 = -2
            count 5 = 160
            # 155 bytes: five have room
            new
            blanks 155
            feed 5 32 32 32 32 32 = 160
            new
            blanks 156
            feed 5 32 32 32 32 32 = -4
            feed 4 32 32 32 32 32 = 160
            """);
    }

    private static void text() {
        of.say(6, "THE TAPE, which is empty then (by a FAULT, too), is a TEXT: its number; -100 less the place of its FAULT.", """
            text 'curious 1;dreads 2;goes 3;' = 1
            count 3,5 = 2 0
            # empty, of one byte, a FAULT at 0, at the last byte
            text = -100
            text ' ' = -101
            text '@' = -100
            text ' @' = -101
            text 'curious' = -107
            count 3,5 = 2 0
            text 'curious 1;dreads 2;goes 3;' = 2
            text 'curious 1;dreads 2;goes 3;;' = -126
            count 3,5 = 3 0
            # nothing of a TEXT with a FAULT is left in the next one
            citizen 0 0 0 = 0
            text 'curious 7;dreads 8;goes 9;;' = -126
            text 'curious 4;dreads 5;goes 6;' = 3
            force 3 = 0
            asks 0..2 0 0 = 4 5 6
            text 'curious 7+8;dreads 8*9;goes -9*(' = -132
            asks 0..2 0 0 = 4 5 6
            text 'curious 7+8;dreads 8*9;goes -9;' = 4
            asks 0..2 0 0 = 4 5 6
            force 4 = 3
            asks 0..2 0 0 = 15 72 -9
            """);
        of.say(6, "FULL (ahead of the FAULT; then THE TAPE stays).", """
            text 'curious 1;dreads 2;goes 3;' = 1
            text 'curious 1;dreads 2;goes 3;' = 2
            text 'curious 1;dreads 2;goes 3;' = 3
            text 'curious 1;dreads 2;goes 3;' = 4
            text 'curious 7;dreads 8;goes 9' = -125
            count 3,5 = 5 0
            text 'curious 4;dreads 5;goes 6;' = 5
            text = -4
            count 3,5 = 6 0
            tape '@'
            text = -4
            count 3,5 = 6 1
            text = -4
            tape 'curious 1;dreads 2;goes 3;'
            text = -4
            count 3,5 = 6 27
            feed 1 0 0 0 0 0 = 28
            citizen 0 0 0 = 0
            force 5 = 0
            asks 0..2 0 0 = 4 5 6
            """);
    }

    private static void lawAndAsks() {
        of.say(7, "A TEXT is THE LAW: which was. BAD.", """
            force -1,1,5,6,MIN,MAX = -2
            force 0 = 0
            citizen 0 0 0 = 0
            text 'curious 1;dreads 2;goes 3;' = 1
            count 4 = 0
            asks 0 0 0 = 50
            force 2 = -2
            force 1 = 0
            asks 0..2 0 0 = 1 2 3
            force 1 = 1
            text 'curious 2;dreads 2;goes 2;' = 2
            text 'curious 3;dreads 2;goes 2;' = 3
            text 'curious 4;dreads 2;goes 2;' = 4
            force 5 = -2
            text 'curious 5;dreads 2;goes 2;' = 5
            force 6,-1,MIN,MAX = -2
            count 4 = 1
            force 5 = 1
            asks 0 0 0 = 5
            force 6 = -2
            count 4 = 5
            force 0 = 5
            count 4 = 0
            asks 0 0 0 = 50
            """);
        of.say(8, "What part 0 curious, 1 dreads, 2 goes says of one of PEOPLE and a THING (-1: none; bad 0). -1000: none such. It takes those of the call for any part.", """
            # nobody, one, six
            asks 0..2 -1..1 -1 = -1000
            law 'curious bad;dreads bad+more;goes bad-50;'
            citizen 9 0 0 = 0
            asks 0..2 1 0 = -1000
            borough 3 99 = 0
            borough 12 7 = 0
            asks 0 0 -1,0,1,9 = 0 99 0 7
            asks 1 0 -1,0,1,9 = 9 99 9 16
            asks 2 0 -1,0,1,9 = -50 49 -50 -43
            asks 0..2 0 -2,10,MIN,MAX = -1000
            asks -1,3,MIN,MAX 0 -1 = -1000
            asks 0 -1,1,6,MIN,MAX 0 = -1000
            # one with the other
            asks 3 1 10 = -1000
            asks 0 1 10 = -1000
            asks 3 0 10 = -1000
            asks 3 1 0 = -1000
            citizen 0 0 0 = 1
            citizen 0 0 0 = 2
            citizen 0 0 0 = 3
            citizen 0 0 0 = 4
            asks 0 5 0 = -1000
            citizen 8 0 0 = 5
            asks 1 5,6 9 = 15 -1000
            # whatever KIND one is of, KNOWN and WANTED or not
            citizen 0 0 0 = -4
            new
            law 'curious 3;dreads 4;goes 5;'
            citizen 0,10,20,30,40,50 0 1 = 0 1 2 3 4 5
            put 0..5 2 1 = 0
            asks 0..2 0..5 0 = 3 3 3 3 3 3 4 4 4 4 4 4 5 5 5 5 5 5
            """);
    }

    private static void people() {
        of.say(9, "One of PEOPLE (kindMore: 10 times KIND, and MORE; where: the CORNER; wanted: WANTED): the number. BAD; FULL.", """
            citizen -1,60,MIN,MAX 0 0 = -2
            citizen 0 -1,9,MIN,MAX 0 = -2
            citizen 0 0 -1,1024,MIN,MAX = -2
            citizen -1 9 1024 = -2
            count 0 = 0
            citizen 0 0 0 = 0
            told 0 0..5 = 0 0 0 1 0 0
            citizen 59 8 1023 = 1
            told 1 0..5 = 8 1023 0 1 5 9
            citizen 9 0 0 = 2
            citizen 10 0 0 = 3
            told 2,3 4,5 = 0 9 1 0
            citizen 49 0 0 = 4
            citizen 50 0 0 = 5
            told 4,5 4,5 = 4 9 5 0
            # FULL alone; BAD ahead of it
            citizen 0 0 0 = -4
            citizen 59 8 1023 = -4
            citizen -1,60 0 0 = -2
            citizen 0 -1,9 0 = -2
            citizen 0 0 -1,1024 = -2
            count 0 = 6
            # WINDOW and KNOWN of one who was there before, behind AN IMAGE, are not of who comes
            new
            image = 0
            citizen 0 0 0 = 0
            put 0 2 1023 = 0
            put 0 3 0 = 1
            back = 0
            citizen 59 8 1023 = 0
            told 0 0..5 = 8 1023 0 1 5 9
            """);
        of.say(10, "The CORNER (what 0), WANTED (1; bits), KNOWN (2; bits), the WINDOW (3; 1 UP, 0 down) becomes v: what it was. -5: none such; -7: what, v.", """
            put 0,-1,6 0 0 = -5
            citizen 0 3 37 = 0
            put 1,-1,6,MIN,MAX 0 0 = -5
            put 0 0 8,0,7 = 3 8 0
            put 0 0 -1,9,MIN,MAX = -7
            put 0 1 1023,0,1022 = 37 1023 0
            put 0 1 -1,1024,MIN,MAX = -7
            put 0 2 1023,0,512 = 0 1023 0
            put 0 2 -1,1024,MIN,MAX = -7
            put 0 3 0,1,0 = 1 0 1
            put 0 3 -1,2,MIN,MAX = -7
            told 0 0..3 = 7 1022 512 0
            put 0 -1,4,5,MIN,MAX 0,-1 = -7
            # none such, ahead of what and v
            put 1 4 0 = -5
            put 1 0 9 = -5
            put 1 4 9 = -5
            citizen 10 0 0 = 1
            citizen 20 0 0 = 2
            citizen 30 0 0 = 3
            citizen 40 0 0 = 4
            put 5 0 0 = -5
            citizen 50 0 0 = 5
            put 5 0..3 1 = 0 0 0 1
            told 5 0..5 = 1 1 1 1 5 0
            told 4 0..5 = 0 0 0 1 4 0
            """);
        of.say(11, "What 0 .. 3 as of put(), 4 KIND, 5 MORE, 6 which THINGS one WISHES to hear (bits), 7 whether one LISTENS (1, 0), "
            + "8 how many CORNERS on one GOES (1000 more). -5: none such; -7: what.", """
            told -1..6 0 = -5
            citizen 0 0 0 = 0
            told 0 0..8 = 0 0 0 1 0 0 0 1 1000
            told 0 -1,9,MIN,MAX = -7
            told 1,-1,6,MIN,MAX 0 = -5
            told 1,-1 -1,9 = -5
            put 0 0 8 = 0
            put 0 1 1023 = 0
            put 0 2 1 = 0
            put 0 3 0 = 1
            told 0 0..8 = 8 1023 1 0 0 0 1022 0 1000
            put 0 2 1023 = 1
            told 0 6 = 0
            put 0 2 0 = 1023
            told 0 6 = 1023
            borough 3 51 = 0
            borough 12 51 = 0
            told 0 6 = 510
            law 'curious 0;dreads 0;goes 99;'
            told 0 8 = 1099
            law 'curious 0;dreads 0;goes 0-99;'
            told 0 8 = 901
            citizen 59 1 0 = 1
            citizen 49 2 0 = 2
            told 1,2 8 = 1009 1108
            citizen 0 0 0 = 3
            citizen 0 0 0 = 4
            told 5 4 = -5
            citizen 38 0 0 = 5
            told 5 0..8 = 0 0 0 1 3 8 0 1 1000
            """);
        of.say(12, "Of a CORNER who is AT it (what 0; bits), who LISTENS there (1; bits), which THINGS MAY be cried there (2; bits), which of NEWS (3; bits). "
            + "-5: no such CORNER; -7: what.", """
            ring 0,8 0..3 = 0 0 1023 1023 0 0 1023 1023
            ring -1,9,MIN,MAX 0 = -5
            ring -1,9 -1,4 = -5
            ring 0 -1,4,MIN,MAX = -7
            ring 8 4 = -7
            borough 2 0 = 1023
            ring 0 0..3 = 0 0 1023 0
            borough 2 513 = 0
            citizen 0 8 1 = 0
            ring 8 0..3 = 1 1 1022 512
            ring 7 0..3 = 0 0 1023 513
            put 0 3 0 = 1
            ring 8 0..3 = 1 0 1023 513
            put 0 3 1 = 0
            # six AT it: the last one wants the last THING; a DEAF of MORE 0 doesn't hear at HOUR 0; a WIFE does with her WINDOW down
            citizen 0 8 2 = 1
            citizen 20 8 1020 = 2
            citizen 30 8 4 = 3
            put 3 3 0 = 1
            citizen 0 0 1020 = 4
            put 4 0 8 = 0
            put 4 1 8 = 1020
            citizen 0 8 512 = 5
            ring 8 0..3 = 63 59 496 0
            borough 0 1 = 0
            # at HOUR 1 the DEAF hears, the WIFE wishes nothing
            ring 8 0..3 = 63 63 0 0
            put 2 3 0 = 1
            ring 8 0..3 = 63 59 500 0
            ring 0 0..3 = 0 0 1023 513
            """);
    }

    public static void main(String[] args) {
        newAndCount();
        boroughAndCrier();
        feed();
        text();
        lawAndAsks();
        people();
        of.end(1, 2, 3, 4, 5, 6, 7, 8, 9, 10, 11, 12);
    }
}
