/** Promises 22 to 32, sentence by sentence, at their bounds. */
public final class ToldBoundsTest {
    private static final Sentences of = new Sentences("ToldBoundsTest");

    private static void judge() {
        of.say(22, "A SHEET tells what is CRIED in the 1st, 2nd, .. HOUR from now (20 at most; 1 more than the THING; 0: none): "
            + "the first number (from 0) that is otherwise; -1: none.", """
            # nobody: THINGS 0 .. 9, then none
            row 0 2 = 1 2 3 4 5 6 7 8 9 10 0 0 0 0 0 0 0 0 0 0
            judge 0 = -1
            cell 0 19 1 = 1
            judge 0 = 19
            cell 0 10 1 = 1
            judge 0 = 10
            cell 0 9 0 = 1
            judge 0 = 9
            cell 0 0 0 = 1
            judge 0 = 0
            cell 0 0 2 = 1
            judge 0 = 0
            # of size 0, of 1
            row 1 0 =
            judge 1 = -1
            row 1 0 = 1
            judge 1 = -1
            row 1 1 = 0
            judge 1 = 0
            row 3 0 = -1
            judge 3 = 0
            row 3 2 = 11
            judge 3 = 0
            # no NEWS
            borough 2 0 = 1023
            judge 1,3 = -1 0
            # one, who wants THING 0, at 9999: 1 at 0; 0 at 1; 2 at 2
            borough 2 1023 = 0
            borough 0 9999 = 0
            citizen 0 0 1 = 0
            row 2 2 = 2 1 3
            judge 2 = -1
            crier 0..2 = 9999 0 1023
            told 0 0..3 = 0 1 0 1
            row 2 2 = 2 1 4
            judge 2 = 2
            # numbers that are like in their lowest bits: a byte and a short is as it is kept, an int is as it came
            row 2 0 = 258 257 3
            judge 2 = -1
            row 2 1 = 65538 65537 3
            judge 2 = -1
            row 2 1 = 258 1 3
            judge 2 = 0
            row 2 2 = 65538 1 3
            judge 2 = 0
            """);
        of.say(22, "BAD: SHEET; -11; BAD: it tells more than 20.", """
            judge -1,4,MIN,MAX = -2
            judge 0..3 = -11
            sheet 0 0 20 = 1
            sheet 1 1 21 = 1
            sheet 2 2 40 = 1
            sheet 3 0 0 = 1
            judge 0..3 = 0 -2 -2 -1
            sheet 0 -1 0 = 1
            judge 0 = -11
            """);
    }

    private static void kindsAndCorners() {
        of.say(23, "KINDS (sort 0; bits 0 .. 5), MORE (1; bits 0 .. 9) of one by which, were they one's, that would be -1.", """
            # a CITIZEN at 0 wants THING 0; told is that 1 is cried there: so as CITIZEN, MOTHER, WIFE; a DEAF doesn't hear, a HUMMER neither
            citizen 0 0 1 = 0
            row 0 0 = 2
            kinds 0 0 0,1 = 11 1023
            told 0 4,5 = 0 0
            # told is that 0 is cried
            row 0 0 = 1
            kinds 0 0 0,1 = 52 0
            # at HOUR 1 a DEAF hears; a HUMMER wishes all but THING 0; a WIFE nothing
            borough 0 1 = 0
            kinds 0 0 0,1 = 56 0
            row 0 0 = 2
            kinds 0 0 0,1 = 7 1023
            # of size 0: all; a number that none tells: none
            row 0 0 =
            kinds 0 0 0,1 = 63 1023
            row 0 0 = 11
            kinds 0 0 0,1 = 0
            # MORE of a MOTHER who wants nothing: 50 and 30 are less than 81, 50 and 40 aren't
            new
            citizen 10 0 0 = 0
            borough 3 81 = 0
            row 0 0 = 2
            kinds 0 0 0,1 = 10 15
            # a WIFE: 54 and 40 .. 50 and 0
            borough 3 50 = 81
            kinds 0 0 1 = 0
            borough 3 51 = 50
            kinds 0 0 1 = 1
            row 0 0 = 1
            kinds 0 0 1 = 1022
            # MORE of a DEAF: 1, 4, 7 don't hear at HOUR 1
            new
            citizen 20 0 1 = 0
            borough 0 1 = 0
            row 0 0 = 2
            kinds 0 0 1 = 877
            row 0 0 = 1
            kinds 0 0 1 = 146
            # the last of six
            new
            citizen 0 0 0 = 0
            citizen 0 0 0 = 1
            citizen 0 0 0 = 2
            citizen 0 0 0 = 3
            citizen 0 0 0 = 4
            citizen 59 0 1 = 5
            row 0 0 = 1
            kinds 0 5 0 = 52
            kinds 0 5 1 = 1023
            kinds 0 6 0 = -5
            told 5 4,5 = 5 9
            """);
        of.say(23, "BAD, -11, BAD likewise; -5: none such; -7: sort.", """
            kinds -1,4,MIN,MAX 0 0 = -2
            kinds 0..3 0 0 = -11
            kinds 0 -1 2 = -11
            sheet 0 0 1 = 1
            sheet 1 0 21 = 1
            kinds 0 -1,0,MIN,MAX 0,2 = -5
            citizen 0 0 0 = 0
            kinds 0 -1,1,6,MIN,MAX 0,-1,2 = -5
            kinds 0 0 -1,2,MIN,MAX = -7
            # BAD, -11, BAD ahead of -5 and -7, each and both
            kinds -1,4 0 2 = -2
            kinds -1,4 1 0 = -2
            kinds -1,4 1 2 = -2
            kinds 2 0 2 = -11
            kinds 2 1 0 = -11
            kinds 2 1 2 = -11
            kinds 1 0 0 = -2
            kinds 1 0 2 = -2
            kinds 1 1 0 = -2
            kinds 1 1 2 = -2
            sheet 1 0 20 = 1
            kinds 1 0 0,1 = 0
            """);
        of.say(24, "CORNERS (bits) by which, were one AT it now (p -1: THE CRIER), that would be -1.", """
            # nobody: by THE CRIER alone
            row 0 0 = 1
            corners 0 -1 = 511
            # one wants THING 0 at 8: at 8 it is 1 that is cried
            citizen 0 8 1 = 0
            corners 0 -1,0 = 255 510
            row 0 0 = 2
            corners 0 -1,0 = 256 1
            # 1, 0: one at 0, the crier at 8; then 0, 2 .. none
            row 0 0 = 2 1
            corners 0 -1,0 = 256 1
            row 0 0 = 1 2
            corners 0 -1,0 = 255 510
            # 0, 1 are wished by one: who comes to him second cries 2
            put 0 1 3 = 1
            row 0 0 = 1 3
            corners 0 -1,0 = 128 2
            # of size 0; none
            row 0 0 =
            corners 0 -1,0 = 511
            row 0 0 = 11
            corners 0 -1,0 = 0
            crier 1 = 0
            told 0 0 = 8
            # six: the last one
            citizen 50 0 0 = 1
            citizen 50 0 0 = 2
            citizen 50 0 0 = 3
            citizen 50 0 0 = 4
            citizen 0 7 1023 = 5
            row 0 0 = 0 1
            corners 0 5,6 = 1 -5
            """);
        of.say(24, "BAD, -11, BAD likewise; -5: none such.", """
            corners -1,4,MIN,MAX -1,0 = -2
            corners 0..3 -1,0 = -11
            sheet 0 0 1 = 1
            sheet 1 0 21 = 1
            corners 0 -2,0,1,6,MIN,MAX = -5
            corners 1 -1,0,-2 = -2
            corners 2 -2,0 = -11
            corners 4 -2 = -2
            citizen 0 0 0 = 0
            corners 0 -1,0,1,-2 = 0 0 -5 -5
            corners 1 0,1 = -2
            corners 2 0,1 = -11
            """);
    }

    private static void turnedAndEvils() {
        of.say(25, "THINGS (bits) such that, were just that one WANTED (sort 1), KNOWN (2) now, if it isn't, or not, if it is, that would be -1.", """
            # one at 0 wants THING 0; told is that 1 is cried: so by all but 0 (not wanted, known) and 1 (wanted)
            citizen 0 0 1 = 0
            row 0 0 = 2
            turned 0 0 1,2 = 1020 1022
            # told is 0
            row 0 0 = 1
            turned 0 0 1,2 = 1 1
            # told is 2: by 1
            row 0 0 = 3
            turned 0 0 1,2 = 2 0
            # the last THING, the only one of NEWS
            borough 2 512 = 1023
            row 0 0 = 0
            turned 0 0 1,2 = 512 0
            put 0 1 512 = 1
            turned 0 0 1,2 = 511 511
            put 0 2 512 = 0
            turned 0 0 1,2 = 0 512
            row 0 0 = 10
            turned 0 0 1,2 = 1023 511
            told 0 1,2 = 512 512
            # of size 0; none
            row 0 0 =
            turned 0 0 1,2 = 1023
            row 0 0 = 11
            turned 0 0 1,2 = 0
            # the last of six
            citizen 0 1 0 = 1
            citizen 0 1 0 = 2
            citizen 0 1 0 = 3
            citizen 0 1 0 = 4
            citizen 0 0 0 = 5
            row 0 0 = 0
            turned 0 5 1,2 = 512 0
            turned 0 6 1 = -5
            """);
        of.say(25, "BAD, -11, BAD likewise; -5: none such; -7: sort.", """
            turned -1,4,MIN,MAX 0 1 = -2
            turned 0..3 0 1 = -11
            sheet 0 0 1 = 1
            sheet 1 0 21 = 1
            turned 0 -1,0,MIN,MAX 1,0 = -5
            citizen 0 0 0 = 0
            turned 0 -1,1,6,MIN,MAX 1,0,3 = -5
            turned 0 0 -1,0,3,MIN,MAX = -7
            turned -1,4 0 0 = -2
            turned -1,4 1 1 = -2
            turned -1,4 1 0 = -2
            turned 2 0 0 = -11
            turned 2 1 1 = -11
            turned 2 1 0 = -11
            turned 1 0 1 = -2
            turned 1 0 0 = -2
            turned 1 1 1 = -2
            turned 1 1 0 = -2
            """);
        of.say(26, "How BAD (0 .. 99) a THING would have to be for that to be -1: how many (what 0), the least (1; -1: none).", """
            # a CITIZEN, curious 50, wants 0: 1 is cried till it is 50 bad, 0 from 51 on
            citizen 0 0 1 = 0
            row 0 0 = 2
            evils 0 0 0,1 = 51 0
            row 0 0 = 1
            evils 0 0 0,1 = 49 51
            evils 0 9 0,1 = 0 -1
            row 0 0 = 2
            evils 0 9 0,1 = 100 0
            # just 99; just 0
            text 'curious 98;dreads bad;goes 0;' = 1
            text 'curious 0;dreads bad;goes 0;' = 2
            text 'curious 99;dreads bad;goes 0;' = 3
            force 1 = 0
            row 0 0 = 1
            evils 0 0 0,1 = 1 99
            force 2 = 1
            evils 0 0 0,1 = 99 1
            row 0 0 = 2
            evils 0 0 0,1 = 1 0
            force 3 = 2
            evils 0 0 0,1 = 100 0
            row 0 0 = 1
            evils 0 0 0,1 = 0 -1
            # however bad it is; the last THING; nobody
            force 0 = 3
            borough 3 77 = 0
            evils 0 0 0,1 = 49 51
            crier 3 = 77
            put 0 1 512 = 1
            borough 2 512 = 1023
            row 0 0 = 10
            evils 0 9 0,1 = 49 51
            put 0 0 1 = 0
            evils 0 9 0,1 = 100 0
            # of size 0; no NEWS
            row 0 0 =
            evils 0 0,9 0,1 = 100 0 100 0
            row 0 0 = 1
            evils 0 0,9 0,1 = 0 -1 0 -1
            """);
        of.say(26, "BAD, -11, BAD likewise; -5: no such THING; -7: what.", """
            evils -1,4,MIN,MAX 0 0 = -2
            evils 0..3 0 0 = -11
            sheet 0 0 0 = 1
            sheet 1 0 21 = 1
            evils 0 -1,10,MIN,MAX 0,-1,2 = -5
            evils 0 0,9 -1,2,MIN,MAX = -7
            evils -1,4 0 2 = -2
            evils -1,4 10 0 = -2
            evils -1,4 10 2 = -2
            evils 2 0 2 = -11
            evils 2 10 0 = -11
            evils 2 10 2 = -11
            evils 1 0 0 = -2
            evils 1 0 2 = -2
            evils 1 10 0 = -2
            evils 1 10 2 = -2
            """);
    }

    private static void lawsAndFilm() {
        of.say(27, "TEXTS (bits), were they THE LAW, by which that would be -1.", """
            # TEXT 0 alone
            citizen 0 0 1 = 0
            row 0 0 = 2
            row 1 0 = 1
            row 2 0 =
            row 3 0 = 0
            laws 0..3 = 1 0 1 0
            # six: one wishes THING 0 by 0, 2, 4
            text 'curious 0;dreads 1;goes 0;' = 1
            text 'curious 1;dreads 1;goes 0;' = 2
            text 'curious 98;dreads 99;goes 9;' = 3
            text 'curious 99;dreads 100;goes 9;' = 4
            text 'curious 49-known;dreads 50;goes 0;' = 5
            laws 0..3 = 21 42 63 0
            force 5 = 0
            laws 0..3 = 21 42 63 0
            count 4 = 5
            # at 1 in the second hour by 3 and 4 alone: 0 more corners by the others
            put 0 0 1 = 0
            row 0 0 = 1 3
            laws 0 = 0
            row 0 0 = 1 2
            laws 0 = 63
            """);
        of.say(27, "BAD, -11, BAD likewise.", """
            laws -1,4,MIN,MAX = -2
            laws 0..3 = -11
            sheet 0 0 20 = 1
            sheet 1 2 21 = 1
            sheet 2 1 40 = 1
            sheet 3 0 0 = 1
            laws 0..3 = 0 -2 -2 1
            """);
        of.say(28, "A SHEET truly becomes what is CRIED in the 1st, .., nth HOUR (0 .. 20; bytes; 1 more than each; 0: none): n.", """
            # a missing one, of each place; nobody
            film 0 20 = 20
            film 3 1 = 1
            row 1 0 = 1 2 3 4 5 6 7 8 9 10 0 0 0 0 0 0 0 0 0 0
            judge 0,1,3 = -1
            borough 2 0 = 1023
            judge 0,1,3 = 0 0 0
            # 0 .. 9 stand there: each is 1 more than the THING
            cell 0 0..9 0 = 1
            judge 0 = -1
            cell 0 20 0 = -12
            cell 3 0,1 0 = 1 -12
            judge 3 = -1
            # 0: a row of none
            film 0 0 = 0
            judge 0 = -1
            cell 0 0 0 = -12
            # bytes, whatever it was
            sheet 2 2 40 = 1
            film 2 3 = 3
            peopleBy 2 2 0 0 = -13
            peopleBy 2 1 0 0 = -13
            peopleBy 2 0 0 0 = 0
            cell 2 3 0 = -12
            # nobody's hours pass
            borough 2 1023 = 0
            borough 0 9999 = 0
            citizen 0 0 1 = 0
            film 0 3 = 3
            crier 0..2 = 9999 0 1023
            told 0 2 = 0
            row 1 0 = 2 1 3
            judge 0,1 = -1
            # 10 is the last THING: 11 .. isn't told
            borough 2 512 = 1023
            film 0 2 = 2
            row 1 0 = 10 0
            judge 0,1 = -1
            borough 0 1 = 9999
            borough 1 1 = 0
            judge 0,1 = -1
            """);
        of.say(28, "BAD: SHEET; -7: n.", """
            film -1,4,MIN,MAX 0,1,20 = -2
            film -1,4 -1,21 = -2
            film 0..3 -1,21,MIN,MAX = -7
            judge 0..3 = -11
            row 1 2 = 1
            film 1 -1,21 = -7
            judge 1 = -1
            peopleBy 1 2 0 0 = 0
            film 0 20 = 20
            """);
    }

    private static void lots() {
        of.say(29, "QUARTERS by a SEED: how many THINGS are CRIED (what 0), NEWS then (1; bits). BAD.", """
            drawn -1,100000,MIN,MAX 0,1,2 = -2
            drawn 0,99999 -1,2,MIN,MAX = -2
            # nobody: ten hours, ten THINGS
            drawn 0,99999 0 = 10
            drawn 0,99999 1 = 0
            borough 2 0 = 1023
            drawn 0,99999 0,1 = 0
            borough 2 1023 = 0
            crier 0..2 = 0 0 1023
            # One with the crier wants all; others, who wait at 4 with their WINDOWS down, take what LOTS are theirs.
            # By SEED 99999 who, modulo 6, and what, modulo 10: 2 9, 3 3, 1 4, 3 0, 4 3, 2 4, 2 8, 5 3, 5 4, 5 3
            law 'curious 50;dreads bad;goes 1;'
            citizen 0 0 1023 = 0
            drawn 99999 0,1 = 0 1023
            put 0 0 4 = 0
            put 0 1 0 = 1023
            put 0 3 0 = 1
            citizen 0 0 1023 = 1
            # 4 in the 3rd hour
            drawn 99999 0,1 = 1 1007
            put 1 0 4 = 0
            put 1 1 0 = 1023
            put 1 3 0 = 1
            citizen 0 0 1023 = 2
            # 9 at once, 4 in the 6th, 8 in the 7th
            drawn 99999 0,1 = 3 239
            put 2 0 4 = 0
            put 2 1 0 = 1023
            put 2 3 0 = 1
            citizen 0 0 1023 = 3
            # 3 in the 2nd, 0 in the 4th
            drawn 99999 0,1 = 2 1014
            put 3 0 4 = 0
            put 3 1 0 = 1023
            put 3 3 0 = 1
            citizen 0 0 1023 = 4
            # 3 in the 5th
            drawn 99999 0,1 = 1 1015
            put 4 0 4 = 0
            put 4 1 0 = 1023
            put 4 3 0 = 1
            citizen 0 0 1023 = 5
            # 3 in the 8th, 4 in the 9th, 3 (WANTED again, but KNOWN) in the 10th
            drawn 99999 0,1 = 2 999
            told 5 1,2 = 1023 0
            crier 0..2 = 0 0 1023
            # HOUR passes 9999
            borough 0 9999 = 0
            drawn 99999 0,1 = 2 999
            """);
        of.say(29, "how many THINGS are CRIED (what 0), NEWS then (1; bits).", """
            # One alone who wants nothing, by SEED 0 who and what: 1 4, 0 7, 1 3, 5 5, 5 1, 1 7, 3 9, 3 9, 5 4, 5 5:
            # THING 7 is WANTED from the 2nd hour on; in the 8th it is the least left, and 8 is cried, then 9, then none
            law 'curious 50;dreads bad;goes 1;'
            citizen 0 0 0 = 0
            drawn 0 0,1 = 9 128
            # WANTED, it is not from the 2nd hour on: so 7 is cried ahead of its turn, nothing else
            put 0 1 1023 = 0
            drawn 0 0,1 = 1 895
            put 0 1 128 = 1023
            drawn 0 0,1 = 10 0
            """);
        of.say(30, "By how many of so many (1 .. 40) seeds, SEED and each 1 more (they may pass 99999), least (0 .. 10) or more THINGS are CRIED: "
            + "part 0 above, 1 below the line, in lowest terms. NO: none such.", """
            odds -1,100000,MIN,MAX 1 0 0 = NO
            odds 0 0,41,-1,MIN,MAX 0 0 = NO
            odds 0 1 -1,11,MIN,MAX 0 = NO
            odds 0 1 0 -1,2,MIN,MAX = NO
            odds 0 41 11 2 = NO
            odds 100000 1 11 0 = NO
            odds 0 0 0 2 = NO
            # nobody: ten by any seed
            odds 0,99999 1,40 0,10 0,1 = 1
            # no NEWS: 0 of 40 for 1, all for 0
            borough 2 0 = 1023
            odds 0,99999 40 1 0,1 = 0 1 0 1
            odds 0,99999 40 0 0,1 = 1
            borough 2 1023 = 0
            crier 0..2 = 0 0 1023
            # number 2 goes with the crier and wants all: by SEEDS 99998 .. 100001 these are his:
            # 1 (in the 8th), 9 4 8, none, 0 9
            law 'curious 50;dreads bad;goes 1;'
            citizen 50,50 4 0 = 0 1
            citizen 0 0 1023 = 2
            put 0,1 3 0 = 1
            drawn 99998 0,1 = 1 1021
            drawn 99999 0,1 = 3 239
            odds 99998 1 1,2 0 = 1 0
            odds 99999 1 3,4 0 = 1 0
            odds 99999 2 0,1,3,4 0 = 1 1 1 0
            odds 99999 2 0,1,3,4 1 = 1 2 2 1
            odds 99999 3 0,1,2,3 0 = 1 2 2 1
            odds 99999 3 0,1,2,3 1 = 1 3 3 3
            odds 99998 4 1,2 0 = 3 1
            odds 99998 4 1,2 1 = 4 2
            told 2 1 = 1023
            """);
    }

    /** HOUR at 9999, in thought: what is told of the hour behind it. */
    private static void pastTheLastHour() {
        of.say(0, "in thought it may pass 9999", """
            # one at 1 wants THING 1: 0 is cried at 0 in 9999, 2 at 1 in 10000, when a WIFE wishes and a DEAF of MORE 0 hears
            borough 0 9999 = 0
            citizen 0 1 2 = 0
            row 0 0 = 1 3
            judge 0 = -1
            kinds 0 0 0,1 = 15 1023
            corners 0 -1,0 = 1 2
            turned 0 0 1,2 = 1017 1021
            evils 0 1 0,1 = 51 0
            laws 0 = 1
            film 1 2 = 2
            copy 1 0 0 0 2 = 2
            judge 0 = -1
            windows 2 0,1 = -1 2
            begin 2 0,1 = 0 2
            # a DEAF of MORE 1 doesn't hear in 10000: 1 is cried there
            kinds 0 0 1 = 1023
            put 0 1 1023 = 2
            windows 2 0,1 = 0 2
            row 0 0 = 1 0
            kinds 0 0 0 = 15
            citizen 21 1 1023 = 1
            put 0 1 0 = 1023
            row 0 0 = 1 2
            judge 0 = -1
            kinds 0 1 1 = 146
            drawn 0,99999 0 = 10
            hour = -3
            """);
    }

    private static void images() {
        of.say(31, "AN IMAGE is kept: how many of PEOPLE.", """
            image = 0
            citizen 0 0 0 = 0
            image = 1
            citizen 0 0 0 = 1
            citizen 0 0 0 = 2
            citizen 0 0 0 = 3
            citizen 0 0 0 = 4
            citizen 0 0 0 = 5
            back = 1
            image = 1
            citizen 0 0 0 = 1
            citizen 0 0 0 = 2
            citizen 0 0 0 = 3
            citizen 0 0 0 = 4
            citizen 0 0 0 = 5
            image = 6
            back = 6
            # the last one is kept
            borough 0 9999 = 0
            image = 6
            borough 0 5 = 9999
            back = 6
            crier 0 = 9999
            """);
        of.say(32, "All that it keeps is as in THE IMAGE, PEOPLE that came since are none: how many there are. STATE: there is none.", """
            back = -3
            citizen 0 0 0 = 0
            back = -3
            count 0 = 1
            image = 1
            back = 1
            # who came since; one that comes then is new
            citizen 59 8 1023 = 1
            put 1 2 1023 = 0
            put 1 3 0 = 1
            told 1 0 = 8
            back = 1
            told 1 0..8 = -5
            put 1 0 0 = -5
            asks 0 1 0 = -1000
            taken 1,7 5 = -11
            run 0 11 = -2
            when 30 = -7
            ring 8 0 = 0
            citizen 11 3 5 = 1
            told 1 0..5 = 3 5 0 1 1 1
            citizen 0 0 0 = 2
            citizen 0 0 0 = 3
            citizen 0 0 0 = 4
            citizen 0 0 0 = 5
            citizen 0 0 0 = -4
            back = 1
            count 0 = 1
            # twice, though nothing was kept in between; what is not kept stays
            borough 0 77 = 0
            text 'curious 1;dreads 1;goes 1;' = 1
            force 1 = 0
            tape 'cu'
            row 2 2 = 1 2
            back = 1
            back = 1
            count 0..5 = 1 0 10 2 0 2
            judge 2 = -1
            hour = 0
            hour = 1
            put 0 0 5 = 0
            back = 1
            crier 0..2 = 0 0 1023
            told 0 0..3 = 0 0 0 1
            # behind STATE of hour()
            borough 0 9999 = 0
            hour = -3
            back = 1
            hour = 0
            # nobody in it
            new
            image = 0
            citizen 0 0 0 = 0
            borough 3 99 = 0
            back = 0
            count 0 = 0
            crier 3 = 0
            told 0 0 = -5
            """);
    }

    public static void main(String[] args) {
        judge();
        kindsAndCorners();
        turnedAndEvils();
        lawsAndFilm();
        lots();
        pastTheLastHour();
        images();
        of.end(22, 23, 24, 25, 26, 27, 28, 29, 30, 31, 32);
    }
}
