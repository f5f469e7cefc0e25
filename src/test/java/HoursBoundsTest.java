/** Promises 13 to 21, sentence by sentence, at their bounds. */
public final class HoursBoundsTest {
    private static final Sentences of = new Sentences("HoursBoundsTest");

    private static void hour() {
        of.say(13, "An HOUR, truly: the THING that is CRIED in it; -1: none.", """
            # all NEWS and nobody: 0 .. 9 in ten hours, then none
            hour = 0
            hour = 1
            hour = 2
            hour = 3
            hour = 4
            hour = 5
            hour = 6
            hour = 7
            hour = 8
            crier 0,1,2 = 9 0 512
            hour = 9
            crier 0,1,2 = 10 1 0
            hour = -1
            crier 0,1,2 = 11 2 0
            # one, who wishes all but the last
            new
            citizen 0 0 511 = 0
            hour = 9
            told 0 0..3 = 0 511 512 1
            borough 1 0 = 1
            borough 0 9997 = 1
            hour = -1
            crier 0,1,2 = 9998 1 511
            hour = 0
            crier 0,1,2 = 9999 2 510
            # no NEWS: the hour passes, and what is KNOWN gets about
            new
            citizen 0 0 512 = 0
            citizen 0 0 0 = 1
            put 1 2 1023 = 0
            borough 2 0 = 1023
            hour = -1
            told 0,1 2 = 512 1023
            # six go, each by its KIND
            new
            law 'curious 50;dreads bad;goes 0-10;'
            citizen 0 0 0 = 0
            citizen 10 1 0 = 1
            citizen 20 2 0 = 2
            citizen 30 3 0 = 3
            citizen 47 4 0 = 4
            citizen 58 5 0 = 5
            hour = 0
            told 0..5 0 = 8 1 3 3 3 4
            """);
        of.say(13, "STATE: HOUR is 9999.", """
            citizen 0 0 4 = 0
            borough 0 9999 = 0
            hour = -3
            crier 0..2 = 9999 0 1023
            told 0 2 = 0
            # though there is no NEWS
            borough 2 0 = 1023
            hour = -3
            borough 2 1023 = 0
            borough 0 9998 = 9999
            hour = 0
            hour = -3
            crier 0..2 = 9999 1 1022
            told 0 2 = 1
            """);
    }

    private static void run() {
        of.say(14, "n HOURS (0 .. 40), in thought: NEWS then (what 0; bits), how many THINGS are CRIED in them (1), how many are KNOWN to all, together (2), "
            + "the CORNER of who is numbered what less 10 (10 ..), KNOWN to who is numbered what less 20 (20 ..; bits). BAD.", """
            # nobody
            run 0,1,9,10,40 0 = 1023 1022 512 0 0
            run 0,1,9,10,40 1 = 0 1 9 10 10
            run 0,10,40 2 = 0
            run 0,40 -1,3,9,10,15,20,25,26,MIN,MAX = -2
            run -1,41,MIN,MAX 0,1,2,3,10 = -2
            # one that hears what is cried at 8, in the 9th, the 18th hour
            citizen 0 8 0 = 0
            run 8,9,10,40 2 = 0 1 1 1
            run 8,9,40 20 = 0 256 256
            run 0,40 10 = 8
            run 0 9,11,19,21 = -2
            crier 0,1,2 = 0 0 1023
            told 0 2 = 0
            # six that go 1 on: in 40 hours 4 CORNERS further; the first is with the crier
            new
            law 'curious 50;dreads bad;goes 1;'
            citizen 0 0..5 0 = 0 1 2 3 4 5
            run 40 10..15 = 4 5 6 7 8 0
            run 8 10..15 = 8 0 1 2 3 4
            run 9 10..15 = 0 1 2 3 4 5
            run 0 10..15 = 0 1 2 3 4 5
            run 0 16,19,26,9 = -2
            run 40 20..25 = 1023 0 0 0 0 0
            run 3 20,25 = 7 0
            run 40 2 = 10
            put 5 2 512 = 0
            run 0 25 = 512
            run 0,1 2 = 1 2
            # no NEWS
            borough 2 0 = 1023
            run 0,40 0,1 = 0
            run 40 2 = 1
            told 0..5 0 = 0 1 2 3 4 5
            # MORE of each of six: one STRANGER goes 1 on, the last one 5, or 1, or 4
            new
            citizen 51,52,53,54,55 0 0 = 0 1 2 3 4
            citizen 55 8 0 = 5
            run 1 10..15 = 1 2 3 4 5 4
            run 2 10..15 = 2 4 6 8 1 0
            new
            citizen 45,44,43,42,41,44 8 0 = 0 1 2 3 4 5
            run 1 10..15 = 4 3 2 1 0 3
            """);
        of.say(14, "n HOURS (0 .. 40), in thought:", """
            # past 9999: a DEAF of MORE 1 doesn't hear at 10000 (modulo 3: 1), a WIFE wishes then, as 10000 is even
            borough 0 9999 = 0
            citizen 21 1 1023 = 0
            run 1 1 = 1
            run 2 1 = 2
            run 2 20 = 0
            put 0 3 0 = 1
            citizen 30 1 1023 = 1
            run 2 1 = 1
            put 1 0 0 = 1
            run 1 1 = 1
            run 40 1 = 10
            # .. and 9999 + 40 is told by the text: it goes 1 at 10038, the 40th hour, alone
            law 'curious 0;dreads 0;goes hour=9999+39;'
            citizen 0 7 0 = 2
            run 39,40 12 = 7 8
            crier 0 = 9999
            hour = -3
            """);
    }

    private static void when() {
        of.say(15, "Behind how many HOURS (0 .. 60) THING what (0 .. 9) isn't of NEWS, no THING is (10), "
            + "THING what modulo 10 is KNOWN to who is numbered what by 10, less 2 (20 ..) for the first time; -1: not by then. -7: what, none such.", """
            when 0..10 = 1 2 3 4 5 6 7 8 9 10 10
            when -1,11,19,20,MIN,MAX = -7
            borough 2 512 = 1023
            when 0,8,9,10 = 0 0 1 1
            borough 2 0 = 512
            when 0,9,10 = 0
            borough 2 1023 = 0
            # one, at 8: hears THING 8
            citizen 0 8 0 = 0
            when 20..29 = -1 -1 -1 -1 -1 -1 -1 -1 9 -1
            when 30,39,80,-20 = -7
            put 0 2 512 = 0
            when 29 = 0
            # six, the last one at 0: hears 0 and 9
            citizen 0 8 0 = 1
            citizen 0 8 0 = 2
            citizen 0 8 0 = 3
            citizen 0 8 0 = 4
            when 70 = -7
            citizen 0 0 0 = 5
            when 70,78,79 = 1 -1 10
            when 80,99,120 = -7
            when 68,69 = 9 -1
            """);
        of.say(15, "HOURS (0 .. 60)", """
            # one goes with the crier, wants the one THING, and is curious 99 less the hours: enough for 41 till HOUR 58
            law 'curious 99-hour;dreads 41;goes 1;'
            citizen 0 0 512 = 0
            borough 2 512 = 1023
            when 9,10,29 = 60
            # enough for 40 till HOUR 59
            text 'curious 99-hour;dreads 40;goes 1;' = 2
            force 2 = 1
            when 9,10,29 = -1
            # past 9999
            text 'curious 99+9960-hour;dreads 41;goes 1;' = 3
            force 3 = 2
            borough 0 9960 = 0
            when 9,10,29 = 60
            borough 0 9959 = 9960
            when 9,10,29 = -1
            crier 0 = 9959
            """);
    }

    private static void whereAndBegin() {
        of.say(16, "The CORNER AT which most THINGS of NEWS MAY be cried now, of like ones the first (what 0), how many (1). BAD.", """
            where -1,2,MIN,MAX = -2
            where 0,1 = 0 10
            citizen 0 0 1 = 0
            where 0,1 = 1 10
            borough 2 1022 = 1023
            where 0,1 = 0 9
            borough 2 1 = 1022
            where 0,1 = 1 1
            borough 2 0 = 1
            where 0,1 = 0 0
            borough 2 1023 = 0
            borough 1 8 = 0
            where 0,1 = 1 10
            citizen 0 1..5 512 = 1 2 3 4 5
            where 0,1 = 6 10
            # no CORNER but 0 .. 5 has one: 3 is the first where none is wished
            put 3 3 0 = 1
            where 0,1 = 3 10
            put 3 3 1 = 0
            put 0 0 8 = 0
            where 0,1 = 0 10
            put 0 0 0 = 8
            put 5 0 6 = 5
            where 0,1 = 5 10
            """);
        of.say(17, "The CORNER such that, were THE CRIER AT it now, most THINGS would be CRIED in n HOURS (0 .. 40), of like ones the first (what 0), how many (1). -7: n, what.", """
            begin -1,41,MIN,MAX 0,1,2 = -7
            begin 0,40 -1,2,MIN,MAX = -7
            begin 0,1,40 0 = 0
            begin 0,1,9,10,40 1 = 0 1 9 10 10
            # one at 0 wants all
            citizen 0 0 1023 = 0
            begin 0,1,8,9,10 0 = 0 1 1 0 1
            begin 0,1,8,9,10 1 = 0 1 8 8 9
            borough 1 8 = 0
            borough 0 9999 = 0
            begin 10 0,1 = 1 9
            crier 0,1,2 = 9999 8 1023
            # six that want all, at all but 0, 4, 8: 8 and 0 are in a ring
            put 0 0 1 = 0
            citizen 0 2,3,5,6,7 1023 = 1 2 3 4 5
            begin 1 0,1 = 0 1
            begin 2 0,1 = 8 2
            begin 5 0,1 = 0 2
            begin 6 0,1 = 4 3
            begin 9 0,1 = 0 3
            begin 10 0,1 = 0 4
            # one THING, no THING
            borough 2 512 = 1023
            begin 2 0,1 = 0 1
            begin 1 0,1 = 0 1
            borough 2 0 = 512
            begin 0,40 0,1 = 0
            """);
    }

    private static void windowsAndHush() {
        of.say(18, "Who, were just that one's WINDOW down now, if it is UP, or UP, if it is down, would make most THINGS be CRIED in n HOURS (0 .. 40), "
            + "if more than so, of like ones the first (what 0; -1: nobody), how many (1; as so). -7: n, what.", """
            # nobody
            windows -1,41,MIN,MAX 0,1,2 = -7
            windows 0,40 -1,2,MIN,MAX = -7
            windows 0,1,40 0 = -1
            windows 0,1,40 1 = 0 1 10
            # one, where the crier is at HOURS 0 and 9: 8 are cried in ten hours, 9 in eleven, 10 in twelve
            citizen 0 0 1023 = 0
            windows 0,1,10,11,12,40 0 = -1 0 0 0 -1 -1
            windows 0,1,10,11,12,40 1 = 0 1 10 10 10 10
            told 0 3 = 1
            # down it is as good as it can be
            put 0 3 0 = 1
            windows 1 0,1 = -1 1
            # six: of like ones the first; only the last one
            new
            citizen 0 0,1,1,1,1,0 1023 = 0 1 2 3 4 5
            windows 1,2 0 = -1
            windows 1,2 1 = 0
            put 0 0 2 = 0
            windows 1 0,1 = 5 1
            put 0 0 1 = 2
            borough 1 8 = 0
            windows 1 0,1 = -1 1
            windows 2 0,1 = 5 2
            put 1..4 0 5 = 1
            put 0 0 1 = 1
            windows 3 0,1 = 0 2
            windows 2 0,1 = 5 2
            # two are like: of 0, 1 the first
            new
            citizen 0 0,1 1023 = 0 1
            windows 2 0,1 = 0 1
            # UP, if it is down: who hears THING 0 tells it to a DEAF, who has enough then
            new
            law 'curious 50-60*known;dreads 1;goes 0-1;'
            citizen 0 0 0 = 0
            citizen 20 0 1023 = 1
            put 0 3 0 = 1
            run 2 1 = 1
            windows 2 0,1 = 0 2
            # a WIFE listens always
            new
            citizen 30 0 1023 = 0
            windows 1 0,1 = -1 0
            put 0 3 0 = 1
            windows 1 0,1 = -1 0
            """);
        of.say(19, "Of all sets of those who LISTEN AT a CORNER such that, were their WINDOWS down, a THING MAY be cried there now, that of fewest, "
            + "of like ones the least as bits (what 0; bits; -1: none), of how many (1; -1). -5: no such CORNER; -7: t, what.", """
            hush -1,9,MIN,MAX 0 0 = -5
            hush -1,9 10 2 = -5
            hush -1,9 0 2 = -5
            hush 0 -1,10,MIN,MAX 0 = -7
            hush 0 0 -1,2,MIN,MAX = -7
            hush 0 10 2 = -7
            # nobody, of NEWS or not
            hush 0,8 0,9 0,1 = 0
            borough 2 0 = 1023
            hush 0,8 0,9 0,1 = 0
            # one
            citizen 0 8 512 = 0
            hush 8 9 0,1 = 1
            hush 8 8 0,1 = 0
            hush 7 9 0,1 = 0
            put 0 2 512 = 0
            hush 8 9 0,1 = 0
            put 0 2 0 = 512
            put 0 3 0 = 1
            hush 8 9 0,1 = 0
            put 0 3 1 = 0
            # six, all of whom wish it; then the last but one knows it, the first doesn't listen, the third is elsewhere
            citizen 0 8 512 = 1
            citizen 11 8 512 = 2
            citizen 21 8 512 = 3
            citizen 40 8 0 = 4
            citizen 0 8 512 = 5
            borough 0 5 = 0
            hush 8 9 0,1 = 63 6
            put 4 2 512 = 0
            hush 8 9 0,1 = 47 5
            put 0 3 0 = 1
            hush 8 9 0,1 = 46 4
            put 2 0 0 = 8
            hush 8 9 0,1 = 42 3
            # a DEAF of MORE 1 doesn't hear at HOUR 4
            borough 0 4 = 5
            hush 8 9 0,1 = 34 2
            hush 8 0 0,1 = 16 1
            told 0..5 3 = 0 1 1 1 1 1
            # a WIFE LISTENS always, but WISHES in even HOURS alone
            put 2 0 8 = 0
            new
            citizen 30 0 1 = 0
            citizen 0 0 1 = 1
            hush 0 0 0,1 = -1
            hush 0 0 2 = -7
            hush 0 1 0,1 = 0
            put 0 3 0 = 1
            hush 0 0 0,1 = -1
            borough 0 1 = 0
            hush 0 0 0,1 = 2 1
            """);
    }

    private static void roundAndMean() {
        of.say(20, "Of all sets of CORNERS such that each THING of NEWS that MAY be cried now AT any CORNER MAY be cried AT one of the set, that of fewest, "
            + "of like ones the least as bits (what 0; bits), of how many (1), which THINGS of NEWS MAY be cried AT none (2; bits). BAD.", """
            round -1,3,MIN,MAX = -2
            # nobody; all NEWS, one THING, none
            round 0..2 = 1 1 0
            borough 2 512 = 1023
            round 0..2 = 1 1 0
            borough 2 0 = 512
            round 0..2 = 0 0 0
            # one at 0
            borough 2 1023 = 0
            citizen 0 0 512 = 0
            round 0..2 = 2 1 0
            borough 2 511 = 1023
            round 0..2 = 1 1 0
            # six at 0 .. 5, each of whom wants another THING: 6 is the first where all may be cried
            borough 2 1023 = 511
            citizen 0 1 1 = 1
            citizen 0 2 2 = 2
            citizen 0 3 4 = 3
            citizen 0 4 8 = 4
            citizen 0 5 16 = 5
            round 0..2 = 64 1 0
            put 5 0 6 = 5
            round 0..2 = 32 1 0
            put 4 3 0 = 1
            round 0..2 = 16 1 0
            # of NEWS alone: 2 isn't wished at 0, 1 or 2 of these
            borough 2 4 = 1023
            round 0..2 = 1 1 0
            borough 2 513 = 4
            round 0..2 = 4 1 0
            borough 2 0 = 513
            round 0..2 = 0
            """);
        of.say(21, "How BAD all THINGS of NEWS are, together, by how many they are: part 0 above, 1 below the line, in lowest terms. NO: part, there are none.", """
            mean -1,2,MIN,MAX = NO
            # 0 by 10
            mean 0,1 = 0 1
            borough 3..12 99 = 0
            # 990 by 10
            mean 0,1 = 99 1
            borough 2 512 = 1023
            mean 0,1 = 99 1
            borough 12 0 = 99
            mean 0,1 = 0 1
            borough 12 98 = 0
            # 197 by 2, 296 by 3, 394 by 4
            borough 2 513 = 512
            mean 0,1 = 197 2
            borough 2 515 = 513
            mean 0,1 = 296 3
            borough 3 98 = 99
            borough 2 519 = 515
            mean 0,1 = 197 2
            # 988 by 10
            borough 2 1023 = 519
            mean 0,1 = 494 5
            borough 2 1 = 1023
            mean 0,1 = 98 1
            borough 2 1023 = 1
            borough 2 0 = 1023
            mean 0,1,2,-1 = NO
            """);
    }

    public static void main(String[] args) {
        hour();
        run();
        when();
        whereAndBegin();
        windowsAndHush();
        roundAndMean();
        of.end(13, 14, 15, 16, 17, 18, 19, 20, 21);
    }
}
