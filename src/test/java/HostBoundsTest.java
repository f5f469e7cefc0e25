/** Promises 33 to 37, sentence by sentence, at their bounds. */
public final class HostBoundsTest {
    private static final Sentences of = new Sentences("HostBoundsTest");

    private static void sheet() {
        of.say(33, "A SHEET becomes a row of n of a sort, all 0, or missing (sort -1: n does not matter): 1.", """
            # no NEWS: judge() tells the first number that is not 0
            borough 2 0 = 1023
            sheet 0,3 0..2 0 = 1
            cell 0,3 0 5 = -12
            judge 0,3 = -1
            sheet 0,3 0..2 1 = 1
            cell 0,3 1 5 = -12
            cell 0,3 0 5 = 1
            judge 0,3 = 0
            # again the same: all 0
            sheet 0,3 2 1 = 1
            judge 0,3 = -1
            sheet 0,3 0..2 40 = 1
            cell 0,3 40 5 = -12
            cell 0,3 39 5 = 1
            cell 0,3 19 5 = 1
            sheet 0 2 20 = 1
            judge 0,3 = -1 -2
            cell 0 19 5 = 1
            judge 0 = 19
            # shorter, then longer: all 0
            sheet 0 2 19 = 1
            judge 0 = -1
            sheet 0 2 20 = 1
            judge 0 = -1
            # each by itself
            row 0 0 = 0 0 1
            row 1 0 = 0 1
            row 2 0 = 1
            row 3 0 = 0 0 0 1
            judge 0..3 = 2 1 0 3
            # missing
            sheet 0 -1 0,1,40 = 1
            sheet 1 -1 -1 = 1
            sheet 2 -1 41 = 1
            sheet 3 -1 MIN,MAX = 1
            judge 0..3 = -11
            cell 0..3 0 0 = -11
            sheet 0 -1 0 = 1
            sheet 2 0 1 = 1
            judge 0..2 = -11 -11 -1
            """);
        of.say(33, "BAD: SHEET, sort, n above 40; -14.", """
            sheet -1,4,MIN,MAX -1..2 0 = -2
            sheet 0..3 -2,3,MIN,MAX 0 = -2
            sheet 0..3 0..2 41,MAX = -2
            sheet 0..3 0..2 -1,MIN = -14
            judge 0..3 = -11
            # each with each other one
            sheet -1,4 -2,3 0,41,-1 = -2
            sheet -1,4 0 41,-1 = -2
            sheet -1,4 -1 41,-1 = -2
            sheet 0 -2,3 41,-1 = -2
            # it stays as it was
            row 0 1 = 1 2
            sheet 0 0,1 41,-1 = -2 -14 -2 -14
            sheet 0 3 0 = -2
            judge 0 = -1
            cell 0 1,2 2 = 1 -12
            peopleBy 0 1 0 0 = 0
            """);
    }

    private static void cell() {
        of.say(34, "Number i of a SHEET becomes v (of bytes, shorts its lowest 8, 16 bits): 1.", """
            # WANTED, KIND and MORE of who comes by it tell what the number is: 1 comes if it is as told
            sheet 0 0 3 = 1
            cell 0 2 127 = 1
            peopleBy 0 0 0 1 = 1
            told 0 1 = 127
            # 128 is -128, 255 is -1, 256 is 0, 511 is -1, 383 is 127, -129 is 127, -256 is 0
            cell 0 2 128 = 1
            peopleBy 0 0 0 1 = 0
            cell 0 2 255 = 1
            peopleBy 0 0 0 1 = 0
            cell 0 2 511 = 1
            peopleBy 0 0 0 1 = 0
            cell 0 2 -1 = 1
            peopleBy 0 0 0 1 = 0
            cell 0 2 256 = 1
            peopleBy 0 0 0 1 = 1
            cell 0 2 383 = 1
            peopleBy 0 0 0 1 = 1
            cell 0 2 -129 = 1
            peopleBy 0 0 0 1 = 1
            cell 0 2 -256 = 1
            peopleBy 0 0 0 1 = 1
            told 1..4 1 = 0 127 127 0
            # MIN is 0, MAX is -1
            cell 0 2 MAX = 1
            peopleBy 0 0 0 1 = 0
            cell 0 2 MIN = 1
            peopleBy 0 0 0 1 = 1
            told 5 1 = 0
            # of shorts: 1023 stays, 32768 is -32768, 65535 is -1, 65536 is 0, 66559 is 1023, -64513 is 1023
            new
            sheet 3 1 3 = 1
            cell 3 2 1023 = 1
            peopleBy 3 1 0 1 = 1
            cell 3 2 32768 = 1
            peopleBy 3 1 0 1 = 0
            cell 3 2 65535 = 1
            peopleBy 3 1 0 1 = 0
            cell 3 2 -1 = 1
            peopleBy 3 1 0 1 = 0
            cell 3 2 65536 = 1
            peopleBy 3 1 0 1 = 1
            cell 3 2 66559 = 1
            peopleBy 3 1 0 1 = 1
            cell 3 2 -64513 = 1
            peopleBy 3 1 0 1 = 1
            cell 3 2 256 = 1
            peopleBy 3 1 0 1 = 1
            cell 3 2 MAX = 1
            peopleBy 3 1 0 1 = 0
            cell 3 2 MIN = 1
            peopleBy 3 1 0 1 = 1
            told 0..5 1 = 1023 0 1023 1023 256 0
            # of ints: as it is
            new
            sheet 1 2 3 = 1
            cell 1 2 1023 = 1
            peopleBy 1 2 0 1 = 1
            cell 1 2 65536 = 1
            peopleBy 1 2 0 1 = 0
            cell 1 2 MAX = 1
            peopleBy 1 2 0 1 = 0
            cell 1 2 MIN = 1
            peopleBy 1 2 0 1 = 0
            cell 1 2 0 = 1
            cell 1 1 8 = 1
            cell 1 0 59 = 1
            peopleBy 1 2 0 1 = 1
            told 1 0..5 = 8 0 0 1 5 9
            # the first and the last of 40
            sheet 2 2 40 = 1
            cell 2 0,39 7 = 1
            cell 2 37 9 = 1
            cell 2 38 6 = 1
            peopleBy 2 2 37 1 = 1
            told 2 0..5 = 6 7 0 1 0 9
            peopleBy 2 2 0 1 = 1
            told 3 0..5 = 0 0 0 1 0 7
            """);
        of.say(34, "BAD: SHEET; -11; -12.", """
            cell -1,4,MIN,MAX 0,-1 0 = -2
            cell 0..3 0,-1,40 0 = -11
            sheet 0 0 0 = 1
            sheet 1 1 1 = 1
            sheet 2 2 40 = 1
            cell 0 -1,0,1,MIN,MAX 7 = -12
            cell 1 -1,1,MIN,MAX 7 = -12
            cell 2 -1,40,MIN,MAX 7 = -12
            cell 3 -1,0,40 7 = -11
            cell 1 0 1 = 1
            cell 2 0,39 1 = 1
            judge 1 = -1
            """);
    }

    private static void copy() {
        of.say(35, "n numbers of a SHEET, from i on, come to another one's (or its own) place j (as they were): n.", """
            row 0 2 = 1 2 3 4 5
            row 1 2 = 0 0 0 0
            copy 0 0 1 0 4 = 4
            judge 0,1 = -1
            # none, at any place that there is, 1 behind the last among them
            copy 0 0,5 1 0,4 0 = 0
            copy 0 4 1 3 0 = 0
            judge 0,1 = -1
            # the last one; the first one
            copy 0 4 1 3 1 = 1
            judge 1 = 3
            copy 0 3 1 3 1 = 1
            judge 1 = -1
            copy 0 1 1 0 1 = 1
            judge 1 = 0
            copy 0 0 1 0 1 = 1
            # onto itself: on by 1 it is 1 1 2 3 4, back by 1 it is 1 2 3 4 4
            copy 0 0 0 1 4 = 4
            judge 0 = 1
            copy 0 1 0 0 4 = 4
            judge 0 = 4
            cell 0 4 5 = 1
            judge 0 = -1
            # on by 2 it is 1 2 1 2 3, and all onto its own place stays
            copy 0 0 0 2 3 = 3
            judge 0 = 2
            copy 0 0 0 0 5 = 5
            judge 0 = 2
            cell 0 2 3 = 1
            judge 0 = 3
            cell 0 3 4 = 1
            judge 0 = 4
            # 3 stood at the last place: to place 2
            copy 0 4 0 2 1 = 1
            cell 0 4 5 = 1
            judge 0 = -1
            # all 40; a row of none
            sheet 2 0 40 = 1
            sheet 3 0 40 = 1
            cell 2 0,39 9 = 1
            copy 2 0 3 0 40 = 40
            copy 3 39 3 0 1 = 1
            copy 2 40 3 40 0 = 0
            sheet 2 0 0 = 1
            copy 2 0 3 0,40 0 = 0
            copy 2 0 2 0 0 = 0
            copy 3 0 2 0 0 = 0
            sheet 2 0 1 = 1
            copy 3 39 2 0 1 = 1
            borough 2 256 = 1023
            judge 2 = -1
            """);
        of.say(35, "BAD: SHEETS; -11; -13: unlike sorts; -12 (n below 0, too).", """
            copy -1,4,MIN,MAX 0 0..3 0 0 = -2
            copy 0..3 0 -1,4,MIN,MAX 0 0 = -2
            copy -1 -1 4 -1 -1 = -2
            copy 0,1 0 0,1 0 0 = -11
            copy 0 -1 1 -1 -1 = -11
            row 0 0 = 1 2 3
            copy 0 0 1 0 0 = -11
            copy 1 0 0 0 0 = -11
            copy 0 -1 1 0 0 = -11
            copy 1 0 0 4 0 = -11
            copy 4 0 1 0 0 = -2
            copy 1 0 4 0 0 = -2
            row 1 1 = 1 2 3
            row 2 2 = 1 2 3
            copy 0 0 1,2 0 0,1 = -13
            copy 1 0 0,2 0 0,1 = -13
            copy 2 0 0,1 0 0,1 = -13
            copy 0 -1,4 1 0 1 = -13
            copy 0 0 1 -1,4 1 = -13
            copy 0 0 1 0 -1,4 = -13
            row 3 0 = 1 2
            # i, j, n, each alone
            copy 0 -1,4,MIN,MAX 3 0 0 = -12
            copy 0 -1,3,MIN,MAX 3 0 1 = -12
            copy 0 0 3 -1,3,MIN,MAX 0 = -12
            copy 0 0 3 -1,2,MIN,MAX 1 = -12
            copy 0 0 3 0 -1,3,MIN,MAX = -12
            copy 3 0 0 0 3 = -12
            copy 0 2 3 0 2 = -12
            copy 0 0 3 1 2 = -12
            copy 0 1 0 0 3 = -12
            copy 0 0 0 1 3 = -12
            copy 0 0,1 3 0,1 -1,MIN = -12
            # together
            copy 0 MAX 3 MAX MAX = -12
            copy 0 MAX 3 0 MAX = -12
            copy 0 1 3 1 MAX = -12
            copy 0 MIN 3 MIN MIN = -12
            copy 0 4 3 3 -1 = -12
            copy 0 -1 3 -1 1 = -12
            # a row of none
            sheet 3 0 0 = 1
            copy 0 0 3 0 1 = -12
            copy 3 0 0 0 1 = -12
            copy 3 1 0 0 0 = -12
            judge 0..2 = -1
            """);
    }

    private static void peopleBy() {
        of.say(36, "PEOPLE by a SHEET of a sort: from a place on, three by three (as of citizen()), n of them (0 .. 6): how many came (others are left out).", """
            # none, one, six
            row 0 1 = 0 0 0 59 8 1023 10 1 2 20 2 3 30 3 4 40 4 5 50 5 6
            peopleBy 0 1 0 0 = 0
            count 0 = 0
            peopleBy 0 1 3 1 = 1
            told 0 0..5 = 8 1023 0 1 5 9
            new
            row 0 1 = 0 0 0 59 8 1023 10 1 2 20 2 3 30 3 4 40 4 5 50 5 6
            peopleBy 0 1 0 6 = 6
            told 0..5 0 = 0 8 1 2 3 4
            told 0..5 1 = 0 1023 2 3 4 5
            told 0..5 4 = 0 5 1 2 3 4
            # FULL: left out
            peopleBy 0 1 0 6 = 0
            peopleBy 0 1 18 1 = 0
            count 0 = 6
            # the last three of 40 ints
            new
            sheet 3 2 40 = 1
            cell 3 37 17 = 1
            cell 3 38 7 = 1
            cell 3 39 512 = 1
            peopleBy 3 2 37 1 = 1
            told 0 0..5 = 7 512 0 1 1 7
            # those that citizen() refuses are left out, others come: of six three
            new
            row 0 2 = 60 0 0 0 0 0 0 9 0 59 8 1023 0 0 1024 9 0 1
            peopleBy 0 2 0 6 = 3
            told 0..2 5 = 0 9 9
            told 0..2 1 = 0 1023 1
            row 1 0 = -1 0 0 0 -1 0 0 0 -1
            peopleBy 1 0 0 3 = 0
            # the last that has room comes, the others are left out
            row 2 0 = 1 0 0 2 0 0 3 0 0 4 0 0
            peopleBy 2 0 0 4 = 3
            told 3..5 5 = 1 2 3
            # from any place, not by threes alone
            new
            row 0 0 = 1 2 3 4 5
            peopleBy 0 0 2 1 = 1
            told 0 0..5 = 4 5 0 1 0 3
            peopleBy 0 0 1 1 = 1
            told 1 0..5 = 3 4 0 1 0 2
            """);
        of.say(36, "BAD: SHEET, sort, n; -11; -13; -12: what stood ahead came.", """
            peopleBy -1,4,MIN,MAX 0 0 0,1 = -2
            peopleBy 0 -1,3,MIN,MAX 0 0,1 = -2
            peopleBy 0 0 0 -1,7,MIN,MAX = -2
            peopleBy -1 3 -1 7 = -2
            peopleBy 0..3 0..2 0,-1 0,6 = -11
            row 0 0 = 1 0 0 2 0 0 3
            row 1 1 = 1 0 0 2 0 0
            row 2 2 =
            # BAD ahead of -13 and -12
            peopleBy 0 -1,3 0 1 = -2
            peopleBy 0 1 0 7 = -2
            peopleBy 0 0 -1 7 = -2
            peopleBy 4 1 -1 1 = -2
            # -11 and -13 ahead of -12
            peopleBy 3 0 -1,0,40 1 = -11
            peopleBy 0 1,2 -1,0,7 0,1 = -13
            peopleBy 1 0,2 -1,0,7 0,1 = -13
            peopleBy 2 0,1 -1,0,7 0,1 = -13
            # -12, and nobody came
            peopleBy 0 0 -1,5,6,7,MIN,MAX 1 = -12
            peopleBy 1 1 -1,4,5,6,MIN,MAX 1,6 = -12
            peopleBy 2 2 -1,0,1 1 = -12
            count 0 = 0
            # what stood ahead came: two of three, none of what is cut off
            peopleBy 0 0 0 3 = -12
            count 0 = 2
            told 0,1 5 = 1 2
            peopleBy 0 0 3 2 = -12
            count 0 = 3
            peopleBy 1 1 0 6 = -12
            count 0 = 5
            peopleBy 1 1 0 3 = -12
            count 0 = 6
            # though there is no room
            peopleBy 1 1 0 3 = -12
            peopleBy 1 1 0 2 = 0
            count 0 = 6
            """);
    }

    private static void taken() {
        of.say(37, "What lies at place i: 0 .. 5 PEOPLE, 6 .. 11 their WINDOWS, taken for 0 .. 5 one of that KIND (also of one that is one): the number; "
            + "6 a WINDOW: 1 UP, 0 down.", """
            # one of each KIND, for each KIND and for a WINDOW
            citizen 9,19,29,39,49,59 0 0 = 0 1 2 3 4 5
            put 0,2,5 3 0 = 1
            taken 0 0..6 = 0 -13 -13 -13 -13 -13 -13
            taken 1 0..6 = 1 1 -13 -13 -13 -13 -13
            taken 2 0..6 = 2 -13 2 -13 -13 -13 -13
            taken 3 0..6 = 3 3 -13 3 -13 -13 -13
            taken 4 0..6 = 4 -13 4 -13 4 -13 -13
            taken 5 0..6 = 5 -13 -13 -13 -13 5 -13
            taken 6..11 6 = 0 1 0 1 1 0
            taken 6..11 0..5 = -13
            # the number, not the KIND
            new
            citizen 50,40,30,20,10,0 0 0 = 0 1 2 3 4 5
            taken 0..5 0 = 0 1 2 3 4 5
            taken 0..5 1 = -13 -13 2 -13 4 -13
            taken 0..5 2 = -13 1 -13 3 -13 -13
            taken 0..5 3 = -13 -13 2 -13 -13 -13
            taken 0..5 4 = -13 1 -13 -13 -13 -13
            taken 0..5 5 = 0 -13 -13 -13 -13 -13
            """);
        of.say(37, "BAD: kind; -12: i; -11: none such; -13.", """
            taken 0,6 -1,7,MIN,MAX = -2
            taken -1,12 -1,7,MIN,MAX = -2
            taken -1,12,MIN,MAX 0,1,6 = -12
            # nobody
            taken 0..11 0,6 = -11
            # one
            citizen 0 0 0 = 0
            taken 0,6 0,1,6 = 0 -13 -13 -13 -13 1
            taken 1,5,7,11 0,1,6 = -11
            # BAD ahead of -13
            taken 0,6 7,-1 = -2
            # five, then six
            citizen 0 0 0 = 1
            citizen 0 0 0 = 2
            citizen 0 0 0 = 3
            citizen 0 0 0 = 4
            taken 5,11 0,6 = -11
            citizen 0 0 0 = 5
            taken 5,11 0,6 = 5 -13 -13 1
            taken 12 0,6 = -12
            """);
    }

    public static void main(String[] args) {
        sheet();
        cell();
        copy();
        peopleBy();
        taken();
        of.end(33, 34, 35, 36, 37);
    }
}
