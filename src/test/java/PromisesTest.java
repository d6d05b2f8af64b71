/** Runs of calls for each promise by its number, as scripts (src/test/help/Script.java says how they are written). */
public final class PromisesTest {
    private static final int MOST_SECONDS = 300;

    public static void main(String[] args) {
        Watch.begin(MOST_SECONDS);
        Script script = new Script();
        for (String[] told : SCRIPTS) {
            script.run("promise " + told[0], told[1]);
        }
        script.run("promise 2", eightyOneSigns());
        script.run("promise 33", nineThings());
        System.out.println(script.summary());
        if (script.wrongOnes() != 0) {
            System.exit(1);
        }
    }

    private static String eightyOneSigns() {
        StringBuilder script = new StringBuilder();
        for (int k = 1; k <= 20; k++) {
            script.append("sign 0x72727272 = ").append(4 * k).append('\n');
        }
        script.append("sign 0x72727272 = -1\ncount 5 = 80\nday = 80\nanswers 0 0\nsign 1 = 4\n");
        script.append("new\n");
        for (int k = 1; k <= 20; k++) {
            script.append("sign 0x72727272 = ").append(4 * k).append('\n');
        }
        script.append("end 77 = true\nsign 0x72727272 = -1\ncount 5 = 77\nend 76 = true\nsign 0 = 80\n");
        return script.toString();
    }

    private static String nineThings() {
        StringBuilder script = new StringBuilder("text 01i\ntable = 1\n");
        for (int k = 1; k <= 9; k++) {
            script.append("put 0 0 4 ").append(k).append(" = 0\n");
            script.append("count 3 = ").append(Math.min(8, k + 1)).append('\n');
        }
        for (int k = 8; k >= 1; k--) {
            script.append("put 0 1 4 0 = -5\nundo = ").append(k - 1).append("\ntake 0 0 10 = 0\nanswers ").append(k).append('\n');
        }
        script.append("undo = -1\ntake 0 0 10 = 0\nanswers 1\n");
        return script.toString();
    }

    private static final String[][] SCRIPTS = {
        {"1", """
            answer 0 throws
            count 0 = 0
            count 1 = 0
            count 2 = 0
            count 3 = 0
            count 4 = 0
            count 5 = 0
            count 6 = 0
            kind 0 = -1
            tagged 0 = -1
            undo = -1
            again 0 = false
            again 1 = false
            all = 0
            answers 0 0
            """},
        {"2", """
            sign 0x30327a62 = 4   # 02zb: the highest byte first
            count 5 = 4
            table = 2
            count 1 = 2
            kind 0 = 0
            kind 1 = 1
            sign -1 = 4           # signs may be above 127, or 0
            table = -1
            sign 0x30310000 = 4
            table = -3
            """},
        {"3", """
            end 0 = true
            end 1 = false
            end -1 = false
            sign 0x30310000 = 4
            end 5 = false
            end -1 = false
            count 5 = 4
            end 4 = true
            end 2 = true
            count 5 = 2
            end 3 = false
            table = 0
            count 1 = 1
            text 01b
            end 0 = true
            table = -1
            """},
        {"4", """
            text
            table = -1
            text 0
            table = -2
            text z
            table = -1
            text 1z
            table = -2
            text 17
            table = -2
            text 20
            table = -2
            text 9
            table = -2
            text :0
            table = -1
            text 0/
            table = -2
            text 03A
            table = -3
            text 03za
            table = -4
            text 03zbcsijf
            table = -9
            text 03zbcsijq
            table = -9
            count 3 = 0
            count 0 = 0
            text 00
            table = 0
            count 1 = 0
            text 16zbcsij
            table = 6
            count 5 = 0
            count 1 = 16
            kind 0 = 0
            kind 1 = 1
            kind 2 = 2
            kind 3 = 3
            kind 4 = 4
            kind 5 = 5
            count 2 = 63
            text 02fdntox
            table = 6
            kind 0 = 6
            kind 1 = 7
            kind 2 = 8
            kind 3 = 9
            kind 4 = 10
            kind 5 = 11
            count 2 = 31
            count 6 = 6
            take 0 1 10 = 0
            answers 0
            take 1 1 10 = 0
            answers 0
            take 3 1 10 = 0
            answers -9223372036854775808
            text 17
            table = -2
            count 0 = 6           # a refused one leaves all but the text
            count 5 = 0
            text 10yw
            table = 2
            kind 0 = 12
            kind 1 = 13
            kind 2 = -1
            count 2 = 0
            new
            text 02i
            table = 1
            put 0 0 4 7 = 0
            swaps 0 1 = 1000
            text 02i
            table = 1
            take 0 1 10 = 0       # all anew
            answers 0
            tagged 0 = 0
            """},
        {"5", """
            text 03ibntxy
            table = 6
            sheet 0 4 2 3 5 -2 = 3
            coded 0 = 3
            answers 5 1 3 1 1 1
            sheet 0 4 0 2 200 0 = 2      # bytes: the lowest bits with their sign; the last cell stays
            coded 0 = 2
            answers -56 2 1 1
            sheet 0 4 1 3 32767 1 = 3    # shorts
            coded 0 = 3
            answers 32767 1 -32768 1 -32767 1
            sheet 0 4 2 3 2147483647 1 = 3
            coded 0 = 3
            answers 2147483647 1 -2147483648 1 -2147483647 1
            sheet 0 4 2 0 1 1 = 0
            sheet 0 4 2 16 1 0 = 3       # there are three rows
            sheet 1 4 2 3 1 1 = 0        # an int is no byte
            sheet 2 4 2 3 1 1 = 0
            sheet 2 14 2 2 1 1 = 2
            coded 2 = 3
            answers 1 1 2 1 -9223372036854775808 1
            sheet 2 21 2 3 0 0 = 3
            count 6 = 6
            sheet 3 19 2 3 25 1 = 3
            coded 3 = 3
            answers 25 1 26 1 27 1
            sheet 4 4 2 3 1 1 = 0
            sheet 5 14 2 3 1 1 = 0
            count 3 = 1                  # the table alone
            sheet 0 4 3 5 1 1 = -3
            sheet 0 4 3 -5 1 1 = -3
            sheet 0 4 0 -1 1 1 = -2
            sheet 0 4 1 -1 1 1 = -2
            sheet 0 4 2 -2147483648 1 1 = -2
            sheet 6 4 2 1 1 1 = -1
            sheet -1 4 2 1 1 1 = -1
            sheet 0 4 4 1 1 1 = -1
            sheet 0 4 -1 1 1 1 = -1
            sheet 0 8 2 1 1 1 = -1
            sheet 0 9 2 1 1 1 = -1
            sheet 0 22 2 1 1 1 = -1
            sheet 0 -1 2 -1 1 1 = -1
            sheet 0 4 2 17 1 1 = -1
            sheet 0 4 3 17 1 1 = -1      # these first
            answers 25 1 26 1 27 1
            coded 0 = 1
            answers 1 3
            undo = 0
            count 0 = 0
            """},
        {"6", """
            text 02zbcsij
            table = 6
            put 0 0 0 -3 = 0
            put 0 1 10 -2 = 0
            put 1 0 1 384 = 0
            put 1 1 11 127 = 0
            put 2 0 2 -1 = 0
            put 2 1 12 65537 = 0
            put 3 0 3 98304 = 0
            put 3 1 1 -1 = 0
            put 4 0 2 -1 = 0
            put 4 1 18 -2147483648 = 0
            put 5 0 15 -2147483648 = 0
            put 5 1 13 -7 = 0
            coded 0 = 2
            answers 1 1 0 1
            coded 1 = 2
            answers -128 1 127 1
            coded 2 = 2
            answers 65535 1 1 1
            coded 3 = 2
            answers -32768 1 -1 1
            coded 4 = 2
            answers 65535 1 -2147483648 1
            coded 5 = 2
            answers -2147490090450944 1 -7 1
            put 0 0 1 1 = -6
            put 0 0 20 1 = -6
            put 1 0 0 1 = -6
            put 1 0 2 1 = -6
            put 1 0 3 1 = -6
            put 1 0 18 1 = -6
            put 1 0 21 1 = -6
            put 2 0 1 1 = -6
            put 2 0 3 1 = -6
            put 3 0 2 1 = -6
            put 4 0 5 1 = -6
            put 4 0 16 1 = -6
            put 5 0 6 1 = -6
            put 5 0 17 1 = -6
            put 5 2 17 1 = -5
            put 5 -1 4 1 = -5
            put 6 0 4 1 = -1
            put -1 0 4 1 = -1
            put 0 0 -1 1 = -1
            put 0 0 8 1 = -1
            put 0 0 9 1 = -1
            put 0 0 22 1 = -1
            coded 5 = 2
            answers -2147490090450944 1 -7 1
            new
            text 02fdntox
            table = 6
            put 0 0 6 -5 = 0
            put 0 1 4 16777217 = 0     # the nearest float: the even one
            coded 0 = 2
            answers -1080033280 1 1266679808 1
            put 0 0 4 16777219 = 0
            put 0 1 15 2147483647 = 0  # 2147489090447941
            coded 0 = 2
            answers 1266679810 1 1492395056 1
            put 1 0 7 -3 = 0
            put 1 1 6 -3 = 0
            coded 1 = 2
            answers -4622945017495814144 1 -4618441417868443648 1
            put 1 0 12 65 = 0
            put 1 1 5 -1 = 0
            coded 1 = 2
            answers 4634274385308418048 1 -4526534864400285696 1
            put 0 0 7 1 = -6
            put 2 0 4 1 = -4
            put 2 9 7 1 = -4
            put 2 9 14 1 = -5
            put 2 0 13 1 = -6
            put 2 0 19 1 = -6
            put 2 0 20 1 = -6
            put 2 0 14 -1 = 0
            put 2 1 18 5 = 0
            coded 2 = 2
            answers -1 1 5 1
            put 2 0 21 9 = 0
            put 2 1 21 0 = 0
            coded 2 = 1
            answers -9223372036854775808 2
            put 3 0 0 1 = -4
            put 3 0 14 1 = -6
            put 3 0 20 1 = -6
            put 3 0 19 77 = 0          # zzz
            put 3 1 19 78 = 0          # a again
            coded 3 = 2
            answers 77 1 0 1
            put 3 0 19 -1 = 0          # 2147483647: letter 23 (x), 82595524 % 3 = 1
            put 3 1 19 -2147483648 = 0
            coded 3 = 2
            answers 49 1 0 1
            put 4 0 6 1 = -4
            put 4 0 18 1 = -6
            put 4 0 19 1 = -6
            put 4 0 20 -9 = 0
            coded 4 = 2
            answers -9 1 -9223372036854775808 1
            put 4 0 21 0 = 0
            count 6 = 4
            put 5 0 21 0 = -2
            put 5 0 22 0 = -1
            text 02yw
            table = 2
            put 0 9 4 0 = -3
            put 1 0 19 0 = -3
            """},
        {"7", """
            text 02ijfdnt
            table = 6
            put 0 0 4 -16777217 = 0
            take 0 0 4 = 0
            answers -16777217
            take 0 0 5 = 0
            answers -16777217
            take 0 0 6 = 0
            answers -880803840
            take 0 0 7 = 0
            answers -4508103226729431040
            take 0 0 10 = 0
            answers -16777217
            take 0 0 3 = -6
            answers -16777217
            take 0 0 0 = -6
            put 2 1 6 1 = 0
            take 2 1 6 = 0
            answers 1048576000
            take 2 1 7 = 0
            answers 4598175219545276416
            take 2 1 5 = -6
            take 3 0 6 = -6
            take 3 0 7 = 0
            answers 0
            take 4 0 4 = -4
            take 4 2 4 = -4
            take 4 2 10 = -5
            take 4 1 10 = 0
            answers -9223372036854775808
            take 5 0 0 = -4
            take 0 2 4 = -5
            take 0 -1 4 = -5
            take 0 2 0 = -5
            take 0 0 8 = -1
            take 0 0 11 = -1
            take 0 0 -1 = -1
            take 6 0 4 = -1
            take -1 0 4 = -1
            text 01xyw
            table = 3
            take 0 0 10 = -2
            take 0 5 0 = -2
            take 1 0 10 = -3
            take 2 5 0 = -3
            take 0 5 9 = -1
            answers -9223372036854775808
            """},
        {"8", """
            length 0 = -1
            text 16zoxyw
            table = 5
            length 0 = 16
            length 1 = 16
            length 2 = -2
            length 3 = -3
            length 4 = -3
            length 5 = -1
            length -1 = -1
            text 00i
            table = 1
            length 0 = 0
            """},
        {"9", """
            kind 0 = -1
            text 01wyxotn
            table = 6
            kind 0 = 13
            kind 1 = 12
            kind 2 = 11
            kind 3 = 10
            kind 4 = 9
            kind 5 = 8
            kind 6 = -1
            kind -1 = -1
            """},
        {"10", """
            text 03bidntz
            table = 6
            sheet 0 1 2 3 -1 1 = 3
            copies 0 1 = 3
            answers 0
            coded 1 = 3
            answers -1 1 0 1 1 1
            copies 1 0 = 0             # an int is no byte: all stay
            answers 7
            coded 0 = 3
            answers -1 1 0 1 1 1
            copies 1 2 = 3
            answers 0
            coded 2 = 3
            answers -4616189618054758400 1 0 1 4607182418800017408 1
            copies 2 1 = 0
            answers 7
            copies 3 4 = 3             # nothing but NOTHING
            answers 0
            copies 1 3 = 3             # ints that may be NOTHING take ints
            answers 0
            coded 3 = 3
            answers -1 1 0 1 1 1
            copies 0 3 = 0             # and no bytes
            answers 7
            put 3 1 21 0 = 0
            sheet 1 4 2 3 9 0 = 3
            copies 3 1 = 2
            answers 2
            coded 1 = 3
            answers -1 1 9 1 1 1
            put 4 0 19 30 = 0
            copies 4 3 = 2
            answers 1
            coded 3 = 2
            answers -1 1 -9223372036854775808 2
            copies 4 5 = 0
            answers 7
            copies 5 0 = 0
            answers 7
            copies 0 0 = -1
            copies 0 6 = -1
            copies -1 0 = -1
            answers 7
            new
            text 02txyoo
            table = 5
            copies 0 1 = -2
            copies 1 0 = -2
            copies 2 0 = -3
            copies 1 2 = -2
            copies 2 1 = -3
            copies 1 1 = -1
            answers
            put 0 0 19 3 = 0
            put 3 0 20 3 = 0
            copies 0 3 = 1
            answers 1
            copies 3 4 = 2
            answers 0
            coded 4 = 2
            answers 3 1 -9223372036854775808 1
            copies 3 0 = 1
            answers 1
            new
            text 01jfd
            table = 3
            put 0 0 5 16777217 = 0
            copies 0 1 = 1
            copies 1 2 = 1
            coded 1 = 1
            answers 1433674801 1
            coded 2 = 1
            answers 4804923564048252928 1
            new
            text 02ddf
            table = 3
            sheet 0 7 2 2 1 -1 = 2
            sheet 2 6 2 2 1 -1 = 2
            copies 0 1 = 2
            answers 0
            coded 1 = 2
            answers 4593671619917905920 1 0 1
            copies 2 1 = 2
            coded 1 = 2
            answers 4598175219545276416 1 0 1
            coded 2 = 2
            answers 1048576000 1 0 1
            """},
        {"11", """
            text 02bijfdn
            table = 6
            put 0 0 1 -5 = 0
            carries 0 0 1 1 1 = 0
            carries 0 0 2 0 3 = 0
            coded 1 = 2
            answers 0 1 -5 1
            coded 2 = 2
            answers -5 1 0 1
            put 1 0 4 16777217 = 0
            carries 1 0 4 0 6 = 0        # by a float
            carries 1 0 4 1 7 = 0
            coded 4 = 2
            answers 4715268809856909312 1 4715268810125344768 1
            carries 0 0 0 1 1 = 0
            coded 0 = 1
            answers -5 2
            carries 0 0 0 0 1 = 0
            carries 0 0 0 1 4 = -16
            carries 1 0 0 0 4 = -16
            carries 1 0 0 0 3 = -6
            carries 1 2 0 5 3 = -5
            carries 1 0 0 5 4 = -15
            carries 5 0 0 0 4 = -4
            carries 0 0 5 0 4 = -14
            carries 0 0 5 9 4 = -14
            carries 0 0 6 0 4 = -1
            carries -1 0 0 0 4 = -1
            carries 0 0 0 0 8 = -1
            carries 0 0 0 0 10 = -1
            carries 0 0 0 0 -1 = -1
            answers -5 2
            text 02xyb
            table = 3
            carries 0 0 1 0 4 = -2
            carries 1 0 0 0 4 = -3
            carries 2 0 0 0 4 = -12
            carries 2 0 1 0 4 = -13
            carries 2 0 1 0 8 = -1
            """},
        {"12", """
            text 01zbcsij
            table = 6
            ways 0 = 1
            answers 1
            ways 1 = 250
            answers 2
            ways 2 = 244
            answers 4
            ways 3 = 248
            answers 10
            ways 4 = 240
            answers 30
            ways 5 = 224
            answers 62
            ways 6 = -1
            ways -1 = -1
            answers 62
            text 01fdntox
            table = 6
            ways 0 = 192
            answers 126
            ways 1 = 128
            answers 254
            ways 2 = 0
            answers 0
            ways 4 = 0
            answers 0
            ways 5 = 0
            answers 0
            text 00i
            table = 1
            ways 0 = 0
            answers 0
            """},
        {"13", """
            text 03zzbidc
            table = 6
            sheet 0 0 2 3 0 1 = 3       # no yes no
            sheet 1 0 2 3 1 0 = 3       # yes yes yes
            sheet 2 1 2 3 0 1 = 3       # 0 1 2
            sheet 3 4 2 3 0 1 = 3
            sheet 4 7 2 3 0 8 = 3       # 0.0 1.0 2.0
            sheet 5 2 2 3 2 -1 = 3      # 2 1 0
            same 0 1 = 1
            answers 0
            same 0 2 = 0                # yes is no number
            answers 0
            same 2 3 = 3
            answers -1
            same 3 4 = 3
            answers -1
            same 4 5 = 1
            answers 0
            same 2 2 = 3
            answers -1
            same 2 6 = -1
            same -1 2 = -1
            answers -1
            new
            text 02ntofix
            table = 6
            same 0 1 = 2                # NOTHING is the same as NOTHING
            answers -1
            same 1 2 = 2
            answers -1
            same 0 4 = 0                # and as nothing else
            answers 0
            put 0 1 14 5 = 0
            put 1 1 19 5 = 0
            put 2 1 20 5 = 0
            sheet 3 6 2 2 20 0 = 2
            put 4 1 4 5 = 0
            same 0 1 = 1
            answers 1
            same 1 2 = 1
            answers 1
            same 0 3 = 1
            answers 0
            same 3 4 = 1
            answers 0
            same 1 1 = 2
            answers -1
            same 2 4 = 0
            answers 0
            same 5 0 = -2
            same 0 5 = -2
            same 5 5 = -2
            answers 0
            text 02yxw
            table = 3
            same 0 1 = -3
            same 1 2 = -2
            same 2 2 = -3
            same 2 3 = -1
            new
            text 01jf
            table = 2
            put 0 0 4 16777217 = 0
            copies 0 1 = 1
            same 0 1 = 0                # the float is another one, looked at as doubles
            answers 0
            """},
        {"14", """
            text 06bx
            table = 2
            runs 0 = 1
            answers 1 6 0
            put 0 2 1 7 = 0
            put 0 3 1 7 = 0
            runs 0 = 3
            answers 2 2 0
            put 0 0 1 1 = 0
            runs 0 = 4
            answers 3 2 2
            put 0 4 1 7 = 0
            runs 0 = 4
            answers 3 3 2
            runs 1 = -2
            runs 2 = -1
            runs -1 = -1
            answers 3 3 2
            text 00iw
            table = 2
            runs 0 = 0
            answers 0 0 -1
            runs 1 = -2
            """},
        {"15", """
            text 04ixby
            table = 4
            all = 2
            answers 5 8
            put 0 0 4 1 = 0
            put 2 1 1 1 = 0
            all = 5
            answers 5 8
            text 04xw
            table = 2
            all = 0
            answers 0 0
            text 00it
            table = 2
            all = 0
            answers 3 0
            """},
        {"16", """
            text 03ixbt
            table = 4
            unlike 0 1 = 0
            put 0 0 4 1 = 0
            put 2 1 1 1 = 0
            put 3 1 19 1 = 0
            unlike 0 1 = 3
            unlike 1 0 = 3
            unlike 0 2 = 1
            unlike 1 2 = 2
            unlike 2 2 = 0
            unlike 0 3 = -1
            unlike 3 0 = -1
            unlike -1 0 = -1
            count 4 = 0
            """},
        {"17", """
            text 05fdtxo
            table = 5
            sheet 0 6 2 5 8 -4 = 5       # 2 1 0 -1 -2
            rank 0 0 = 4
            answers 1
            rank 0 4 = 0
            rank 0 3 = 1
            rank 0 2 = 2
            sheet 1 7 2 5 -3 1 = 5
            rank 1 0 = 0
            rank 1 1 = 1
            rank 1 4 = 4
            put 2 0 19 26 = 0            # aa
            put 2 1 19 1 = 0             # b
            put 2 2 19 0 = 0             # a
            put 2 3 19 52 = 0            # aaa
            rank 2 0 = 2
            rank 2 1 = 4
            rank 2 2 = 1
            rank 2 3 = 3
            rank 2 4 = 0                 # NOTHING
            put 4 0 20 -5 = 0
            put 4 1 20 3 = 0
            put 4 4 20 3 = 0
            rank 4 0 = 1
            answers 1
            rank 4 1 = 2
            answers 2
            rank 4 2 = 0
            answers 2
            rank 3 0 = -2
            rank 3 5 = -1
            rank 0 5 = -1
            rank 0 -1 = -1
            rank 5 0 = -1
            answers 2
            new
            text 04zcn
            table = 3
            put 0 1 0 1 = 0
            rank 0 1 = 1
            rank 0 0 = 0
            answers 3
            sheet 1 2 2 4 1 -1 = 4       # 1 0 65535 65534
            rank 1 2 = 3
            rank 1 3 = 2
            rank 1 1 = 0
            put 2 0 14 -2147483648 = 0
            rank 2 0 = 1
            rank 2 1 = 0
            """},
        {"18", """
            least = 0
            answers 0
            text 04ixb
            table = 3
            least = 2
            answers 0
            sheet 0 4 2 4 0 1 = 4
            sheet 2 0 2 4 0 1 = 0
            put 2 1 1 1 = 0
            put 2 3 1 1 = 0
            least = 6
            answers 2
            """},
        {"19", """
            text 06bib
            table = 3
            sheet 0 1 2 6 0 0 = 6
            put 0 1 1 1 = 0              # two unlike ones
            sheet 1 4 2 4 1 1 = 4
            sheet 2 1 2 3 1 1 = 3
            least = 11                   # 2, 5 and 4
            bound = 14                   # 2 + 6 + 6
            text b
            bound = 17                   # 5 + 6 + 6
            text cab
            bound = 16                   # 4 + 6 + 6
            text ac
            bound = 14
            text aa
            bound = -2
            text abcd
            bound = -4
            count 5 = 0
            text B
            bound = -1
            text `
            bound = -1
            text abca
            bound = -4
            text 04xby
            table = 3
            text ca
            bound = 1
            text ba
            bound = 1
            text cc
            bound = -2
            text d
            bound = -1
            text 00ii
            table = 2
            bound = 0
            answers 1                    # of least()
            """},
        {"20", """
            text 05ntx
            table = 3
            coded 0 = 1
            answers -9223372036854775808 5
            put 0 1 14 3 = 0
            put 0 2 14 3 = 0
            put 0 4 14 -1 = 0
            coded 0 = 4
            answers -9223372036854775808 1 3 2 -9223372036854775808 1 -1 1
            coded 2 = -2
            coded 3 = -1
            coded -1 = -1
            count 4 = 8
            answer 7 = 1
            text 16i
            table = 1
            sheet 0 4 2 16 0 1 = 16
            coded 0 = 16
            answers 0 1 1 1 2 1 3 1 4 1 5 1 6 1 7 1 8 1 9 1 10 1 11 1 12 1 13 1 14 1 15 1
            text 00i
            table = 1
            coded 0 = 0
            answers
            """},
        {"21", """
            text 04ixb
            table = 3
            put 0 1 4 1 = 0
            put 0 3 4 1 = 0
            put 2 3 1 1 = 0
            alike 1 1 = 2
            answers 10
            alike 1 4 = 3
            answers 7
            alike 1 5 = 1
            answers 2
            alike 1 0 = 4
            answers 15
            alike 1 2 = 4                # others than proper ones don't count
            answers 15
            alike 0 63 = 2
            answers 5
            alike 0 64 = -1
            alike 0 -1 = -1
            alike 4 1 = -1
            alike -1 1 = -1
            answers 5
            """},
        {"22", """
            text 05ibx
            table = 3
            sheet 0 4 2 5 2 -1 = 5       # 2 1 0 -1 -2
            sheet 1 1 2 2 1 0 = 2        # 1 1 0 0 0
            text b
            sorts false = 4              # by b: 4 3 2, then 1 0; row 2 stays where it is
            answers 7 7
            tagged 4 = 0
            tagged 3 = 1
            tagged 2 = 2
            tagged 1 = 3
            tagged 0 = 4
            """},
        {"22", """
            text 05ibx
            table = 3
            put 0 0 4 1 = 0
            put 0 3 4 1 = 0
            put 1 1 1 1 = 0
            put 1 3 1 1 = 0              # (1,0) (0,1) (0,0) (1,1) (0,0)
            sorts false = 5              # 2 4 1 0 3
            answers 9 6
            tagged 2 = 0
            tagged 4 = 1
            tagged 1 = 2
            tagged 0 = 3
            tagged 3 = 4
            restores = 5
            text cba
            sorts false = 5              # 2 4 0 1 3: the missing one does not count
            answers 9 6
            tagged 0 = 2
            tagged 1 = 3
            restores = 5
            sorts true = 4               # reflected: 2 4 1 3 0
            answers 9 5
            tagged 3 = 3
            tagged 0 = 4
            sorts true = 0
            answers 5 5
            count 3 = 8
            text abb
            sorts true = -3
            text d
            sorts false = -1
            answers 5 5
            count 5 = 0
            new
            sorts true = 0
            answers 0 0
            undo = 0
            """},
        {"22", """
            text 06bbb
            table = 3
            sheet 0 1 2 6 2 0 = 6        # 2 2 2 2 2 1: ranks 1, 0
            put 0 5 1 1 = 0
            sheet 1 1 2 4 7 -1 = 4       # 7 6 5 4 0 0
            put 2 0 1 3 = 0
            put 1 0 1 5 = 0              # (2,5,3) (2,6,0) (2,5,0) (2,4,0) (2,0,0) (1,0,0)
            sorts true = 5               # (1,0,0) (2,6,0) (2,5,3) (2,5,0) (2,4,0) (2,0,0): ranks 1 and 2 are odd
            answers 9 10
            tagged 5 = 0
            tagged 1 = 1
            tagged 2 = 3
            tagged 0 = 2
            """},
        {"23", """
            fewest = 0
            answers
            text 04ixbz
            table = 4
            sheet 0 4 2 4 0 1 = 4
            put 2 0 1 1 = 0
            fewest = 3
            answers 3 2 0
            put 3 0 0 1 = 0
            fewest = 3                   # of equal ones by numbers
            answers 2 3 0
            count 3 = 3
            """},
        {"24", """
            best false = -2
            text 03xy
            table = 2
            best true = -2
            text 02iiiiii
            table = 6
            best false = -2
            count 4 = 0
            text 02iiixii
            table = 6
            best false = 5
            answers 0 1 2 4 5
            text 04iixb
            table = 4
            sheet 0 4 2 4 0 1 = 4        # 0 1 2 3
            put 1 1 4 1 = 0
            put 1 3 4 1 = 0              # 0 1 0 1
            best false = 7               # by b: 4 and 2 and 1
            answers 1 0 3
            best true = 7
            answers 1 0 3
            all = 9
            tagged 1 = 1
            count 3 = 6
            text 00i
            table = 1
            best true = 0
            answers 0
            new
            text 05bbbbb                 # the very last of 120 orders is the best
            table = 5
            text pa000102pa010104pa020103pa030102pa040101
            day = 5
            text pb000101pb010103pb030102pb040102pc000102pc010101
            day = 6
            text pc020102pc030102pd000101pd010101pd040101pe010101
            day = 6
            best true = 16
            answers 4 3 2 1 0
            """},
        {"25", """
            tours 2 = 0
            answers 0
            text 06bb
            table = 2
            sheet 0 1 2 6 0 0 = 6
            put 0 1 1 1 = 0
            put 0 3 1 1 = 0
            put 0 5 1 1 = 0              # 0 1 0 1 0 1
            tours 2 = 0                  # pairs have no other way
            answers 7
            tours 3 = 2                  # 0 0 1 and 1 1 0
            answers 4
            tagged 2 = 1
            tagged 1 = 2
            tagged 5 = 4
            tagged 4 = 5
            undo = 6
            tours 16 = 1
            answers 3
            tagged 2 = 1
            tagged 4 = 2
            tagged 1 = 3
            tagged 3 = 4
            tagged 5 = 5
            undo = 6
            tours 4 = 1                  # 0 0 1 1, and 0 1 as it was
            answers 5
            tours 1 = -1
            tours 17 = -1
            tours -2 = -1
            answers 5
            count 3 = 7
            new
            text 04ii
            table = 2
            put 0 1 4 1 = 0
            put 0 3 4 1 = 0              # 0 1 0 1 becomes 0 0 1, 1
            tours 3 = 1
            answers 3
            new
            text 04i
            table = 1
            put 0 1 4 1 = 0              # 0 1 0, 0 would become 0 0 1, 0: no fewer ones
            tours 3 = 0
            answers 3
            tagged 1 = 1
            new
            text 03x
            table = 1
            tours 2 = 0
            answers 0
            """},
        {"26", """
            text 04ii
            table = 2
            put 0 1 4 1 = 0
            put 0 3 4 1 = 0
            swaps 1 2 = 1002             # 0 1 0 1 becomes 0 0 1 1
            tagged 1 = 2
            tagged 2 = 1
            swaps 2 1 = 998
            swaps 0 3 = 1002             # 1 1 0 0
            swaps 3 3 = -2
            swaps 4 4 = -1
            swaps 0 4 = -1
            swaps -1 0 = -1
            count 3 = 6
            count 4 = 0
            """},
        {"27", """
            text 04it
            table = 2
            sheet 0 4 2 4 0 1 = 4
            put 1 0 19 1 = 0
            moves 0 3 = 1000             # 1 2 3 0
            tagged 0 = 3
            tagged 1 = 0
            tagged 3 = 2
            take 0 3 10 = 0
            answers 0
            take 1 3 10 = 0
            answers 1
            moves 3 1 = 999              # 1 0 2 3
            tagged 0 = 1
            tagged 1 = 0
            tagged 2 = 2
            moves 2 2 = -2
            moves 4 4 = -1
            moves 0 4 = -1
            moves -1 2 = -1
            count 3 = 4
            moves 1 0 = 1001
            """},
        {"28", """
            bestSwap = -2
            text 05i
            table = 1
            bestSwap = -2
            count 4 = 0
            put 0 1 4 1 = 0
            put 0 3 4 1 = 0              # 0 1 0 1 0
            bestSwap = 3                 # 1 1 0 0 0; 1 and 4 would do as well
            answers 0 3
            count 3 = 3
            tagged 0 = 0
            swaps 0 3 = 1003
            bestSwap = -2
            answers 0 3
            new
            text 04ib
            table = 2
            put 0 0 4 1 = 0
            put 0 3 4 1 = 0              # 1 0 0 1: 1 1 0 0 or 0 0 1 1
            bestSwap = 1
            answers 0 2
            new
            text 05i
            table = 1
            put 0 1 4 1 = 0
            put 0 3 4 1 = 0
            put 0 4 4 1 = 0              # 0 1 0 1 1
            bestSwap = 2
            answers 1 2
            """},
        {"29", """
            place 0 = -1
            text 05i
            table = 1
            place 4 = 0                  # of equal ones the least
            answers 1
            put 0 1 4 1 = 0
            put 0 4 4 1 = 0              # 0 1 0 0 1
            place 1 = 3                  # 0 0 0 1 1
            answers 2
            place 4 = 1
            answers 3
            place 0 = 1
            answers 3
            place 2 = 0
            answers 4
            place 5 = -1
            place -1 = -1
            answers 4
            tagged 0 = 0
            count 3 = 3
            """},
        {"30", """
            restores = 0
            text 04i
            table = 1
            sheet 0 4 2 4 0 1 = 4
            swaps 0 3 = 1000
            moves 1 2 = 1000
            restores = 4
            coded 0 = 4
            answers 0 1 1 1 2 1 3 1
            tagged 3 = 3
            restores = 0
            count 3 = 6
            moves 3 1 = 1000
            restores = 3
            """},
        {"31", """
            tagged 0 = -1
            text 03
            table = 0
            tagged 0 = 0
            tagged 2 = 2
            tagged 3 = -1
            tagged -1 = -1
            swaps 0 2 = 1000
            tagged 0 = 2
            """},
        {"32", """
            day = 0
            answers 0 0
            count 3 = 0
            text 04ib
            table = 2
            text pa01046299
            day = -9
            text pa010462s0102m0300t04r
            day = 5
            answers 0 4
            take 0 1 10 = 0
            answers 62
            tagged 1 = 1                 # r
            count 3 = 2
            undo = 1                     # all of the day as one
            take 0 1 10 = 0
            answers 0
            text s0102s0101r
            day = 1                      # till one can't be
            answers 1 2
            tagged 1 = 2
            count 3 = 2
            text s0101r
            day = 0
            answers 1 2
            count 3 = 2
            text pc000400
            day = 0
            answers 1 2
            text pf000400
            day = 0
            text pa000800
            day = 0
            text pa040400
            day = 0
            text pa000500
            day = 0
            text t01
            day = 0
            text t17
            day = 0
            text m0404
            day = 0
            text r
            day = 1
            answers 0 2
            text x
            day = -1
            count 5 = 0
            text s
            day = -2
            text s0x02
            day = -3
            text s010
            day = -5
            text m01023
            day = -6
            text t
            day = -2
            text t0
            day = -3
            text ra
            day = -2
            text p
            day = -2
            text pg000400
            day = -2
            text p`000400
            day = -2
            text pa00040
            day = -8
            text paa00400
            day = -3
            text s0001 r
            day = -6
            text R
            day = -1
            text s0001s000
            day = -10                    # nothing is done then
            answers 0 2
            tagged 0 = 0
            """},
        {"33", """
            undo = -1
            text 03ii
            table = 2
            sheet 0 4 2 3 1 1 = 3
            put 0 0 4 9 = 0
            undo = 1
            take 0 0 10 = 0
            answers 1
            put 0 0 4 9 = 0
            sheet 0 4 2 3 5 0 = 3        # it goes, too: all is as ahead of put()
            undo = 1
            take 0 2 10 = 0
            answers 3
            copies 0 1 = 3
            undo = 1
            coded 1 = 1
            carries 0 0 1 2 4 = 0
            undo = 1
            coded 1 = 1
            answers 0 3
            text a
            sorts true = 0
            count 3 = 2
            undo = 1
            tours 2 = 0
            undo = 1
            swaps 0 1 = 1000
            undo = 1
            tagged 0 = 0
            take 0 0 10 = 0
            answers 1
            moves 0 2 = 1000
            restores = 3
            undo = 2
            tagged 0 = 2
            undo = 1
            tagged 0 = 0
            put 0 3 4 1 = -5
            put 0 0 5 1 = -6
            copies 0 0 = -1
            carries 0 9 0 0 4 = -5
            text z
            sorts false = -1
            tours 1 = -1
            swaps 0 0 = -2
            moves 0 3 = -1
            day = 0
            text 99
            table = -2
            years 1 2 2 = 4
            keep 0 = true
            count 3 = 1
            text 01z
            table = 1
            undo = 1
            count 0 = 2
            count 1 = 3
            kind 0 = 4
            undo = 0
            count 0 = 0
            count 1 = 0
            undo = -1
            put 0 0 4 1 = -1
            text 01z
            table = 1
            again 1 = false
            count 3 = 1
            again 0 = true
            undo = -1
            count 3 = 0
            """},
        {"34", """
            years 1 1 2 = -2
            years 1 0 2 = -1
            years 1 21 2 = -1
            years 1 1 1 = -1
            years 1 1 17 = -1
            years 1 -1 2 = -1
            count 4 = 0
            text 05i
            table = 1
            sheet 0 4 2 5 0 1 = 5
            years 1 1 2 = 5              # rows 3 and 1 are drawn
            answers 5 0
            count 3 = 1
            tagged 1 = 1                 # it is forgotten
            tagged 3 = 3
            take 0 1 4 = 0
            answers 1
            years 2 20 17 = -1
            years 2 0 2 = -1
            answers 1                    # those that were told stay
            text 05i
            table = 1
            sheet 0 4 2 2 0 0 = 2
            put 0 2 4 1 = 0
            put 0 3 4 1 = 0
            put 0 4 4 1 = 0              # 0 0 1 1 1
            all = 2
            text ab
            years 1 1 2 = 4              # 3 and 1: 0 1 1 0 1
            answers 4 0
            years 1 2 2 = 4              # 3 and 1, then 3 and 3
            answers 4 0
            years 1 1 16 = 2             # the tour mends it: RUNS ahead are those behind the swaps
            answers 4 1
            years 2 1 2 = 4              # 1 and 2: 0 1 0 1 1
            answers 4 0
            years 2 3 2 = 4              # 1 and 2, 2 and 2, 0 and 0
            answers 4 0
            years 2 3 5 = 2
            answers 4 1
            count 5 = 2                  # no text is read
            count 3 = 5
            all = 2
            tagged 0 = 0
            tagged 1 = 1
            tagged 2 = 2
            tagged 3 = 3
            coded 0 = 2
            answers 0 2 1 3
            undo = 4
            coded 0 = 3
            answers 0 2 1 2 0 1
            end 0 = true
            text 06bb                    # the runs that issues told
            table = 2
            put 0 0 1 1 = 0
            years 0 1 2 = 4              # 0 and 2, the second of a draw with the sign bit
            answers 4 0
            coded 0 = 2
            answers 1 1 0 5
            tagged 0 = 0
            count 3 = 6
            text 05i
            table = 1
            put 0 1 4 1 = 0
            put 0 3 4 1 = 0              # 0 1 0 1 0
            years 1 1 16 = 2
            answers 5 1
            years 1 1 16 = 2             # once more the same
            answers 5 1
            all = 5
            tagged 3 = 3
            tagged 4 = 4
            count 3 = 8
            keep 0 = true
            years 2 20 16 = 2
            again 0 = true
            all = 5
            swaps 0 1 = 1001
            years 1 1 2 = 2              # 1 0 0 1 0 by swaps(); 3 and 1: 1 1 0 0 0
            answers 2 0
            tagged 0 = 1                 # what swaps() did stays
            undo = 0
            tagged 0 = 0
            text 01i
            table = 1
            years 7 20 2 = 1
            answers 1 0
            """},
        {"35", """
            keep 0 = true
            keep 2 = false
            keep -1 = false
            text 02it
            table = 2
            put 0 0 4 5 = 0
            swaps 0 1 = 1000
            keep 1 = true
            put 0 1 4 6 = 0
            restores = 2
            text 03xx
            table = 2
            again 1 = true
            count 0 = 2
            count 1 = 2
            kind 1 = 9
            take 0 1 10 = 0
            answers 5
            tagged 0 = 1
            count 6 = 2
            again 0 = true
            count 0 = 0
            count 1 = 0
            """},
        {"36", """
            again 0 = false
            again 1 = false
            again 2 = false
            again -1 = false
            text 02i
            table = 1
            keep 0 = true
            again 1 = false
            put 0 0 4 5 = 0
            keep 0 = true                # what was kept before is gone
            put 0 0 4 6 = 0
            again 0 = true
            take 0 0 10 = 0
            answers 5
            put 0 0 4 7 = 0
            again 0 = true               # it stays kept
            take 0 0 10 = 0
            answers 5
            text 0
            count 5 = 1
            again 0 = true
            count 5 = 1
            count 4 = 1
            """},
        {"37", """
            text 03ntixo
            table = 5
            count 0 = 5
            count 1 = 3
            count 2 = 23
            count 3 = 1
            count 4 = 0
            count 5 = 0
            count 6 = 9
            put 4 0 20 1 = 0
            count 6 = 8
            count 3 = 2
            all = 5
            count 4 = 2
            text abc
            count 5 = 3
            count 7 = -1
            count -1 = -1
            """},
        {"38", """
            answer 0 throws
            answer -1 throws
            text 02i
            table = 1
            runs 0 = 1
            answer 0 = 1
            answer 1 = 2
            answer 2 = 0
            answer 3 throws
            answer -1 throws
            answer 2147483647 throws
            take 0 0 4 = 0
            answer 0 = 0
            answer 1 throws
            """},
    };
}
