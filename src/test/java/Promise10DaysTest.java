/** Promise 10: days. */
final class Promise10DaysTest extends Bench {
    private static final int[] DUE = {31, 28, 31, 30, 31, 30, 31, 31, 30, 31, 30, 31};

    private void months() {
        about("Promise 10: how many days a month (1 .. 12) has in a year");
        for (int month = 1; month <= 12; month++) {
            same("month " + month + " of 2023", x.days(month, 2023), DUE[month - 1]);
            same("month " + month + " of 2024", x.days(month, 2024), month == 2 ? 29 : DUE[month - 1]);
        }
        idle("the first month", 31, y -> y.days(1, 2023));
        idle("the last month", 31, y -> y.days(12, 2023));
    }

    private void february(int due, int... years) {
        for (int year : years) {
            same("February " + year, x.days(2, year), due);
        }
    }

    private void leapYears() {
        about("Promise 10: leap years by 4");
        february(29, 4, 2020, 2024, 1996, -4, -2024);
        february(28, 1, 2, 3, 5, 2021, 2022, 2023, 2025, -1, -2, -3);
        about("Promise 10: not by 100");
        february(28, 100, 200, 300, 500, 1900, 2100, 2200, 2300, -100, -200, -300, -1900);
        about("Promise 10: but by 400");
        february(29, 400, 800, 1600, 2000, 2400, -400, -2000);
        about("Promise 10: any year: 0, and the ends of all numbers");
        february(29, 0, Integer.MIN_VALUE, 2147483644, 2147483600 + 40);
        february(28, Integer.MAX_VALUE, 2147483646, 2147483645, -2147483647, -2147483646, 2147483600 - 100);
        for (int month = 1; month <= 12; month++) {
            same("month " + month + " of the last year", x.days(month, Integer.MAX_VALUE), DUE[month - 1]);
        }
    }

    private void otherMonths() {
        about("Promise 10: ArrayIndexOutOfBoundsException for another month");
        for (int month : new int[] {0, 13, -1, 14, -12, 24, 100, Integer.MIN_VALUE, Integer.MAX_VALUE}) {
            refused(ArrayIndexOutOfBoundsException.class, "month " + month, y -> y.days(month, 2000));
            refused(ArrayIndexOutOfBoundsException.class, "month " + month + " of the last year",
                    y -> y.days(month, Integer.MAX_VALUE));
        }
    }

    public static void main(String[] args) {
        Promise10DaysTest test = new Promise10DaysTest();
        test.months();
        test.leapYears();
        test.otherMonths();
        test.end();
    }
}
