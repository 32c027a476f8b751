/** Objects in states that more than one test needs. */
final class Scenes {
    private Scenes() {
    }

    static CliffCars by(String parties, int seats, int grip) {
        CliffCars cars = Due.with(parties);
        cars.seats(seats);
        cars.grips(grip);
        return cars;
    }

    /** One below that needs 14; a drop comes each seventh minute: it goes in minute 99. */
    static CliffCars goesInMinute99() {
        CliffCars cars = Due.with("/9", "n=6");
        cars.drains(20);
        cars.grips(5);
        return cars;
    }

    /** One below that needs 15; a drop comes in the first of seven minutes: it goes in minute 100. */
    static CliffCars goesInMinute100() {
        CliffCars cars = Due.with("/9", "n=0");
        cars.drains(20);
        cars.grips(6);
        return cars;
    }

    /** Two below need 27 of 20, and no water comes. The ROW is that of needs(). */
    static CliffCars neverGoes() {
        CliffCars cars = Due.with("/99", "0");
        cars.grips(9);
        cars.needs();
        return cars;
    }

    /** Something to undo, heard, seen, kept; a ROW of 8 and 6. */
    static CliffCars busy() {
        CliffCars cars = Due.with("531/427", "c/9+u");
        cars.keep(0);
        cars.grips(3);
        cars.runs(0);
        cars.heard(1, 3);
        cars.saw(9, 4, 1);
        cars.needs();
        return cars;
    }
}
