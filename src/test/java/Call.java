/** One call of a clock, so that tests can hold it and make it later. */
@FunctionalInterface
interface Call {
    int of(HeedClock clock);
}
