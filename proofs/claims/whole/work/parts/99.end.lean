/-! the end of the pairs -/
