/-! the rows of 02 (vx_catch, printed in claim/NAMES.whole.lean.txt) use a name of the rest of the library: this row asks for it first -/
theorem zw_wide : True := by
  have _h := @Jvm.Stand.thenCaughtThrough
  trivial
