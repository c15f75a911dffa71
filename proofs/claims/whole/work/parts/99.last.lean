/-! last part: to come -/
theorem zz_last : True := trivial
