/-! last: kept small -/
theorem zz_last : True := trivial
