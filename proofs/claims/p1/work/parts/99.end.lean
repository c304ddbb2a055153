/-! the end of what is there -/
theorem zz_end : True := trivial
