-- helpers
theorem zz_t : True := trivial
