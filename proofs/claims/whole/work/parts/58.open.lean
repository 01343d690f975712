
theorem zz58 : True := trivial
