theorem end_part : True := trivial
