theorem t_dummy : True := trivial
