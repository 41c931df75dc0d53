theorem q_dummy : True := trivial
