theorem mi_dummy : True := trivial
