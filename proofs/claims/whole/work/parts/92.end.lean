theorem k_end : True := trivial
