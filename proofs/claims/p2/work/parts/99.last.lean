theorem sp_zz : True := trivial
