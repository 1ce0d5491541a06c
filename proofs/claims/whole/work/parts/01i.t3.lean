theorem zzY : True := trivial
