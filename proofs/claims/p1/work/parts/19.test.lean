theorem dummy19 : True := trivial
