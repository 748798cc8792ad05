theorem dummy20 : True := trivial
