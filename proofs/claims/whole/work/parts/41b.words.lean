theorem zz_words : True := trivial
