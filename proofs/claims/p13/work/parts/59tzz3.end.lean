theorem end_of_dev : True := trivial
