theorem gBase : True := trivial
