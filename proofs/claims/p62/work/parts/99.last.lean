theorem pq_last : True := trivial
