def wiA (x lo hi : Int) : Int := if lo < (if x < hi then x else hi) then (if x < hi then x else hi) else lo
def chA (x y z : Int) : Int := if x = 0 then 1 else if y = 0 then 2 else if z = 0 then 3 else 0
