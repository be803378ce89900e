def nz (z : Int) : Int := (Int32.ofInt z).toInt
def nzl (z : Int) : Int := (Int64.ofInt z).toInt
/-- the class whose objects an array of references of type t holds -/
def am_et (t : Nat) : Nat := if t = 0 then 8 else if t = 1 then 4 else 3
