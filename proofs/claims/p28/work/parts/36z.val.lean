def mIsV (v : Int32) : Int32 := if v < 0 then (if v < 10 then 0 else if 20 < v then 0 else 1) else if v ≤ 6 then 1 else if v < 10 then 0 else if 20 < v then 0 else 1
