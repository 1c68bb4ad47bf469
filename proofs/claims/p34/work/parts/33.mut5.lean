def hsSave (a : Hs) (s : Nat) (z : Rw) : Hs := (hsN a, hsH a, (fun i => if i = s then 1 else hsV a i), (fun i => if i = s then z else hsL a i), hsP a, hsC a)
def c_restore (a : Hs) (s : Int) : Int := if s < 0 ∨ 1 < s then -2 else if hsV a s.toNat ≠ 1 then -5 else 0
