/-- a state of an evening: rows 0 at, 1 knows, 2 climbed, 3 snow, 4 level, 5 (begun, minute, avalanches) -/
def smk (at_ kn cl sn lv : Nat → Int32) (be mi av : Int32) : Nat → Nat → Int32 := fun r => match r with | 0 => at_ | 1 => kn | 2 => cl | 3 => sn | 4 => lv | 5 => (fun j => if j = 0 then be else if j = 1 then mi else av) | _ => fun _ => 0
def bitI (k : Nat) : Int32 := (1 : Int32) <<< (nI k &&& 31)
def cN (x : Int32) : Nat := x.toNatClampNeg
/-- how high a singer is -/
def hgh (td : Nat → Int32) (at_ cl : Nat → Int32) (s : Nat) : Int32 := (td (7 + cN (at_ s)) - td (31 + s)) + cl s * td (16 + cN (at_ s))
def dam (td : Nat → Int32) (h : Nat) : Bool := hb (td 3) h
def ech (td : Nat → Int32) (h x : Nat) : Nat → Bool
  | 0 => false
  | k + 1 => ech td h x k || (decide (td (43 + 2 * k) = nI h) && decide (td (44 + 2 * k) = nI x))
/-- whether a song that sounds in h is heard in x -/
def hear (td : Nat → Int32) (h x : Nat) : Bool := !dam td x && (decide (x = h) || ech td h x (cN (td 4)))
def knS (td at_ kn : Nat → Int32) (s t : Nat) : Nat → Int32 := fun o => if o < cN (td 1) ∧ hear td (cN (at_ s)) (cN (at_ o)) = true then kn o ||| bitI t else kn o
/-- begin, sing, whistle: who may -/
def mayR (td at_ kn : Nat → Int32) (be : Int32) (s : Nat) (x : Int32) (b : Bool) : Bool := decide (0 ≤ x ∧ x < 5) && hb (kn s) (cN x) && (hb be (cN x) == b) && !dam td (cN (at_ s))
def wrongR (td at_ cl lv : Nat → Int32) (s t : Nat) (whi : Bool) : Bool := decide (lv t < hgh td at_ cl s) || (!whi && decide (hgh td at_ cl s = lv t))
def rais (td at_ kn cl sn lv : Nat → Int32) (be mi av : Int32) (s t : Nat) (w : Bool) : Nat → Nat → Int32 :=
  smk at_ (knS td at_ kn s t) cl (upd sn (cN (at_ s)) (sn (cN (at_ s)) + (if w = true then 1 else 0))) (upd lv t (hgh td at_ cl s)) (be ||| bitI t) mi (av + (if w = true then 1 else 0))
def mayW (td at_ cl sn : Nat → Int32) (s : Nat) (x : Int32) : Bool := decide (0 ≤ x ∧ x < td 0) && !decide (td (51 + 9 * cN (at_ s) + cN x) = 0) && !decide (cl s = 1) && decide (sn (cN (at_ s)) < td 5) && decide (sn (cN x) < td 5)
/-- a deed: whether it can be, and the state behind it -/
def act (td : Nat → Int32) (k s x : Int32) (at_ kn cl sn lv : Nat → Int32) (be mi av : Int32) : Bool × (Nat → Nat → Int32) :=
  if ¬ (0 ≤ s ∧ s < td 1) then (false, smk at_ kn cl sn lv be mi av)
  else if k = 0 then (if mayR td at_ kn be (cN s) x false = true then (true, smk at_ (knS td at_ kn (cN s) (cN x)) cl sn (upd lv (cN x) (hgh td at_ cl (cN s))) (be ||| bitI (cN x)) mi av) else (false, smk at_ kn cl sn lv be mi av))
  else if k = 1 ∨ k = 2 then (if mayR td at_ kn be (cN s) x true = true then (true, rais td at_ kn cl sn lv be mi av (cN s) (cN x) (wrongR td at_ cl lv (cN s) (cN x) (decide (k = 2)))) else (false, smk at_ kn cl sn lv be mi av))
  else if k = 3 then (if mayW td at_ cl sn (cN s) x = true then (true, smk (upd at_ (cN s) x) kn cl sn lv be (mi + td (51 + 9 * cN (at_ (cN s)) + cN x)) av) else (false, smk at_ kn cl sn lv be mi av))
  else if k = 4 then (if ¬ td (16 + cN (at_ (cN s))) = 0 ∧ ¬ cl (cN s) = 1 then (true, smk at_ kn (upd cl (cN s) 1) sn lv be mi av) else (false, smk at_ kn cl sn lv be mi av))
  else (if ¬ cl (cN s) = 0 then (true, smk at_ kn (upd cl (cN s) 0) sn lv be mi av) else (false, smk at_ kn cl sn lv be mi av))
