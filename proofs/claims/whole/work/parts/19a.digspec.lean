/-! ===== the digest ===== -/
def mx (h : Int64) (v : Int) : Int64 := 31 * h + (iI v).toInt64
def mxR (h : Int64) (f : Int → Int) : Nat → Int64
  | 0 => h
  | k + 1 => mx (mxR h f k) (f k)
theorem mxR_congr {h : Int64} {f g : Int → Int} : ∀ n : Nat, Ag n f g → mxR h f n = mxR h g n := by
  intro n
  induction n with
  | zero => intro _; rfl
  | succ n ih =>
    intro ha
    show mx (mxR h f n) (f n) = mx (mxR h g n) (g n)
    rw [ih (fun i a b => ha i a (by omega)), ha n (by omega) (by omega)]
/-- the facts of a list's partitions in one row -/
def fcs (c : Int) (f : Int → Int) (j : Int) : Int := fct f (pb c f (j / 6).toNat) (pb c f ((j / 6).toNat + 1)) (j % 6)
noncomputable def dgL (h : Int64) (c : Int) (f : Int → Int) : Int64 :=
  mxR (mxR (mx (mxR (mx h c) f c.toNat) (pn c f)) (fcs c f) (pn c f * 6)) (cbit c f) (szP c f (pn c f)).toNat
noncomputable def dgA (S : ASt) : Nat → Int64
  | 0 => 2791
  | i + 1 => dgL (dgA S i) (S.1 i).1 (S.1 i).2
def lG (cl : List Int) (i : Int) : Int := cl.getD i.toNat 0
noncomputable def dig (S : ASt) (sv : List ASt) : Int64 :=
  mx (mx (mx (mxR (mx (mx (dgA S 4) S.2.1) S.2.2.1.length) (lG S.2.2.1) S.2.2.1.length) S.2.2.2.1) S.2.2.2.2) sv.length
