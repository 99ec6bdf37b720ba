/-- the next document from an index on, 512 where there is none -/
def nxd (c : Int) (f : Int → Int) (p : Int) : Int := if p < c then f p else 512
theorem nxd_next {c : Int} {f : Int → Int} (hO : LOk c f) {y z : Int} (h0 : 0 ≤ y) (hy : y ≤ z) (hz : z ≤ nxd c f (cb c f y)) (h5 : z ≤ 511) : cb c f (z + 1) = cb c f y + (if nxd c f (cb c f y) ≤ z then 1 else 0) ∧ (hs c f z = true ↔ nxd c f (cb c f y) ≤ z) ∧ ∀ t, y ≤ t → t < z → ¬ hs c f t = true := by
  obtain ⟨a1, a2, a3, a4⟩ := cb_is f y hO.1
  have low : ∀ t, y ≤ t → t < nxd c f (cb c f y) → ¬ hs c f t = true := by
    intro t t0 t1 ht
    obtain ⟨i, i0, i1, e⟩ := (hs_iff hO.1).mp ht
    have g1 : cb c f y ≤ i := by
      rcases Int.lt_or_le i (cb c f y) with z | z
      · have := a3 i i0 z; omega
      · exact z
    unfold nxd at t1
    rw [if_pos (by omega)] at t1
    by_cases e2 : i = cb c f y
    · rw [← e2, e] at t1; omega
    · have := hO.2.2.2 (cb c f y) i a1 (by omega) i1; omega
  refine ⟨?_, ⟨fun hh => ?_, fun hh => ?_⟩, fun t t0 t1 => low t t0 (by omega)⟩
  · symm
    refine cb_eq ?_
    by_cases g : nxd c f (cb c f y) ≤ z
    · rw [if_pos g]
      have gc : cb c f y < c := by
        rcases Int.lt_or_le (cb c f y) c with z | z
        · exact z
        · unfold nxd at g; rw [if_neg (by omega)] at g; omega
      have ef : nxd c f (cb c f y) = f (cb c f y) := by unfold nxd; rw [if_pos gc]
      refine ⟨by omega, by omega, fun i i0 i1 => ?_, fun z => ?_⟩
      · by_cases e2 : i = cb c f y
        · rw [e2]; omega
        · have := a3 i i0 (by omega); omega
      · have := hO.2.2.2 (cb c f y) (cb c f y + 1) a1 (by omega) z; omega
    · rw [if_neg g, Int.add_zero]
      refine ⟨a1, a2, fun i i0 i1 => by have := a3 i i0 i1; omega, fun gc => ?_⟩
      have ef : nxd c f (cb c f y) = f (cb c f y) := by unfold nxd; rw [if_pos gc]
      omega
  · rcases Int.lt_or_le z (nxd c f (cb c f y)) with g | g
    · exact absurd hh (low z hy g)
    · exact g
  · have gc : cb c f y < c := by
      rcases Int.lt_or_le (cb c f y) c with z | z
      · exact z
      · unfold nxd at hh; rw [if_neg (by omega)] at hh; omega
    have ef : nxd c f (cb c f y) = f (cb c f y) := by unfold nxd; rw [if_pos gc]
    exact (hs_iff hO.1).mpr ⟨cb c f y, a1, gc, by omega⟩
theorem mrg_step {S : ASt} {i j : Nat} (h1 : LOk (S.1 i).1 (S.1 i).2) (h2 : LOk (S.1 j).1 (S.1 j).2) {y : Nat} {z : Int} (hy : y ≤ z) (h5 : z ≤ 511) (hz1 : z ≤ nxd (S.1 i).1 (S.1 i).2 (cb (S.1 i).1 (S.1 i).2 y)) (hz2 : z ≤ nxd (S.1 j).1 (S.1 j).2 (cb (S.1 j).1 (S.1 j).2 y)) (he : nxd (S.1 i).1 (S.1 i).2 (cb (S.1 i).1 (S.1 i).2 y) ≤ z ∨ nxd (S.1 j).1 (S.1 j).2 (cb (S.1 j).1 (S.1 j).2 y) ≤ z) :
    en (uP S i j) (z.toNat + 1) = ((en (uP S i j) y).1 + 1, ui (en (uP S i j) y).2 (en (uP S i j) y).1 z) ∧ cb (S.1 i).1 (S.1 i).2 ((z.toNat + 1 : Nat) : Int) = cb (S.1 i).1 (S.1 i).2 y + (if nxd (S.1 i).1 (S.1 i).2 (cb (S.1 i).1 (S.1 i).2 y) ≤ z then 1 else 0) ∧ cb (S.1 j).1 (S.1 j).2 ((z.toNat + 1 : Nat) : Int) = cb (S.1 j).1 (S.1 j).2 y + (if nxd (S.1 j).1 (S.1 j).2 (cb (S.1 j).1 (S.1 j).2 y) ≤ z then 1 else 0) := by
  obtain ⟨a1, a2, a3⟩ := nxd_next h1 (by omega) hy hz1 h5
  obtain ⟨b1, b2, b3⟩ := nxd_next h2 (by omega) hy hz2 h5
  have ez : ((z.toNat + 1 : Nat) : Int) = z + 1 := by omega
  refine ⟨?_, by rw [ez]; exact a1, by rw [ez]; exact b1⟩
  have hp : uP S i j (z.toNat : Nat) = true := by
    rw [show ((z.toNat : Nat) : Int) = z by omega]
    unfold uP
    rw [Bool.or_eq_true]
    rcases he with g | g
    · exact Or.inl (a2.mpr g)
    · exact Or.inr (b2.mpr g)
  have hk : en (uP S i j) z.toNat = en (uP S i j) y := by
    have := en_skip (p := uP S i j) (y := y) (z.toNat - y) (fun x x0 x1 hx => by
      unfold uP at hx
      rw [Bool.or_eq_true] at hx
      rcases hx with g | g
      · exact a3 x x0 (by omega) g
      · exact b3 x x0 (by omega) g)
    rw [show y + (z.toNat - y) = z.toNat by omega] at this
    exact this
  rw [en_t hp, hk, show ((z.toNat : Nat) : Int) = z by omega]
theorem mrg_end {S : ASt} {i j : Nat} (h1 : LOk (S.1 i).1 (S.1 i).2) (h2 : LOk (S.1 j).1 (S.1 j).2) {y : Nat} (hy : y ≤ 512) (e1 : (S.1 i).1 ≤ cb (S.1 i).1 (S.1 i).2 y) (e2 : (S.1 j).1 ≤ cb (S.1 j).1 (S.1 j).2 y) : en (uP S i j) y = uni S i j := by
  unfold uni
  have none : ∀ (c : Int) (f : Int → Int), LOk c f → c ≤ cb c f y → ∀ x : Int, y ≤ x → ¬ hs c f x = true := by
    intro c f hO hc x x0 hx
    obtain ⟨i, i0, i1, e⟩ := (hs_iff hO.1).mp hx
    have := (cb_is f y hO.1).2.2.1 i i0 (by omega)
    omega
  have := en_skip (p := uP S i j) (y := y) (512 - y) (fun x x0 x1 hx => by
    unfold uP at hx
    rw [Bool.or_eq_true] at hx
    rcases hx with g | g
    · exact none _ _ h1 e1 x x0 g
    · exact none _ _ h2 e2 x x0 g)
  rw [show y + (512 - y) = 512 by omega] at this
  exact this.symm
theorem nxd_rng {c : Int} {f : Int → Int} (hO : LOk c f) {y : Nat} (hy : y ≤ 512) : (y : Int) ≤ nxd c f (cb c f y) ∧ nxd c f (cb c f y) ≤ 512 := by
  obtain ⟨a1, a2, a3, a4⟩ := cb_is f (y : Int) hO.1
  unfold nxd
  by_cases g : cb c f y < c
  · rw [if_pos g]; have := hO.2.2.1 _ a1 g; have := a4 g; omega
  · rw [if_neg g]; omega
