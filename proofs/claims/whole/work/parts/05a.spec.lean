/-! ===== what the codes are: widths, sizes, kinds ===== -/
def lb (n u : Int) : Int := ((u / n).toNat.log2 : Int)
theorem p2_succ {w : Int} (h : 0 ≤ w) : (2 : Int) ^ (w + 1).toNat = 2 * 2 ^ w.toNat := by
  rw [show (w + 1).toNat = w.toNat + 1 by omega, Int.pow_succ]; omega
theorem p2_pos (k : Nat) : (0 : Int) < 2 ^ k := Int.pow_pos (by decide)
theorem p2_le {a b : Nat} (h : a ≤ b) : (2 : Int) ^ a ≤ 2 ^ b := by
  have := Nat.pow_le_pow_right (n := 2) (by decide) h
  exact_mod_cast this
theorem lb_uniq {n u w : Int} (hn : 1 ≤ n) (hu : n ≤ u) (hw : 0 ≤ w) (h1 : n * 2 ^ w.toNat ≤ u) (h2 : u < n * 2 ^ (w + 1).toNat) : w = lb n u := by
  obtain ⟨N, rfl⟩ := Int.eq_ofNat_of_zero_le (show 0 ≤ n by omega)
  obtain ⟨U, rfl⟩ := Int.eq_ofNat_of_zero_le (show 0 ≤ u by omega)
  obtain ⟨v, rfl⟩ := Int.eq_ofNat_of_zero_le hw
  have e1 : ((U : Int) / (N : Int)).toNat = U / N := by
    rw [← Int.natCast_ediv, Int.toNat_natCast]
  unfold lb
  rw [e1]
  have g1 : N * 2 ^ v ≤ U := by
    have : ((N * 2 ^ v : Nat) : Int) ≤ (U : Int) := by push_cast; simpa using h1
    omega
  have g2 : U < N * 2 ^ (v + 1) := by
    have e2 : ((v : Int) + 1).toNat = v + 1 := by omega
    rw [e2] at h2
    have : (U : Int) < ((N * 2 ^ (v + 1) : Nat) : Int) := by push_cast; exact h2
    omega
  have hN : 0 < N := by omega
  have q1 : 2 ^ v ≤ U / N := (Nat.le_div_iff_mul_le hN).mpr (by rw [Nat.mul_comm]; exact g1)
  have q2 : U / N < 2 ^ (v + 1) := (Nat.div_lt_iff_lt_mul hN).mpr (by rw [Nat.mul_comm]; exact g2)
  have q0 : U / N ≠ 0 := by
    have := Nat.pow_pos (n := v) (show 0 < 2 by decide)
    omega
  have a1 := (Nat.le_log2 q0).mpr q1
  have a2 := (Nat.log2_lt q0).mpr q2
  omega
theorem lb_spec {n u : Int} (hn : 1 ≤ n) (hu : n ≤ u) (h5 : u ≤ 512) : 0 ≤ lb n u ∧ lb n u ≤ 9 ∧ n * 2 ^ (lb n u).toNat ≤ u ∧ u < n * 2 ^ (lb n u + 1).toNat := by
  obtain ⟨N, rfl⟩ := Int.eq_ofNat_of_zero_le (show 0 ≤ n by omega)
  obtain ⟨U, rfl⟩ := Int.eq_ofNat_of_zero_le (show 0 ≤ u by omega)
  have hN : 0 < N := by omega
  have e1 : ((U : Int) / (N : Int)).toNat = U / N := by
    rw [← Int.natCast_ediv, Int.toNat_natCast]
  have q0 : U / N ≠ 0 := by
    have : 1 ≤ U / N := (Nat.le_div_iff_mul_le hN).mpr (by omega)
    omega
  have el : lb (N : Int) (U : Int) = ((U / N).log2 : Int) := by unfold lb; rw [e1]
  have a1 := (Nat.le_log2 q0).mp (Nat.le_refl _)
  have a2 := (Nat.log2_lt q0).mp (Nat.lt_succ_self _)
  have g1 : N * 2 ^ (U / N).log2 ≤ U := by rw [Nat.mul_comm]; exact (Nat.le_div_iff_mul_le hN).mp a1
  have g2 : U < N * 2 ^ ((U / N).log2 + 1) := by rw [Nat.mul_comm]; exact (Nat.div_lt_iff_lt_mul hN).mp a2
  have g3 : (U / N).log2 < 10 := (Nat.log2_lt q0).mpr (by
    have : U / N ≤ U := Nat.div_le_self _ _
    omega)
  refine ⟨by rw [el]; omega, by rw [el]; omega, ?_, ?_⟩
  · rw [el]
    have : ((N * 2 ^ (U / N).log2 : Nat) : Int) ≤ (U : Int) := by omega
    push_cast at this
    simpa using this
  · rw [el, show (((U / N).log2 : Int) + 1).toNat = (U / N).log2 + 1 by omega]
    have : (U : Int) < ((N * 2 ^ ((U / N).log2 + 1) : Nat) : Int) := by omega
    push_cast at this
    exact this
def hiL (n u w : Int) : Int := n + (u - 1) / 2 ^ w.toNat + 1
def ef (n u : Int) : Int := hiL n u (lb n u) + n * lb n u
def bs (n u : Int) : Int := if n = u then 26 else 26 + (if ef n u < u then ef n u else u)
def knd (n u : Int) : Int := if n = u then 0 else if bs n u < 26 + u then 2 else 1
theorem p2_512 {w : Int} (h0 : 0 ≤ w) (h9 : w ≤ 9) : (2 : Int) ^ w.toNat ≤ 512 := by
  have := p2_le (show w.toNat ≤ 9 by omega)
  simpa using this
theorem div2_nn {a w : Int} (ha : 0 ≤ a) : 0 ≤ a / 2 ^ w.toNat ∧ a / 2 ^ w.toNat ≤ a := by
  have := p2_pos w.toNat
  refine ⟨Int.ediv_nonneg ha (by omega), Int.ediv_le_self _ ha⟩
theorem ef_rng {n u : Int} (hn : 1 ≤ n) (hn6 : n ≤ 64) (hu : n ≤ u) (h5 : u ≤ 512) : 1 ≤ ef n u ∧ ef n u ≤ 2000 := by
  obtain ⟨a1, a2, a3, a4⟩ := lb_spec hn hu h5
  have := div2_nn (a := u - 1) (w := lb n u) (by omega)
  unfold ef hiL
  have h1 : 0 ≤ n * lb n u := Int.mul_nonneg (by omega) a1
  have h2 : n * lb n u ≤ 64 * 9 := Int.mul_le_mul hn6 a2 a1 (by omega)
  omega
theorem bs_rng {n u : Int} (hn : 1 ≤ n) (hn6 : n ≤ 64) (hu : n ≤ u) (h5 : u ≤ 512) : 26 ≤ bs n u ∧ bs n u ≤ 26 + u := by
  have := ef_rng hn hn6 hu h5
  unfold bs
  split
  · omega
  · split <;> omega
theorem knd_rng {n u : Int} : 0 ≤ knd n u ∧ knd n u ≤ 2 := by
  unfold knd
  split
  · omega
  · split <;> omega
