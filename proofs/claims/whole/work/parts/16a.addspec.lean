/-! ===== appended lists, code bits, bits per document ===== -/
theorem apF_LOk {c : Int} {f : Int → Int} {first step n : Int} (hO : LOk c f) (h1 : 0 ≤ first) (h2 : 1 ≤ step) (h3 : 1 ≤ n) (h4 : first + step * (n - 1) ≤ 511) (h5 : dA c f (c - 1) < first) (h6 : c + n ≤ 64) : LOk (c + n) (apF c f first step) := by
  obtain ⟨o1, o2, o3, o4⟩ := hO
  have up : ∀ i, c ≤ i → i < c + n → first ≤ first + (i - c) * step ∧ first + (i - c) * step ≤ 511 := by
    intro i a b
    have e1 : 0 ≤ (i - c) * step := Int.mul_nonneg (by omega) (by omega)
    have e2 : (i - c) * step ≤ (n - 1) * step := Int.mul_le_mul_of_nonneg_right (by omega) (by omega)
    rw [Int.mul_comm (n - 1) step] at e2
    omega
  refine ⟨by omega, h6, fun i a b => ?_, fun i j a b d => ?_⟩
  · unfold apF
    by_cases e : i < c
    · rw [if_pos e]; exact o3 i a e
    · rw [if_neg e]; have := up i (by omega) b; omega
  · unfold apF
    by_cases e : i < c
    · rw [if_pos e]
      by_cases e2 : j < c
      · rw [if_pos e2]; exact o4 i j a b e2
      · rw [if_neg e2]
        have := up j (by omega) d
        rw [dA_in (by omega) (by omega)] at h5
        by_cases e3 : i = c - 1
        · rw [e3]; omega
        · have := o4 i (c - 1) a (by omega) (by omega)
          omega
    · rw [if_neg e, if_neg (by omega)]
      have : (i - c) * step < (j - c) * step := Int.mul_lt_mul_of_pos_right (by omega) (by omega)
      omega
theorem crep_cm {h h' : EHp} {S : ASt} {sv : List ASt} {i : Nat} (hi : i < 4) (hC : CRep h S sv) (fr : Fr3 h h' (5 + 3 * i)) : CM h' S sv (fun j => j ≠ i) := by
  obtain ⟨g0, k1, k2, k4, k5, ⟨nx, g5⟩, ⟨Ws, Es, g6, g7, g8⟩, ⟨len0, bs, g9, g10, g11⟩, ⟨od, g12⟩, ⟨rs, g13⟩⟩ := hC
  exact ⟨(fr 0 (by omega)).trans g0, (fr 1 (by omega)).trans k1, (fr 2 (by omega)).trans k2, k4.moved (fr _ (by omega)) (fr _ (by omega)), fun j hj e => (k5 j hj trivial).moved (fr _ (by omega)) (fr _ (by omega)) (fr _ (by omega)), ⟨nx, g5.moved (fun j a b => fr j (by omega))⟩, ⟨Ws, Es, (fr 83 (by omega)).trans g6, (fr 84 (by omega)).trans g7, (fr 85 (by omega)).trans g8⟩, ⟨len0, bs, (fr 86 (by omega)).trans g9, (fr 87 (by omega)).trans g10, g11⟩, ⟨od, (fr 88 (by omega)).trans g12⟩, ⟨rs, (fr 89 (by omega)).trans g13⟩⟩
theorem crep_code {h h' : EHp} {S : ASt} {sv : List ASt} {len : Int} {bs : Int → Int} (hC : CRep h S sv) (hR : CR h' 86 len bs) (fr : Fr2 h h' 86) : CRep h' S sv := by
  obtain ⟨g0, k1, k2, k4, k5, ⟨nx, g5⟩, ⟨Ws, Es, g6, g7, g8⟩, -, ⟨od, g12⟩, ⟨rs, g13⟩⟩ := hC
  exact ⟨(fr 0 (by omega) (by omega)).trans g0, (fr 1 (by omega) (by omega)).trans k1, (fr 2 (by omega) (by omega)).trans k2, k4.moved (fr _ (by omega) (by omega)) (fr _ (by omega) (by omega)), fun j hj e => (k5 j hj trivial).moved (fr _ (by omega) (by omega)) (fr _ (by omega) (by omega)) (fr _ (by omega) (by omega)), ⟨nx, g5.moved (fun j a b => fr j (by omega) (by omega))⟩, ⟨Ws, Es, (fr 83 (by omega) (by omega)).trans g6, (fr 84 (by omega) (by omega)).trans g7, (fr 85 (by omega) (by omega)).trans g8⟩, ⟨len, bs, hR⟩, ⟨od, (fr 88 (by omega) (by omega)).trans g12⟩, ⟨rs, (fr 89 (by omega) (by omega)).trans g13⟩⟩
/-- the order row and the result row may be anything -/
theorem crep_or {h h' : EHp} {S : ASt} {sv : List ASt} {od rs : Int → Int} (hC : CRep h S sv) (h1 : h' 88 = cI 4 od) (h2 : h' 89 = cI 128 rs) (fr : ∀ j, j < 88 → h' j = h j) : CRep h' S sv := by
  obtain ⟨g0, k1, k2, k4, k5, ⟨nx, g5⟩, ⟨Ws, Es, g6, g7, g8⟩, ⟨len0, bs, g9, g10, g11⟩, -, -⟩ := hC
  exact ⟨(fr 0 (by omega)).trans g0, (fr 1 (by omega)).trans k1, (fr 2 (by omega)).trans k2, k4.moved (fr _ (by omega)) (fr _ (by omega)), fun j hj e => (k5 j hj trivial).moved (fr _ (by omega)) (fr _ (by omega)) (fr _ (by omega)), ⟨nx, g5.moved (fun j a b => fr j (by omega))⟩, ⟨Ws, Es, (fr 83 (by omega)).trans g6, (fr 84 (by omega)).trans g7, (fr 85 (by omega)).trans g8⟩, ⟨len0, bs, (fr 86 (by omega)).trans g9, (fr 87 (by omega)).trans g10, g11⟩, ⟨od, h1⟩, ⟨rs, h2⟩⟩
/-- a bit of the whole code -/
noncomputable def cbtF (c : Int) (f : Int → Int) : Nat → Nat → Int → Int
  | 0, _, _ => 0
  | n + 1, p, k => if k < psz f (pb c f p) (pb c f (p + 1)) then pbit f (pb c f p) (pb c f (p + 1)) k else cbtF c f n (p + 1) (k - psz f (pb c f p) (pb c f (p + 1)))
noncomputable def cbit (c : Int) (f : Int → Int) (k : Int) : Int := cbtF c f (pn c f) 0 k
theorem BOk.at {c : Int} {f : Int → Int} {m : Nat} {bs : Int → Int} (hB : BOk c f m bs) : ∀ (n p : Nat) (k : Int), p + n = m → 0 ≤ k → szP c f p + k < szP c f m → bs (szP c f p + k) = cbtF c f n p k := by
  intro n
  induction n with
  | zero => intro p k e k0 k1; rw [show p = m by omega] at k1; omega
  | succ n ih =>
    intro p k e k0 k1
    show _ = if k < psz f (pb c f p) (pb c f (p + 1)) then pbit f (pb c f p) (pb c f (p + 1)) k else cbtF c f n (p + 1) (k - psz f (pb c f p) (pb c f (p + 1)))
    by_cases hc : k < psz f (pb c f p) (pb c f (p + 1))
    · rw [if_pos hc]; exact hB p (by omega) k k0 hc
    · rw [if_neg hc]
      have es : szP c f (p + 1) = szP c f p + psz f (pb c f p) (pb c f (p + 1)) := rfl
      have := ih (p + 1) (k - psz f (pb c f p) (pb c f (p + 1))) (by omega) (by omega) (by omega)
      rw [← this]; congr 1; omega
theorem BOk.bit {c : Int} {f : Int → Int} {bs : Int → Int} (hB : BOk c f (pn c f) bs) {k : Int} (k0 : 0 ≤ k) (k1 : k < szP c f (pn c f)) : bs k = cbit c f k := by
  have := hB.at (pn c f) 0 k (by omega) k0 (by show 0 + k < _; omega)
  rw [show szP c f 0 + k = k from Int.zero_add k] at this
  exact this
theorem ag_BOk {c : Int} {ds f : Int → Int} (h : Ag c ds f) (hO : LOk c f) {m : Nat} (hm : ∀ k : Nat, k < m → pb c f k < c) {bs : Int → Int} (hB : BOk c ds m bs) : BOk c f m bs := by
  intro p hp q q0 q1
  have h2 := hm p hp
  have h3 := pb_rng (ds := f) hO.1 p
  have h4 := nxt_rng (ds := f) h2
  have h5 : pb c f p < pb c f (p + 1) := by rw [pb_s h2]; omega
  have h6 : pb c f (p + 1) ≤ c := by rw [pb_s h2]; omega
  have := hB p hp q q0 (by rw [ag_pb h hO.1, ag_pb h hO.1, ag_psz h h3.1 h5 h6]; exact q1)
  rw [ag_pb h hO.1, ag_pb h hO.1, ag_szP h hO hm p (by omega), ag_bt h h3.1 h5 h6 q q0 q1 hO] at this
  exact this
def bpd (a b : Int) : UInt64 := FP.ddiv (FP.i2d (iI a)) (FP.i2d (iI b))
def bpT (a b : Nat) : Bool := decide (bpd a b &&& 0x7fffffffffffffff ≤ 0x7ff0000000000000)
def bpC (o : Nat) : Bool := (List.range 77).all (fun a => (List.range 65).all (fun b => b == 0 || bpT (o + a) b))
theorem bpC_0 : bpC 0 = true := by decide +kernel
theorem bpC_1 : bpC 77 = true := by decide +kernel
theorem bpC_2 : bpC 154 = true := by decide +kernel
theorem bpC_3 : bpC 231 = true := by decide +kernel
theorem bpC_4 : bpC 308 = true := by decide +kernel
theorem bpC_5 : bpC 385 = true := by decide +kernel
theorem bpC_6 : bpC 462 = true := by decide +kernel
theorem bpC_use {o x y : Nat} (h : bpC o = true) (h0 : o ≤ x) (h1 : x < o + 77) (h2 : 1 ≤ y) (h3 : y ≤ 64) : vf_n64 (bpd x y) := by
  have h4 := List.all_eq_true.mp h (x - o) (List.mem_range.mpr (by omega))
  have h5 := List.all_eq_true.mp h4 y (List.mem_range.mpr (by omega))
  have h6 : (y == 0) = false := by rw [beq_eq_false_iff_ne]; omega
  rw [h6, Bool.false_or, show o + (x - o) = x by omega] at h5
  unfold bpT at h5
  unfold vf_n64
  exact of_decide_eq_true h5
theorem bpd_ok {a b : Int} (a0 : 0 ≤ a) (a1 : a ≤ 538) (b0 : 1 ≤ b) (b1 : b ≤ 64) : vf_n64 (bpd a b) := by
  obtain ⟨x, rfl⟩ := Int.eq_ofNat_of_zero_le a0
  obtain ⟨y, rfl⟩ := Int.eq_ofNat_of_zero_le (show 0 ≤ b by omega)
  by_cases h : x < 77
  · exact bpC_use bpC_0 (by omega) (by omega) (by omega) (by omega)
  by_cases h : x < 154
  · exact bpC_use bpC_1 (by omega) (by omega) (by omega) (by omega)
  by_cases h : x < 231
  · exact bpC_use bpC_2 (by omega) (by omega) (by omega) (by omega)
  by_cases h : x < 308
  · exact bpC_use bpC_3 (by omega) (by omega) (by omega) (by omega)
  by_cases h : x < 385
  · exact bpC_use bpC_4 (by omega) (by omega) (by omega) (by omega)
  by_cases h : x < 462
  · exact bpC_use bpC_5 (by omega) (by omega) (by omega) (by omega)
  · exact bpC_use bpC_6 (by omega) (by omega) (by omega) (by omega)
