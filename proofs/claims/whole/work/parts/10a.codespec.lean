/-! ===== the bits of the code ===== -/
noncomputable def ind (p : Prop) : Int := @ite Int p (Classical.propDecidable p) 1 0
theorem ind_t {p : Prop} (h : p) : ind p = 1 := if_pos h
theorem ind_f {p : Prop} (h : ¬ p) : ind p = 0 := if_neg h
theorem ind_congr {p q : Prop} (h : p ↔ q) : ind p = ind q := by rw [propext h]
theorem ind_rng (p : Prop) : ind p = 0 ∨ ind p = 1 := by
  by_cases h : p
  · exact Or.inr (ind_t h)
  · exact Or.inl (ind_f h)
def bt (v i : Int) : Int := v / 2 ^ i.toNat % 2
theorem bt_rng (v i : Int) : bt v i = 0 ∨ bt v i = 1 := by unfold bt; omega
def wd (ds : Int → Int) (s e : Int) : Int := ds (e - 1) - ds s + 1
/-- a bit of a partition's header -/
def hbit (ds : Int → Int) (s e k : Int) : Int := if k < 2 then bt (knd (e - s) (wd ds s e)) k else if k < 8 then bt (e - s - 1) (k - 2) else if k < 17 then bt (ds s) (k - 8) else bt (wd ds s e - 1) (k - 17)
noncomputable def bmb (ds : Int → Int) (s e v : Int) : Int := ind (∃ i, s ≤ i ∧ i < e ∧ ds i - ds s = v)
noncomputable def hib (ds : Int → Int) (s e w v : Int) : Int := ind (∃ i, s ≤ i ∧ i < e ∧ i - s + (ds i - ds s) / 2 ^ w.toNat = v)
def lob (ds : Int → Int) (s w v : Int) : Int := bt (ds (s + v / w) - ds s) (v % w)
/-- a bit behind the header -/
noncomputable def bbit (ds : Int → Int) (s e v : Int) : Int :=
  if knd (e - s) (wd ds s e) = 1 then bmb ds s e v else
  if v < hiL (e - s) (wd ds s e) (lb (e - s) (wd ds s e)) then hib ds s e (lb (e - s) (wd ds s e)) v else lob ds s (lb (e - s) (wd ds s e)) (v - hiL (e - s) (wd ds s e) (lb (e - s) (wd ds s e)))
noncomputable def pbit (ds : Int → Int) (s e k : Int) : Int := if k < 26 then hbit ds s e k else bbit ds s e (k - 26)
def CR (h : EHp) (r : Nat) (len : Int) (bs : Int → Int) : Prop := h r = cO 1 [.ref (r + 1), .int (iI len)] ∧ h (r + 1) = cI 538 bs ∧ r + 1 < 103
theorem psz_knd {ds : Int → Int} {s e : Int} : (knd (e - s) (wd ds s e) = 0 ∧ psz ds s e = 26) ∨ (knd (e - s) (wd ds s e) = 1 ∧ psz ds s e = 26 + wd ds s e) ∨ (knd (e - s) (wd ds s e) = 2 ∧ psz ds s e = 26 + ef (e - s) (wd ds s e)) := by
  have hp : psz ds s e = bs (e - s) (wd ds s e) := rfl
  rw [hp]
  unfold knd
  by_cases h1 : e - s = wd ds s e
  · rw [if_pos h1]; left; refine ⟨rfl, ?_⟩; unfold bs; rw [if_pos h1]
  · rw [if_neg h1]
    have hb : bs (e - s) (wd ds s e) = 26 + (if ef (e - s) (wd ds s e) < wd ds s e then ef (e - s) (wd ds s e) else wd ds s e) := by unfold bs; rw [if_neg h1]
    by_cases h2 : ef (e - s) (wd ds s e) < wd ds s e
    · rw [if_pos h2] at hb
      rw [hb, if_pos (by omega)]
      exact Or.inr (Or.inr ⟨rfl, rfl⟩)
    · rw [if_neg h2] at hb
      rw [hb, if_neg (by omega)]
      exact Or.inr (Or.inl ⟨rfl, rfl⟩)
/-- the sizes of the first k partitions -/
def szP (c : Int) (ds : Int → Int) : Nat → Int
  | 0 => 0
  | k + 1 => szP c ds k + psz ds (pb c ds k) (pb c ds (k + 1))
theorem szP_wt {c : Int} {ds : Int → Int} (hO : LOk c ds) {m : Nat} (h : ∀ k : Nat, k < m → pb c ds k < c) : ∀ k : Nat, k ≤ m → szP c ds k * 128 + k + wt c ds (pb c ds k) = wt c ds 0 := by
  intro k
  induction k with
  | zero => intro _; show 0 * 128 + 0 + wt c ds 0 = _; omega
  | succ k ih =>
    intro hk
    have h1 := ih (by omega)
    have h2 := h k (by omega)
    have h3 := pb_rng (ds := ds) hO.1 k
    have h4 := wt_at (ds := ds) h3.1 h2
    obtain ⟨-, -, b3, -⟩ := mE_rng (ds := ds) (W := wt c ds) (i := pb c ds k) (n := (c - pb c ds k).toNat) (by omega)
    rw [b3] at h4
    have e1 : (mE ds (wt c ds) (pb c ds k) (c - pb c ds k).toNat).2 = pb c ds (k + 1) := by rw [pb_s h2]; rfl
    rw [e1] at h4
    unfold gW at h4
    show (szP c ds k + psz ds (pb c ds k) (pb c ds (k + 1))) * 128 + (k + 1 : Nat) + _ = _
    omega
theorem szP_le {c : Int} {ds : Int → Int} (hO : LOk c ds) {m : Nat} (h : ∀ k : Nat, k < m → pb c ds k < c) {k : Nat} (hk : k ≤ m) : 0 ≤ szP c ds k ∧ szP c ds k ≤ 538 := by
  have hnn : ∀ j : Nat, j ≤ m → 0 ≤ szP c ds j := by
    intro j
    induction j with
    | zero => intro _; exact Int.le_refl _
    | succ j ih =>
      intro hj
      have h2 := h j (by omega)
      have h3 := pb_rng (ds := ds) hO.1 j
      have h4 := nxt_rng (ds := ds) h2
      have := psz_rng hO h3.1 (show pb c ds j < pb c ds (j + 1) by rw [pb_s h2]; omega) (by rw [pb_s h2]; omega)
      have := ih (by omega)
      show 0 ≤ szP c ds j + psz ds (pb c ds j) (pb c ds (j + 1))
      omega
  refine ⟨hnn k hk, ?_⟩
  by_cases hk0 : k = 0
  · subst hk0; show (0 : Int) ≤ 538; omega
  · have h1 := szP_wt hO h k hk
    have hc : 0 < c := h 0 (by omega)
    have h2 := wt_at (ds := ds) (Int.le_refl 0) hc
    obtain ⟨-, -, -, b4⟩ := mE_rng (ds := ds) (W := wt c ds) (i := 0) (n := (c - 0).toNat) (by omega)
    have h3 := b4 c hc (by omega)
    unfold gW at h3
    rw [wt_end hO.1] at h3
    have h4 := psz_rng hO (Int.le_refl 0) hc (Int.le_refl c)
    have h5 := pb_rng (ds := ds) hO.1 k
    have h6 := wt_rng' hO h5.1 h5.2.1
    omega
theorem szS_szP {c : Int} {ds : Int → Int} {m : Nat} {fa : Int → Int} (h : FOk c ds m fa) : ∀ k : Nat, k ≤ m → szS fa k = szP c ds k := by
  intro k
  induction k with
  | zero => intro _; rfl
  | succ k ih =>
    intro hk
    show szS fa k + fa ((k : Int) * 6 + 4) = szP c ds k + _
    rw [ih (by omega), h.2.2.2 k (by omega) 4 (by decide) (by decide)]
    rfl
