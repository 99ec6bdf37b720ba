/-! ===== the best partitions ===== -/
def gW (ds W : Int → Int) (i e : Int) : Int := psz ds i e * 128 + 1 + W e
/-- the least weight among the ends i + 1 to i + n, and the first end that has it -/
def mE (ds W : Int → Int) (i : Int) : Nat → Int × Int
  | 0 => (0, i)
  | n + 1 => if n = 0 ∨ gW ds W i (i + (n + 1 : Nat)) < (mE ds W i n).1 then (gW ds W i (i + (n + 1 : Nat)), i + (n + 1 : Nat)) else mE ds W i n
def wtT (c : Int) (ds : Int → Int) : Nat → Int → Int
  | 0 => fun _ => 0
  | k + 1 => fun j => if j = c - (k + 1 : Nat) then (mE ds (wtT c ds k) j (k + 1)).1 else wtT c ds k j
def wt (c : Int) (ds : Int → Int) : Int → Int := wtT c ds c.toNat
def nxt (c : Int) (ds : Int → Int) (i : Int) : Int := (mE ds (wt c ds) i (c - i).toNat).2
theorem mE_congr {ds W W' : Int → Int} {i : Int} : ∀ {n : Nat}, (∀ e, i < e → e ≤ i + n → W e = W' e) → mE ds W i n = mE ds W' i n := by
  intro n
  induction n with
  | zero => intro _; rfl
  | succ n ih =>
    intro h
    have h1 := ih (fun e a b => h e a (by omega))
    have h2 : gW ds W i (i + (n + 1 : Nat)) = gW ds W' i (i + (n + 1 : Nat)) := by unfold gW; rw [h _ (by omega) (by omega)]
    unfold mE
    rw [h1, h2]
theorem wtT_stab {c : Int} {ds : Int → Int} : ∀ {k K : Nat} {j : Int}, k ≤ K → c - k ≤ j → wtT c ds K j = wtT c ds k j := by
  intro k K j hk hj
  induction K with
  | zero => rw [show k = 0 by omega]
  | succ K ih =>
    by_cases e : k = K + 1
    · rw [e]
    · rw [← ih (by omega)]
      show (if j = c - (K + 1 : Nat) then _ else wtT c ds K j) = _
      rw [if_neg (by omega)]
theorem wt_at {c : Int} {ds : Int → Int} {i : Int} (h0 : 0 ≤ i) (h1 : i < c) : wt c ds i = (mE ds (wt c ds) i (c - i).toNat).1 := by
  obtain ⟨k, hk⟩ : ∃ k : Nat, c - i = (k + 1 : Nat) := ⟨(c - i - 1).toNat, by omega⟩
  have e1 : wt c ds i = wtT c ds (k + 1) i := wtT_stab (by omega) (by omega)
  rw [e1]
  show (if i = c - (k + 1 : Nat) then (mE ds (wtT c ds k) i (k + 1)).1 else wtT c ds k i) = _
  rw [if_pos (by omega), show (c - i).toNat = k + 1 by omega]
  congr 1
  refine mE_congr (fun e a b => ?_)
  exact (wtT_stab (by omega) (by omega)).symm
theorem wt_end {c : Int} {ds : Int → Int} (h0 : 0 ≤ c) : wt c ds c = 0 := by
  have : wt c ds c = wtT c ds 0 c := wtT_stab (Nat.zero_le _) (by omega)
  rw [this]; rfl
theorem mE_rng {ds W : Int → Int} {i : Int} : ∀ {n : Nat}, 1 ≤ n → i < (mE ds W i n).2 ∧ (mE ds W i n).2 ≤ i + n ∧ (mE ds W i n).1 = gW ds W i (mE ds W i n).2 ∧ ∀ e, i < e → e ≤ i + n → (mE ds W i n).1 ≤ gW ds W i e := by
  intro n
  induction n with
  | zero => intro h; omega
  | succ n ih =>
    intro _
    by_cases hn : n = 0
    · subst hn
      unfold mE
      rw [if_pos (Or.inl rfl)]
      refine ⟨by show i < i + (0 + 1 : Nat); omega, Int.le_refl _, rfl, fun e a b => ?_⟩
      rw [show e = i + (0 + 1 : Nat) by omega]
      exact Int.le_refl _
    · obtain ⟨a1, a2, a3, a4⟩ := ih (by omega)
      unfold mE
      by_cases hc : gW ds W i (i + (n + 1 : Nat)) < (mE ds W i n).1
      · rw [if_pos (Or.inr hc)]
        refine ⟨by show i < i + (n + 1 : Nat); omega, Int.le_refl _, rfl, fun e a b => ?_⟩
        show gW ds W i (i + (n + 1 : Nat)) ≤ _
        by_cases he : e = i + (n + 1 : Nat)
        · rw [he]; exact Int.le_refl _
        · have := a4 e a (by omega)
          omega
      · rw [if_neg (by intro z; rcases z with z | z <;> omega)]
        refine ⟨a1, by omega, a3, fun e a b => ?_⟩
        by_cases he : e = i + (n + 1 : Nat)
        · rw [he]; omega
        · exact a4 e a (by omega)
theorem mE_step {ds W : Int → Int} {i e : Int} (h : i < e) : mE ds W i (e - i).toNat = if e = i + 1 ∨ gW ds W i e < (mE ds W i (e - 1 - i).toNat).1 then (gW ds W i e, e) else mE ds W i (e - 1 - i).toNat := by
  obtain ⟨n, hn⟩ : ∃ n : Nat, e - i = (n + 1 : Nat) := ⟨(e - i - 1).toNat, by omega⟩
  rw [show (e - i).toNat = n + 1 by omega, show (e - 1 - i).toNat = n by omega]
  have e1 : i + (n + 1 : Nat) = e := by omega
  show (if n = 0 ∨ gW ds W i (i + (n + 1 : Nat)) < (mE ds W i n).1 then _ else _) = _
  rw [e1]
  by_cases hc : e = i + 1 ∨ gW ds W i e < (mE ds W i n).1
  · rw [if_pos hc, if_pos (by rcases hc with z | z; exact Or.inl (by omega); exact Or.inr z)]
  · rw [if_neg hc, if_neg (by intro z; apply hc; rcases z with z | z; exact Or.inl (by omega); exact Or.inr z)]
theorem nxt_rng {c : Int} {ds : Int → Int} {i : Int} (h1 : i < c) : i < nxt c ds i ∧ nxt c ds i ≤ c := by
  obtain ⟨a1, a2, -, -⟩ := mE_rng (ds := ds) (W := wt c ds) (i := i) (n := (c - i).toNat) (by omega)
  unfold nxt
  omega
theorem wt_nn {c : Int} {ds : Int → Int} (hO : LOk c ds) : ∀ (m : Nat) (j : Int), 0 ≤ j → j = c - m → 0 ≤ wt c ds j := by
  intro m
  induction m using Nat.strongRecOn with
  | ind m ihs =>
    intro j h0 hj
    by_cases hz : m = 0
    · rw [show j = c by omega, wt_end hO.1]; omega
    · have hw := wt_at (ds := ds) h0 (show j < c by omega)
      obtain ⟨c1, c2, c3, -⟩ := mE_rng (ds := ds) (W := wt c ds) (i := j) (n := (c - j).toNat) (by omega)
      have hp := psz_rng hO h0 c1 (by omega)
      have := ihs (c - (mE ds (wt c ds) j (c - j).toNat).2).toNat (by omega) ((mE ds (wt c ds) j (c - j).toNat).2) (by omega) (by omega)
      rw [hw, c3]
      unfold gW
      omega
theorem wt_rng {c : Int} {ds : Int → Int} (hO : LOk c ds) : ∀ (k : Nat) (i : Int), 0 ≤ i → i = c - k → 0 ≤ wt c ds i ∧ wt c ds i ≤ k * 70000 := by
  intro k
  induction k with
  | zero => intro i h0 h1; rw [show i = c by omega, wt_end hO.1]; omega
  | succ k ih =>
    intro i h0 h1
    refine ⟨wt_nn hO (k + 1) i h0 h1, ?_⟩
    obtain ⟨a1, a2, a3, a4⟩ := mE_rng (ds := ds) (W := wt c ds) (i := i) (n := (c - i).toNat) (by omega)
    have hw := wt_at (ds := ds) h0 (show i < c by omega)
    have hp := psz_rng hO h0 (show i < i + 1 by omega) (by omega)
    have hi := ih (i + 1) (by omega) (by omega)
    have h4 := a4 (i + 1) (by omega) (by omega)
    unfold gW at h4
    omega
theorem wt_rng' {c : Int} {ds : Int → Int} (hO : LOk c ds) {i : Int} (h0 : 0 ≤ i) (h1 : i ≤ c) : 0 ≤ wt c ds i ∧ wt c ds i ≤ 5000000 := by
  have := wt_rng hO (c - i).toNat i h0 (by omega)
  have := hO.2.1
  omega
/-- where the partitions begin -/
def pb (c : Int) (ds : Int → Int) : Nat → Int
  | 0 => 0
  | k + 1 => if pb c ds k < c then nxt c ds (pb c ds k) else pb c ds k
theorem pb_s {c : Int} {ds : Int → Int} {k : Nat} (h : pb c ds k < c) : pb c ds (k + 1) = nxt c ds (pb c ds k) := by
  show (if pb c ds k < c then _ else _) = _
  rw [if_pos h]
theorem pb_rng {c : Int} {ds : Int → Int} (h0 : 0 ≤ c) : ∀ k : Nat, 0 ≤ pb c ds k ∧ pb c ds k ≤ c ∧ ((k : Int) ≤ c → (k : Int) ≤ pb c ds k) := by
  intro k
  induction k with
  | zero => exact ⟨Int.le_refl _, h0, fun _ => Int.le_refl _⟩
  | succ k ih =>
    obtain ⟨a1, a2, a3⟩ := ih
    by_cases h : pb c ds k < c
    · rw [pb_s h]
      have := nxt_rng (ds := ds) h
      refine ⟨by omega, by omega, fun z => ?_⟩
      have := a3 (by omega)
      omega
    · have e : pb c ds (k + 1) = pb c ds k := by
        show (if pb c ds k < c then _ else _) = _
        rw [if_neg h]
      rw [e]
      exact ⟨a1, a2, fun z => by omega⟩
/-- m partitions, with these facts -/
def FOk (c : Int) (ds : Int → Int) (m : Nat) (fa : Int → Int) : Prop := (m : Int) ≤ c ∧ (∀ k : Nat, k < m → pb c ds k < c) ∧ pb c ds m = c ∧ ∀ k : Nat, k < m → ∀ t, 0 ≤ t → t < 6 → fa ((k : Int) * 6 + t) = fct ds (pb c ds k) (pb c ds (k + 1)) t
theorem FOk.lt {c : Int} {ds : Int → Int} {m : Nat} {fa : Int → Int} (h : FOk c ds m fa) (hO : LOk c ds) {k : Nat} (hk : k < m) : 0 ≤ pb c ds k ∧ pb c ds k < pb c ds (k + 1) ∧ pb c ds (k + 1) ≤ c := by
  have h1 := h.2.1 k hk
  have h2 := nxt_rng (ds := ds) h1
  have h3 := pb_rng (ds := ds) hO.1 k
  rw [pb_s h1]
  omega
