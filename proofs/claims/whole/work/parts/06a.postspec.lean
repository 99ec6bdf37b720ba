/-! ===== lists of documents, as rows of numbers ===== -/
/-- the object of Postings numbered a: c documents ds, m partitions with their facts fa -/
def PA (h : EHp) (a : Nat) (c m : Int) (ds fa : Int → Int) : Prop := h a = cO 4 [.ref (a + 1), .int (iI c), .ref (a + 2), .int (iI m)] ∧ h (a + 1) = cI 64 ds ∧ h (a + 2) = cI 384 fa ∧ a + 2 < 103
/-- a list: at most 64 ascending documents from 0 to 511 -/
def LOk (c : Int) (ds : Int → Int) : Prop := 0 ≤ c ∧ c ≤ 64 ∧ (∀ i, 0 ≤ i → i < c → 0 ≤ ds i ∧ ds i ≤ 511) ∧ ∀ i j, 0 ≤ i → i < j → j < c → ds i < ds j
theorem LOk.gap {c : Int} {ds : Int → Int} (h : LOk c ds) : ∀ (k : Nat) (i : Int), 0 ≤ i → i + k < c → ds i + k ≤ ds (i + k) := by
  intro k
  induction k with
  | zero => intro i h0 h1; simp
  | succ k ih =>
    intro i h0 h1
    have h2 := ih i h0 (by omega)
    have h3 := h.2.2.2 (i + k) (i + (k + 1 : Nat)) (by omega) (by omega) (by omega)
    omega
theorem LOk.wid {c : Int} {ds : Int → Int} (h : LOk c ds) {s e : Int} (h0 : 0 ≤ s) (h1 : s < e) (h2 : e ≤ c) : e - s ≤ ds (e - 1) - ds s + 1 ∧ ds (e - 1) - ds s + 1 ≤ 512 := by
  have g := h.gap (e - 1 - s).toNat s h0 (by omega)
  have e1 : s + ((e - 1 - s).toNat : Int) = e - 1 := by omega
  rw [e1] at g
  have g1 := h.2.2.1 s h0 (by omega)
  have g2 := h.2.2.1 (e - 1) (by omega) (by omega)
  omega
/-- the document at an index, -1 where there is none -/
def dA (c : Int) (ds : Int → Int) (i : Int) : Int := if 0 ≤ i ∧ i < c then ds i else -1
theorem dA_in {c : Int} {ds : Int → Int} {i : Int} (h0 : 0 ≤ i) (h1 : i < c) : dA c ds i = ds i := if_pos ⟨h0, h1⟩
theorem dA_out {c : Int} {ds : Int → Int} {i : Int} (h : i < 0 ∨ c ≤ i) : dA c ds i = -1 := if_neg (by omega)
theorem dA_rng {c : Int} {ds : Int → Int} (h : LOk c ds) (i : Int) : -1 ≤ dA c ds i ∧ dA c ds i ≤ 511 := by
  unfold dA
  split
  · rename_i g
    have := h.2.2.1 i g.1 g.2
    omega
  · omega
/-- how many documents are less than x -/
def cbF (ds : Int → Int) (x : Int) : Nat → Int → Int
  | 0, b => b
  | n + 1, b => if ds b < x then cbF ds x n (b + 1) else b
def cb (c : Int) (ds : Int → Int) (x : Int) : Int := cbF ds x c.toNat 0
def IsCB (c : Int) (ds : Int → Int) (x b : Int) : Prop := 0 ≤ b ∧ b ≤ c ∧ (∀ i, 0 ≤ i → i < b → ds i < x) ∧ (b < c → x ≤ ds b)
theorem cbF_is (ds : Int → Int) (x : Int) : ∀ (n : Nat) (b : Int), 0 ≤ b → (∀ i, 0 ≤ i → i < b → ds i < x) → IsCB (b + n) ds x (cbF ds x n b) := by
  intro n
  induction n with
  | zero => intro b h0 h1; exact ⟨h0, by simp [cbF], h1, fun z => by simp [cbF] at z⟩
  | succ n ih =>
    intro b h0 h1
    unfold cbF
    split
    · rename_i g
      have := ih (b + 1) (by omega) (fun i i0 i1 => by
        by_cases e : i = b
        · rw [e]; exact g
        · exact h1 i i0 (by omega))
      rw [show b + 1 + (n : Int) = b + ((n + 1 : Nat) : Int) by omega] at this
      exact this
    · rename_i g
      exact ⟨h0, by omega, h1, fun _ => by omega⟩
theorem cb_is {c : Int} (ds : Int → Int) (x : Int) (hc : 0 ≤ c) : IsCB c ds x (cb c ds x) := by
  have := cbF_is ds x c.toNat 0 (by omega) (fun i h0 h1 => by omega)
  rw [show (0 : Int) + (c.toNat : Int) = c by omega] at this
  exact this
theorem IsCB.uniq {c : Int} {ds : Int → Int} {x b b' : Int} (h : IsCB c ds x b) (h' : IsCB c ds x b') : b = b' := by
  obtain ⟨a1, a2, a3, a4⟩ := h
  obtain ⟨b1, b2, b3, b4⟩ := h'
  rcases Int.lt_trichotomy b b' with g | g | g
  · have := b3 b a1 g
    have := a4 (by omega)
    omega
  · exact g
  · have := a3 b' b1 g
    have := b4 (by omega)
    omega
theorem cb_eq {c : Int} {ds : Int → Int} {x b : Int} (h : IsCB c ds x b) : b = cb c ds x := h.uniq (cb_is ds x (by have := h.1; have := h.2.1; omega))
/-- the size of the partition of the documents from s to ahead of e -/
def psz (ds : Int → Int) (s e : Int) : Int := bs (e - s) (ds (e - 1) - ds s + 1)
theorem psz_rng {c : Int} {ds : Int → Int} (h : LOk c ds) {s e : Int} (h0 : 0 ≤ s) (h1 : s < e) (h2 : e ≤ c) : 26 ≤ psz ds s e ∧ psz ds s e ≤ 538 := by
  have g := h.wid h0 h1 h2
  have := bs_rng (n := e - s) (u := ds (e - 1) - ds s + 1) (by omega) (by have := h.2.1; omega) g.1 g.2
  unfold psz
  omega
/-- partitions of n documents each, from s on -/
def flF (c : Int) (ds : Int → Int) (n : Int) : Nat → Int → Int
  | 0, _ => 0
  | k + 1, s => if s < c then psz ds s (if s + n < c then s + n else c) + flF c ds n k (s + n) else 0
def flen (c : Int) (ds : Int → Int) (n : Int) : Int := flF c ds n 64 0
/-- the sum of the first k partitions' sizes -/
def szS (fa : Int → Int) : Nat → Int
  | 0 => 0
  | k + 1 => szS fa k + fa ((k : Int) * 6 + 4)
