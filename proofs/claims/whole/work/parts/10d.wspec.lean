theorem szP_mono {c : Int} {ds : Int → Int} (hO : LOk c ds) {m : Nat} (h : ∀ k : Nat, k < m → pb c ds k < c) : ∀ {j k : Nat}, j ≤ k → k ≤ m → szP c ds j ≤ szP c ds k := by
  intro j k hj
  induction k with
  | zero => intro _; rw [show j = 0 by omega]; exact Int.le_refl _
  | succ k ih =>
    intro hk
    by_cases e : j = k + 1
    · rw [e]; exact Int.le_refl _
    · have h1 := ih (by omega) (by omega)
      have h2 := h k (by omega)
      have h3 := pb_rng (ds := ds) hO.1 k
      have h4 := nxt_rng (ds := ds) h2
      have h5 := psz_rng hO h3.1 (show pb c ds k < pb c ds (k + 1) by rw [pb_s h2]; omega) (by rw [pb_s h2]; omega)
      show szP c ds j ≤ szP c ds k + psz ds (pb c ds k) (pb c ds (k + 1))
      omega
/-- the row of bits holds the code's first k partitions -/
def BOk (c : Int) (ds : Int → Int) (k : Nat) (bs : Int → Int) : Prop := ∀ p : Nat, p < k → ∀ q, 0 ≤ q → q < psz ds (pb c ds p) (pb c ds (p + 1)) → bs (szP c ds p + q) = pbit ds (pb c ds p) (pb c ds (p + 1)) q
theorem BOk.next {c : Int} {ds : Int → Int} (hO : LOk c ds) {m : Nat} (h : ∀ k : Nat, k < m → pb c ds k < c) {k : Nat} (hk : k < m) {bs bs' : Int → Int} (hB : BOk c ds k bs) (h1 : ∀ j, j < szP c ds k → bs' j = bs j) (h2 : ∀ q, 0 ≤ q → q < psz ds (pb c ds k) (pb c ds (k + 1)) → bs' (szP c ds k + q) = pbit ds (pb c ds k) (pb c ds (k + 1)) q) : BOk c ds (k + 1) bs' := by
  intro p hp q q0 q1
  by_cases e : p = k
  · subst e; exact h2 q q0 q1
  · have hm := szP_mono hO h (show p + 1 ≤ k by omega) (by omega)
    have : szP c ds (p + 1) = szP c ds p + psz ds (pb c ds p) (pb c ds (p + 1)) := rfl
    rw [h1 _ (by omega)]
    exact hB p (by omega) q q0 q1
