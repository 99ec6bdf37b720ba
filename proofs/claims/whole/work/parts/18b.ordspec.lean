def bitL (ls l : Int) : Prop := ls / 2 ^ l.toNat % 2 = 1
def cnt (S : ASt) (l : Int) : Int := (S.1 l.toNat).1
/-- the lists ahead of L that are asked, by their keys -/
def OI (S : ASt) (ls : Int) (L : Nat) (n : Int) (od : Int → Int) : Prop := 0 ≤ n ∧ n ≤ L ∧ (∀ i, 0 ≤ i → i < n → 0 ≤ od i ∧ od i < L ∧ bitL ls (od i)) ∧ (∀ i j, 0 ≤ i → i < j → j < n → 4 * cnt S (od i) + od i < 4 * cnt S (od j) + od j) ∧ ∀ l : Int, 0 ≤ l → l < L → bitL ls l → ∃ i, 0 ≤ i ∧ i < n ∧ od i = l
theorem OI0 {S : ASt} {ls : Int} {od : Int → Int} : OI S ls 0 0 od := ⟨Int.le_refl _, Int.le_refl _, fun i a b => by omega, fun i j a b d => by omega, fun l a b => by omega⟩
theorem OI.skip {S : ASt} {ls : Int} {L : Nat} {n : Int} {od : Int → Int} (h : OI S ls L n od) (hb : ¬ bitL ls L) : OI S ls (L + 1) n od := by
  obtain ⟨h1, h2, h3, h4, h5⟩ := h
  refine ⟨h1, by omega, fun i a b => ?_, h4, fun l a b hl => ?_⟩
  · obtain ⟨x, y, z⟩ := h3 i a b; exact ⟨x, by omega, z⟩
  · by_cases e : l = L
    · rw [e] at hl; exact absurd hl hb
    · exact h5 l a (by omega) hl
theorem OI.ins {S : ASt} {ls : Int} {L : Nat} {n : Int} {od o2 : Int → Int} (h : OI S ls L n od) (hL4 : L < 4) (hb : bitL ls L) {a : Int} (a0 : 0 ≤ a) (a1 : a ≤ n) (e1 : ∀ p, 0 ≤ p → p < a → o2 p = od p) (e2 : o2 a = L) (e3 : ∀ p, a < p → p ≤ n → o2 p = od (p - 1)) (g1 : ∀ p, a ≤ p → p < n → cnt S L < cnt S (od p)) (g2 : 0 < a → cnt S (od (a - 1)) ≤ cnt S L) : OI S ls (L + 1) (n + 1) o2 := by
  obtain ⟨h1, h2, h3, h4, h5⟩ := h
  refine ⟨by omega, by omega, fun i i0 i1 => ?_, fun i j i0 ij j1 => ?_, fun l l0 l1 hl => ?_⟩
  · by_cases c1 : i < a
    · rw [e1 i i0 c1]; obtain ⟨x, y, z⟩ := h3 i i0 (by omega); exact ⟨x, by omega, z⟩
    · by_cases c2 : i = a
      · rw [c2, e2]; exact ⟨by omega, by omega, hb⟩
      · rw [e3 i (by omega) (by omega)]; obtain ⟨x, y, z⟩ := h3 (i - 1) (by omega) (by omega); exact ⟨x, by omega, z⟩
  · by_cases c1 : j < a
    · rw [e1 i i0 (by omega), e1 j (by omega) c1]; exact h4 i j i0 ij (by omega)
    · by_cases c2 : j = a
      · rw [e1 i i0 (by omega), c2, e2]
        have q := g2 (by omega)
        have r := h3 i i0 (by omega)
        by_cases c3 : i = a - 1
        · rw [c3] at r ⊢; omega
        · have := h4 i (a - 1) i0 (by omega) (by omega)
          have := h3 (a - 1) (by omega) (by omega)
          omega
      · rw [e3 j (by omega) (by omega)]
        by_cases c3 : i < a
        · rw [e1 i i0 c3]; exact h4 i (j - 1) i0 (by omega) (by omega)
        · by_cases c4 : i = a
          · rw [c4, e2]
            have := g1 (j - 1) (by omega) (by omega)
            have := h3 (j - 1) (by omega) (by omega)
            omega
          · rw [e3 i (by omega) (by omega)]; exact h4 (i - 1) (j - 1) (by omega) (by omega) (by omega)
  · by_cases c1 : l = L
    · exact ⟨a, a0, by omega, by rw [e2, c1]⟩
    · obtain ⟨i, i0, i1, ei⟩ := h5 l l0 (by omega) hl
      by_cases c2 : i < a
      · exact ⟨i, i0, by omega, by rw [e1 i i0 c2]; exact ei⟩
      · exact ⟨i + 1, by omega, by omega, by rw [e3 (i + 1) (by omega) (by omega), show i + 1 - 1 = i by omega]; exact ei⟩
theorem OI.end {S : ASt} {ls n : Int} {od : Int → Int} (h : OI S ls 4 n od) (hL : LSt S) : n = ordn S ls ∧ Ag n od (ordf S ls) := by
  obtain ⟨h1, h2, h3, h4, h5⟩ := h
  have cr : ∀ l : Int, 0 ≤ l → l < 4 → 0 ≤ cnt S l ∧ cnt S l ≤ 64 := fun l a b => by
    have := hL l.toNat (by omega)
    exact ⟨this.1, this.2.1⟩
  have u := en_uniq (p := oP S ls) (k := 260) (n := n) (g := fun i => 4 * cnt S (od i) + od i) h1 (fun i i0 i1 => by
    obtain ⟨x, y, z⟩ := h3 i i0 i1
    have := cr (od i) x (by omega)
    refine ⟨by show 0 ≤ 4 * cnt S (od i) + od i; omega, by show 4 * cnt S (od i) + od i < _; omega, oP_iff.mpr ?_⟩
    have e4 : (4 * cnt S (od i) + od i) % 4 = od i := by omega
    refine ⟨?_, ?_⟩
    · show ls / 2 ^ ((4 * cnt S (od i) + od i) % 4).toNat % 2 = 1
      rw [e4]; exact z
    · show (S.1 ((4 * cnt S (od i) + od i) % 4).toNat).1 = (4 * cnt S (od i) + od i) / 4
      rw [e4]
      show cnt S (od i) = _
      omega) h4 (fun x x0 x1 px => by
    obtain ⟨y, z⟩ := oP_iff.mp px
    obtain ⟨i, i0, i1, ei⟩ := h5 (x % 4) (by omega) (by omega) y
    refine ⟨i, i0, i1, ?_⟩
    show 4 * cnt S (od i) + od i = x
    rw [ei]
    have : cnt S (x % 4) = x / 4 := z
    omega)
  refine ⟨u.1, fun i i0 i1 => ?_⟩
  have e := u.2 i i0 i1
  have r := h3 i i0 i1
  unfold ordf
  rw [← e]
  show od i = (4 * cnt S (od i) + od i) % 4
  omega
theorem crep_LS {h : EHp} {S : ASt} {sv : List ASt} (hC : CRep h S sv) : LSt S := fun i hi => by
  obtain ⟨-, -, -, -, k5, -⟩ := hC
  obtain ⟨m, ds, fa, -, -, hO, -⟩ := k5 i hi trivial
  exact hO
