/-! ===== rows that agree on a list's documents ===== -/
def Ag (c : Int) (ds f : Int → Int) : Prop := ∀ i, 0 ≤ i → i < c → ds i = f i
theorem ag_symm {c : Int} {ds f : Int → Int} (h : Ag c ds f) : Ag c f ds := fun i a b => (h i a b).symm
theorem ag_LOk {c : Int} {ds f : Int → Int} (h : Ag c ds f) (hO : LOk c f) : LOk c ds := by
  refine ⟨hO.1, hO.2.1, fun i a b => ?_, fun i j a b d => ?_⟩
  · rw [h i a b]; exact hO.2.2.1 i a b
  · rw [h i a (by omega), h j (by omega) d]; exact hO.2.2.2 i j a b d
theorem ag_dA {c : Int} {ds f : Int → Int} (h : Ag c ds f) (i : Int) : dA c ds i = dA c f i := by
  by_cases g : 0 ≤ i ∧ i < c
  · rw [dA_in g.1 g.2, dA_in g.1 g.2, h i g.1 g.2]
  · rw [dA_out (by omega), dA_out (by omega)]
theorem ag_cb {c : Int} {ds f : Int → Int} (h : Ag c ds f) (hc : 0 ≤ c) (x : Int) : cb c ds x = cb c f x := by
  obtain ⟨a1, a2, a3, a4⟩ := cb_is ds x hc
  refine cb_eq ⟨a1, a2, fun i i0 i1 => ?_, fun z => ?_⟩
  · rw [← h i i0 (by omega)]; exact a3 i i0 i1
  · rw [← h _ a1 z]; exact a4 z
theorem ag_psz {c : Int} {ds f : Int → Int} (h : Ag c ds f) {s e : Int} (h0 : 0 ≤ s) (h1 : s < e) (h2 : e ≤ c) : psz ds s e = psz f s e := by
  unfold psz
  rw [h s h0 (by omega), h (e - 1) (by omega) (by omega)]
theorem ag_wd {c : Int} {ds f : Int → Int} (h : Ag c ds f) {s e : Int} (h0 : 0 ≤ s) (h1 : s < e) (h2 : e ≤ c) : wd ds s e = wd f s e := by
  unfold wd
  rw [h s h0 (by omega), h (e - 1) (by omega) (by omega)]
theorem ag_mE {c : Int} {ds f W : Int → Int} (h : Ag c ds f) {i : Int} (h0 : 0 ≤ i) : ∀ {n : Nat}, i + n ≤ c → mE ds W i n = mE f W i n := by
  intro n
  induction n with
  | zero => intro _; rfl
  | succ n ih =>
    intro hn
    have h1 := ih (by omega)
    have h2 : gW ds W i (i + (n + 1 : Nat)) = gW f W i (i + (n + 1 : Nat)) := by unfold gW; rw [ag_psz h h0 (by omega) (by omega)]
    unfold mE
    rw [h1, h2]
theorem ag_wtT {c : Int} {ds f : Int → Int} (h : Ag c ds f) : ∀ {k : Nat}, (k : Int) ≤ c → wtT c ds k = wtT c f k := by
  intro k
  induction k with
  | zero => intro _; rfl
  | succ k ih =>
    intro hk
    funext j
    show (if j = c - (k + 1 : Nat) then (mE ds (wtT c ds k) j (k + 1)).1 else wtT c ds k j) = (if j = c - (k + 1 : Nat) then (mE f (wtT c f k) j (k + 1)).1 else wtT c f k j)
    rw [ih (by omega)]
    by_cases e : j = c - (k + 1 : Nat)
    · rw [if_pos e, if_pos e, ag_mE h (by omega) (by omega)]
    · rw [if_neg e, if_neg e]
theorem ag_wt {c : Int} {ds f : Int → Int} (h : Ag c ds f) (hc : 0 ≤ c) : wt c ds = wt c f := ag_wtT h (by omega)
theorem ag_nxt {c : Int} {ds f : Int → Int} (h : Ag c ds f) {i : Int} (h0 : 0 ≤ i) (h1 : i ≤ c) : nxt c ds i = nxt c f i := by
  unfold nxt
  rw [ag_wt h (by omega), ag_mE h h0 (by omega)]
theorem ag_pb {c : Int} {ds f : Int → Int} (h : Ag c ds f) (hc : 0 ≤ c) : ∀ k : Nat, pb c ds k = pb c f k := by
  intro k
  induction k with
  | zero => rfl
  | succ k ih =>
    have hr := pb_rng (ds := f) hc k
    show (if pb c ds k < c then nxt c ds (pb c ds k) else pb c ds k) = (if pb c f k < c then nxt c f (pb c f k) else pb c f k)
    rw [ih, ag_nxt h hr.1 hr.2.1]
theorem ag_fct {c : Int} {ds f : Int → Int} (h : Ag c ds f) {s e : Int} (h0 : 0 ≤ s) (h1 : s < e) (h2 : e ≤ c) {t : Int} (t0 : 0 ≤ t) (t6 : t < 6) : fct ds s e t = fct f s e t := by
  have e1 := h s h0 (by omega)
  have e2 := h (e - 1) (by omega) (by omega)
  rcases (show t = 0 ∨ t = 1 ∨ t = 2 ∨ t = 3 ∨ t = 4 ∨ t = 5 by omega) with rfl | rfl | rfl | rfl | rfl | rfl
  · show knd (e - s) (ds (e - 1) - ds s + 1) = knd (e - s) (f (e - 1) - f s + 1)
    rw [e1, e2]
  · rfl
  · exact e1
  · exact e2
  · exact ag_psz h h0 h1 h2
  · show (if knd (e - s) (ds (e - 1) - ds s + 1) = 2 then lb (e - s) (ds (e - 1) - ds s + 1) else 0) = (if knd (e - s) (f (e - 1) - f s + 1) = 2 then lb (e - s) (f (e - 1) - f s + 1) else 0)
    rw [e1, e2]
theorem ag_FOk {c : Int} {ds f : Int → Int} (h : Ag c ds f) (hO : LOk c f) {m : Nat} {fa : Int → Int} (hF : FOk c f m fa) : FOk c ds m fa := by
  have hp := ag_pb h hO.1
  refine ⟨hF.1, fun k hk => by rw [hp]; exact hF.2.1 k hk, by rw [hp]; exact hF.2.2.1, fun k hk t t0 t6 => ?_⟩
  have hl := hF.lt hO hk
  rw [hF.2.2.2 k hk t t0 t6, hp, hp]
  exact (ag_fct h hl.1 hl.2.1 hl.2.2 t0 t6).symm
theorem ag_szP {c : Int} {ds f : Int → Int} (h : Ag c ds f) (hO : LOk c f) {m : Nat} (hm : ∀ k : Nat, k < m → pb c f k < c) : ∀ k : Nat, k ≤ m → szP c ds k = szP c f k := by
  intro k
  induction k with
  | zero => intro _; rfl
  | succ k ih =>
    intro hk
    have h2 := hm k (by omega)
    have h3 := pb_rng (ds := f) hO.1 k
    have h4 := nxt_rng (ds := f) h2
    show szP c ds k + psz ds (pb c ds k) (pb c ds (k + 1)) = szP c f k + psz f (pb c f k) (pb c f (k + 1))
    rw [ih (by omega), ag_pb h hO.1, ag_pb h hO.1, ag_psz h h3.1 (by rw [pb_s h2]; omega) (by rw [pb_s h2]; omega)]
theorem ag_bt {c : Int} {ds f : Int → Int} (h : Ag c ds f) {s e : Int} (h0 : 0 ≤ s) (h1 : s < e) (h2 : e ≤ c) (q : Int) (q0 : 0 ≤ q) (q1 : q < psz f s e) (hO : LOk c f) : pbit ds s e q = pbit f s e q := by
  have ew := ag_wd h h0 h1 h2
  have es := h s h0 (by omega)
  have g := hO.wid h0 h1 h2
  unfold pbit hbit bbit bmb hib lob
  rw [ew, es]
  by_cases c1 : q < 26
  · rw [if_pos c1, if_pos c1]
  · rw [if_neg c1, if_neg c1]
    by_cases c2 : knd (e - s) (wd f s e) = 1
    · rw [if_pos c2, if_pos c2]
      refine ind_congr ⟨fun ⟨i, a, b, d⟩ => ⟨i, a, b, by rw [← h i (by omega) (by omega)]; exact d⟩, fun ⟨i, a, b, d⟩ => ⟨i, a, b, by rw [h i (by omega) (by omega)]; exact d⟩⟩
    · rw [if_neg c2, if_neg c2]
      by_cases c3 : q - 26 < hiL (e - s) (wd f s e) (lb (e - s) (wd f s e))
      · rw [if_pos c3, if_pos c3]
        refine ind_congr ⟨fun ⟨i, a, b, d⟩ => ⟨i, a, b, by rw [← h i (by omega) (by omega)]; exact d⟩, fun ⟨i, a, b, d⟩ => ⟨i, a, b, by rw [h i (by omega) (by omega)]; exact d⟩⟩
      · rw [if_neg c3, if_neg c3]
        have ewf : wd f s e = f (e - 1) - f s + 1 := rfl
        obtain ⟨l1, l2, l3, l4⟩ := lb_spec (n := e - s) (u := wd f s e) (by omega) (by omega) (by omega)
        have pk := psz_knd (ds := f) (s := s) (e := e)
        have kr := knd_rng (n := e - s) (u := wd f s e)
        have ep : psz f s e = 26 + (hiL (e - s) (wd f s e) (lb (e - s) (wd f s e)) + (e - s) * lb (e - s) (wd f s e)) := by
          rcases pk with z | z | z
          · omega
          · omega
          · exact z.2
        have hl0 : 0 < lb (e - s) (wd f s e) := by
          rcases Int.lt_or_le 0 (lb (e - s) (wd f s e)) with z | z
          · exact z
          · have : lb (e - s) (wd f s e) = 0 := by omega
            rw [this] at ep c3
            omega
        have d0 : 0 ≤ (q - 26 - hiL (e - s) (wd f s e) (lb (e - s) (wd f s e))) / lb (e - s) (wd f s e) := Int.ediv_nonneg (by omega) (by omega)
        have d1 : (q - 26 - hiL (e - s) (wd f s e) (lb (e - s) (wd f s e))) / lb (e - s) (wd f s e) < e - s := Int.ediv_lt_of_lt_mul hl0 (by omega)
        rw [h (s + (q - 26 - hiL (e - s) (wd f s e) (lb (e - s) (wd f s e))) / lb (e - s) (wd f s e)) (by omega) (by omega)]
theorem ag_flF {c : Int} {ds f : Int → Int} (h : Ag c ds f) {n : Int} (hn : 1 ≤ n) : ∀ (k : Nat) (s : Int), 0 ≤ s → flF c ds n k s = flF c f n k s := by
  intro k
  induction k with
  | zero => intro s _; rfl
  | succ k ih =>
    intro s h0
    show (if s < c then psz ds s (if s + n < c then s + n else c) + flF c ds n k (s + n) else 0) = (if s < c then psz f s (if s + n < c then s + n else c) + flF c f n k (s + n) else 0)
    rw [ih (s + n) (by omega)]
    by_cases e : s < c
    · rw [if_pos e, if_pos e]
      by_cases e2 : s + n < c
      · rw [if_pos e2, ag_psz h h0 (by omega) (by omega)]
      · rw [if_neg e2, ag_psz h h0 (by omega) (by omega)]
    · rw [if_neg e, if_neg e]
theorem ag_flen {c : Int} {ds f : Int → Int} (h : Ag c ds f) {n : Int} (hn : 1 ≤ n) : flen c ds n = flen c f n := ag_flF h hn 64 0 (Int.le_refl 0)
theorem ag_rdI {c : Int} {ds f : Int → Int} (h : Ag c ds f) (hc : 0 ≤ c) (kd g w x ans : Int) : rdI c ds kd g w x ans = rdI c f kd g w x ans := by
  unfold rdI
  rw [ag_dA h, ag_cb h hc]
/-- the list at a: c documents f, its partitions as they must be -/
def LA (h : EHp) (a : Nat) (c : Int) (f : Int → Int) : Prop := ∃ (m : Nat) (ds fa : Int → Int), PA h a c m ds fa ∧ Ag c ds f ∧ LOk c f ∧ FOk c f m fa
theorem LA.moved {h h' : EHp} {a : Nat} {c : Int} {f : Int → Int} (hL : LA h a c f) (h0 : h' a = h a) (h1 : h' (a + 1) = h (a + 1)) (h2 : h' (a + 2) = h (a + 2)) : LA h' a c f := by
  obtain ⟨m, ds, fa, ⟨g1, g2, g3, g4⟩, g5⟩ := hL
  exact ⟨m, ds, fa, ⟨by rw [h0]; exact g1, by rw [h1]; exact g2, by rw [h2]; exact g3, g4⟩, g5⟩
/-- the state block at s -/
def lref (s : Nat) : Int → Option Nat := fun i => if 0 ≤ i ∧ i < 4 then some (s + 4 + 3 * i.toNat) else none
abbrev ASt : Type := (Nat → Int × (Int → Int)) × Int × List Int × Int × Int
def SA (h : EHp) (s : Nat) (S : ASt) : Prop := h s = cO 5 [.ref (s + 1), .ref (s + 2), .int (iI S.2.2.2.1), .int (iI S.2.2.2.2)] ∧ h (s + 1) = cR 4 4 (lref s) ∧ s + 15 < 103 ∧ CA h (s + 2) S.2.1 S.2.2.1 ∧ ∀ i : Nat, i < 4 → LA h (s + 4 + 3 * i) (S.1 i).1 (S.1 i).2
def FrS (h h' : EHp) (s : Nat) : Prop := ∀ j, (j < s ∨ s + 15 < j) → h' j = h j
theorem SA.moved {h h' : EHp} {s : Nat} {S : ASt} (hS : SA h s S) (hq : ∀ j, s ≤ j → j ≤ s + 15 → h' j = h j) : SA h' s S := by
  obtain ⟨g1, g2, g3, g4, g5⟩ := hS
  exact ⟨by rw [hq s (by omega) (by omega)]; exact g1, by rw [hq (s + 1) (by omega) (by omega)]; exact g2, g3, g4.moved (hq _ (by omega) (by omega)) (hq _ (by omega) (by omega)), fun i hi => (g5 i hi).moved (hq _ (by omega) (by omega)) (hq _ (by omega) (by omega)) (hq _ (by omega) (by omega))⟩
