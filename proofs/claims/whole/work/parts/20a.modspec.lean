/-! ===== the reference: its rows ===== -/
/-- one row of numbers that holds a state -/
def WR (w : Int → Int) (S : ASt) : Prop :=
  (∀ i : Nat, i < 4 → w i = (S.1 i).1 ∧ LOk (S.1 i).1 (S.1 i).2 ∧ ∀ j, 0 ≤ j → j < (S.1 i).1 → w (4 + 64 * i + j) = (S.1 i).2 j) ∧ w 260 = S.2.1 ∧ w 261 = S.2.2.1.length ∧ (∀ (k : Nat) (v : Int), S.2.2.1[k]? = some v → w (262 + k) = v) ∧ w 270 = S.2.2.2.1 ∧ w 271 = S.2.2.2.2 ∧ 0 ≤ S.2.1 ∧ S.2.1 ≤ 8 ∧ (S.2.2.1.length : Int) ≤ S.2.1 ∧ S.2.2.1.Nodup ∧ ∀ v ∈ S.2.2.1, 0 ≤ v ∧ v < 400
theorem WR.congr {w w' : Int → Int} {S : ASt} (h : WR w S) (he : ∀ k, 0 ≤ k → k < 272 → w' k = w k) : WR w' S := by
  obtain ⟨h1, h2, h3, h4, h5, h6, h7, h8, h9, h10, h11⟩ := h
  refine ⟨fun i hi => ?_, by rw [he 260 (by omega) (by omega)]; exact h2, by rw [he 261 (by omega) (by omega)]; exact h3, fun k v hk => ?_, by rw [he 270 (by omega) (by omega)]; exact h5, by rw [he 271 (by omega) (by omega)]; exact h6, h7, h8, h9, h10, h11⟩
  · obtain ⟨a, b, c⟩ := h1 i hi
    have := b.2.1
    exact ⟨by rw [he i (by omega) (by omega)]; exact a, b, fun j j0 j1 => by rw [he _ (by omega) (by omega)]; exact c j j0 j1⟩
  · have := (List.getElem?_eq_some_iff.mp hk).1
    rw [he _ (by omega) (by omega)]; exact h4 k v hk
/-- the saved states -/
def PR (pst : Int → Int) (sv : List ASt) : Prop := sv.length ≤ 4 ∧ ∀ (j : Nat) (S : ASt), sv[j]? = some S → WR (fun k => pst (272 * ((sv.length : Int) - 1 - j) + k)) S
/-- what has been laid is right -/
def LYd (L : Nat → Int × (Int → Int)) (bg mn lz : Int → Int) : Prop := ∀ i : Nat, i < 4 → (lz i = 0 ∨ lz i = 1) ∧ (lz i = 1 → mn i = pn (L i).1 (L i).2 ∧ ∀ k : Nat, k ≤ pn (L i).1 (L i).2 → bg (65 * i + k) = pb (L i).1 (L i).2 k)
def MA (h : EHp) (th sl : Int) : Prop := h 90 = cO 7 [.int (iI th), .ref 91, .ref 92, .int (iI sl), .ref 93, .ref 94, .ref 95, .ref 96, .ref 97, .ref 98, .ref 99, .ref 100]
def MRow (h : EHp) (w pst bg mn lz : Int → Int) : Prop := h 91 = cI 272 w ∧ h 92 = cI 1088 pst ∧ h 93 = cI 260 bg ∧ h 94 = cI 4 mn ∧ h 95 = cZ 4 lz
def MScr (h : EHp) : Prop := (∃ cs, h 96 = cI 65 cs) ∧ (∃ ct, h 97 = cI 65 ct) ∧ (∃ nx, h 98 = cI 65 nx) ∧ (∃ fd, h 99 = cI 128 fd) ∧ ∃ od, h 100 = cI 4 od
def MR (h : EHp) (th : Int) (S : ASt) (sv : List ASt) (w pst bg mn lz : Int → Int) : Prop := MA h th sv.length ∧ MRow h w pst bg mn lz ∧ MScr h ∧ WR w S ∧ PR pst sv ∧ LYd S.1 bg mn lz
def MRep (h : EHp) (th : Int) (S : ASt) (sv : List ASt) : Prop := ∃ w pst bg mn lz, MR h th S sv w pst bg mn lz
/-- the same, and list i isn't laid -/
def MRL (h : EHp) (th : Int) (S : ASt) (sv : List ASt) (i : Nat) : Prop := ∃ w pst bg mn lz, MR h th S sv w pst bg mn lz ∧ lz i = 0
theorem MRL.rep {h : EHp} {th : Int} {S : ASt} {sv : List ASt} {i : Nat} (hM : MRL h th S sv i) : MRep h th S sv := by
  obtain ⟨w, pst, bg, mn, lz, hR, -⟩ := hM
  exact ⟨w, pst, bg, mn, lz, hR⟩
def FrM (h h' : EHp) : Prop := ∀ j, (j < 90 ∨ 100 < j) → h' j = h j
/-- the documents of list i -/
def MDoc (h : EHp) (i : Nat) (c : Int) (f : Int → Int) : Prop := ∃ (th sl : Int) (w : Int → Int), MA h th sl ∧ h 91 = cI 272 w ∧ i < 4 ∧ w i = c ∧ LOk c f ∧ ∀ j, 0 ≤ j → j < c → w (4 + 64 * i + j) = f j
def MLay (h : EHp) (i : Nat) (c : Int) (f : Int → Int) : Prop := MDoc h i c f ∧ ∃ bg mn, h 93 = cI 260 bg ∧ h 94 = cI 4 mn ∧ mn i = pn c f ∧ ∀ k : Nat, k ≤ pn c f → bg (65 * i + k) = pb c f k
theorem MR.doc {h : EHp} {th : Int} {S : ASt} {sv : List ASt} {w pst bg mn lz : Int → Int} (hM : MR h th S sv w pst bg mn lz) {i : Nat} (hi : i < 4) : MDoc h i (S.1 i).1 (S.1 i).2 := by
  obtain ⟨h1, ⟨h2, -⟩, -, h4, -⟩ := hM
  obtain ⟨a, b, c⟩ := h4.1 i hi
  exact ⟨th, _, w, h1, h2, hi, a, b, c⟩
theorem MRep.doc {h : EHp} {th : Int} {S : ASt} {sv : List ASt} (hM : MRep h th S sv) {i : Nat} (hi : i < 4) : MDoc h i (S.1 i).1 (S.1 i).2 := by
  obtain ⟨w, pst, bg, mn, lz, hR⟩ := hM
  exact hR.doc hi
theorem MRep.LS {h : EHp} {th : Int} {S : ASt} {sv : List ASt} (hM : MRep h th S sv) : LSt S := fun i hi => by
  obtain ⟨-, -, -, -, -, -, -, hO, -⟩ := hM.doc hi
  exact hO
theorem MLay.LOk {h : EHp} {i : Nat} {c : Int} {f : Int → Int} (hL : MLay h i c f) : LOk c f := by
  obtain ⟨⟨-, -, -, -, -, -, -, hO, -⟩, -⟩ := hL
  exact hO
theorem MLay.pb {h : EHp} {i : Nat} {c : Int} {f : Int → Int} (hL : MLay h i c f) {k : Nat} (hk : k < pn c f) : 0 ≤ pb c f k ∧ pb c f k < pb c f (k + 1) ∧ pb c f (k + 1) ≤ c := by
  have hO := hL.LOk
  have h1 := (pn_ok (f := f) hO.1).1 k hk
  have h2 := nxt_rng (ds := f) h1
  have h3 := pb_rng (ds := f) hO.1 k
  rw [pb_s h1]
  omega
theorem pn_64 {c : Int} {f : Int → Int} (hO : LOk c f) : (pn c f : Int) ≤ 64 := by
  have := (pn_ok (f := f) hO.1).2.2
  have := hO.2.1
  omega
/-- a list set anew -/
def setL (S : ASt) (i : Nat) (c : Int) (f : Int → Int) : ASt := (fun j => if j = i then (c, f) else S.1 j, S.2.1, S.2.2.1, S.2.2.2.1, S.2.2.2.2)
def chg (S : ASt) (i : Nat) : ASt := (S.1, S.2.1, S.2.2.1.filter (dbp (100 * i) (100 * i + 100 - 1)), S.2.2.2.1, S.2.2.2.2)
theorem setL_s {S : ASt} {i : Nat} {c : Int} {f : Int → Int} : (setL S i c f).1 i = (c, f) := if_pos rfl
theorem setL_n {S : ASt} {i j : Nat} {c : Int} {f : Int → Int} (h : j ≠ i) : (setL S i c f).1 j = S.1 j := if_neg h
theorem wrL_setL (S : ASt) (i : Nat) (c : Int) (f : Int → Int) : wrL S i c f = setL (chg S i) i c f := rfl
theorem setL_id (S : ASt) (i : Nat) : setL S i (S.1 i).1 (S.1 i).2 = S := by
  unfold setL
  have : (fun j => if j = i then ((S.1 i).1, (S.1 i).2) else S.1 j) = S.1 := by
    funext j
    by_cases e : j = i
    · rw [if_pos e, e]
    · rw [if_neg e]
  rw [this]
/-- a list that isn't laid may be written anew: the row w' has the new list, and all else -/
theorem MRL.set {h h' : EHp} {th : Int} {S : ASt} {sv : List ASt} {i : Nat} {c c' : Int} {f f' : Int → Int} {w' : Int → Int} (hi : i < 4) (hM : MRL h th (setL S i c f) sv i) (hO : LOk c' f') (fr : ∀ j, j ≠ 91 → h' j = h j) (hw : h' 91 = cI 272 w') (hc : w' i = c') (hd : ∀ j, 0 ≤ j → j < c' → w' (4 + 64 * i + j) = f' j) (he : ∀ w : Int → Int, h 91 = cI 272 w → ∀ k : Int, k ≠ i → (k < 4 + 64 * i ∨ 4 + 64 * i + 64 ≤ k) → w' k = w k) : MRL h' th (setL S i c' f') sv i := by
  obtain ⟨w, pst, bg, mn, lz, ⟨g1, ⟨g2, g3, g4, g5, g6⟩, ⟨⟨cs, s1⟩, ⟨ct, s2⟩, ⟨nx, s3⟩, ⟨fd, s4⟩, ⟨od, s5⟩⟩, g8, g9, g10⟩, hz⟩ := hM
  have he := he w g2
  obtain ⟨w1, w2, w3, w4, w5, w6, w7, w8, w9, w10, w11⟩ := g8
  refine ⟨w', pst, bg, mn, lz, ⟨(fr 90 (by decide)).trans g1, ⟨hw, (fr 92 (by decide)).trans g3, (fr 93 (by decide)).trans g4, (fr 94 (by decide)).trans g5, (fr 95 (by decide)).trans g6⟩, ⟨⟨cs, (fr 96 (by decide)).trans s1⟩, ⟨ct, (fr 97 (by decide)).trans s2⟩, ⟨nx, (fr 98 (by decide)).trans s3⟩, ⟨fd, (fr 99 (by decide)).trans s4⟩, ⟨od, (fr 100 (by decide)).trans s5⟩⟩, ?_, g9, ?_⟩, hz⟩
  · refine ⟨fun j hj => ?_, ?_, ?_, fun k v hk => ?_, ?_, ?_, w7, w8, w9, w10, w11⟩
    · by_cases e : j = i
      · subst e; rw [setL_s]; exact ⟨hc, hO, hd⟩
      · rw [setL_n e]
        obtain ⟨a, b, d⟩ := w1 j hj
        rw [setL_n e] at a b d
        have := b.2.1
        exact ⟨by rw [he j (by omega) (by omega)]; exact a, b, fun t t0 t1 => by rw [he _ (by omega) (by omega)]; exact d t t0 t1⟩
    · rw [he 260 (by omega) (by omega)]; exact w2
    · rw [he 261 (by omega) (by omega)]; exact w3
    · have := (List.getElem?_eq_some_iff.mp hk).1
      rw [he _ (by omega) (by omega)]; exact w4 k v hk
    · rw [he 270 (by omega) (by omega)]; exact w5
    · rw [he 271 (by omega) (by omega)]; exact w6
  · intro j hj
    obtain ⟨a, b⟩ := g10 j hj
    refine ⟨a, fun z => ?_⟩
    by_cases e : j = i
    · rw [e, hz] at z; omega
    · have q := b z
      rw [setL_n e] at q ⊢
      exact q
theorem MRL.ag {h : EHp} {th : Int} {S : ASt} {sv : List ASt} {i : Nat} {c : Int} {f g : Int → Int} (hi : i < 4) (hM : MRL h th (setL S i c f) sv i) (ha : Ag c f g) : MRL h th (setL S i c g) sv i := by
  obtain ⟨w, pst, bg, mn, lz, ⟨g1, ⟨g2, g3⟩, g7, g8, g9⟩, hz⟩ := id hM
  obtain ⟨a, b, d⟩ := g8.1 i hi
  rw [setL_s] at a b d
  exact MRL.set hi hM (ag_LOk (ag_symm ha) b) (fun _ _ => rfl) g2 a (fun j j0 j1 => by rw [d j j0 j1]; exact ha j j0 j1) (fun w2 e k _ _ => by
    rw [g2] at e
    have : w = w2 := by unfold cI at e; injection e with _ e2; injection e2 with _ e3; injection e3
    rw [this])
