/-! ===== the reference: cache and saved states ===== -/
theorem cI_inj {n : Nat} {f g : Int → Int} (h : cI n f = cI n g) : f = g := by
  unfold cI at h
  injection h with _ e2
  injection e2 with _ e3
  injection e3
def ers (S : ASt) (p : Nat) : ASt := (S.1, S.2.1, S.2.2.1.eraseIdx p, S.2.2.2.1, S.2.2.2.2)
def setC (S : ASt) (cl : List Int) : ASt := (S.1, S.2.1, cl, S.2.2.2.1, S.2.2.2.2)
theorem WR.len {w : Int → Int} {S : ASt} (h : WR w S) : w 261 = S.2.2.1.length ∧ (S.2.2.1.length : Int) ≤ 8 := by
  obtain ⟨h1, h2, h3, h4, h5, h6, h7, h8, h9, h10, h11⟩ := h
  exact ⟨h3, by omega⟩
theorem WR.drop {w w' : Int → Int} {S : ASt} {p : Nat} (h : WR w S) (hp : p < S.2.2.1.length) (e1 : w' 261 = w 261 - 1) (e2 : ∀ k : Int, p ≤ k → k < w 261 - 1 → w' (262 + k) = w (262 + k + 1)) (e3 : ∀ k : Int, k ≠ 261 → (k < 262 + p ∨ 262 + w 261 - 1 ≤ k) → w' k = w k) : WR w' (ers S p) := by
  obtain ⟨h1, h2, h3, h4, h5, h6, h7, h8, h9, h10, h11⟩ := h
  have hl : (S.2.2.1.eraseIdx p).length = S.2.2.1.length - 1 := by rw [List.length_eraseIdx, if_pos hp]
  refine ⟨fun i hi => ?_, ?_, ?_, fun k v hk => ?_, ?_, ?_, h7, h8, ?_, ?_, fun v hv => h11 v (List.mem_of_mem_eraseIdx hv)⟩
  · obtain ⟨a, b, c⟩ := h1 i hi
    have := b.2.1
    exact ⟨by rw [e3 i (by omega) (by omega)]; exact a, b, fun j j0 j1 => by
      have j1' : j < (S.1 i).1 := j1
      rw [e3 _ (by omega) (by omega)]; exact c j j0 j1⟩
  · rw [e3 260 (by omega) (by omega)]; exact h2
  · show w' 261 = ((S.2.2.1.eraseIdx p).length : Nat)
    rw [e1, h3, hl]; omega
  · have hk' : (S.2.2.1.eraseIdx p)[k]? = some v := hk
    have hkl := (List.getElem?_eq_some_iff.mp hk').1
    rw [hl] at hkl
    rw [List.getElem?_eraseIdx] at hk'
    by_cases c : k < p
    · rw [if_pos c] at hk'
      rw [e3 _ (by omega) (by omega)]; exact h4 k v hk'
    · rw [if_neg c] at hk'
      rw [e2 k (by omega) (by rw [h3]; omega)]
      have := h4 (k + 1) v hk'
      rw [← this]; congr 1
  · rw [e3 270 (by omega) (by rw [h3]; omega)]; exact h5
  · rw [e3 271 (by omega) (by rw [h3]; omega)]; exact h6
  · show ((S.2.2.1.eraseIdx p).length : Int) ≤ S.2.1
    rw [hl]; omega
  · exact List.Pairwise.sublist (List.eraseIdx_sublist S.2.2.1 p) h10
/-- only the row of numbers has changed -/
theorem MR.row {h h' : EHp} {th : Int} {S S' : ASt} {sv : List ASt} {w w' pst bg mn lz : Int → Int} (hM : MR h th S sv w pst bg mn lz) (fr : ∀ j, j ≠ 91 → h' j = h j) (hw : h' 91 = cI 272 w') (hW : WR w' S') (hL : S'.1 = S.1) : MR h' th S' sv w' pst bg mn lz := by
  obtain ⟨g1, ⟨g2, g3, g4, g5, g6⟩, ⟨⟨cs, s1⟩, ⟨ct, s2⟩, ⟨nx, s3⟩, ⟨fd, s4⟩, ⟨od, s5⟩⟩, g8, g9, g10⟩ := hM
  exact ⟨(fr 90 (by decide)).trans g1, ⟨hw, (fr 92 (by decide)).trans g3, (fr 93 (by decide)).trans g4, (fr 94 (by decide)).trans g5, (fr 95 (by decide)).trans g6⟩, ⟨⟨cs, (fr 96 (by decide)).trans s1⟩, ⟨ct, (fr 97 (by decide)).trans s2⟩, ⟨nx, (fr 98 (by decide)).trans s3⟩, ⟨fd, (fr 99 (by decide)).trans s4⟩, ⟨od, (fr 100 (by decide)).trans s5⟩⟩, hW, g9, by rw [hL]; exact g10⟩
/-- the cache's first k as they are, of the others those that q keeps -/
def stg (q : Int → Bool) (cl : List Int) (k : Nat) : List Int := cl.take k ++ (cl.drop k).filter q
theorem stg_n {q : Int → Bool} {cl : List Int} : stg q cl cl.length = cl := by unfold stg; simp
theorem stg_0 {q : Int → Bool} {cl : List Int} : stg q cl 0 = cl.filter q := by unfold stg; simp
theorem stg_at {q : Int → Bool} {cl : List Int} {k : Nat} {v : Int} (h : cl[k]? = some v) : (stg q cl (k + 1))[k]? = some v := by
  have hl := (List.getElem?_eq_some_iff.mp h).1
  unfold stg
  rw [List.getElem?_append_left (by rw [List.length_take]; omega), List.getElem?_take, if_pos (by omega)]
  exact h
theorem stg_len {q : Int → Bool} {cl : List Int} {k : Nat} (h : k < cl.length) : k < (stg q cl (k + 1)).length := by
  unfold stg
  rw [List.length_append, List.length_take]
  omega
theorem drop_at {cl : List Int} {k : Nat} {v : Int} (h : cl[k]? = some v) : cl.drop k = v :: cl.drop (k + 1) := by
  have hl := (List.getElem?_eq_some_iff.mp h).1
  have e := (List.getElem?_eq_some_iff.mp h).2
  rw [List.drop_eq_getElem_cons hl, e]
theorem stg_t {q : Int → Bool} {cl : List Int} {k : Nat} {v : Int} (h : cl[k]? = some v) (hq : q v = true) : stg q cl (k + 1) = stg q cl k := by
  unfold stg
  rw [take_s h, drop_at h, List.filter_cons, if_pos hq, List.append_assoc]
  rfl
theorem stg_f {q : Int → Bool} {cl : List Int} {k : Nat} {v : Int} (h : cl[k]? = some v) (hq : ¬ q v = true) : (stg q cl (k + 1)).eraseIdx k = stg q cl k := by
  have hl := (List.getElem?_eq_some_iff.mp h).1
  have ek : (cl.take k).length = k := by rw [List.length_take]; omega
  unfold stg
  rw [take_s h, drop_at h, List.filter_cons, if_neg hq, List.append_assoc]
  have := List.eraseIdx_append_of_length_le (l := cl.take k) (l' := [v] ++ (cl.drop (k + 1)).filter q) (k := k) (by omega)
  rw [this, ek, Nat.sub_self]
  rfl
