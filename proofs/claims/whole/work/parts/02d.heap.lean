/-! ===== rows that read and write the picture ===== -/
/-- a field by the pool of 'own': class ci's field kf, of the type ty, final or not -/
def FLd (own : String) (ix ci kf : Nat) (ty : FieldType) (fin : Bool) : Prop := ∃ (C : String) (T : u_T) (NF : Nat) (ty0 : Nat → FieldType), vwCl[ci]? = some (C, T, NF) ∧ kf < NF ∧ (∀ w ∈ u_ws C T NF, w ∈ LT) ∧ Cond.fieldLink own ix (T kf).1 (T kf).2.1 (T kf).2.2.1 ∈ LT ∧ (∀ k, k < NF → parseFieldDescriptor (T k).2.2.1 = some (ty0 k)) ∧ (∀ a, a < NF → ∀ b, b < NF → a ≠ b → (T a).2.1 ≠ (T b).2.1) ∧ parseFieldDescriptor (T kf).2.2.1 = some ty ∧ (T kf).2.2.2 = fin ∧ (fin = true → (T kf).1 = own)
theorem catsum0 {B b : Nat} {st : List Value} (hcat : (st.map Value.category).sum ≤ 8) : ((st.map (cv B b)).map fun v => v.category).sum ≤ 8 := by
  rw [List.map_map]
  have : (fun v => v.category) ∘ cv B b = Value.category := by funext v; exact cv_cat B b v
  rw [this]; exact hcat
/-- .. to be read alone -/
def FLr (own : String) (ix ci kf : Nat) : Prop := ∃ (C : String) (T : u_T) (NF : Nat), vwCl[ci]? = some (C, T, NF) ∧ kf < NF ∧ (∀ w ∈ u_ws C T NF, w ∈ LT) ∧ Cond.fieldLink own ix (T kf).1 (T kf).2.1 (T kf).2.2.1 ∈ LT
section GHeap
variable {l : Launch} {X : State → Nat → Nat → Prop} {md : MD} {d mc ms : Nat} {post : Post} {k n pc q : Nat} {al : List (Option Value)} {st : List Value} {N : NB} {h : EHp}

theorem g_get {ix ci kf i : Nat} {fs : List Value} {v : Value} (hf : FLr md.1.cls ix ci kf) (hi : i < N.1) (hh : h i = cO ci fs) (hv : fs[kf]? = some v) (hd : decode md.2.1 pc = .ok (.getfield ix, 3)) (hq : pc + 3 = q) (kk : G l X md d mc ms post k n q al (v :: st) N h) : G l X md d mc ms post k n pc al (.ref i :: st) N h := by
  subst hq
  intro p e s m args below meth c D tc B b H locs ls Q hC hE hX hH hL hK hQ
  obtain ⟨C, T, NF, hc, hk9, hin, hlk⟩ := hf
  have he := wl_at (tc := tc) (B := B) (b := b) (h := h) hi
  rw [hh] at he
  refine va_get (Ts := LT) (fs := fs.map (cv B b)) (v := cv B b v) hC.1 hC.2.1 hC.2.2.2.2.2.1 hin hC.2.2.2.2.1 hH.1 hH.2.1 i he hc kf hk9 (hC.2.2.2.2.2.1 _ hlk) (fun _ h9 => h9) (by simp [hv]) hd ?_
  exact kk p e s m args below meth c D tc B b H locs ls Q hC hE hX hH hL hK hQ
theorem g_put {ix ci kf i : Nat} {ty : FieldType} {fs : List Value} {v : Value} (hf : FLd md.1.cls ix ci kf ty false) (hi : i < N.1) (hh : h i = cO ci fs) (hl9 : kf < fs.length) (hnr : ∀ B b : Nat, narrow ty (cv B b v) = cv B b v) (hft : ∀ B b : Nat, fits ty (cv B b v) = true) (hd : decode md.2.1 pc = .ok (.putfield ix, 3)) (hq : pc + 3 = q) (kk : G l X md d mc ms post k n q al st N (ueh h i (cO ci (fs.set kf v)))) : G l X md d mc ms post k n pc al (v :: .ref i :: st) N h := by
  subst hq
  intro p e s m args below meth c D tc B b H locs ls Q hC hE hX hH hL hK hQ
  obtain ⟨C, T, NF, ty0, hc, hk9, hin, hlk, hty, hnm, hpt, hfin, hdcl⟩ := hf
  have he := wl_at (tc := tc) (B := B) (b := b) (h := h) hi
  rw [hh] at he
  refine va_put (Ts := LT) (fs := fs.map (cv B b)) (v := cv B b v) (ty := ty) hC.1 hC.2.1 hC.2.2.2.2.2.1 hin ty0 hty hnm hC.2.2.2.2.1 hH.1 hH.2.1 wl_D hH.2.2.1 i he hc kf hk9 (hC.2.2.2.2.2.1 _ hlk) (fun _ h9 => h9) hfin hpt (hnr B b) (hft B b) (by simpa using hl9) hd (fun H1 locs1 hP1 hD1 hS1 => ?_)
  have e1 : (wl tc B b N.1 h).set i (B + i, .inr (ci, (fs.map (cv B b)).set kf (cv B b v))) = wl tc B b N.1 (ueh h i (cO ci (fs.set kf v))) := by
    rw [← wl_set]
    show _ = (wl tc B b N.1 h).set i (B + i, .inr (ci, (fs.set kf v).map (cv B b)))
    rw [List.map_set]
  rw [e1] at hP1
  exact kk p e s m args below meth c D tc B b H1 locs1 ls Q hC hE hX ⟨hH.1, hP1, hS1, hH.2.2.2⟩ hL hK hQ
theorem g_putF {ix ci kf i : Nat} {ty : FieldType} {fs : List Value} {v : Value} (hf : FLd md.1.cls ix ci kf ty true) (hin2 : md.1.name = "<init>") (hi : i < N.1) (hh : h i = cO ci fs) (hl9 : kf < fs.length) (hnr : ∀ B b : Nat, narrow ty (cv B b v) = cv B b v) (hft : ∀ B b : Nat, fits ty (cv B b v) = true) (hd : decode md.2.1 pc = .ok (.putfield ix, 3)) (hq : pc + 3 = q) (kk : G l X md d mc ms post k n q al st N (ueh h i (cO ci (fs.set kf v)))) : G l X md d mc ms post k n pc al (v :: .ref i :: st) N h := by
  subst hq
  intro p e s m args below meth c D tc B b H locs ls Q hC hE hX hH hL hK hQ
  obtain ⟨C, T, NF, ty0, hc, hk9, hin, hlk, hty, hnm, hpt, hfin, hdcl⟩ := hf
  have he := wl_at (tc := tc) (B := B) (b := b) (h := h) hi
  rw [hh] at he
  refine va_putF (Ts := LT) (fs := fs.map (cv B b)) (v := cv B b v) (ty := ty) hC.1 hC.2.1 hC.2.2.2.2.2.1 hin ty0 hty hnm hC.2.2.2.2.1 hH.1 hH.2.1 wl_D hH.2.2.1 i he hc kf hk9 (hC.2.2.2.2.2.1 _ hlk) (fun _ h9 => h9) hfin (hC.2.2.2.2.2.2.2.1.trans hin2) (hdcl rfl) hpt (hnr B b) (hft B b) (by simpa using hl9) hd (fun H1 locs1 hP1 hD1 hS1 => ?_)
  have e1 : (wl tc B b N.1 h).set i (B + i, .inr (ci, (fs.map (cv B b)).set kf (cv B b v))) = wl tc B b N.1 (ueh h i (cO ci (fs.set kf v))) := by
    rw [← wl_set]
    show _ = (wl tc B b N.1 h).set i (B + i, .inr (ci, (fs.set kf v).map (cv B b)))
    rw [List.map_set]
  rw [e1] at hP1
  exact kk p e s m args below meth c D tc B b H1 locs1 ls Q hC hE hX ⟨hH.1, hP1, hS1, hH.2.2.2⟩ hL hK hQ
/-- a row of ints with one place written -/
def ui (f : Int → Int) (z x : Int) : Int → Int := fun j => if j = z then x else f j
theorem ui_s {f : Int → Int} {z x : Int} : ui f z x z = x := if_pos rfl
theorem ui_n {f : Int → Int} {z x j : Int} (h : j ≠ z) : ui f z x j = f j := if_neg h
theorem iI_upd (f : Int → Int) (z x : Int) (h0 : 0 ≤ z) : upd (fun j : Nat => iI (f j)) z.toNat (iI x) = fun j : Nat => iI (ui f z x j) := by
  funext j
  by_cases hz : j = z.toNat
  · have hj : (j : Int) = z := by omega
    simp [upd, hz, ui, hj, Int.toNat_of_nonneg h0]
  · have hj : ¬ (j : Int) = z := by omega
    simp [upd, hz, ui, hj]
theorem at_toNat (f : Int → Int) {z : Int} (h0 : 0 ≤ z) : f (z.toNat : Int) = f z := by rw [Int.toNat_of_nonneg h0]
def cpy (f g : Int → Int) (sp dp n : Int) : Int → Int := fun j => if dp ≤ j ∧ j < dp + n then f (sp + (j - dp)) else g j
theorem iI_cpy (f g : Int → Int) (sp dp n : Int) (h1 : 0 ≤ sp) (h2 : 0 ≤ dp) (h3 : 0 ≤ n) : va_cpy (fun j : Nat => iI (f j)) (fun j : Nat => iI (g j)) sp.toNat dp.toNat n.toNat = fun j : Nat => iI (cpy f g sp dp n j) := by
  funext j
  unfold va_cpy cpy
  by_cases hc : dp.toNat ≤ j ∧ j < dp.toNat + n.toNat
  · have hd : dp ≤ j ∧ (j : Int) < dp + n := by omega
    rw [if_pos hc, if_pos hd]
    have e9 : ((sp.toNat + (j - dp.toNat) : Nat) : Int) = sp + (j - dp) := by omega
    show iI (f ((sp.toNat + (j - dp.toNat) : Nat) : Int)) = _
    rw [e9]
  · have hd : ¬ (dp ≤ j ∧ (j : Int) < dp + n) := by omega
    rw [if_neg hc, if_neg hd]
theorem g_iaload {i nn : Nat} {z : Int} {f : Int → Int} (hi : i < N.1) (hh : h i = cI nn f) (h0 : 0 ≤ z) (h1 : z < nn) (hnn : nn < 2147483648) (hd : decode md.2.1 pc = .ok (.iaload, 1)) (hq : pc + 1 = q) (kk : G l X md d mc ms post k n q al (.int (iI (f z)) :: st) N h) : G l X md d mc ms post k n pc al (.int (iI z) :: .ref i :: st) N h := by
  subst hq
  intro p e s m args below meth c D tc B b H locs ls Q hC hE hX hH hL hK hQ
  have he := wl_at (tc := tc) (B := B) (b := b) (h := h) hi
  rw [hh] at he
  refine va_iald (n := nn) (f := fun j : Nat => iI (f j)) hC.1 hC.2.1 hH.1 hH.2.1 i 0 he rfl (iI_in h0 h1 hnn) hd ?_
  rw [iI_clamp h0 (by omega)]
  show W _ _ _ _ _ _ _ _ _ _ _ _ _ _ _ (F0 _ _ _ (.int (iI (f (z.toNat : Int))) :: _))
  rw [at_toNat f h0]
  exact kk p e s m args below meth c D tc B b H locs ls Q hC hE hX hH hL hK hQ
theorem g_baload {i nn : Nat} {z : Int} {f : Int → Int} (hi : i < N.1) (hh : h i = cZ nn f) (h0 : 0 ≤ z) (h1 : z < nn) (hnn : nn < 2147483648) (hd : decode md.2.1 pc = .ok (.baload, 1)) (hq : pc + 1 = q) (kk : G l X md d mc ms post k n q al (.int (iI (f z)) :: st) N h) : G l X md d mc ms post k n pc al (.int (iI z) :: .ref i :: st) N h := by
  subst hq
  intro p e s m args below meth c D tc B b H locs ls Q hC hE hX hH hL hK hQ
  have he := wl_at (tc := tc) (B := B) (b := b) (h := h) hi
  rw [hh] at he
  refine va_zald (n := nn) (f := fun j : Nat => iI (f j)) hC.1 hC.2.1 hH.1 hH.2.1 i 1 he rfl (iI_in h0 h1 hnn) hd ?_
  rw [iI_clamp h0 (by omega)]
  show W _ _ _ _ _ _ _ _ _ _ _ _ _ _ _ (F0 _ _ _ (.int (iI (f (z.toNat : Int))) :: _))
  rw [at_toNat f h0]
  exact kk p e s m args below meth c D tc B b H locs ls Q hC hE hX hH hL hK hQ
theorem g_laload {i nn : Nat} {z : Int} {f : Nat → Int64} (hi : i < N.1) (hh : h i = cJ nn f) (h0 : 0 ≤ z) (h1 : z < nn) (hnn : nn < 2147483648) (hd : decode md.2.1 pc = .ok (.laload, 1)) (hq : pc + 1 = q) (kk : G l X md d mc ms post k n q al (.long (f z.toNat) :: st) N h) : G l X md d mc ms post k n pc al (.int (iI z) :: .ref i :: st) N h := by
  subst hq
  intro p e s m args below meth c D tc B b H locs ls Q hC hE hX hH hL hK hQ
  have he := wl_at (tc := tc) (B := B) (b := b) (h := h) hi
  rw [hh] at he
  refine va_lald (n := nn) (f := f) hC.1 hC.2.1 hH.1 hH.2.1 i 2 he rfl (iI_in h0 h1 hnn) hd ?_
  rw [iI_clamp h0 (by omega)]
  skip
  exact kk p e s m args below meth c D tc B b H locs ls Q hC hE hX hH hL hK hQ
theorem g_daload {i nn : Nat} {z : Int} {f : Nat → UInt64} (hi : i < N.1) (hh : h i = cD nn f) (h0 : 0 ≤ z) (h1 : z < nn) (hnn : nn < 2147483648) (hd : decode md.2.1 pc = .ok (.daload, 1)) (hq : pc + 1 = q) (kk : G l X md d mc ms post k n q al (.double (f z.toNat) :: st) N h) : G l X md d mc ms post k n pc al (.int (iI z) :: .ref i :: st) N h := by
  subst hq
  intro p e s m args below meth c D tc B b H locs ls Q hC hE hX hH hL hK hQ
  have he := wl_at (tc := tc) (B := B) (b := b) (h := h) hi
  rw [hh] at he
  refine va_dald (n := nn) (f := f) hC.1 hC.2.1 hH.1 hH.2.1 i 3 he rfl (iI_in h0 h1 hnn) hd ?_
  rw [iI_clamp h0 (by omega)]
  skip
  exact kk p e s m args below meth c D tc B b H locs ls Q hC hE hX hH hL hK hQ
theorem g_aaload {i nn t r : Nat} {z : Int} {f : Int → Option Nat} (hi : i < N.1) (hh : h i = cR t nn f) (ht : t = 4 ∨ t = 5) (h0 : 0 ≤ z) (h1 : z < nn) (hnn : nn < 2147483648) (hr : f z = some r) (hd : decode md.2.1 pc = .ok (.aaload, 1)) (hq : pc + 1 = q) (kk : G l X md d mc ms post k n q al (.ref r :: st) N h) : G l X md d mc ms post k n pc al (.int (iI z) :: .ref i :: st) N h := by
  subst hq
  intro p e s m args below meth c D tc B b H locs ls Q hC hE hX hH hL hK hQ
  have he := wl_at (tc := tc) (B := B) (b := b) (h := h) hi
  rw [hh] at he
  rcases ht with rfl | rfl
  · refine va_aldq (n := nn) (C := RX4) (f := fun j : Nat => (f j).map (B + ·)) hC.1 hC.2.1 hH.1 hH.2.1 i 4 he rfl (iI_in h0 h1 hnn) hd ?_
    rw [iI_clamp h0 (by omega), Int.toNat_of_nonneg h0, hr]
    exact kk p e s m args below meth c D tc B b H locs ls Q hC hE hX hH hL hK hQ
  · refine va_aldq (n := nn) (C := RX6) (f := fun j : Nat => (f j).map (B + ·)) hC.1 hC.2.1 hH.1 hH.2.1 i 5 he rfl (iI_in h0 h1 hnn) hd ?_
    rw [iI_clamp h0 (by omega), Int.toNat_of_nonneg h0, hr]
    exact kk p e s m args below meth c D tc B b H locs ls Q hC hE hX hH hL hK hQ
theorem g_iastore {i nn : Nat} {z : Int} {x : Int} {f : Int → Int} (hi : i < N.1) (hh : h i = cI nn f) (h0 : 0 ≤ z) (h1 : z < nn) (hnn : nn < 2147483648) (hd : decode md.2.1 pc = .ok (.iastore, 1)) (hq : pc + 1 = q) (kk : G l X md d mc ms post k n q al st N (ueh h i (cI nn (ui f z x)))) : G l X md d mc ms post k n pc al (.int (iI x) :: .int (iI z) :: .ref i :: st) N h := by
  subst hq
  intro p e s m args below meth c D tc B b H locs ls Q hC hE hX hH hL hK hQ
  have he := wl_at (tc := tc) (B := B) (b := b) (h := h) hi
  rw [hh] at he
  refine va_iast (n := nn) (f := fun j : Nat => iI (f j)) hC.1 hC.2.1 hH.1 hH.2.1 wl_D hH.2.2.1 i 0 he rfl (iI_in h0 h1 hnn) hd (fun H1 locs1 hP1 hD1 hS1 => ?_)
  rw [iI_clamp h0 (by omega), iI_upd f z x h0] at hP1
  have hP2 : va_P D vwCl (wl tc B b N.1 (ueh h i (cI nn (ui f z x)))) H1 := by rw [← wl_set]; exact hP1
  exact kk p e s m args below meth c D tc B b H1 locs1 ls Q hC hE hX ⟨hH.1, hP2, hS1, hH.2.2.2⟩ hL hK hQ
theorem g_bastore {i nn : Nat} {z : Int} {x : Int} {f : Int → Int} (hx : x = 0 ∨ x = 1) (hi : i < N.1) (hh : h i = cZ nn f) (h0 : 0 ≤ z) (h1 : z < nn) (hnn : nn < 2147483648) (hd : decode md.2.1 pc = .ok (.bastore, 1)) (hq : pc + 1 = q) (kk : G l X md d mc ms post k n q al st N (ueh h i (cZ nn (ui f z x)))) : G l X md d mc ms post k n pc al (.int (iI x) :: .int (iI z) :: .ref i :: st) N h := by
  subst hq
  intro p e s m args below meth c D tc B b H locs ls Q hC hE hX hH hL hK hQ
  have he := wl_at (tc := tc) (B := B) (b := b) (h := h) hi
  rw [hh] at he
  refine va_zast (n := nn) (f := fun j : Nat => iI (f j)) hC.1 hC.2.1 hH.1 hH.2.1 wl_D hH.2.2.1 i 1 he rfl (iI_in h0 h1 hnn) hd (fun H1 locs1 hP1 hD1 hS1 => ?_)
  rw [iI_clamp h0 (by omega), show vp_nar .boolean (iI x) = iI x from by rcases hx with rfl | rfl <;> decide, iI_upd f z x h0] at hP1
  have hP2 : va_P D vwCl (wl tc B b N.1 (ueh h i (cZ nn (ui f z x)))) H1 := by rw [← wl_set]; exact hP1
  exact kk p e s m args below meth c D tc B b H1 locs1 ls Q hC hE hX ⟨hH.1, hP2, hS1, hH.2.2.2⟩ hL hK hQ
theorem g_lastore {i nn : Nat} {z : Int} {x : Int64} {f : Nat → Int64} (hi : i < N.1) (hh : h i = cJ nn f) (h0 : 0 ≤ z) (h1 : z < nn) (hnn : nn < 2147483648) (hd : decode md.2.1 pc = .ok (.lastore, 1)) (hq : pc + 1 = q) (kk : G l X md d mc ms post k n q al st N (ueh h i (cJ nn (vp_updL f z.toNat x)))) : G l X md d mc ms post k n pc al (.long x :: .int (iI z) :: .ref i :: st) N h := by
  subst hq
  intro p e s m args below meth c D tc B b H locs ls Q hC hE hX hH hL hK hQ
  have he := wl_at (tc := tc) (B := B) (b := b) (h := h) hi
  rw [hh] at he
  refine va_last (n := nn) (f := f) hC.1 hC.2.1 hH.1 hH.2.1 wl_D hH.2.2.1 i 2 he rfl (iI_in h0 h1 hnn) hd (fun H1 locs1 hP1 hD1 hS1 => ?_)
  rw [iI_clamp h0 (by omega)] at hP1
  have hP2 : va_P D vwCl (wl tc B b N.1 (ueh h i (cJ nn (vp_updL f z.toNat x)))) H1 := by rw [← wl_set]; exact hP1
  exact kk p e s m args below meth c D tc B b H1 locs1 ls Q hC hE hX ⟨hH.1, hP2, hS1, hH.2.2.2⟩ hL hK hQ
theorem g_dastore {i nn : Nat} {z : Int} {x : UInt64} {f : Nat → UInt64} (hi : i < N.1) (hh : h i = cD nn f) (h0 : 0 ≤ z) (h1 : z < nn) (hnn : nn < 2147483648) (hd : decode md.2.1 pc = .ok (.dastore, 1)) (hq : pc + 1 = q) (kk : G l X md d mc ms post k n q al st N (ueh h i (cD nn (vf_upd f z.toNat x)))) : G l X md d mc ms post k n pc al (.double x :: .int (iI z) :: .ref i :: st) N h := by
  subst hq
  intro p e s m args below meth c D tc B b H locs ls Q hC hE hX hH hL hK hQ
  have he := wl_at (tc := tc) (B := B) (b := b) (h := h) hi
  rw [hh] at he
  refine va_dast (n := nn) (f := f) hC.1 hC.2.1 hH.1 hH.2.1 wl_D hH.2.2.1 i 3 he rfl (iI_in h0 h1 hnn) hd (fun H1 locs1 hP1 hD1 hS1 => ?_)
  rw [iI_clamp h0 (by omega)] at hP1
  have hP2 : va_P D vwCl (wl tc B b N.1 (ueh h i (cD nn (vf_upd f z.toNat x)))) H1 := by rw [← wl_set]; exact hP1
  exact kk p e s m args below meth c D tc B b H1 locs1 ls Q hC hE hX ⟨hH.1, hP2, hS1, hH.2.2.2⟩ hL hK hQ
theorem g_alen {i nn : Nat} {f : Int → Int} (hi : i < N.1) (hh : h i = cI nn f) (hd : decode md.2.1 pc = .ok (.arraylength, 1)) (hq : pc + 1 = q) (kk : G l X md d mc ms post k n q al (.int (iI nn) :: st) N h) : G l X md d mc ms post k n pc al (.ref i :: st) N h := by
  subst hq
  intro p e s m args below meth c D tc B b H locs ls Q hC hE hX hH hL hK hQ
  have he := wl_at (tc := tc) (B := B) (b := b) (h := h) hi
  rw [hh] at he
  refine va_alen (x := (nn, .inl (fun j : Nat => iI (f j)))) hC.1 hC.2.1 hH.1 hH.2.1 i 0 he rfl rfl hd ?_
  have := kk p e s m args below meth c D tc B b H locs ls Q hC hE hX hH hL hK hQ
  rw [show Int32.ofNat nn = iI nn from (iI_nI nn).symm]
  exact this
def ACp (own : String) (ix : Nat) : Prop := Cond.methodLink own ix arraycopyName ∈ LT ∧ Cond.native arraycopyName ∈ LT ∧ Cond.static arraycopyName ∈ LT ∧ Cond.initialized "java/lang/System" ∈ LT
theorem g_copy {ix i0 i1 n0 n1 : Nat} {sp dp nn : Int} {f g : Int → Int} (ha : ACp md.1.cls ix) (hi0 : i0 < N.1) (hh0 : h i0 = cI n0 f) (hi1 : i1 < N.1) (hh1 : h i1 = cI n1 g) (h1 : 0 ≤ sp) (h2 : 0 ≤ dp) (h3 : 0 ≤ nn) (h4 : sp + nn ≤ n0) (h5 : dp + nn ≤ n1) (hb0 : n0 < 2147483648) (hb1 : n1 < 2147483648) (hcat : (st.map Value.category).sum ≤ 8) (hdd : 1 ≤ d) (hd : decode md.2.1 pc = .ok (.invokestatic ix, 3)) (hq : pc + 3 = q) (kk : G l X md d mc ms post k n q al st N (ueh h i1 (cI n1 (cpy f g sp dp nn)))) : G l X md d mc ms post k n pc al (.int (iI nn) :: .int (iI dp) :: .ref i1 :: .int (iI sp) :: .ref i0 :: st) N h := by
  subst hq
  intro p e s m args below meth c D tc B b H locs ls Q hC hE hX hH hL hK hQ
  have he0 := wl_at (tc := tc) (B := B) (b := b) (h := h) hi0
  rw [hh0] at he0
  have he1 := wl_at (tc := tc) (B := B) (b := b) (h := h) hi1
  rw [hh1] at he1
  have hts := hC.2.2.2.2.2.1
  have pos : ∀ z : Int, 0 ≤ z → z < 2147483648 → ¬ iI z < 0 := fun z hz hz2 => by rw [iI_lt0 ⟨by omega, by omega⟩]; omega
  have hcat2 := catsum0 (B := B) (b := b) hcat
  refine va_copyi (f := fun j : Nat => iI (f j)) (g := fun j : Nat => iI (g j)) (n0 := n0) (n1 := n1) (ty := .int) hC.1 hC.2.1 (hC.2.2.1.trans hL.1.symm) hC.2.2.2.2.1 (hts _ ha.1) (hts _ ha.2.1) (hts _ ha.2.2.1) (hts _ ha.2.2.2) hH.1 hH.2.1 wl_D hH.2.2.1 i0 i1 0 0 he0 he1 rfl rfl rfl (pos sp h1 (by omega)) (pos dp h2 (by omega)) (pos nn h3 (by omega)) (by rw [iI_clamp h1 (by omega), iI_clamp h3 (by omega)]; omega) (by rw [iI_clamp h2 (by omega), iI_clamp h3 (by omega)]; omega) (fun _ _ => rfl) hdd (by
    have e9 : nativeFrameWords "java/lang/System" "arraycopy" 5 + 11 ≤ 29 := by decide +kernel
    show _ ≤ 37 * d
    omega) hd (fun H1 locs1 hP1 hD1 hS1 => ?_)
  rw [iI_clamp h1 (by omega), iI_clamp h2 (by omega), iI_clamp h3 (by omega), iI_cpy f g sp dp nn h1 h2 h3] at hP1
  have hP2 : va_P D vwCl (wl tc B b N.1 (ueh h i1 (cI n1 (cpy f g sp dp nn)))) H1 := by rw [← wl_set]; exact hP1
  exact kk p e s m args below meth c D tc B b H1 locs1 ls Q hC hE hX ⟨hH.1, hP2, hS1, hH.2.2.2⟩ hL hK hQ
end GHeap
