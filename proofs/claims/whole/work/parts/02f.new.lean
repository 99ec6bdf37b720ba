/-! ===== rows that make objects (while the objects are numbered one behind another), and the script's ===== -/
def NWd (own : String) (ix ci NF : Nat) (fs : List Value) : Prop := ∃ (C : String) (T : u_T) (ty0 : Nat → FieldType), vwCl[ci]? = some (C, T, NF) ∧ (∀ w ∈ u_ws C T NF, w ∈ LT) ∧ (∀ k, k < NF → parseFieldDescriptor (T k).2.2.1 = some (ty0 k)) ∧ Cond.classLink own ix C ∈ LT ∧ Cond.instantiable C NF ∈ LT ∧ Cond.initialized C ∈ LT ∧ (∀ B b j : Nat, j < NF → defaultValue (ty0 j) = vp_V (fs.map (cv B b)) j)
def uo (f : Int → Option Nat) (z : Int) (x : Option Nat) : Int → Option Nat := fun j => if j = z then x else f j
section GNew
variable {l : Launch} {X : State → Nat → Nat → Prop} {md : MD} {d mc ms : Nat} {post : Post} {k n pc q : Nat} {al : List (Option Value)} {st st0 : List Value} {N : NB} {h : EHp}
theorem HR.pushed {D : va_G} {tc : Nat → ClassId} {B b : Nat} {s : State} {H H1 : Heap} {locs : List Loc} {c : ECell} (hH : HR D tc B b N h s H locs k) (hz : N.2 = true) (hsz : H.size = B + N.1) (z1 : H1.size = H.size + 1) (o1 : ∀ q, q < H.size → H1[q]? = H[q]?) (hat : va_at D vwCl (B + N.1, ce tc B b c) H1) : HR D tc B b (N.1 + 1, true) (ueh h N.1 c) s H1 locs (k + 1) := by
  refine ⟨hH.1, ?_, ⟨Nat.le_trans hH.2.2.1.1 (by omega), fun x h1 h2 => (o1 x (Nat.lt_of_lt_of_le h1 hH.2.2.1.1)).trans (hH.2.2.1.2.1 x h1 h2), hH.2.2.1.2.2⟩, hH.2.2.2.1, fun _ => ?_⟩
  · show va_P D vwCl (wl tc B b (N.1 + 1) (ueh h N.1 c)) H1
    rw [← wl_push]
    refine (hH.2.1.kept (fun j x hx => o1 x.1 ((hH.2.1 j x hx).lt))).app (fun j x hx => ?_)
    have hj : j < 1 := (List.getElem?_eq_some_iff.mp hx).1
    rw [show j = 0 by omega] at hx
    cases hx
    exact hat
  · have := hH.2.2.2.2 hz
    show s.heap.size + (k + 1) ≤ B + (N.1 + 1)
    omega

theorem g_new {ix ci NF : Nat} {fs : List Value} (hw : NWd md.1.cls ix ci NF fs) (hz : N.2 = true) (hk : k + 1 ≤ mc) (hn : n + NF ≤ ms) (hd : decode md.2.1 pc = .ok (.new ix, 3)) (hq : pc + 3 = q) (kk : G l X md d mc ms post (k + 1) (n + NF) q al (.ref N.1 :: st) (N.1 + 1, true) (ueh h N.1 (cO ci fs))) : G l X md d mc ms post k n pc al st N h := by
  subst hq
  intro p e s m args below meth c D tc B b H locs ls Q hC hE hX hH hL hK hQ T hT hS
  have hsz := hH.tight hT hS.heapSize hz
  obtain ⟨C, TT, ty0, hc, hin, hty, w1, w2, w3, hdf⟩ := hw
  have hts := hC.2.2.2.2.2.1
  have hKn := hH.1.1 ci _ hc
  have K9 : W p l e (rmo d mc ms) s m args below meth c H locs k n Q (F0 m pc ls (st.map (cv B b))) := by
    refine W.newcK (g := F0 m pc ls (st.map (cv B b))) hC.1 hC.2.1 hC.2.2.2.2.1 (hts _ w1) (hts _ w2) (hts _ w3) rfl hd hk hn hKn.2.1 hsz (fun H1 kC hkC e1 z1 o1 => ?_)
    have hH1 := HR.pushed (c := cO ci fs) (H1 := H1) hH hz hsz (by rw [z1, hsz]) (by rw [hsz]; exact o1) ⟨_, hc, (u_born ty0 hts hin hKn hkC e1 hty).to (hdf B b)⟩
    exact kk p e s m args below meth c D tc B b H1 locs ls Q hC hE hX hH1 hL hK hQ
  exact K9 T hT hS
theorem g_newa_int {nn : Nat} (hw : Cond.arrayClass .int ∈ LT) (hz : N.2 = true) (hnn : nn ≤ 100000) (hk : k + 1 ≤ mc) (hn : n + nn ≤ ms) (hd : decode md.2.1 pc = .ok (.newarray .int, 2)) (hq : pc + 2 = q) (kk : G l X md d mc ms post (k + 1) (n + nn) q al (.ref N.1 :: st) (N.1 + 1, true) (ueh h N.1 (cI nn (fun _ => 0)))) : G l X md d mc ms post k n pc al (.int (iI nn) :: st) N h := by
  subst hq
  intro p e s m args below meth c D tc B b H locs ls Q hC hE hX hH hL hK hQ T hT hS
  have hsz := hH.tight hT hS.heapSize hz
  have hts := hC.2.2.2.2.2.1
  have ht := (hH.1.2 0 (tc 0, .int) rfl).2
  have K9 : W p l e (rmo d mc ms) s m args below meth c H locs k n Q (F0 m pc ls (.int (iI nn) :: st.map (cv B b))) := by
    refine va_newaK (g := F0 m pc ls (.int (iI nn) :: st.map (cv B b))) (rest := st.map (cv B b)) (atype := .int) (N := nn) hC.1 hC.2.1 (hts _ hw) rfl hd rfl (by rw [iI_lt0 ⟨by omega, by omega⟩]; omega) (by rw [iI_clamp (by omega) (by omega)]; omega) (by show nn * _ ≤ _; simp only [newarray.typeOf, componentBytes]; omega) hk hn hsz (fun H1 cA e1 z1 o1 hAr hNm => ?_)
    have hcA : cA = tc 0 := Option.some.inj (hNm.symm.trans ht)
    subst hcA
    have hH1 := HR.pushed (c := cI nn (fun _ => 0)) (H1 := H1) hH hz hsz (by rw [z1, hsz]) (by rw [hsz]; exact o1) e1
    exact kk p e s m args below meth c D tc B b H1 locs ls Q hC hE hX hH1 hL hK hQ
  exact K9 T hT hS
theorem g_newa_boolean {nn : Nat} (hw : Cond.arrayClass .boolean ∈ LT) (hz : N.2 = true) (hnn : nn ≤ 100000) (hk : k + 1 ≤ mc) (hn : n + nn ≤ ms) (hd : decode md.2.1 pc = .ok (.newarray .boolean, 2)) (hq : pc + 2 = q) (kk : G l X md d mc ms post (k + 1) (n + nn) q al (.ref N.1 :: st) (N.1 + 1, true) (ueh h N.1 (cZ nn (fun _ => 0)))) : G l X md d mc ms post k n pc al (.int (iI nn) :: st) N h := by
  subst hq
  intro p e s m args below meth c D tc B b H locs ls Q hC hE hX hH hL hK hQ T hT hS
  have hsz := hH.tight hT hS.heapSize hz
  have hts := hC.2.2.2.2.2.1
  have ht := (hH.1.2 1 (tc 1, .boolean) rfl).2
  have K9 : W p l e (rmo d mc ms) s m args below meth c H locs k n Q (F0 m pc ls (.int (iI nn) :: st.map (cv B b))) := by
    refine va_newaK (g := F0 m pc ls (.int (iI nn) :: st.map (cv B b))) (rest := st.map (cv B b)) (atype := .boolean) (N := nn) hC.1 hC.2.1 (hts _ hw) rfl hd rfl (by rw [iI_lt0 ⟨by omega, by omega⟩]; omega) (by rw [iI_clamp (by omega) (by omega)]; omega) (by show nn * _ ≤ _; simp only [newarray.typeOf, componentBytes]; omega) hk hn hsz (fun H1 cA e1 z1 o1 hAr hNm => ?_)
    have hcA : cA = tc 1 := Option.some.inj (hNm.symm.trans ht)
    subst hcA
    have hH1 := HR.pushed (c := cZ nn (fun _ => 0)) (H1 := H1) hH hz hsz (by rw [z1, hsz]) (by rw [hsz]; exact o1) e1
    exact kk p e s m args below meth c D tc B b H1 locs ls Q hC hE hX hH1 hL hK hQ
  exact K9 T hT hS
theorem g_newa_long {nn : Nat} (hw : Cond.arrayClass .long ∈ LT) (hz : N.2 = true) (hnn : nn ≤ 100000) (hk : k + 1 ≤ mc) (hn : n + nn ≤ ms) (hd : decode md.2.1 pc = .ok (.newarray .long, 2)) (hq : pc + 2 = q) (kk : G l X md d mc ms post (k + 1) (n + nn) q al (.ref N.1 :: st) (N.1 + 1, true) (ueh h N.1 (cJ nn (fun _ => 0)))) : G l X md d mc ms post k n pc al (.int (iI nn) :: st) N h := by
  subst hq
  intro p e s m args below meth c D tc B b H locs ls Q hC hE hX hH hL hK hQ T hT hS
  have hsz := hH.tight hT hS.heapSize hz
  have hts := hC.2.2.2.2.2.1
  have ht := (hH.1.2 2 (tc 2, .long) rfl).2
  have K9 : W p l e (rmo d mc ms) s m args below meth c H locs k n Q (F0 m pc ls (.int (iI nn) :: st.map (cv B b))) := by
    refine va_newaK (g := F0 m pc ls (.int (iI nn) :: st.map (cv B b))) (rest := st.map (cv B b)) (atype := .long) (N := nn) hC.1 hC.2.1 (hts _ hw) rfl hd rfl (by rw [iI_lt0 ⟨by omega, by omega⟩]; omega) (by rw [iI_clamp (by omega) (by omega)]; omega) (by show nn * _ ≤ _; simp only [newarray.typeOf, componentBytes]; omega) hk hn hsz (fun H1 cA e1 z1 o1 hAr hNm => ?_)
    have hcA : cA = tc 2 := Option.some.inj (hNm.symm.trans ht)
    subst hcA
    have hH1 := HR.pushed (c := cJ nn (fun _ => 0)) (H1 := H1) hH hz hsz (by rw [z1, hsz]) (by rw [hsz]; exact o1) e1
    exact kk p e s m args below meth c D tc B b H1 locs ls Q hC hE hX hH1 hL hK hQ
  exact K9 T hT hS
theorem g_newa_double {nn : Nat} (hw : Cond.arrayClass .double ∈ LT) (hz : N.2 = true) (hnn : nn ≤ 100000) (hk : k + 1 ≤ mc) (hn : n + nn ≤ ms) (hd : decode md.2.1 pc = .ok (.newarray .double, 2)) (hq : pc + 2 = q) (kk : G l X md d mc ms post (k + 1) (n + nn) q al (.ref N.1 :: st) (N.1 + 1, true) (ueh h N.1 (cD nn (fun _ => 0)))) : G l X md d mc ms post k n pc al (.int (iI nn) :: st) N h := by
  subst hq
  intro p e s m args below meth c D tc B b H locs ls Q hC hE hX hH hL hK hQ T hT hS
  have hsz := hH.tight hT hS.heapSize hz
  have hts := hC.2.2.2.2.2.1
  have ht := (hH.1.2 3 (tc 3, .double) rfl).2
  have K9 : W p l e (rmo d mc ms) s m args below meth c H locs k n Q (F0 m pc ls (.int (iI nn) :: st.map (cv B b))) := by
    refine va_newaK (g := F0 m pc ls (.int (iI nn) :: st.map (cv B b))) (rest := st.map (cv B b)) (atype := .double) (N := nn) hC.1 hC.2.1 (hts _ hw) rfl hd rfl (by rw [iI_lt0 ⟨by omega, by omega⟩]; omega) (by rw [iI_clamp (by omega) (by omega)]; omega) (by show nn * _ ≤ _; simp only [newarray.typeOf, componentBytes]; omega) hk hn hsz (fun H1 cA e1 z1 o1 hAr hNm => ?_)
    have hcA : cA = tc 3 := Option.some.inj (hNm.symm.trans ht)
    subst hcA
    have hH1 := HR.pushed (c := cD nn (fun _ => 0)) (H1 := H1) hH hz hsz (by rw [z1, hsz]) (by rw [hsz]; exact o1) e1
    exact kk p e s m args below meth c D tc B b H1 locs ls Q hC hE hX hH1 hL hK hQ
  exact K9 T hT hS
theorem g_anew_P {ix nn : Nat} (hw : Cond.classLink md.1.cls ix RX4 ∈ LT) (hz : N.2 = true) (hnn : nn ≤ 100000) (hk : k + 1 ≤ mc) (hn : n + nn ≤ ms) (hd : decode md.2.1 pc = .ok (.anewarray ix, 3)) (hq : pc + 3 = q) (kk : G l X md d mc ms post (k + 1) (n + nn) q al (.ref N.1 :: st) (N.1 + 1, true) (ueh h N.1 (cR 4 nn (fun _ => none)))) : G l X md d mc ms post k n pc al (.int (iI nn) :: st) N h := by
  subst hq
  intro p e s m args below meth c D tc B b H locs ls Q hC hE hX hH hL hK hQ T hT hS
  have hsz := hH.tight hT hS.heapSize hz
  have hts := hC.2.2.2.2.2.1
  obtain ⟨kA0, comp0, -, -, -, ht⟩ := (hH.1.2 4 (tc 4, .object RX4) rfl).2
  have hcl : (iI (nn : Int)).toNatClampNeg = nn := by rw [iI_clamp (by omega) (by omega)]; omega
  have K9 : W p l e (rmo d mc ms) s m args below meth c H locs k n Q (F0 m pc ls (.int (iI nn) :: st.map (cv B b))) := by
    refine W.anew (g := F0 m pc ls (.int (iI nn) :: st.map (cv B b))) (rest := st.map (cv B b)) hC.1 hC.2.1 hC.2.2.2.2.1 (hts _ hw) (va_AO.use hE.2.2.2.2.2.2.2.1) rfl hd rfl (by rw [iI_lt0 ⟨by omega, by omega⟩]; omega) (by rw [hcl]; omega) hk (by rw [hcl]; exact hn) (fun cA kA comp f1 f2 f3 f4 => ?_)
    have hcA : cA = tc 4 := Option.some.inj (f1.symm.trans ht)
    subst hcA
    rw [hcl]
    have hH1 := HR.pushed (c := cR 4 nn (fun _ => none)) (H1 := H.push ({ cls := tc 4, slots := Array.replicate nn .null, vm := .none } : Cell)) hH hz hsz (by rw [Array.size_push]) (fun q9 hq9 => by rw [Array.getElem?_push, if_neg (Nat.ne_of_lt hq9)]) (by
      show (H.push _)[B + N.1]? = some (vp_cell _ _)
      rw [vp_cell_q, ← hsz, Array.getElem?_push_size, ← arrV_new]
      rfl)
    have := kk p e s m args below meth c D tc B b _ locs ls Q hC hE hX hH1 hL hK hQ
    rw [hsz]
    exact this
  exact K9 T hT hS
theorem g_anew_S {ix nn : Nat} (hw : Cond.classLink md.1.cls ix RX6 ∈ LT) (hz : N.2 = true) (hnn : nn ≤ 100000) (hk : k + 1 ≤ mc) (hn : n + nn ≤ ms) (hd : decode md.2.1 pc = .ok (.anewarray ix, 3)) (hq : pc + 3 = q) (kk : G l X md d mc ms post (k + 1) (n + nn) q al (.ref N.1 :: st) (N.1 + 1, true) (ueh h N.1 (cR 5 nn (fun _ => none)))) : G l X md d mc ms post k n pc al (.int (iI nn) :: st) N h := by
  subst hq
  intro p e s m args below meth c D tc B b H locs ls Q hC hE hX hH hL hK hQ T hT hS
  have hsz := hH.tight hT hS.heapSize hz
  have hts := hC.2.2.2.2.2.1
  obtain ⟨kA0, comp0, -, -, -, ht⟩ := (hH.1.2 5 (tc 5, .object RX6) rfl).2
  have hcl : (iI (nn : Int)).toNatClampNeg = nn := by rw [iI_clamp (by omega) (by omega)]; omega
  have K9 : W p l e (rmo d mc ms) s m args below meth c H locs k n Q (F0 m pc ls (.int (iI nn) :: st.map (cv B b))) := by
    refine W.anew (g := F0 m pc ls (.int (iI nn) :: st.map (cv B b))) (rest := st.map (cv B b)) hC.1 hC.2.1 hC.2.2.2.2.1 (hts _ hw) (va_AO.use hE.2.2.2.2.2.2.2.2.1) rfl hd rfl (by rw [iI_lt0 ⟨by omega, by omega⟩]; omega) (by rw [hcl]; omega) hk (by rw [hcl]; exact hn) (fun cA kA comp f1 f2 f3 f4 => ?_)
    have hcA : cA = tc 5 := Option.some.inj (f1.symm.trans ht)
    subst hcA
    rw [hcl]
    have hH1 := HR.pushed (c := cR 5 nn (fun _ => none)) (H1 := H.push ({ cls := tc 5, slots := Array.replicate nn .null, vm := .none } : Cell)) hH hz hsz (by rw [Array.size_push]) (fun q9 hq9 => by rw [Array.getElem?_push, if_neg (Nat.ne_of_lt hq9)]) (by
      show (H.push _)[B + N.1]? = some (vp_cell _ _)
      rw [vp_cell_q, ← hsz, Array.getElem?_push_size, ← arrV_new]
      rfl)
    have := kk p e s m args below meth c D tc B b _ locs ls Q hC hE hX hH1 hL hK hQ
    rw [hsz]
    exact this
  exact K9 T hT hS
theorem g_aastore {i j nn t ci : Nat} {z : Int} {f : Int → Option Nat} {fs : List Value} (hi : i < N.1) (hh : h i = cR t nn f) (ht : (t = 4 ∧ ci = 4) ∨ (t = 5 ∧ ci = 5)) (hj : j < N.1) (hhj : h j = cO ci fs) (h0 : 0 ≤ z) (h1 : z < nn) (hnn : nn < 2147483648) (hd : decode md.2.1 pc = .ok (.aastore, 1)) (hq : pc + 1 = q) (kk : G l X md d mc ms post k n q al st N (ueh h i (cR t nn (uo f z (some j))))) : G l X md d mc ms post k n pc al (.ref j :: .int (iI z) :: .ref i :: st) N h := by
  subst hq
  intro p e s m args below meth c D tc B b H locs ls Q hC hE hX hH hL hK hQ
  have he := wl_at (tc := tc) (B := B) (b := b) (h := h) hi
  rw [hh] at he
  have hej := wl_at (tc := tc) (B := B) (b := b) (h := h) hj
  rw [hhj] at hej
  have hfe : va_up (fun y : Nat => (f y).map (B + ·)) z.toNat (some (B + j)) = fun y : Nat => (uo f z (some j) y).map (B + ·) := by
    funext y
    by_cases hy : y = z.toNat
    · have hj : (y : Int) = z := by omega
      simp [va_up, hy, uo, Int.toNat_of_nonneg h0]
    · have hj : ¬ (y : Int) = z := by omega
      simp [va_up, hy, uo, hj]
  rcases ht with ⟨rfl, rfl⟩ | ⟨rfl, rfl⟩
  · refine va_astq (n := nn) (f := fun y : Nat => (f y).map (B + ·)) (r := (RX4, TX4, 4)) hC.1 hC.2.1 hH.1 hH.2.1 wl_D hH.2.2.1 i 4 j 4 he rfl hej rfl (iI_in h0 h1 hnn) hd (fun H1 locs1 hP1 hD1 hS1 => ?_)
    rw [iI_clamp h0 (by omega), hfe] at hP1
    have hP2 : va_P D vwCl (wl tc B b N.1 (ueh h i (cR 4 nn (uo f z (some j))))) H1 := by rw [← wl_set]; exact hP1
    exact kk p e s m args below meth c D tc B b H1 locs1 ls Q hC hE hX ⟨hH.1, hP2, hS1, hH.2.2.2⟩ hL hK hQ
  · refine va_astq (n := nn) (f := fun y : Nat => (f y).map (B + ·)) (r := (RX6, TX6, 4)) hC.1 hC.2.1 hH.1 hH.2.1 wl_D hH.2.2.1 i 5 j 5 he rfl hej rfl (iI_in h0 h1 hnn) hd (fun H1 locs1 hP1 hD1 hS1 => ?_)
    rw [iI_clamp h0 (by omega), hfe] at hP1
    have hP2 : va_P D vwCl (wl tc B b N.1 (ueh h i (cR 5 nn (uo f z (some j))))) H1 := by rw [← wl_set]; exact hP1
    exact kk p e s m args below meth c D tc B b H1 locs1 ls Q hC hE hX ⟨hH.1, hP2, hS1, hH.2.2.2⟩ hL hK hQ
theorem g_objInit {ix i : Nat} (hw : Cond.methodLink md.1.cls ix objectInit ∈ LT ∧ Cond.instanceMethod objectInit ∈ LT ∧ Cond.code objectInit ⟨#[0xb1]⟩ 1 none ∈ LT) (hcat : (st.map Value.category).sum ≤ 8) (hdd : 1 ≤ d) (hd : decode md.2.1 pc = .ok (.invokespecial ix, 3)) (hq : pc + 3 = q) (kk : G l X md d mc ms post k n q al st N h) : G l X md d mc ms post k n pc al (.ref i :: st) N h := by
  subst hq
  intro p e s m args below meth c D tc B b H locs ls Q hC hE hX hH hL hK hQ
  have hts := hC.2.2.2.2.2.1
  have hc8 := monroom (m := m) (pc := pc) (ls := ls) (st0 := .ref (B + i) :: st.map (cv B b)) (catsum (B := B) (b := b) hcat)
  exact W.objInit (g := F0 m pc ls (.ref (B + i) :: st.map (cv B b))) (rest := st.map (cv B b)) hC.1 hC.2.1 hC.2.2.2.2.1 (hts _ hw.1) (hts _ hw.2.1) (hts _ hw.2.2) rfl (hL.1.trans hC.2.2.1.symm) rfl hd hdd (by show _ ≤ 37 * d; omega) (kk p e s m args below meth c D tc B b H locs ls Q hC hE hX hH hL hK hQ)
/-- a contract that throws nothing is one of the plain kind -/
theorem vx_plain {y : MethodName} {ws : List Cond} {rm : Room} {Pc : Array Value → State → Prop} {Qc : Array Value → State → Outcome → State → Prop} {XC : String → State → State → Prop} {mc ms : Nat} {free : Addr → Prop} (hM : vx_Met l y ws rm Pc Qc XC mc ms free) (hx : ∀ E s t, ¬ XC E s t) : Met l y ws rm Pc Qc mc ms free := by
  intro p e h1 h2 h3 s m args below h4 h5 h6 h7
  obtain ⟨n, o, g1, g2, g3, g4⟩ := hM p e h1 h2 h3 s m args below h4 h5 h6 h7
  refine ⟨n, o, g1, g2, g3, ?_⟩
  rcases g4 with g4 | ⟨q, -, E, ce, L, g5, -⟩
  · exact g4
  · exact absurd g5 (hx _ _ _)
theorem va_toRun {p : Program} {e : Env} {R : Room} {s : State} {m : MethodId} {args : Array Value} {below : List Frame} {meth : Method} {c : Code} {H : Heap} {locs : List Loc} {cells slots mc' ms' : Nat} {g : JFrame} {rest : List Value} {Qa : State → Outcome → State → Prop} {XC : String → State → State → Prop} {free : Addr → Prop} (hr : va_Run p l e R s m args below meth c H locs cells slots mc' ms' g rest Qa free) : vx_Run p l e R s m args below meth c H locs cells slots mc' ms' g rest Qa XC free := fun T hT hX => Or.inl (hr T hT hX)
theorem g_callI {cd : MD} {ix nA d' mc' ms' i : Nat} {av : List Value} {post' : Post} (hw : CId md.1.cls ix cd nA) (hM : CT l cd d' mc' ms' (.ref i :: av) N h post') (hlen : av.length = nA) (hcat : (st.map Value.category).sum ≤ 8) (hfr : d' + 1 ≤ d ∧ 8 + (cd.2.2.1 + 11) + 37 * d' ≤ 37 * d) (hrm : k + mc' ≤ mc ∧ n + ms' ≤ ms)
    (hN : ∀ r N' h', post' (.inl r) N' h' → N'.2 = true → N.2 = true ∧ N'.1 = N.1 + mc') (hNx : ∀ E N' h', ¬ post' (.inr E) N' h') (hs0 : st0 = av.reverse ++ .ref i :: st) (hd : decode md.2.1 pc = .ok (.invokespecial ix, 3)) (hq : pc + 3 = q)
    (kk : ∀ r N' h', post' (.inl r) N' h' → G l X md d mc ms post (k + mc') (n + ms') q al (r.toList ++ st) N' h') : G l X md d mc ms post k n pc al st0 N h := by
  subst hq hs0
  intro p e s m args below meth c D tc B b H locs ls Q hC hE hX hH hL hK hQ T hT hS
  have hsz := fun z => hH.tight hT hS.heapSize z
  obtain ⟨w1, w2, w3, w4, w5, w8, w6, w7⟩ := hw
  have hts := hC.2.2.2.2.2.1
  have hws : wsM cd = Cond.code cd.1 cd.2.1 cd.2.2.1 none :: LT := by rw [wsM_nil w6, w8]
  refine g_after hH (va_toRun (va_runI (Ts := LT) (cc := md.2.1) (nL := md.2.2.1) (own := md.1.cls) (As := av.map (cv B b)) (rest := st.map (cv B b)) (b := B + i) ⟨hC.1, hC.2.1, hC.2.2.1, hC.2.2.2.2.1, hts⟩ (vx_plain (hM D tc B b) (fun E _ _ z => by obtain ⟨⟨N', h', z, -⟩, -⟩ := z; exact hNx E N' h' z)) (cwI (index := ix) nA hts (LT_goodIn (by rw [hws]; intro w hw; simp only [List.mem_cons] at hw; rcases hw with rfl | hw <;> assumption)) hws rfl rfl (hts _ w4) (hts _ w1) (hts _ w2) w3 w7 hfr) ⟨PK_blind, fun U hU hW => ⟨rfl, PK_pre hH hE hsz U hU hW⟩⟩ rfl (by simpa using hlen) hL.1 (by simp [cv]) (monroom (catsum hcat)) hd hrm)) hN (fun E N' h' z => absurd z (hNx E N' h')) (fun r N' h' H1 locs1 hp hH1 => ?_) (fun E N' h' H1 locs1 q9 ce hp hH1 g1 g2 g3 => absurd hp (hNx E N' h')) T hT hS
  have := kk r N' h' hp p e s m args below meth c D tc B b H1 locs1 ls Q hC hE hX hH1 hL hK hQ
  cases r <;> exact this
theorem g_callIN {cd : MD} {ix nA d' mc' ms' i : Nat} {host : String} {av : List Value} {post' : Post} (hw : CNd md.1.cls ix cd host nA) (hM : CT l cd d' mc' ms' (.ref i :: av) N h post') (hlen : av.length = nA) (hcat : (st.map Value.category).sum ≤ 8) (hfr : d' + 1 ≤ d ∧ 8 + (cd.2.2.1 + 11) + 37 * d' ≤ 37 * d) (hrm : k + mc' ≤ mc ∧ n + ms' ≤ ms)
    (hN : ∀ r N' h', post' (.inl r) N' h' → N'.2 = true → N.2 = true ∧ N'.1 = N.1 + mc') (hNx : ∀ E N' h', ¬ post' (.inr E) N' h') (hs0 : st0 = av.reverse ++ .ref i :: st) (hd : decode md.2.1 pc = .ok (.invokespecial ix, 3)) (hq : pc + 3 = q)
    (kk : ∀ r N' h', post' (.inl r) N' h' → G l X md d mc ms post (k + mc') (n + ms') q al (r.toList ++ st) N' h') : G l X md d mc ms post k n pc al st0 N h := by
  subst hq hs0
  intro p e s m args below meth c D tc B b H locs ls Q hC hE hX hH hL hK hQ T hT hS
  have hsz := fun z => hH.tight hT hS.heapSize z
  obtain ⟨w1, w2, w3, w4, w5, w8, w6, w7⟩ := hw
  have hts := hC.2.2.2.2.2.1
  have hws : wsM cd = Cond.code cd.1 cd.2.1 cd.2.2.1 none :: LT := by rw [wsM_nil w6, w8]
  refine g_after hH (va_toRun (va_runIN (Ts := LT) (cc := md.2.1) (nL := md.2.2.1) (own := md.1.cls) (As := av.map (cv B b)) (rest := st.map (cv B b)) (b := B + i) ⟨hC.1, hC.2.1, hC.2.2.1, hC.2.2.2.2.1, hts⟩ (vx_plain (hM D tc B b) (fun E _ _ z => by obtain ⟨⟨N', h', z, -⟩, -⟩ := z; exact hNx E N' h' z)) ⟨va_cnB (index := ix) nA hts (LT_goodIn (by rw [hws]; intro w hw; simp only [List.mem_cons] at hw; rcases hw with rfl | hw <;> assumption)) hws rfl rfl (hE.2.2.2.2.2.1 _ w1) (hts _ w4) w7 hfr, w3, hts _ w2⟩ ⟨PK_blind, fun U hU hW => ⟨rfl, PK_pre hH hE hsz U hU hW⟩⟩ rfl (by simpa using hlen) hL.1 (by simp [cv]) (monroom (catsum hcat)) hd hrm)) hN (fun E N' h' z => absurd z (hNx E N' h')) (fun r N' h' H1 locs1 hp hH1 => ?_) (fun E N' h' H1 locs1 q9 ce hp hH1 g1 g2 g3 => absurd hp (hNx E N' h')) T hT hS
  have := kk r N' h' hp p e s m args below meth c D tc B b H1 locs1 ls Q hC hE hX hH1 hL hK hQ
  cases r <;> exact this
/-- the law's own world: the script of L ints xs lies at b, below all that is made -/
def scX (L : Nat) (xs : Nat → Int32) : State → Nat → Nat → Prop := fun s B b => va_X b L xs s s.heap ∧ b < s.heap.size ∧ ¬ B ≤ b
theorem g_slen {L : Nat} {xs : Nat → Int32} {u : UInt32} (hd : decode md.2.1 pc = .ok (.arraylength, 1)) (hq : pc + 1 = q) (kk : G l (scX L xs) md d mc ms post k n q al (.int (iI L) :: st) N h) : G l (scX L xs) md d mc ms post k n pc al (.float u :: st) N h := by
  subst hq
  intro p e s m args below meth c D tc B b H locs ls Q hC hE hX hH hL hK hQ
  have := kk p e s m args below meth c D tc B b H locs ls Q hC hE hX hH hL hK hQ
  refine va_slen hC.1 hC.2.1 hX.1 hX.2.1 hX.2.2 hH.2.2.1 hd ?_
  rw [show Int32.ofNat L = iI L from (iI_nI L).symm]
  exact this
theorem g_sld {L : Nat} {xs : Nat → Int32} {u : UInt32} {z : Int} (h0 : 0 ≤ z) (h1 : z < L) (hL9 : L < 2147483648) (hd : decode md.2.1 pc = .ok (.iaload, 1)) (hq : pc + 1 = q) (kk : G l (scX L xs) md d mc ms post k n q al (.int (xs z.toNat) :: st) N h) : G l (scX L xs) md d mc ms post k n pc al (.int (iI z) :: .float u :: st) N h := by
  subst hq
  intro p e s m args below meth c D tc B b H locs ls Q hC hE hX hH hL hK hQ
  have := kk p e s m args below meth c D tc B b H locs ls Q hC hE hX hH hL hK hQ
  refine va_sld hC.1 hC.2.1 hX.1 hX.2.1 hX.2.2 hH.2.2.1 (iI_in h0 h1 hL9) hd ?_
  rw [iI_clamp h0 (by omega)]
  exact this
end GNew
