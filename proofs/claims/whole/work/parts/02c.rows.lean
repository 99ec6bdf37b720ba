/-! ===== the engine's rows: one for each instruction ===== -/
def asl (B b : Nat) (al : List (Option Value)) : List (Nat × Value) := (List.range al.length).filterMap (fun i => match al[i]? with
  | some (some v) => some (i, cv B b v)
  | _ => none)
theorem asl_mem {B b : Nat} {al : List (Option Value)} {i : Nat} {w : Value} : (i, w) ∈ asl B b al ↔ ∃ v, al[i]? = some (some v) ∧ w = cv B b v := by
  unfold asl
  rw [List.mem_filterMap]
  constructor
  · rintro ⟨j, -, hj⟩
    split at hj
    next v hv =>
      have := Option.some.inj hj
      cases this
      exact ⟨v, hv, rfl⟩
    next => cases hj
  · rintro ⟨v, hv, rfl⟩
    refine ⟨i, List.mem_range.mpr (List.getElem?_eq_some_iff.mp hv).1, ?_⟩
    rw [hv]
theorem LR.has {B b nL : Nat} {al : List (Option Value)} {ls : Array Slot} (h : LR B b nL al ls) : lv_has ls nL (asl B b al) := by
  refine ⟨h.1, h.2.1, fun q hq => ?_⟩
  obtain ⟨i, w⟩ := q
  obtain ⟨v, hv, rfl⟩ := asl_mem.mp hq
  exact h.2.2 i v hv
def okS (al : List (Option Value)) (i : Nat) : Bool := match i with
  | 0 => true
  | j + 1 => match al[j]? with
    | some (some w) => w.category != 2
    | _ => true
theorem okS_not {al : List (Option Value)} {i j : Nat} {v : Value} (h : okS al i = true) (hj : al[j]? = some (some v)) : ¬ (j + 1 = i ∧ v.category = 2) := by
  rintro ⟨rfl, hc⟩
  simp [okS, hj, hc] at h
theorem LR.put1 {B b nL i : Nat} {al : List (Option Value)} {ls : Array Slot} {v : Value} (hk : okS al i = true) (h : lv_has ls nL ((i, cv B b v) :: (asl B b al).filter (fun q => !(q.1 == i) && !(q.1 + 1 == i && q.2.category == 2)))) : LR B b nL (al.set i (some v)) ls := by
  refine ⟨h.1, h.2.1, fun j w hj => ?_⟩
  by_cases e : j = i
  · subst e
    rw [List.getElem?_set_self'] at hj
    have hw : w = v := by
      cases ha : al[j]? with
      | none => rw [ha] at hj; cases hj
      | some x => rw [ha] at hj; simp at hj; exact hj.symm
    subst hw
    exact h.2.2 _ List.mem_cons_self
  · rw [List.getElem?_set_ne (fun z => e z.symm)] at hj
    refine h.2.2 (j, cv B b w) (List.mem_cons_of_mem _ (List.mem_filter.mpr ⟨asl_mem.mpr ⟨w, hj, rfl⟩, ?_⟩))
    have := okS_not hk hj
    simp only [cv_cat]
    by_cases hc : w.category = 2
    · have : ¬ j + 1 = i := fun z => this ⟨z, hc⟩
      simp [e, this]
    · simp [e, hc]
theorem LR.put2 {B b nL i : Nat} {al : List (Option Value)} {ls : Array Slot} {v : Value} (hk : okS al i = true) (h : lv_has ls nL ((i, cv B b v) :: (asl B b al).filter (fun q => !(q.1 == i) && (!(q.1 == i + 1) && !(q.1 + 1 == i && q.2.category == 2))))) : LR B b nL ((al.set i (some v)).set (i + 1) none) ls := by
  refine ⟨h.1, h.2.1, fun j w hj => ?_⟩
  by_cases e1 : j = i + 1
  · subst e1
    rw [List.getElem?_set_self'] at hj
    cases ha : (al.set i (some v))[i + 1]? with
    | none => rw [ha] at hj; cases hj
    | some x => rw [ha] at hj; simp at hj
  · rw [List.getElem?_set_ne (fun z => e1 z.symm)] at hj
    by_cases e : j = i
    · subst e
      rw [List.getElem?_set_self'] at hj
      have hw : w = v := by
        cases ha : al[j]? with
        | none => rw [ha] at hj; cases hj
        | some x => rw [ha] at hj; simp at hj; exact hj.symm
      subst hw
      exact h.2.2 _ List.mem_cons_self
    · rw [List.getElem?_set_ne (fun z => e z.symm)] at hj
      refine h.2.2 (j, cv B b w) (List.mem_cons_of_mem _ (List.mem_filter.mpr ⟨asl_mem.mpr ⟨w, hj, rfl⟩, ?_⟩))
      have := okS_not hk hj
      simp only [cv_cat]
      by_cases hc : w.category = 2
      · have : ¬ j + 1 = i := fun z => this ⟨z, hc⟩
        simp [e, e1, this]
      · simp [e, e1, hc]
theorem LR.drop {B b nL i : Nat} {al : List (Option Value)} {ls : Array Slot} (h : LR B b nL al ls) : LR B b nL (al.set i none) ls := by
  refine ⟨h.1, h.2.1, fun j w hj => ?_⟩
  by_cases e : j = i
  · subst e
    rw [List.getElem?_set_self'] at hj
    cases ha : al[j]? with
    | none => rw [ha] at hj; cases hj
    | some x => rw [ha] at hj; simp at hj
  · rw [List.getElem?_set_ne (fun z => e z.symm)] at hj
    exact h.2.2 j w hj
theorem LR.put0 {B b nL i a : Nat} {al : List (Option Value)} {ls : Array Slot} (hk : okS al i = true) (h : lv_has ls nL ((i, .ref a) :: (asl B b al).filter (fun q => !(q.1 == i) && !(q.1 + 1 == i && q.2.category == 2)))) : LR B b nL (al.set i none) ls := by
  refine ⟨h.1, h.2.1, fun j w hj => ?_⟩
  by_cases e : j = i
  · subst e
    rw [List.getElem?_set_self'] at hj
    cases ha : al[j]? with
    | none => rw [ha] at hj; cases hj
    | some x => rw [ha] at hj; simp at hj
  · rw [List.getElem?_set_ne (fun z => e z.symm)] at hj
    refine h.2.2 (j, cv B b w) (List.mem_cons_of_mem _ (List.mem_filter.mpr ⟨asl_mem.mpr ⟨w, hj, rfl⟩, ?_⟩))
    have := okS_not hk hj
    simp only [cv_cat]
    by_cases hc : w.category = 2
    · have : ¬ j + 1 = i := fun z => this ⟨z, hc⟩
      simp [e, this]
    · simp [e, hc]
section GRows
variable {l : Launch} {X : State → Nat → Nat → Prop} {md : MD} {d mc ms : Nat} {post : Post} {k n pc q : Nat} {al : List (Option Value)} {st : List Value} {N : NB} {h : EHp}

theorem g_iload_n {j : Fin 4} {i : Nat} {x : Int32} (hi : (j : Nat) = i) (hl : al[i]? = some (some (.int x))) (hd : decode md.2.1 pc = .ok (.iload_n j, 1)) (hq : pc + 1 = q) (kk : G l X md d mc ms post k n q al (.int x :: st) N h) : G l X md d mc ms post k n pc al (st) N h := by
  subst hq
  intro p e s m args below meth c D tc B b H locs ls Q hC hE hX hH hL hK hQ
  exact lv_iload_n hC.1 hC.2.1 hd hi (hL.2.2 i _ hl) (kk p e s m args below meth c D tc B b H locs ls Q hC hE hX hH hL hK hQ)
theorem g_iload {i : Nat} {x : Int32} (hl : al[i]? = some (some (.int x))) (hd : decode md.2.1 pc = .ok (.iload i, 2)) (hq : pc + 2 = q) (kk : G l X md d mc ms post k n q al (.int x :: st) N h) : G l X md d mc ms post k n pc al (st) N h := by
  subst hq
  intro p e s m args below meth c D tc B b H locs ls Q hC hE hX hH hL hK hQ
  exact lv_iload hC.1 hC.2.1 hd (hL.2.2 i _ hl) (kk p e s m args below meth c D tc B b H locs ls Q hC hE hX hH hL hK hQ)
theorem g_lload_n {j : Fin 4} {i : Nat} {x : Int64} (hi : (j : Nat) = i) (hl : al[i]? = some (some (.long x))) (hd : decode md.2.1 pc = .ok (.lload_n j, 1)) (hq : pc + 1 = q) (kk : G l X md d mc ms post k n q al (.long x :: st) N h) : G l X md d mc ms post k n pc al (st) N h := by
  subst hq
  intro p e s m args below meth c D tc B b H locs ls Q hC hE hX hH hL hK hQ
  exact lv_lload_n hC.1 hC.2.1 hd hi (hL.2.2 i _ hl) (kk p e s m args below meth c D tc B b H locs ls Q hC hE hX hH hL hK hQ)
theorem g_lload {i : Nat} {x : Int64} (hl : al[i]? = some (some (.long x))) (hd : decode md.2.1 pc = .ok (.lload i, 2)) (hq : pc + 2 = q) (kk : G l X md d mc ms post k n q al (.long x :: st) N h) : G l X md d mc ms post k n pc al (st) N h := by
  subst hq
  intro p e s m args below meth c D tc B b H locs ls Q hC hE hX hH hL hK hQ
  exact lv_lload hC.1 hC.2.1 hd (hL.2.2 i _ hl) (kk p e s m args below meth c D tc B b H locs ls Q hC hE hX hH hL hK hQ)
theorem g_dload {i : Nat} {x : UInt64} (hl : al[i]? = some (some (.double x))) (hd : decode md.2.1 pc = .ok (.dload i, 2)) (hq : pc + 2 = q) (kk : G l X md d mc ms post k n q al (.double x :: st) N h) : G l X md d mc ms post k n pc al (st) N h := by
  subst hq
  intro p e s m args below meth c D tc B b H locs ls Q hC hE hX hH hL hK hQ
  exact lv_dload hC.1 hC.2.1 hd (hL.2.2 i _ hl) (kk p e s m args below meth c D tc B b H locs ls Q hC hE hX hH hL hK hQ)
theorem g_aload_n {j : Fin 4} {i : Nat} {x : Nat} (hi : (j : Nat) = i) (hl : al[i]? = some (some (.ref x))) (hd : decode md.2.1 pc = .ok (.aload_n j, 1)) (hq : pc + 1 = q) (kk : G l X md d mc ms post k n q al (.ref x :: st) N h) : G l X md d mc ms post k n pc al (st) N h := by
  subst hq
  intro p e s m args below meth c D tc B b H locs ls Q hC hE hX hH hL hK hQ
  exact lv_aload_n hC.1 hC.2.1 hd hi (hL.2.2 i _ hl) (kk p e s m args below meth c D tc B b H locs ls Q hC hE hX hH hL hK hQ)
theorem g_aload {i : Nat} {x : Nat} (hl : al[i]? = some (some (.ref x))) (hd : decode md.2.1 pc = .ok (.aload i, 2)) (hq : pc + 2 = q) (kk : G l X md d mc ms post k n q al (.ref x :: st) N h) : G l X md d mc ms post k n pc al (st) N h := by
  subst hq
  intro p e s m args below meth c D tc B b H locs ls Q hC hE hX hH hL hK hQ
  exact lv_aload hC.1 hC.2.1 hd (hL.2.2 i _ hl) (kk p e s m args below meth c D tc B b H locs ls Q hC hE hX hH hL hK hQ)
theorem g_aload_s {j : Fin 4} {i : Nat} {x : UInt32} (hi : (j : Nat) = i) (hl : al[i]? = some (some (.float x))) (hd : decode md.2.1 pc = .ok (.aload_n j, 1)) (hq : pc + 1 = q) (kk : G l X md d mc ms post k n q al (.float x :: st) N h) : G l X md d mc ms post k n pc al (st) N h := by
  subst hq
  intro p e s m args below meth c D tc B b H locs ls Q hC hE hX hH hL hK hQ
  exact lv_aload_n hC.1 hC.2.1 hd hi (hL.2.2 i _ hl) (kk p e s m args below meth c D tc B b H locs ls Q hC hE hX hH hL hK hQ)
theorem g_iconst {z : Int} (hd : decode md.2.1 pc = .ok (.iconst z, 1)) (hq : pc + 1 = q) (kk : G l X md d mc ms post k n q al (.int (iI z) :: st) N h) : G l X md d mc ms post k n pc al (st) N h := by
  subst hq
  intro p e s m args below meth c D tc B b H locs ls Q hC hE hX hH hL hK hQ
  exact lv_iconst hC.1 hC.2.1 hd rfl (kk p e s m args below meth c D tc B b H locs ls Q hC hE hX hH hL hK hQ)
theorem g_bipush {z : Int} (hz : (Int8.ofInt z).toInt32 = iI z) (hd : decode md.2.1 pc = .ok (.bipush z, 2)) (hq : pc + 2 = q) (kk : G l X md d mc ms post k n q al (.int (iI z) :: st) N h) : G l X md d mc ms post k n pc al (st) N h := by
  subst hq
  intro p e s m args below meth c D tc B b H locs ls Q hC hE hX hH hL hK hQ
  exact lv_bipush hC.1 hC.2.1 hd hz (kk p e s m args below meth c D tc B b H locs ls Q hC hE hX hH hL hK hQ)
theorem g_sipush {z : Int} (hz : (Int16.ofInt z).toInt32 = iI z) (hd : decode md.2.1 pc = .ok (.sipush z, 3)) (hq : pc + 3 = q) (kk : G l X md d mc ms post k n q al (.int (iI z) :: st) N h) : G l X md d mc ms post k n pc al (st) N h := by
  subst hq
  intro p e s m args below meth c D tc B b H locs ls Q hC hE hX hH hL hK hQ
  exact lv_sipush hC.1 hC.2.1 hd hz (kk p e s m args below meth c D tc B b H locs ls Q hC hE hX hH hL hK hQ)
theorem g_ldc {ix : Nat} {z : Int} (hw : Cond.constant md.1.cls ix (iI z) ∈ LT) (hd : decode md.2.1 pc = .ok (.ldc ix, 2)) (hq : pc + 2 = q) (kk : G l X md d mc ms post k n q al (.int (iI z) :: st) N h) : G l X md d mc ms post k n pc al (st) N h := by
  subst hq
  intro p e s m args below meth c D tc B b H locs ls Q hC hE hX hH hL hK hQ
  exact lv_ldc hC.1 hC.2.1 hC.2.2.2.2.1 (hC.2.2.2.2.2.1 _ hw) hd (kk p e s m args below meth c D tc B b H locs ls Q hC hE hX hH hL hK hQ)
theorem g_ldc2 {ix : Nat} {z : Int64} (hw : Cond.constantLong md.1.cls ix z ∈ LT) (hd : decode md.2.1 pc = .ok (.ldc2_w ix, 3)) (hq : pc + 3 = q) (kk : G l X md d mc ms post k n q al (.long z :: st) N h) : G l X md d mc ms post k n pc al (st) N h := by
  subst hq
  intro p e s m args below meth c D tc B b H locs ls Q hC hE hX hH hL hK hQ
  exact lv_ldc2 hC.1 hC.2.1 hC.2.2.2.2.1 (hC.2.2.2.2.2.1 _ hw) hd (kk p e s m args below meth c D tc B b H locs ls Q hC hE hX hH hL hK hQ)
theorem g_dconst0  (hd : decode md.2.1 pc = .ok (.dconst 0, 1)) (hq : pc + 1 = q) (kk : G l X md d mc ms post k n q al (.double FP.dconst0 :: st) N h) : G l X md d mc ms post k n pc al (st) N h := by
  subst hq
  intro p e s m args below meth c D tc B b H locs ls Q hC hE hX hH hL hK hQ
  exact lv_dconst0 hC.1 hC.2.1 hd (kk p e s m args below meth c D tc B b H locs ls Q hC hE hX hH hL hK hQ)
theorem g_iadd {x y : Int} (hd : decode md.2.1 pc = .ok (.iadd, 1)) (hq : pc + 1 = q) (kk : G l X md d mc ms post k n q al (.int (iI (x + y)) :: st) N h) : G l X md d mc ms post k n pc al (.int (iI y) :: .int (iI x) :: st) N h := by
  subst hq
  intro p e s m args below meth c D tc B b H locs ls Q hC hE hX hH hL hK hQ
  refine lv_iadd hC.1 hC.2.1 hd ?_
  rw [iI_add]
  exact kk p e s m args below meth c D tc B b H locs ls Q hC hE hX hH hL hK hQ
theorem g_isub {x y : Int} (hd : decode md.2.1 pc = .ok (.isub, 1)) (hq : pc + 1 = q) (kk : G l X md d mc ms post k n q al (.int (iI (x - y)) :: st) N h) : G l X md d mc ms post k n pc al (.int (iI y) :: .int (iI x) :: st) N h := by
  subst hq
  intro p e s m args below meth c D tc B b H locs ls Q hC hE hX hH hL hK hQ
  refine lv_isub hC.1 hC.2.1 hd ?_
  rw [iI_sub]
  exact kk p e s m args below meth c D tc B b H locs ls Q hC hE hX hH hL hK hQ
theorem g_imul {x y : Int} (hd : decode md.2.1 pc = .ok (.imul, 1)) (hq : pc + 1 = q) (kk : G l X md d mc ms post k n q al (.int (iI (x * y)) :: st) N h) : G l X md d mc ms post k n pc al (.int (iI y) :: .int (iI x) :: st) N h := by
  subst hq
  intro p e s m args below meth c D tc B b H locs ls Q hC hE hX hH hL hK hQ
  refine lv_imul hC.1 hC.2.1 hd ?_
  rw [iI_mul]
  exact kk p e s m args below meth c D tc B b H locs ls Q hC hE hX hH hL hK hQ
theorem g_idiv {x y : Int} (hx0 : 0 ≤ x) (hx1 : x < 2147483648) (hy0 : 0 < y) (hy1 : y < 2147483648) (hd : decode md.2.1 pc = .ok (.idiv, 1)) (hq : pc + 1 = q) (kk : G l X md d mc ms post k n q al (.int (iI (x / y)) :: st) N h) : G l X md d mc ms post k n pc al (.int (iI y) :: .int (iI x) :: st) N h := by
  subst hq
  intro p e s m args below meth c D tc B b H locs ls Q hC hE hX hH hL hK hQ
  refine lv_idiv hC.1 hC.2.1 hd (fun z => by rw [iI_0, iI_eq ⟨by omega, hy1⟩ (by decide)] at z; omega) ?_
  rw [iI_div hx0 hx1 hy0 hy1]
  exact kk p e s m args below meth c D tc B b H locs ls Q hC hE hX hH hL hK hQ
theorem g_irem {x y : Int} (hx0 : 0 ≤ x) (hx1 : x < 2147483648) (hy0 : 0 < y) (hy1 : y < 2147483648) (hd : decode md.2.1 pc = .ok (.irem, 1)) (hq : pc + 1 = q) (kk : G l X md d mc ms post k n q al (.int (iI (x % y)) :: st) N h) : G l X md d mc ms post k n pc al (.int (iI y) :: .int (iI x) :: st) N h := by
  subst hq
  intro p e s m args below meth c D tc B b H locs ls Q hC hE hX hH hL hK hQ
  refine lv_irem hC.1 hC.2.1 hd (fun z => by rw [iI_0, iI_eq ⟨by omega, hy1⟩ (by decide)] at z; omega) ?_
  rw [iI_rem hx0 hx1 hy0 hy1]
  exact kk p e s m args below meth c D tc B b H locs ls Q hC hE hX hH hL hK hQ
theorem g_ishr {x y : Int} (hx0 : 0 ≤ x) (hx1 : x < 2147483648) (hy0 : 0 ≤ y) (hy : y < 32) (hd : decode md.2.1 pc = .ok (.ishr, 1)) (hq : pc + 1 = q) (kk : G l X md d mc ms post k n q al (.int (iI (x / 2 ^ y.toNat)) :: st) N h) : G l X md d mc ms post k n pc al (.int (iI y) :: .int (iI x) :: st) N h := by
  subst hq
  intro p e s m args below meth c D tc B b H locs ls Q hC hE hX hH hL hK hQ
  refine lv_ishr hC.1 hC.2.1 hd ?_
  have e9 := iI_shr (k := y.toNat) hx0 hx1 (by omega)
  rw [Int.toNat_of_nonneg hy0] at e9
  rw [e9]
  exact kk p e s m args below meth c D tc B b H locs ls Q hC hE hX hH hL hK hQ
theorem g_ishl {x y : Int} (hx0 : 0 ≤ x) (hx1 : x * 2 ^ y.toNat < 2147483648) (hy0 : 0 ≤ y) (hy : y < 32) (hd : decode md.2.1 pc = .ok (.ishl, 1)) (hq : pc + 1 = q) (kk : G l X md d mc ms post k n q al (.int (iI (x * 2 ^ y.toNat)) :: st) N h) : G l X md d mc ms post k n pc al (.int (iI y) :: .int (iI x) :: st) N h := by
  subst hq
  intro p e s m args below meth c D tc B b H locs ls Q hC hE hX hH hL hK hQ
  refine lv_ishl hC.1 hC.2.1 hd ?_
  have e9 := iI_shl (k := y.toNat) hx0 hx1 (by omega)
  rw [Int.toNat_of_nonneg hy0] at e9
  rw [e9]
  exact kk p e s m args below meth c D tc B b H locs ls Q hC hE hX hH hL hK hQ
theorem g_iand1 {x : Int} (hx0 : 0 ≤ x) (hx1 : x < 2147483648) (hd : decode md.2.1 pc = .ok (.iand, 1)) (hq : pc + 1 = q) (kk : G l X md d mc ms post k n q al (.int (iI (x % 2)) :: st) N h) : G l X md d mc ms post k n pc al (.int (iI 1) :: .int (iI x) :: st) N h := by
  subst hq
  intro p e s m args below meth c D tc B b H locs ls Q hC hE hX hH hL hK hQ
  refine lv_iand hC.1 hC.2.1 hd ?_
  rw [iI_and1 hx0 hx1]
  exact kk p e s m args below meth c D tc B b H locs ls Q hC hE hX hH hL hK hQ
theorem g_iand {x y : Int32} (hd : decode md.2.1 pc = .ok (.iand, 1)) (hq : pc + 1 = q) (kk : G l X md d mc ms post k n q al (.int (x &&& y) :: st) N h) : G l X md d mc ms post k n pc al (.int y :: .int x :: st) N h := by
  subst hq
  intro p e s m args below meth c D tc B b H locs ls Q hC hE hX hH hL hK hQ
  exact lv_iand hC.1 hC.2.1 hd (kk p e s m args below meth c D tc B b H locs ls Q hC hE hX hH hL hK hQ)
theorem g_ior01 {x y : Int} (hx0 : x = 0 ∨ x = 1) (hy0 : y = 0 ∨ y = 1) (hd : decode md.2.1 pc = .ok (.ior, 1)) (hq : pc + 1 = q) (kk : G l X md d mc ms post k n q al (.int (iI (if x = 0 then y else 1)) :: st) N h) : G l X md d mc ms post k n pc al (.int (iI y) :: .int (iI x) :: st) N h := by
  subst hq
  intro p e s m args below meth c D tc B b H locs ls Q hC hE hX hH hL hK hQ
  refine lv_ior hC.1 hC.2.1 hd ?_
  rw [iI_or01 hx0 hy0]
  exact kk p e s m args below meth c D tc B b H locs ls Q hC hE hX hH hL hK hQ
theorem g_i2l {x : Int32} (hd : decode md.2.1 pc = .ok (.i2l, 1)) (hq : pc + 1 = q) (kk : G l X md d mc ms post k n q al (.long x.toInt64 :: st) N h) : G l X md d mc ms post k n pc al (.int x :: st) N h := by
  subst hq
  intro p e s m args below meth c D tc B b H locs ls Q hC hE hX hH hL hK hQ
  exact lv_i2l hC.1 hC.2.1 hd rfl (kk p e s m args below meth c D tc B b H locs ls Q hC hE hX hH hL hK hQ)
theorem g_i2d {x : Int32} (hd : decode md.2.1 pc = .ok (.i2d, 1)) (hq : pc + 1 = q) (kk : G l X md d mc ms post k n q al (.double (FP.i2d x) :: st) N h) : G l X md d mc ms post k n pc al (.int x :: st) N h := by
  subst hq
  intro p e s m args below meth c D tc B b H locs ls Q hC hE hX hH hL hK hQ
  exact lv_i2d hC.1 hC.2.1 hd (kk p e s m args below meth c D tc B b H locs ls Q hC hE hX hH hL hK hQ)
theorem g_ladd {x y : Int64} (hd : decode md.2.1 pc = .ok (.ladd, 1)) (hq : pc + 1 = q) (kk : G l X md d mc ms post k n q al (.long (x + y) :: st) N h) : G l X md d mc ms post k n pc al (.long y :: .long x :: st) N h := by
  subst hq
  intro p e s m args below meth c D tc B b H locs ls Q hC hE hX hH hL hK hQ
  exact lv_ladd hC.1 hC.2.1 hd (kk p e s m args below meth c D tc B b H locs ls Q hC hE hX hH hL hK hQ)
theorem g_lmul {x y : Int64} (hd : decode md.2.1 pc = .ok (.lmul, 1)) (hq : pc + 1 = q) (kk : G l X md d mc ms post k n q al (.long (x * y) :: st) N h) : G l X md d mc ms post k n pc al (.long y :: .long x :: st) N h := by
  subst hq
  intro p e s m args below meth c D tc B b H locs ls Q hC hE hX hH hL hK hQ
  exact lv_lmul hC.1 hC.2.1 hd (kk p e s m args below meth c D tc B b H locs ls Q hC hE hX hH hL hK hQ)
theorem g_lcmp {x y : Int64} (hd : decode md.2.1 pc = .ok (.lcmp, 1)) (hq : pc + 1 = q) (kk : G l X md d mc ms post k n q al (.int (lg_cmp x y) :: st) N h) : G l X md d mc ms post k n pc al (.long y :: .long x :: st) N h := by
  subst hq
  intro p e s m args below meth c D tc B b H locs ls Q hC hE hX hH hL hK hQ
  exact W.lcmp hC.1 hC.2.1 hd (kk p e s m args below meth c D tc B b H locs ls Q hC hE hX hH hL hK hQ)
theorem g_ddiv {x y : UInt64} (hn : vf_n64 (FP.ddiv x y)) (hd : decode md.2.1 pc = .ok (.ddiv, 1)) (hq : pc + 1 = q) (kk : G l X md d mc ms post k n q al (.double (FP.ddiv x y) :: st) N h) : G l X md d mc ms post k n pc al (.double y :: .double x :: st) N h := by
  subst hq
  intro p e s m args below meth c D tc B b H locs ls Q hC hE hX hH hL hK hQ
  exact lv_ddiv hC.1 hC.2.1 hd hn (kk p e s m args below meth c D tc B b H locs ls Q hC hE hX hH hL hK hQ)
theorem g_dcmp {x y : UInt64} {op : CmpOp} (hd : decode md.2.1 pc = .ok (.dcmp op, 1)) (hq : pc + 1 = q) (kk : G l X md d mc ms post k n q al (.int (Op.cmpValue (FP.dcmp x y) op) :: st) N h) : G l X md d mc ms post k n pc al (.double y :: .double x :: st) N h := by
  subst hq
  intro p e s m args below meth c D tc B b H locs ls Q hC hE hX hH hL hK hQ
  exact lv_dcmp hC.1 hC.2.1 hd (kk p e s m args below meth c D tc B b H locs ls Q hC hE hX hH hL hK hQ)
theorem g_dup {v : Value} (hv : v.category = 1) (hd : decode md.2.1 pc = .ok (.dup, 1)) (hq : pc + 1 = q) (kk : G l X md d mc ms post k n q al (v :: v :: st) N h) : G l X md d mc ms post k n pc al (v :: st) N h := by
  subst hq
  intro p e s m args below meth c D tc B b H locs ls Q hC hE hX hH hL hK hQ
  exact lv_dup hC.1 hC.2.1 hd ((cv_cat B b v).trans hv) (kk p e s m args below meth c D tc B b H locs ls Q hC hE hX hH hL hK hQ)
theorem g_dup2 {v u : Value} (hv : v.category = 1) (hu : u.category = 1) (hd : decode md.2.1 pc = .ok (.dup2, 1)) (hq : pc + 1 = q) (kk : G l X md d mc ms post k n q al (v :: u :: v :: u :: st) N h) : G l X md d mc ms post k n pc al (v :: u :: st) N h := by
  subst hq
  intro p e s m args below meth c D tc B b H locs ls Q hC hE hX hH hL hK hQ
  exact lv_dup2_11 hC.1 hC.2.1 hd ((cv_cat B b v).trans hv) ((cv_cat B b u).trans hu) (kk p e s m args below meth c D tc B b H locs ls Q hC hE hX hH hL hK hQ)
theorem g_pop {v : Value} (hv : v.category = 1) (hd : decode md.2.1 pc = .ok (.pop, 1)) (hq : pc + 1 = q) (kk : G l X md d mc ms post k n q al (st) N h) : G l X md d mc ms post k n pc al (v :: st) N h := by
  subst hq
  intro p e s m args below meth c D tc B b H locs ls Q hC hE hX hH hL hK hQ
  exact lv_pop hC.1 hC.2.1 hd ((cv_cat B b v).trans hv) (kk p e s m args below meth c D tc B b H locs ls Q hC hE hX hH hL hK hQ)
theorem g_istore_n {j : Fin 4} {i : Nat} {x : Int32} {al2 : List (Option Value)} (hi : (j : Nat) = i) (hi2 : i < md.2.2.1) (hk : okS al i = true) (ha : (al.set i (some (.int x))) = al2) (hd : decode md.2.1 pc = .ok (.istore_n j, 1)) (hq : pc + 1 = q) (kk : G l X md d mc ms post k n q al2 st N h) : G l X md d mc ms post k n pc al (.int x :: st) N h := by
  subst hq ha
  intro p e s m args below meth c D tc B b H locs ls Q hC hE hX hH hL hK hQ
  exact lv_istore_n hC.1 hC.2.1 hd hi hL.has hi2 rfl (fun ls' hl' => kk p e s m args below meth c D tc B b H locs ls' Q hC hE hX hH (LR.put1 (v := .int x) hk hl') hK hQ)
theorem g_istore {i : Nat} {x : Int32} {al2 : List (Option Value)} (hi2 : i < md.2.2.1) (hk : okS al i = true) (ha : (al.set i (some (.int x))) = al2) (hd : decode md.2.1 pc = .ok (.istore i, 2)) (hq : pc + 2 = q) (kk : G l X md d mc ms post k n q al2 st N h) : G l X md d mc ms post k n pc al (.int x :: st) N h := by
  subst hq ha
  intro p e s m args below meth c D tc B b H locs ls Q hC hE hX hH hL hK hQ
  exact lv_istore hC.1 hC.2.1 hd hL.has hi2 rfl (fun ls' hl' => kk p e s m args below meth c D tc B b H locs ls' Q hC hE hX hH (LR.put1 (v := .int x) hk hl') hK hQ)
theorem g_astore_n {j : Fin 4} {i : Nat} {x : Nat} {al2 : List (Option Value)} (hi : (j : Nat) = i) (hi2 : i < md.2.2.1) (hk : okS al i = true) (ha : (al.set i (some (.ref x))) = al2) (hd : decode md.2.1 pc = .ok (.astore_n j, 1)) (hq : pc + 1 = q) (kk : G l X md d mc ms post k n q al2 st N h) : G l X md d mc ms post k n pc al (.ref x :: st) N h := by
  subst hq ha
  intro p e s m args below meth c D tc B b H locs ls Q hC hE hX hH hL hK hQ
  exact lv_astore_n hC.1 hC.2.1 hd hi hL.has hi2 rfl (fun ls' hl' => kk p e s m args below meth c D tc B b H locs ls' Q hC hE hX hH (LR.put1 (v := .ref x) hk hl') hK hQ)
theorem g_astore {i : Nat} {x : Nat} {al2 : List (Option Value)} (hi2 : i < md.2.2.1) (hk : okS al i = true) (ha : (al.set i (some (.ref x))) = al2) (hd : decode md.2.1 pc = .ok (.astore i, 2)) (hq : pc + 2 = q) (kk : G l X md d mc ms post k n q al2 st N h) : G l X md d mc ms post k n pc al (.ref x :: st) N h := by
  subst hq ha
  intro p e s m args below meth c D tc B b H locs ls Q hC hE hX hH hL hK hQ
  exact lv_astore hC.1 hC.2.1 hd hL.has hi2 rfl (fun ls' hl' => kk p e s m args below meth c D tc B b H locs ls' Q hC hE hX hH (LR.put1 (v := .ref x) hk hl') hK hQ)
theorem g_lstore_n {j : Fin 4} {i : Nat} {x : Int64} {al2 : List (Option Value)} (hi : (j : Nat) = i) (hi2 : i + 1 < md.2.2.1) (hk : okS al i = true) (ha : ((al.set i (some (.long x))).set (i + 1) none) = al2) (hd : decode md.2.1 pc = .ok (.lstore_n j, 1)) (hq : pc + 1 = q) (kk : G l X md d mc ms post k n q al2 st N h) : G l X md d mc ms post k n pc al (.long x :: st) N h := by
  subst hq ha
  intro p e s m args below meth c D tc B b H locs ls Q hC hE hX hH hL hK hQ
  exact lv_lstore_n hC.1 hC.2.1 hd hi hL.has hi2 rfl (fun ls' hl' => kk p e s m args below meth c D tc B b H locs ls' Q hC hE hX hH (LR.put2 (v := .long x) hk hl') hK hQ)
theorem g_lstore {i : Nat} {x : Int64} {al2 : List (Option Value)} (hi2 : i + 1 < md.2.2.1) (hk : okS al i = true) (ha : ((al.set i (some (.long x))).set (i + 1) none) = al2) (hd : decode md.2.1 pc = .ok (.lstore i, 2)) (hq : pc + 2 = q) (kk : G l X md d mc ms post k n q al2 st N h) : G l X md d mc ms post k n pc al (.long x :: st) N h := by
  subst hq ha
  intro p e s m args below meth c D tc B b H locs ls Q hC hE hX hH hL hK hQ
  exact lv_lstore hC.1 hC.2.1 hd hL.has hi2 rfl (fun ls' hl' => kk p e s m args below meth c D tc B b H locs ls' Q hC hE hX hH (LR.put2 (v := .long x) hk hl') hK hQ)
theorem g_dstore {i : Nat} {x : UInt64} {al2 : List (Option Value)} (hi2 : i + 1 < md.2.2.1) (hk : okS al i = true) (ha : ((al.set i (some (.double x))).set (i + 1) none) = al2) (hd : decode md.2.1 pc = .ok (.dstore i, 2)) (hq : pc + 2 = q) (kk : G l X md d mc ms post k n q al2 st N h) : G l X md d mc ms post k n pc al (.double x :: st) N h := by
  subst hq ha
  intro p e s m args below meth c D tc B b H locs ls Q hC hE hX hH hL hK hQ
  exact lv_dstore hC.1 hC.2.1 hd hL.has hi2 rfl (fun ls' hl' => kk p e s m args below meth c D tc B b H locs ls' Q hC hE hX hH (LR.put2 (v := .double x) hk hl') hK hQ)
theorem g_iinc {i : Nat} {x z : Int} {al2 : List (Option Value)} (hl : al[i]? = some (some (.int (iI x)))) (hi2 : i < md.2.2.1) (hk : okS al i = true) (ha : al.set i (some (.int (iI (x + z)))) = al2) (hd : decode md.2.1 pc = .ok (.iinc i z, 3)) (hq : pc + 3 = q) (kk : G l X md d mc ms post k n q al2 st N h) : G l X md d mc ms post k n pc al st N h := by
  subst hq ha
  intro p e s m args below meth c D tc B b H locs ls Q hC hE hX hH hL hK hQ
  obtain ⟨j, hj⟩ := List.getElem?_of_mem (asl_mem (B := B) (b := b) (w := .int (iI x)) |>.mpr ⟨_, hl, rfl⟩)
  exact lv_iinc (v := iI (x + z)) hC.1 hC.2.1 hd hL.has hj (iI_add x z) hi2 rfl (fun ls' hl' => kk p e s m args below meth c D tc B b H locs ls' Q hC hE hX hH (LR.put1 (v := .int (iI (x + z))) hk hl') hK hQ)
theorem g_goto {off : Int} (hd : decode md.2.1 pc = .ok (.goto off, 3)) (hq : (pc : Int) + off = (q : Int)) (kk : G l X md d mc ms post k n q al st N h) : G l X md d mc ms post k n pc al st N h := by
  intro p e s m args below meth c D tc B b H locs ls Q hC hE hX hH hL hK hQ
  exact lv_goto hC.1 hC.2.1 hd hq (kk p e s m args below meth c D tc B b H locs ls Q hC hE hX hH hL hK hQ)
theorem g_icmp_lt {off : Int} {t : Nat} {x y : Int} (hx : IR x) (hy : IR y) (hd : decode md.2.1 pc = .ok (.if_icmp .lt off, 3)) (ht : (pc : Int) + off = (t : Int)) (hq : pc + 3 = q) (kt : x < y → G l X md d mc ms post k n t al st N h) (kf : y ≤ x → G l X md d mc ms post k n q al st N h) : G l X md d mc ms post k n pc al (.int (iI y) :: .int (iI x) :: st) N h := by
  subst hq
  intro p e s m args below meth c D tc B b H locs ls Q hC hE hX hH hL hK hQ
  exact lv_icmp_lt hC.1 hC.2.1 hd ht (fun z => kt ((iI_lt hx hy).mp z) p e s m args below meth c D tc B b H locs ls Q hC hE hX hH hL hK hQ) (fun z => kf (Int.not_lt.mp (fun y9 => z ((iI_lt hx hy).mpr y9))) p e s m args below meth c D tc B b H locs ls Q hC hE hX hH hL hK hQ)
theorem g_icmp_le {off : Int} {t : Nat} {x y : Int} (hx : IR x) (hy : IR y) (hd : decode md.2.1 pc = .ok (.if_icmp .le off, 3)) (ht : (pc : Int) + off = (t : Int)) (hq : pc + 3 = q) (kt : x ≤ y → G l X md d mc ms post k n t al st N h) (kf : y < x → G l X md d mc ms post k n q al st N h) : G l X md d mc ms post k n pc al (.int (iI y) :: .int (iI x) :: st) N h := by
  subst hq
  intro p e s m args below meth c D tc B b H locs ls Q hC hE hX hH hL hK hQ
  exact lv_icmp_le hC.1 hC.2.1 hd ht (fun z => kt ((iI_le hx hy).mp z) p e s m args below meth c D tc B b H locs ls Q hC hE hX hH hL hK hQ) (fun z => kf (Int.not_le.mp (fun y9 => z ((iI_le hx hy).mpr y9))) p e s m args below meth c D tc B b H locs ls Q hC hE hX hH hL hK hQ)
theorem g_icmp_gt {off : Int} {t : Nat} {x y : Int} (hx : IR x) (hy : IR y) (hd : decode md.2.1 pc = .ok (.if_icmp .gt off, 3)) (ht : (pc : Int) + off = (t : Int)) (hq : pc + 3 = q) (kt : y < x → G l X md d mc ms post k n t al st N h) (kf : x ≤ y → G l X md d mc ms post k n q al st N h) : G l X md d mc ms post k n pc al (.int (iI y) :: .int (iI x) :: st) N h := by
  subst hq
  intro p e s m args below meth c D tc B b H locs ls Q hC hE hX hH hL hK hQ
  exact lv_icmp_gt hC.1 hC.2.1 hd ht (fun z => kt ((iI_lt hy hx).mp z) p e s m args below meth c D tc B b H locs ls Q hC hE hX hH hL hK hQ) (fun z => kf (Int.not_lt.mp (fun y9 => z ((iI_lt hy hx).mpr y9))) p e s m args below meth c D tc B b H locs ls Q hC hE hX hH hL hK hQ)
theorem g_icmp_ge {off : Int} {t : Nat} {x y : Int} (hx : IR x) (hy : IR y) (hd : decode md.2.1 pc = .ok (.if_icmp .ge off, 3)) (ht : (pc : Int) + off = (t : Int)) (hq : pc + 3 = q) (kt : y ≤ x → G l X md d mc ms post k n t al st N h) (kf : x < y → G l X md d mc ms post k n q al st N h) : G l X md d mc ms post k n pc al (.int (iI y) :: .int (iI x) :: st) N h := by
  subst hq
  intro p e s m args below meth c D tc B b H locs ls Q hC hE hX hH hL hK hQ
  exact lv_icmp_ge hC.1 hC.2.1 hd ht (fun z => kt ((iI_le hy hx).mp z) p e s m args below meth c D tc B b H locs ls Q hC hE hX hH hL hK hQ) (fun z => kf (Int.not_le.mp (fun y9 => z ((iI_le hy hx).mpr y9))) p e s m args below meth c D tc B b H locs ls Q hC hE hX hH hL hK hQ)
theorem g_icmp_eq {off : Int} {t : Nat} {x y : Int} (hx : IR x) (hy : IR y) (hd : decode md.2.1 pc = .ok (.if_icmp .eq off, 3)) (ht : (pc : Int) + off = (t : Int)) (hq : pc + 3 = q) (kt : x = y → G l X md d mc ms post k n t al st N h) (kf : x ≠ y → G l X md d mc ms post k n q al st N h) : G l X md d mc ms post k n pc al (.int (iI y) :: .int (iI x) :: st) N h := by
  subst hq
  intro p e s m args below meth c D tc B b H locs ls Q hC hE hX hH hL hK hQ
  exact lv_icmp_eq hC.1 hC.2.1 hd ht (fun z => kt ((iI_eq hx hy).mp z) p e s m args below meth c D tc B b H locs ls Q hC hE hX hH hL hK hQ) (fun z => kf (fun y9 => z ((iI_eq hx hy).mpr y9)) p e s m args below meth c D tc B b H locs ls Q hC hE hX hH hL hK hQ)
theorem g_icmp_ne {off : Int} {t : Nat} {x y : Int} (hx : IR x) (hy : IR y) (hd : decode md.2.1 pc = .ok (.if_icmp .ne off, 3)) (ht : (pc : Int) + off = (t : Int)) (hq : pc + 3 = q) (kt : x ≠ y → G l X md d mc ms post k n t al st N h) (kf : x = y → G l X md d mc ms post k n q al st N h) : G l X md d mc ms post k n pc al (.int (iI y) :: .int (iI x) :: st) N h := by
  subst hq
  intro p e s m args below meth c D tc B b H locs ls Q hC hE hX hH hL hK hQ
  exact lv_icmp_ne hC.1 hC.2.1 hd ht (fun z => kt (fun y9 => z ((iI_eq hx hy).mpr y9)) p e s m args below meth c D tc B b H locs ls Q hC hE hX hH hL hK hQ) (fun z => kf ((iI_eq hx hy).mp z) p e s m args below meth c D tc B b H locs ls Q hC hE hX hH hL hK hQ)
theorem g_if_eq {off : Int} {t : Nat} {x : Int} (hx : IR x) (hd : decode md.2.1 pc = .ok (.ifCond .eq off, 3)) (ht : (pc : Int) + off = (t : Int)) (hq : pc + 3 = q) (kt : x = 0 → G l X md d mc ms post k n t al st N h) (kf : x ≠ 0 → G l X md d mc ms post k n q al st N h) : G l X md d mc ms post k n pc al (.int (iI x) :: st) N h := by
  subst hq
  intro p e s m args below meth c D tc B b H locs ls Q hC hE hX hH hL hK hQ
  exact lv_if_eq hC.1 hC.2.1 hd ht (fun z => kt ((iI_eq0 hx).mp z) p e s m args below meth c D tc B b H locs ls Q hC hE hX hH hL hK hQ) (fun z => kf (fun y9 => z ((iI_eq0 hx).mpr y9)) p e s m args below meth c D tc B b H locs ls Q hC hE hX hH hL hK hQ)
theorem g_if_ne {off : Int} {t : Nat} {x : Int} (hx : IR x) (hd : decode md.2.1 pc = .ok (.ifCond .ne off, 3)) (ht : (pc : Int) + off = (t : Int)) (hq : pc + 3 = q) (kt : x ≠ 0 → G l X md d mc ms post k n t al st N h) (kf : x = 0 → G l X md d mc ms post k n q al st N h) : G l X md d mc ms post k n pc al (.int (iI x) :: st) N h := by
  subst hq
  intro p e s m args below meth c D tc B b H locs ls Q hC hE hX hH hL hK hQ
  exact lv_if_ne hC.1 hC.2.1 hd ht (fun z => kt (fun y9 => z ((iI_eq0 hx).mpr y9)) p e s m args below meth c D tc B b H locs ls Q hC hE hX hH hL hK hQ) (fun z => kf ((iI_eq0 hx).mp z) p e s m args below meth c D tc B b H locs ls Q hC hE hX hH hL hK hQ)
theorem g_if_lt {off : Int} {t : Nat} {x : Int} (hx : IR x) (hd : decode md.2.1 pc = .ok (.ifCond .lt off, 3)) (ht : (pc : Int) + off = (t : Int)) (hq : pc + 3 = q) (kt : x < 0 → G l X md d mc ms post k n t al st N h) (kf : 0 ≤ x → G l X md d mc ms post k n q al st N h) : G l X md d mc ms post k n pc al (.int (iI x) :: st) N h := by
  subst hq
  intro p e s m args below meth c D tc B b H locs ls Q hC hE hX hH hL hK hQ
  exact lv_if_lt hC.1 hC.2.1 hd ht (fun z => kt ((iI_lt0 hx).mp z) p e s m args below meth c D tc B b H locs ls Q hC hE hX hH hL hK hQ) (fun z => kf (Int.not_lt.mp (fun y9 => z ((iI_lt0 hx).mpr y9))) p e s m args below meth c D tc B b H locs ls Q hC hE hX hH hL hK hQ)
theorem g_if_le {off : Int} {t : Nat} {x : Int} (hx : IR x) (hd : decode md.2.1 pc = .ok (.ifCond .le off, 3)) (ht : (pc : Int) + off = (t : Int)) (hq : pc + 3 = q) (kt : x ≤ 0 → G l X md d mc ms post k n t al st N h) (kf : 0 < x → G l X md d mc ms post k n q al st N h) : G l X md d mc ms post k n pc al (.int (iI x) :: st) N h := by
  subst hq
  intro p e s m args below meth c D tc B b H locs ls Q hC hE hX hH hL hK hQ
  exact lv_if_le hC.1 hC.2.1 hd ht (fun z => kt ((iI_le0 hx).mp z) p e s m args below meth c D tc B b H locs ls Q hC hE hX hH hL hK hQ) (fun z => kf (Int.not_le.mp (fun y9 => z ((iI_le0 hx).mpr y9))) p e s m args below meth c D tc B b H locs ls Q hC hE hX hH hL hK hQ)
theorem g_ifr_eq {off : Int} {t : Nat} {x : Int32} (hd : decode md.2.1 pc = .ok (.ifCond .eq off, 3)) (ht : (pc : Int) + off = (t : Int)) (hq : pc + 3 = q) (kt : x = 0 → G l X md d mc ms post k n t al st N h) (kf : ¬ x = 0 → G l X md d mc ms post k n q al st N h) : G l X md d mc ms post k n pc al (.int x :: st) N h := by
  subst hq
  intro p e s m args below meth c D tc B b H locs ls Q hC hE hX hH hL hK hQ
  exact lv_if_eq hC.1 hC.2.1 hd ht (fun z => kt z p e s m args below meth c D tc B b H locs ls Q hC hE hX hH hL hK hQ) (fun z => kf z p e s m args below meth c D tc B b H locs ls Q hC hE hX hH hL hK hQ)
theorem g_ifr_ne {off : Int} {t : Nat} {x : Int32} (hd : decode md.2.1 pc = .ok (.ifCond .ne off, 3)) (ht : (pc : Int) + off = (t : Int)) (hq : pc + 3 = q) (kt : ¬ x = 0 → G l X md d mc ms post k n t al st N h) (kf : x = 0 → G l X md d mc ms post k n q al st N h) : G l X md d mc ms post k n pc al (.int x :: st) N h := by
  subst hq
  intro p e s m args below meth c D tc B b H locs ls Q hC hE hX hH hL hK hQ
  exact lv_if_ne hC.1 hC.2.1 hd ht (fun z => kt z p e s m args below meth c D tc B b H locs ls Q hC hE hX hH hL hK hQ) (fun z => kf z p e s m args below meth c D tc B b H locs ls Q hC hE hX hH hL hK hQ)
theorem g_tableIn {dflt lo hi : Int} {offs : Array Int} {len : Nat} {x off : Int} (hx : IR x) (hd : decode md.2.1 pc = .ok (.tableswitch dflt lo hi offs, len)) (h1 : lo ≤ x) (h2 : x ≤ hi) (ho : offs[(x - lo).toNat]? = some off) (ht : (pc : Int) + off = (q : Int)) (kk : G l X md d mc ms post k n q al st N h) : G l X md d mc ms post k n pc al (.int (iI x) :: st) N h := by
  intro p e s m args below meth c D tc B b H locs ls Q hC hE hX hH hL hK hQ
  exact lv_tableIn hC.1 hC.2.1 hd (by rw [iI_toInt hx]; omega) (by rw [iI_toInt hx]; omega) (by rw [iI_toInt hx]; exact ho) ht (kk p e s m args below meth c D tc B b H locs ls Q hC hE hX hH hL hK hQ)
theorem g_tableOut {dflt lo hi : Int} {offs : Array Int} {len : Nat} {x : Int} (hx : IR x) (hd : decode md.2.1 pc = .ok (.tableswitch dflt lo hi offs, len)) (h1 : x < lo ∨ hi < x) (ht : (pc : Int) + dflt = (q : Int)) (kk : G l X md d mc ms post k n q al st N h) : G l X md d mc ms post k n pc al (.int (iI x) :: st) N h := by
  intro p e s m args below meth c D tc B b H locs ls Q hC hE hX hH hL hK hQ
  exact lv_tableOut hC.1 hC.2.1 hd (by rw [iI_toInt hx]; exact h1) ht (kk p e s m args below meth c D tc B b H locs ls Q hC hE hX hH hL hK hQ)
theorem g_ret (r : Option Value) (hz : N.2 = true → k = mc) (hk : k ≤ mc) (hn : n ≤ ms) (hd : decode md.2.1 pc = .ok (rIns r, 1)) (hr : rOk md.2.2.2.1 r) (hs : st = r.toList) (hp : post (.inl r) N h) : G l X md d mc ms post k n pc al st N h := by
  intro p e s m args below meth c D tc B b H locs ls Q hC hE hX hH hL hK hQ
  refine W.widen hk hn ?_
  have := hK r N h H locs pc ls hp ⟨hH.1, hH.2.1, hH.2.2.1, hH.2.2.2.1, fun z => hz z ▸ hH.2.2.2.2 z⟩ hr hd
  rw [hs]
  cases r <;> exact this
theorem g_ireturn {x : Int32} (hz : N.2 = true → k = mc) (hk : k ≤ mc) (hn : n ≤ ms) (hd : decode md.2.1 pc = .ok (.ireturn, 1)) (hr : md.2.2.2.1 = some .int) (hp : post (.inl (some (.int x))) N h) : G l X md d mc ms post k n pc al [.int x] N h := g_ret (some (.int x)) hz hk hn hd ⟨.int, hr, rfl⟩ rfl hp
theorem g_zreturn {x : Int} (hz : N.2 = true → k = mc) (hk : k ≤ mc) (hn : n ≤ ms) (hd : decode md.2.1 pc = .ok (.ireturn, 1)) (hr : md.2.2.2.1 = some .boolean) (hx : x = 0 ∨ x = 1) (hp : post (.inl (some (.int (iI x)))) N h) : G l X md d mc ms post k n pc al [.int (iI x)] N h := g_ret (some (.int (iI x))) hz hk hn hd ⟨.boolean, hr, by rcases hx with rfl | rfl <;> decide⟩ rfl hp
theorem g_lreturn {x : Int64} (hz : N.2 = true → k = mc) (hk : k ≤ mc) (hn : n ≤ ms) (hd : decode md.2.1 pc = .ok (.lreturn, 1)) (hr : md.2.2.2.1 = some .long) (hp : post (.inl (some (.long x))) N h) : G l X md d mc ms post k n pc al [.long x] N h := g_ret (some (.long x)) hz hk hn hd hr rfl hp
theorem g_dreturn {x : UInt64} (hz : N.2 = true → k = mc) (hk : k ≤ mc) (hn : n ≤ ms) (hd : decode md.2.1 pc = .ok (.dreturn, 1)) (hr : md.2.2.2.1 = some .double) (hp : post (.inl (some (.double x))) N h) : G l X md d mc ms post k n pc al [.double x] N h := g_ret (some (.double x)) hz hk hn hd hr rfl hp
theorem g_areturn {x : Nat} {C : String} (hz : N.2 = true → k = mc) (hk : k ≤ mc) (hn : n ≤ ms) (hd : decode md.2.1 pc = .ok (.areturn, 1)) (hr : md.2.2.2.1 = some (.object C)) (hp : post (.inl (some (.ref x))) N h) : G l X md d mc ms post k n pc al [.ref x] N h := g_ret (some (.ref x)) hz hk hn hd ⟨C, hr⟩ rfl hp
theorem g_vreturn (hz : N.2 = true → k = mc) (hk : k ≤ mc) (hn : n ≤ ms) (hd : decode md.2.1 pc = .ok (.return_, 1)) (hr : md.2.2.2.1 = none) (hp : post (.inl none) N h) : G l X md d mc ms post k n pc al [] N h := g_ret none hz hk hn hd hr rfl hp
theorem g_al {al2 : List (Option Value)} (e9 : al = al2) (kk : G l X md d mc ms post k n pc al2 st N h) : G l X md d mc ms post k n pc al st N h := e9 ▸ kk
end GRows
