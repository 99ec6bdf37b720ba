/-! ===== more rows ===== -/
theorem g_drop {l : Launch} {X : State → Nat → Nat → Prop} {md : MD} {d mc ms : Nat} {post : Post} {k n pc : Nat} {al al2 : List (Option Value)} {st : List Value} {N : NB} {h : EHp} (i : Nat) (ha : al.set i none = al2) (kk : G l X md d mc ms post k n pc al2 st N h) : G l X md d mc ms post k n pc al st N h := by
  subst ha
  intro p e s m args below meth c D tc B b H locs ls Q hC hE hX hH hL hK hQ
  exact kk p e s m args below meth c D tc B b H locs ls Q hC hE hX hH hL.drop hK hQ
theorem iI_shr0 (y : Int32) : iI 0 >>> y = iI 0 := by
  have h := pk_shr (iI 0) y (y.toBitVec.smod 32).toNat rfl
  rw [iI_toInt (by decide)] at h
  have h2 : (iI 0 >>> y).toInt = (iI 0).toInt := by
    rw [h, iI_toInt (by decide)]
    simp
  exact Int32.toInt.inj h2
theorem g_ishrV {l : Launch} {X : State → Nat → Nat → Prop} {md : MD} {d mc ms : Nat} {post : Post} {k n pc q : Nat} {al : List (Option Value)} {st : List Value} {N : NB} {h : EHp} {x y : Int} (hx0 : 0 ≤ x) (hx1 : x < 2147483648) (hy0 : 0 ≤ y) (hy : y < 32 ∨ x = 0) (hd : decode md.2.1 pc = .ok (.ishr, 1)) (hq : pc + 1 = q) (kk : G l X md d mc ms post k n q al (.int (iI (x / 2 ^ y.toNat)) :: st) N h) : G l X md d mc ms post k n pc al (.int (iI y) :: .int (iI x) :: st) N h := by
  by_cases h32 : y < 32
  · exact g_ishr hx0 hx1 hy0 h32 hd hq kk
  · have hx : x = 0 := by rcases hy with z | z; exact absurd z h32; exact z
    subst hx hq
    intro p e s m args below meth c D tc B b H locs ls Q hC hE hX hH hL hK hQ
    refine lv_ishr hC.1 hC.2.1 hd ?_
    rw [iI_shr0]
    have := kk p e s m args below meth c D tc B b H locs ls Q hC hE hX hH hL hK hQ
    rw [Int.zero_ediv] at this
    exact this
