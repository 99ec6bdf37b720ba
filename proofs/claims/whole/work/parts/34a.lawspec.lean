/-! ===== the law: its cases ===== -/
theorem iI_any (x : Int32) : ∃ z, x = iI z ∧ IR z := ⟨x.toInt, (iI_self x).symm, iI_IR x⟩
theorem lg_self (x : Int64) : lg_cmp x x = 0 := (lg_cmp_eq x x).mpr rfl
theorem g_icmp_same {l : Launch} {X : State → Nat → Nat → Prop} {md : MD} {d mc ms : Nat} {post : Post} {k n pc q : Nat} {al : List (Option Value)} {st : List Value} {N : NB} {h : EHp} {off : Int} {t : Nat} {x : Int} (hd : decode md.2.1 pc = .ok (.if_icmp .eq off, 3)) (ht : (pc : Int) + off = (t : Int)) (hq : pc + 3 = q) (kk : G l X md d mc ms post k n t al st N h) : G l X md d mc ms post k n pc al (.int (iI x) :: .int (iI x) :: st) N h := by
  have e : iI x = iI (iI x).toInt := (iI_self _).symm
  rw [e]
  exact g_icmp_eq (iI_IR _) (iI_IR _) hd ht hq (fun _ => kk) (fun z => absurd rfl z)
