/-! ===== more rows ===== -/
theorem g_drop {l : Launch} {X : State → Nat → Nat → Prop} {md : MD} {d mc ms : Nat} {post : Post} {k n pc : Nat} {al al2 : List (Option Value)} {st : List Value} {N : NB} {h : EHp} (i : Nat) (ha : al.set i none = al2) (kk : G l X md d mc ms post k n pc al2 st N h) : G l X md d mc ms post k n pc al st N h := by
  subst ha
  intro p e s m args below meth c D tc B b H locs ls Q hC hE hX hH hL hK hQ
  exact kk p e s m args below meth c D tc B b H locs ls Q hC hE hX hH hL.drop hK hQ
