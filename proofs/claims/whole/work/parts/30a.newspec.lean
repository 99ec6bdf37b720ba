/-! ===== constructors: what they leave ===== -/
def nP (M : Nat) (Pm : EHp → Prop) : Post := fun o N' h' => o = .inl none ∧ N' = (M, true) ∧ Pm h'
theorem nP_in {M : Nat} {Pm : EHp → Prop} {h : EHp} (hp : Pm h) : nP M Pm (.inl none) (M, true) h := ⟨rfl, rfl, hp⟩
section GInit
variable {l : Launch} {X : State → Nat → Nat → Prop} {md : MD} {d mc ms : Nat} {post : Post} {k n pc q : Nat} {al : List (Option Value)} {st st0 : List Value} {N : NB} {h : EHp} {cd : MD} {ix nA d' mc' ms' i M : Nat} {av : List Value} {Pm : EHp → Prop}
theorem g_Iv (hw : CId md.1.cls ix cd nA) (hM : CT l cd d' mc' ms' (.ref i :: av) N h (nP M Pm)) (hz : N.2 = true) (hm : M = N.1 + mc') (hlen : av.length = nA) (hcat : (st.map Value.category).sum ≤ 8) (hfr : d' + 1 ≤ d ∧ 8 + (cd.2.2.1 + 11) + 37 * d' ≤ 37 * d) (hrm : k + mc' ≤ mc ∧ n + ms' ≤ ms) (hs0 : st0 = av.reverse ++ .ref i :: st) (hd : decode md.2.1 pc = .ok (.invokespecial ix, 3)) (hq : pc + 3 = q) (kk : ∀ h', Pm h' → G l X md d mc ms post (k + mc') (n + ms') q al st (M, true) h') : G l X md d mc ms post k n pc al st0 N h := by
  refine g_callI hw hM hlen hcat hfr hrm (fun r N' h' z => ?_) (fun E N' h' z => ?_) hs0 hd hq (fun r N' h' z => ?_)
  · obtain ⟨-, rfl, -⟩ := z; exact fun _ => ⟨hz, hm⟩
  · obtain ⟨z, -⟩ := z; cases z
  · obtain ⟨z, rfl, z2⟩ := z; cases z; exact kk h' z2
theorem g_INv {host : String} (hw : CNd md.1.cls ix cd host nA) (hM : CT l cd d' mc' ms' (.ref i :: av) N h (nP M Pm)) (hz : N.2 = true) (hm : M = N.1 + mc') (hlen : av.length = nA) (hcat : (st.map Value.category).sum ≤ 8) (hfr : d' + 1 ≤ d ∧ 8 + (cd.2.2.1 + 11) + 37 * d' ≤ 37 * d) (hrm : k + mc' ≤ mc ∧ n + ms' ≤ ms) (hs0 : st0 = av.reverse ++ .ref i :: st) (hd : decode md.2.1 pc = .ok (.invokespecial ix, 3)) (hq : pc + 3 = q) (kk : ∀ h', Pm h' → G l X md d mc ms post (k + mc') (n + ms') q al st (M, true) h') : G l X md d mc ms post k n pc al st0 N h := by
  refine g_callIN hw hM hlen hcat hfr hrm (fun r N' h' z => ?_) (fun E N' h' z => ?_) hs0 hd hq (fun r N' h' z => ?_)
  · obtain ⟨-, rfl, -⟩ := z; exact fun _ => ⟨hz, hm⟩
  · obtain ⟨z, -⟩ := z; cases z
  · obtain ⟨z, rfl, z2⟩ := z; cases z; exact kk h' z2
/-- the objects need not be the last ones -/
theorem g_loose {j : Nat} (kk : G l X md d mc ms post k n pc al st (j, false) h) : G l X md d mc ms post k n pc al st (j, true) h := by
  intro p e s m args below meth c D tc B b H locs ls Q hC hE hX hH hL hK hQ
  exact kk p e s m args below meth c D tc B b H locs ls Q hC hE hX ⟨hH.1, hH.2.1, hH.2.2.1, hH.2.2.2.1, fun z => by cases z⟩ hL hK hQ
end GInit
def S0 : ASt := (fun _ => (0, fun _ => 0), 4, [], 0, 0)
theorem LOk0 {f : Int → Int} : LOk 0 f := ⟨Int.le_refl _, by omega, fun i a b => by omega, fun i j a b d => by omega⟩
theorem LA0 {h : EHp} {a : Nat} {ds fa : Int → Int} (h1 : h a = cO 4 [.ref (a + 1), .int (iI 0), .ref (a + 2), .int (iI 0)]) (h2 : h (a + 1) = cI 64 ds) (h3 : h (a + 2) = cI 384 fa) (h4 : a + 2 < 103) : LA h a 0 (fun _ => 0) :=
  ⟨0, ds, fa, ⟨h1, h2, h3, h4⟩, fun i a b => by omega, LOk0, ⟨Int.le_refl _, fun k hk => (by omega), rfl, fun k hk => (by omega)⟩⟩
theorem CA0 {h : EHp} {k : Nat} {ks : Int → Int} (h1 : h k = cO 0 [.ref (k + 1), .int (iI 0), .int (iI 4)]) (h2 : h (k + 1) = cI 8 ks) (h3 : k + 1 < 103) : CA h k 4 [] :=
  ⟨ks, h1, h2, h3, fun i v hv => (by cases hv), by decide, by omega, by omega, fun v hv => by cases hv⟩
theorem lref_uo {s a b c e : Nat} (ha : a = s + 4) (hb : b = s + 7) (hc : c = s + 10) (he : e = s + 13) : uo (uo (uo (uo (fun _ => none) 0 (some a)) 1 (some b)) 2 (some c)) 3 (some e) = lref s := by
  funext i
  subst ha hb hc he
  unfold uo lref
  by_cases h3 : i = 3
  · subst h3; rfl
  · by_cases h2 : i = 2
    · subst h2; rfl
    · by_cases h1 : i = 1
      · subst h1; rfl
      · by_cases h0 : i = 0
        · subst h0; rfl
        · rw [if_neg h3, if_neg h2, if_neg h1, if_neg h0, if_neg (by omega)]
theorem sref_uo {g a b c e : Nat} (ha : a = g + 2) (hb : b = g + 18) (hc : c = g + 34) (he : e = g + 50) : uo (uo (uo (uo (fun _ => none) 0 (some a)) 1 (some b)) 2 (some c)) 3 (some e) = sref g := by
  funext i
  subst ha hb hc he
  unfold uo sref
  by_cases h3 : i = 3
  · subst h3; rfl
  · by_cases h2 : i = 2
    · subst h2; rfl
    · by_cases h1 : i = 1
      · subst h1; rfl
      · by_cases h0 : i = 0
        · subst h0; rfl
        · rw [if_neg h3, if_neg h2, if_neg h1, if_neg h0, if_neg (by omega)]
theorem WR0 : WR (ui (fun _ => 0) 260 4) S0 := by
  have u : ∀ k : Int, k ≠ 260 → ui (fun _ => 0) 260 4 k = 0 := fun k hk => by unfold ui; rw [if_neg hk]
  refine ⟨fun i hi => ⟨u _ (by omega), LOk0, fun j a b => by have : j < 0 := b; omega⟩, by unfold ui; rw [if_pos rfl]; rfl, u _ (by omega), fun k v hk => (by cases hk), u _ (by omega), u _ (by omega), by decide, by decide, by decide, List.nodup_nil, fun v hv => by cases hv⟩
