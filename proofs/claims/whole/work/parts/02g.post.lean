/-! ===== ends of contracts, and calls by them, over the full number of objects ===== -/
def NN : NB := (103, false)
theorem loopG {σ : Type} {P I : σ → Prop} (μ : σ → Nat) (hs : ∀ s, I s → (∀ s', I s' → μ s' < μ s → P s') → P s) (s : σ) (h : I s) : P s := by
  have : ∀ n s, μ s < n → I s → P s := by
    intro n
    induction n with
    | zero => intro s h; omega
    | succ n ih => intro s h1 h2; exact hs s h2 (fun s' h3 h4 => ih s' (by omega) h3)
  exact this (μ s + 1) s (Nat.lt_succ_self _) h
def rP (v : Value) (h : EHp) : Post := fun o N' h' => o = .inl (some v) ∧ N' = NN ∧ h' = h
def vP (Pm : EHp → Prop) : Post := fun o N' h' => o = .inl none ∧ N' = NN ∧ Pm h'
def wP (Pm : Value → EHp → Prop) : Post := fun o N' h' => ∃ v, o = .inl (some v) ∧ N' = NN ∧ Pm v h'
def xP (E : String) (Pm : EHp → Prop) : Post := fun o N' h' => o = .inr E ∧ N' = NN ∧ Pm h'
theorem rP_in {v : Value} {h : EHp} : rP v h (.inl (some v)) NN h := ⟨rfl, rfl, rfl⟩
theorem vP_in {Pm : EHp → Prop} {h : EHp} (hp : Pm h) : vP Pm (.inl none) NN h := ⟨rfl, rfl, hp⟩
theorem wP_in {Pm : Value → EHp → Prop} {v : Value} {h : EHp} (hp : Pm v h) : wP Pm (.inl (some v)) NN h := ⟨v, rfl, rfl, hp⟩
theorem xP_in {E : String} {Pm : EHp → Prop} {h : EHp} (hp : Pm h) : xP E Pm (.inr E) NN h := ⟨rfl, rfl, hp⟩
theorem CT.mono {l : Launch} {md : MD} {d mc ms : Nat} {av : List Value} {N : NB} {h : EHp} {post post' : Post} (hM : CT l md d mc ms av N h post) (hp : ∀ o N' h', post o N' h' → post' o N' h') : CT l md d mc ms av N h post' := by
  intro D tc B b p e h1 h2 h3 s m args below h4 h5 h6 h7
  obtain ⟨n, o, g1, g2, g3, g4⟩ := hM D tc B b p e h1 h2 h3 s m args below h4 h5 h6 h7
  refine ⟨n, o, g1, g2, g3, ?_⟩
  rcases g4 with ⟨⟨⟨r, N', h', e1, e2, e3⟩, e4⟩, e5⟩ | ⟨q, e0, E, ce, L, ⟨⟨N', h', e2, e3⟩, e4⟩, e5⟩
  · exact Or.inl ⟨⟨⟨r, N', h', e1, hp _ _ _ e2, e3⟩, e4⟩, e5⟩
  · exact Or.inr ⟨q, e0, E, ce, L, ⟨⟨N', h', hp _ _ _ e2, e3⟩, e4⟩, e5⟩
section GPost
variable {l : Launch} {X : State → Nat → Nat → Prop} {md : MD} {d mc ms : Nat} {post : Post} {k n pc q : Nat} {al : List (Option Value)} {st st0 : List Value} {N : NB} {h : EHp} {cd : MD} {ix ci nA d' i : Nat} {av : List Value} {fs : List Value} {v : Value} {Pm : EHp → Prop} {Pv : Value → EHp → Prop} {E : String}
theorem hp_in (kk : ∀ h1, h1 = h → G l X md d mc ms post k n pc al st N h1) : G l X md d mc ms post k n pc al st N h := kk h rfl
theorem NN_f {r : Prop} (z : NN.2 = true) : r := by cases z
theorem g_Vr (hw : CVd md.1.cls ix ci cd nA) (hM : CT l cd d' 0 0 (.ref i :: av) NN h (rP v h)) (hi : i < 103) (hh : h i = cO ci fs) (hlen : av.length = nA) (hcat : (st.map Value.category).sum ≤ 8) (hfr : d' + 1 ≤ d ∧ 8 + (cd.2.2.1 + 11) + 37 * d' ≤ 37 * d) (hrm : k ≤ mc ∧ n ≤ ms) (htb : md.2.2.2.2 = []) (hs0 : st0 = av.reverse ++ .ref i :: st) (hd : decode md.2.1 pc = .ok (.invokevirtual ix, 3)) (hq : pc + 3 = q) (kk : G l X md d mc ms post k n q al (v :: st) NN h) : G l X md d mc ms post k n pc al st0 NN h := by
  refine g_callV hw hM hi hh hlen hcat hfr hrm htb (fun r N' h' z => ?_) (fun E N' h' z => ?_) hs0 hd hq (fun r N' h' z => ?_)
  · obtain ⟨-, rfl, -⟩ := z; exact NN_f
  · obtain ⟨z, -⟩ := z; cases z
  · obtain ⟨z, rfl, rfl⟩ := z; cases z; exact kk
theorem g_Sr (hw : CSd md.1.cls ix cd nA) (hM : CT l cd d' 0 0 av NN h (rP v h)) (hlen : av.length = nA) (hcat : (st.map Value.category).sum ≤ 8) (hfr : d' + 1 ≤ d ∧ 8 + (cd.2.2.1 + 11) + 37 * d' ≤ 37 * d) (hrm : k ≤ mc ∧ n ≤ ms) (htb : md.2.2.2.2 = []) (hs0 : st0 = av.reverse ++ st) (hd : decode md.2.1 pc = .ok (.invokestatic ix, 3)) (hq : pc + 3 = q) (kk : G l X md d mc ms post k n q al (v :: st) NN h) : G l X md d mc ms post k n pc al st0 NN h := by
  refine g_callS hw hM hlen hcat hfr hrm htb (fun r N' h' z => ?_) (fun E N' h' z => ?_) hs0 hd hq (fun r N' h' z => ?_)
  · obtain ⟨-, rfl, -⟩ := z; exact NN_f
  · obtain ⟨z, -⟩ := z; cases z
  · obtain ⟨z, rfl, rfl⟩ := z; cases z; exact kk
theorem g_Vv (hw : CVd md.1.cls ix ci cd nA) (hM : CT l cd d' 0 0 (.ref i :: av) NN h (vP Pm)) (hi : i < 103) (hh : h i = cO ci fs) (hlen : av.length = nA) (hcat : (st.map Value.category).sum ≤ 8) (hfr : d' + 1 ≤ d ∧ 8 + (cd.2.2.1 + 11) + 37 * d' ≤ 37 * d) (hrm : k ≤ mc ∧ n ≤ ms) (htb : md.2.2.2.2 = []) (hs0 : st0 = av.reverse ++ .ref i :: st) (hd : decode md.2.1 pc = .ok (.invokevirtual ix, 3)) (hq : pc + 3 = q) (kk : ∀ h', Pm h' → G l X md d mc ms post k n q al st NN h') : G l X md d mc ms post k n pc al st0 NN h := by
  refine g_callV hw hM hi hh hlen hcat hfr hrm htb (fun r N' h' z => ?_) (fun E N' h' z => ?_) hs0 hd hq (fun r N' h' z => ?_)
  · obtain ⟨-, rfl, -⟩ := z; exact NN_f
  · obtain ⟨z, -⟩ := z; cases z
  · obtain ⟨z, rfl, z2⟩ := z; cases z; exact kk h' z2
theorem g_Sv (hw : CSd md.1.cls ix cd nA) (hM : CT l cd d' 0 0 av NN h (vP Pm)) (hlen : av.length = nA) (hcat : (st.map Value.category).sum ≤ 8) (hfr : d' + 1 ≤ d ∧ 8 + (cd.2.2.1 + 11) + 37 * d' ≤ 37 * d) (hrm : k ≤ mc ∧ n ≤ ms) (htb : md.2.2.2.2 = []) (hs0 : st0 = av.reverse ++ st) (hd : decode md.2.1 pc = .ok (.invokestatic ix, 3)) (hq : pc + 3 = q) (kk : ∀ h', Pm h' → G l X md d mc ms post k n q al st NN h') : G l X md d mc ms post k n pc al st0 NN h := by
  refine g_callS hw hM hlen hcat hfr hrm htb (fun r N' h' z => ?_) (fun E N' h' z => ?_) hs0 hd hq (fun r N' h' z => ?_)
  · obtain ⟨-, rfl, -⟩ := z; exact NN_f
  · obtain ⟨z, -⟩ := z; cases z
  · obtain ⟨z, rfl, z2⟩ := z; cases z; exact kk h' z2
theorem g_Vw (hw : CVd md.1.cls ix ci cd nA) (hM : CT l cd d' 0 0 (.ref i :: av) NN h (wP Pv)) (hi : i < 103) (hh : h i = cO ci fs) (hlen : av.length = nA) (hcat : (st.map Value.category).sum ≤ 8) (hfr : d' + 1 ≤ d ∧ 8 + (cd.2.2.1 + 11) + 37 * d' ≤ 37 * d) (hrm : k ≤ mc ∧ n ≤ ms) (htb : md.2.2.2.2 = []) (hs0 : st0 = av.reverse ++ .ref i :: st) (hd : decode md.2.1 pc = .ok (.invokevirtual ix, 3)) (hq : pc + 3 = q) (kk : ∀ v h', Pv v h' → G l X md d mc ms post k n q al (v :: st) NN h') : G l X md d mc ms post k n pc al st0 NN h := by
  refine g_callV hw hM hi hh hlen hcat hfr hrm htb (fun r N' h' z => ?_) (fun E N' h' z => ?_) hs0 hd hq (fun r N' h' z => ?_)
  · obtain ⟨v, -, rfl, -⟩ := z; exact NN_f
  · obtain ⟨v, z, -⟩ := z; cases z
  · obtain ⟨v, z, rfl, z2⟩ := z; cases z; exact kk v h' z2
/-- what is thrown goes on to the caller -/
theorem g_Vx (hw : CVd md.1.cls ix ci cd nA) (hM : CT l cd d' 1 6 (.ref i :: av) NN h (xP E Pm)) (hi : i < 103) (hh : h i = cO ci fs) (hlen : av.length = nA) (hcat : (st.map Value.category).sum ≤ 8) (hfr : d' + 1 ≤ d ∧ 8 + (cd.2.2.1 + 11) + 37 * d' ≤ 37 * d) (hrm : k + 1 ≤ mc ∧ n + 6 ≤ ms) (htb : md.2.2.2.2 = []) (hs0 : st0 = av.reverse ++ .ref i :: st) (hd : decode md.2.1 pc = .ok (.invokevirtual ix, 3)) (kk : ∀ h', Pm h' → post (.inr E) NN h') : G l X md d mc ms post k n pc al st0 NN h := by
  refine g_callV (q := pc + 3) hw hM hi hh hlen hcat hfr hrm htb (fun r N' h' z => ?_) (fun E N' h' z => ?_) hs0 hd rfl (fun r N' h' z => ?_)
  · obtain ⟨z, -⟩ := z; cases z
  · obtain ⟨z, rfl, z2⟩ := z; cases z; exact ⟨rfl, kk h' z2⟩
  · obtain ⟨z, -⟩ := z; cases z
theorem g_Sx (hw : CSd md.1.cls ix cd nA) (hM : CT l cd d' 1 6 av NN h (xP E Pm)) (hlen : av.length = nA) (hcat : (st.map Value.category).sum ≤ 8) (hfr : d' + 1 ≤ d ∧ 8 + (cd.2.2.1 + 11) + 37 * d' ≤ 37 * d) (hrm : k + 1 ≤ mc ∧ n + 6 ≤ ms) (htb : md.2.2.2.2 = []) (hs0 : st0 = av.reverse ++ st) (hd : decode md.2.1 pc = .ok (.invokestatic ix, 3)) (kk : ∀ h', Pm h' → post (.inr E) NN h') : G l X md d mc ms post k n pc al st0 NN h := by
  refine g_callS (q := pc + 3) hw hM hlen hcat hfr hrm htb (fun r N' h' z => ?_) (fun E N' h' z => ?_) hs0 hd rfl (fun r N' h' z => ?_)
  · obtain ⟨z, -⟩ := z; cases z
  · obtain ⟨z, rfl, z2⟩ := z; cases z; exact ⟨rfl, kk h' z2⟩
  · obtain ⟨z, -⟩ := z; cases z
end GPost
