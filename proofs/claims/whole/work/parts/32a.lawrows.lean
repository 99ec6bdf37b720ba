/-! ===== rows for the law: callers with a table, callees with one ===== -/
section GLaw
variable {l : Launch} {X : State → Nat → Nat → Prop} {md : MD} {d mc ms : Nat} {post : Post} {k n pc q : Nat} {al : List (Option Value)} {st st0 : List Value} {N : NB} {h : EHp} {cd : MD} {ix ci nA d' mc' ms' i : Nat} {av : List Value} {fs : List Value} {post' : Post} {Pv : Value → EHp → Prop} {Pm : EHp → Prop}
/-- a callee that throws nothing, whatever the caller's table -/
theorem g_callV0 (hw : CVd md.1.cls ix ci cd nA) (hM : CT l cd d' mc' ms' (.ref i :: av) N h post') (hi : i < N.1) (hh : h i = cO ci fs) (hlen : av.length = nA) (hcat : (st.map Value.category).sum ≤ 8) (hfr : d' + 1 ≤ d ∧ 8 + (cd.2.2.1 + 11) + 37 * d' ≤ 37 * d) (hrm : k + mc' ≤ mc ∧ n + ms' ≤ ms)
    (hN : ∀ r N' h', post' (.inl r) N' h' → N'.2 = true → N.2 = true ∧ N'.1 = N.1 + mc') (hNx : ∀ E N' h', ¬ post' (.inr E) N' h') (hs0 : st0 = av.reverse ++ .ref i :: st) (hd : decode md.2.1 pc = .ok (.invokevirtual ix, 3)) (hq : pc + 3 = q)
    (kk : ∀ r N' h', post' (.inl r) N' h' → G l X md d mc ms post (k + mc') (n + ms') q al (r.toList ++ st) N' h') : G l X md d mc ms post k n pc al st0 N h := by
  subst hq hs0
  intro p e s m args below meth c D tc B b H locs ls Q hC hE hX hH hL hK hQ T hT hS
  have hsz := fun z => hH.tight hT hS.heapSize z
  obtain ⟨⟨TT, NF, hcl⟩, w1, w2, w3, w4, w5, w6, w7⟩ := hw
  have hts := hC.2.2.2.2.2.1
  have he := wl_at (tc := tc) (B := B) (b := b) (h := h) hi
  rw [hh] at he
  refine g_after hH (vx_runV (Ts := LT) (cc := md.2.1) (nL := md.2.2.1) (own := md.1.cls) (As := av.map (cv B b)) (rest := st.map (cv B b)) (b := B + i) ⟨hC.1, hC.2.1, hC.2.2.1, hC.2.2.2.2.1, hts⟩ (hM D tc B b) (cwV (C := cd.1.cls) (index := ix) nA hts (LT_goodIn (by rw [wsM_nil w6]; intro w hw; simp only [wsV, List.cons_append, List.nil_append, List.mem_cons] at hw; rcases hw with rfl | rfl | rfl | rfl | rfl | hw <;> assumption)) (wsM_nil w6) rfl rfl ⟨rfl, w7⟩ hfr) ⟨PK_blind, va_recv hH.1 hH.2.1 hcl he, fun U hU hW => ⟨rfl, PK_pre hH hE hsz U hU hW⟩⟩ rfl (by simpa using hlen) hL.1 (by simp [cv]) (monroom (catsum hcat)) hd hrm) hN (fun E N' h' z => absurd z (hNx E N' h')) (fun r N' h' H1 locs1 hp hH1 => ?_) (fun E N' h' H1 locs1 q9 ce hp hH1 g1 g2 g3 => absurd hp (hNx E N' h')) T hT hS
  have := kk r N' h' hp p e s m args below meth c D tc B b H1 locs1 ls Q hC hE hX hH1 hL hK hQ
  cases r <;> exact this
theorem g_HVw (hw : CVd md.1.cls ix ci cd nA) (hM : CT l cd d' 0 0 (.ref i :: av) NN h (wP Pv)) (hi : i < 103) (hh : h i = cO ci fs) (hlen : av.length = nA) (hcat : (st.map Value.category).sum ≤ 8) (hfr : d' + 1 ≤ d ∧ 8 + (cd.2.2.1 + 11) + 37 * d' ≤ 37 * d) (hrm : k ≤ mc ∧ n ≤ ms) (hs0 : st0 = av.reverse ++ .ref i :: st) (hd : decode md.2.1 pc = .ok (.invokevirtual ix, 3)) (hq : pc + 3 = q) (kk : ∀ v h', Pv v h' → G l X md d mc ms post k n q al (v :: st) NN h') : G l X md d mc ms post k n pc al st0 NN h := by
  refine g_callV0 hw hM hi hh hlen hcat hfr hrm (fun r N' h' z => ?_) (fun E N' h' z => ?_) hs0 hd hq (fun r N' h' z => ?_)
  · obtain ⟨v, -, rfl, -⟩ := z; exact NN_f
  · obtain ⟨v, z, -⟩ := z; cases z
  · obtain ⟨v, z, rfl, z2⟩ := z; cases z; exact kk v h' z2
theorem g_HVx {sp ep hp0 ct j q2 : Nat} {pre suf : List (Nat × Nat × Nat × Nat)} {Eh : String} (hw : CVd md.1.cls ix ci cd nA) (hM : CT l cd d' 1 6 (.ref i :: av) NN h (xP Eh Pm)) (hi : i < 103) (hh : h i = cO ci fs) (hlen : av.length = nA) (hcat : (st.map Value.category).sum ≤ 8) (hfr : d' + 1 ≤ d ∧ 8 + (cd.2.2.1 + 11) + 37 * d' ≤ 37 * d) (hrm : k + 1 ≤ mc ∧ n + 6 ≤ ms)
    (hs0 : st0 = av.reverse ++ .ref i :: st) (hd : decode md.2.1 pc = .ok (.invokevirtual ix, 3))
    (htb : md.2.2.2.2 = pre ++ (sp, ep, hp0, ct) :: suf) (hpre : ∀ z ∈ pre, z.2.2.2 ≠ 0 ∧ ∃ nm : String, Cond.classLink md.1.cls z.2.2.2 nm ∈ LT ∧ (Eh, nm) ∈ ncL) (hcov : sp ≤ pc ∧ pc < ep) (hct : ct ≠ 0) (hlk : Cond.classLink md.1.cls ct Eh ∈ LT) (hcs : (Eh, Eh) ∈ nwC)
    (hd2 : (∃ jj : Fin 4, (jj : Nat) = j ∧ decode md.2.1 hp0 = .ok (.astore_n jj, 1) ∧ hp0 + 1 = q2) ∨ (decode md.2.1 hp0 = .ok (.astore j, 2) ∧ hp0 + 2 = q2)) (hj : j < md.2.2.1) (hok : okS al j = true)
    (kx : ∀ h', Pm h' → G l X md d mc ms post (k + 1) (n + 6) q2 (al.set j none) [] NN h') : G l X md d mc ms post k n pc al st0 NN h := by
  refine g_callVH (q := pc + 3) hw hM hi hh hlen hcat hfr hrm (fun r N' h' z => ?_) (fun E N' h' z => ?_) hs0 hd rfl htb hpre hcov hct hlk hcs hd2 hj hok (fun r N' h' z => ?_) (fun N' h' z => ?_)
  · obtain ⟨z, -⟩ := z; cases z
  · obtain ⟨z, rfl, -⟩ := z; cases z; exact ⟨rfl, rfl⟩
  · obtain ⟨z, -⟩ := z; cases z
  · obtain ⟨-, rfl, z⟩ := z; exact kx h' z
theorem g_Sww (hw : CSw md.1.cls ix cd nA) (hM : CT l cd d' 1 6 av NN h (wP Pv)) (hlen : av.length = nA) (hcat : (st.map Value.category).sum ≤ 8) (hfr : d' + 1 ≤ d ∧ 8 + (cd.2.2.1 + 11) + 37 * d' ≤ 37 * d) (hrm : k + 1 ≤ mc ∧ n + 6 ≤ ms) (htb : md.2.2.2.2 = []) (hs0 : st0 = av.reverse ++ st) (hd : decode md.2.1 pc = .ok (.invokestatic ix, 3)) (hq : pc + 3 = q) (kk : ∀ v h', Pv v h' → G l X md d mc ms post (k + 1) (n + 6) q al (v :: st) NN h') : G l X md d mc ms post k n pc al st0 NN h := by
  refine g_callSw hw hM hlen hcat hfr hrm htb (fun r N' h' z => ?_) (fun E N' h' z => ?_) hs0 hd hq (fun r N' h' z => ?_)
  · obtain ⟨v, -, rfl, -⟩ := z; exact NN_f
  · obtain ⟨v, z, -⟩ := z; cases z
  · obtain ⟨v, z, rfl, z2⟩ := z; cases z; exact kk v h' z2
theorem g_wide {k' n' : Nat} (hk : k ≤ k') (hn : n ≤ n') (kk : G l X md d mc ms post k' n' pc al st NN h) : G l X md d mc ms post k n pc al st NN h := by
  intro p e s m args below meth c D tc B b H locs ls Q hC hE hX hH hL hK hQ
  exact W.widen hk hn (kk p e s m args below meth c D tc B b H locs ls Q hC hE hX ⟨hH.1, hH.2.1, hH.2.2.1, hH.2.2.2.1, fun z => by cases z⟩ hL hK hQ)
end GLaw
/-- what a wrapper of the law leaves: the code, the class's state, the answer in 'out' -/
def WQ (h : EHp) (S : ASt) (sv : List ASt) (kd v0 : Int) : Post := wP (fun v h' => v = .int (iI kd) ∧ CRep h' S sv ∧ (∃ f, h' 101 = cJ 1 f ∧ (kd = 0 → f 0 = (iI v0).toInt64)) ∧ ∀ j, 89 < j → j ≠ 101 → h' j = h j)
def WQd (h : EHp) (S : ASt) (sv : List ASt) (kd : Int) (v0 : UInt64) : Post := wP (fun v h' => v = .int (iI kd) ∧ CRep h' S sv ∧ (∃ f, h' 102 = cD 1 f ∧ (kd = 0 → f 0 = v0)) ∧ ∀ j, 89 < j → j ≠ 102 → h' j = h j)
/-- what a method of the reference leaves -/
def MQi (h : EHp) (S : ASt) (sv : List ASt) (kd v0 : Int) : Post := wP (fun v h' => (∃ z, v = .int (iI z) ∧ (kd = 0 → z = v0)) ∧ MRep h' kd S sv ∧ FrM h h')
def MQd (h : EHp) (S : ASt) (sv : List ASt) (kd : Int) (v0 : UInt64) : Post := wP (fun v h' => (∃ z, v = .double z ∧ (kd = 0 → z = v0)) ∧ MRep h' kd S sv ∧ FrM h h')
/-- what a method of the class leaves -/
def CQ (h : EHp) (S : ASt) (sv : List ASt) (v0 : Int) : Post := wP (fun v h' => v = .int (iI v0) ∧ CRep h' S sv ∧ FrC h h')
def CQd (h : EHp) (S : ASt) (sv : List ASt) (v0 : UInt64) : Post := wP (fun v h' => v = .double v0 ∧ CRep h' S sv ∧ FrC h h')
def CX9 (h : EHp) (S : ASt) (sv : List ASt) (E : String) : Post := xP E (fun h' => CRep h' S sv ∧ FrC h h')
theorem CT.rC {l : Launch} {md : MD} {d : Nat} {av : List Value} {h : EHp} {v0 : Int} {S : ASt} {sv : List ASt} (hC : CRep h S sv) (hM : CT l md d 0 0 av NN h (rP (.int (iI v0)) h)) : CT l md d 0 0 av NN h (CQ h S sv v0) :=
  hM.mono (fun o N' h' z => by obtain ⟨rfl, rfl, rfl⟩ := z; exact wP_in ⟨rfl, hC, fun _ _ => rfl⟩)
theorem CT.rCd {l : Launch} {md : MD} {d : Nat} {av : List Value} {h : EHp} {v0 : UInt64} {S : ASt} {sv : List ASt} (hC : CRep h S sv) (hM : CT l md d 0 0 av NN h (rP (.double v0) h)) : CT l md d 0 0 av NN h (CQd h S sv v0) :=
  hM.mono (fun o N' h' z => by obtain ⟨rfl, rfl, rfl⟩ := z; exact wP_in ⟨rfl, hC, fun _ _ => rfl⟩)
theorem CT.xC {l : Launch} {md : MD} {d : Nat} {av : List Value} {h : EHp} {E : String} {S : ASt} {sv : List ASt} (hC : CRep h S sv) (hM : CT l md d 1 6 av NN h (xP E (fun h' => h' = h))) : CT l md d 1 6 av NN h (CX9 h S sv E) :=
  hM.mono (fun o N' h' z => by obtain ⟨rfl, rfl, rfl⟩ := z; exact xP_in ⟨hC, fun _ _ => rfl⟩)
theorem CT.mOk {l : Launch} {md : MD} {d : Nat} {av : List Value} {h : EHp} {v0 : Int} {S : ASt} {sv : List ASt} (hM : CT l md d 0 0 av NN h (wP (fun v h' => v = .int (iI v0) ∧ MRep h' 0 S sv ∧ FrM h h'))) : CT l md d 0 0 av NN h (MQi h S sv 0 v0) :=
  hM.mono (fun o N' h' z => by obtain ⟨v, rfl, rfl, z1, z2⟩ := z; exact wP_in ⟨⟨v0, z1, fun _ => rfl⟩, z2⟩)
theorem CT.mFl {l : Launch} {md : MD} {d : Nat} {av : List Value} {h : EHp} {kd : Int} {S : ASt} {sv : List ASt} (hk : kd ≠ 0) (hM : CT l md d 0 0 av NN h (wP (fun v h' => v = .int (iI 0) ∧ MRep h' kd S sv ∧ FrM h h'))) : CT l md d 0 0 av NN h (MQi h S sv kd 0) :=
  hM.mono (fun o N' h' z => by obtain ⟨v, rfl, rfl, z1, z2⟩ := z; exact wP_in ⟨⟨0, z1, fun z => absurd z hk⟩, z2⟩)
theorem CT.mOd {l : Launch} {md : MD} {d : Nat} {av : List Value} {h : EHp} {v0 : UInt64} {S : ASt} {sv : List ASt} (hM : CT l md d 0 0 av NN h (wP (fun v h' => v = .double v0 ∧ MRep h' 0 S sv ∧ FrM h h'))) : CT l md d 0 0 av NN h (MQd h S sv 0 v0) :=
  hM.mono (fun o N' h' z => by obtain ⟨v, rfl, rfl, z1, z2⟩ := z; exact wP_in ⟨⟨v0, z1, fun _ => rfl⟩, z2⟩)
theorem CT.mFd {l : Launch} {md : MD} {d : Nat} {av : List Value} {h : EHp} {kd : Int} {v1 : UInt64} {S : ASt} {sv : List ASt} (hk : kd ≠ 0) (hM : CT l md d 0 0 av NN h (wP (fun v h' => v = .double v1 ∧ MRep h' kd S sv ∧ FrM h h'))) : CT l md d 0 0 av NN h (MQd h S sv kd 0) :=
  hM.mono (fun o N' h' z => by obtain ⟨v, rfl, rfl, z1, z2⟩ := z; exact wP_in ⟨⟨v1, z1, fun z => absurd z hk⟩, z2⟩)
/-- the class's part lies below, the reference's above -/
theorem CRep.cells {h h' : EHp} {S : ASt} {sv : List ASt} (hC : CRep h S sv) (fr : ∀ j, j < 90 → h' j = h j) : CRep h' S sv := by
  have hS := crep_SA hC
  obtain ⟨g0, -, -, -, -, ⟨nx, g5⟩, ⟨Ws, Es, g6, g7, g8⟩, ⟨len, bs, g9, g10, g11⟩, ⟨od, g12⟩, ⟨rs, g13⟩⟩ := hC
  obtain ⟨k1, k2, k3, k4, k5⟩ := hS.moved (h' := h') (fun j a b => fr j (by omega))
  refine ⟨(fr 0 (by omega)).trans g0, k1, k2, k4, fun i hi _ => ?_, ⟨nx, g5.moved (fun j a b => fr j (by omega))⟩, ⟨Ws, Es, (fr _ (by omega)).trans g6, (fr _ (by omega)).trans g7, (fr _ (by omega)).trans g8⟩, ⟨len, bs, (fr _ (by omega)).trans g9, (fr _ (by omega)).trans g10, g11⟩, ⟨od, (fr _ (by omega)).trans g12⟩, ⟨rs, (fr _ (by omega)).trans g13⟩⟩
  have := k5 i hi
  rw [show 1 + 4 + 3 * i = 5 + 3 * i by omega] at this
  exact this
theorem MRep.cells {h h' : EHp} {th : Int} {S : ASt} {sv : List ASt} (hM : MRep h th S sv) (fr : ∀ j, 89 < j → j < 101 → h' j = h j) : MRep h' th S sv := by
  obtain ⟨w, pst, bg, mn, lz, hA, ⟨m1, m2, m3, m4, m5⟩, ⟨⟨cs, s1⟩, ⟨ct, s2⟩, ⟨nx, s3⟩, ⟨fd, s4⟩, ⟨od, s5⟩⟩, hW, hP, hY⟩ := hM
  have f : ∀ j, 89 < j → j < 101 → h' j = h j := fr
  exact ⟨w, pst, bg, mn, lz, (f 90 (by decide) (by decide)).trans hA, ⟨(f 91 (by decide) (by decide)).trans m1, (f 92 (by decide) (by decide)).trans m2, (f 93 (by decide) (by decide)).trans m3, (f 94 (by decide) (by decide)).trans m4, (f 95 (by decide) (by decide)).trans m5⟩, ⟨⟨cs, (f 96 (by decide) (by decide)).trans s1⟩, ⟨ct, (f 97 (by decide) (by decide)).trans s2⟩, ⟨nx, (f 98 (by decide) (by decide)).trans s3⟩, ⟨fd, (f 99 (by decide) (by decide)).trans s4⟩, ⟨od, (f 100 (by decide) (by decide)).trans s5⟩⟩, hW, hP, hY⟩
/-- what holds between the calls of the law -/
def LWo (h : EHp) (S : ASt) (sv : List ASt) : Prop := CRep h S sv ∧ (∃ th, MRep h th S sv) ∧ (∃ f, h 101 = cJ 1 f) ∧ ∃ g, h 102 = cD 1 g
