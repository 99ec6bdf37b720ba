/-! ===== calls, throws, handlers ===== -/
theorem LT_goodIn {ws : List Cond} (h : ∀ w ∈ ws, w ∈ LT) : GoodIn LT ws := fun w hw => ⟨h w hw, good_of_word (LT_good w (h w hw))⟩
theorem PK_blind {l : Launch} {D : va_G} {tc : Nat → ClassId} {B b : Nat} {N : NB} {h : EHp} {av : List Value} : FrameBlind (va_Pc (av.map (cv B b)) (fun U => PK D tc B b N h U ∧ EV l B U)) := by
  intro a U g mk q
  obtain ⟨q0, ⟨qP, qK, q3, q4⟩, qE⟩ := q
  exact ⟨q0, ⟨qP, va_K.moved (u := U) (U := U.calling g mk a) (Vm.Alike.refl U.vm) qK, q3, q4⟩, EV.warm (U := U.calling g mk a) qE (State.WarmedH.refl U) (fun _ _ _ => rfl)⟩
theorem PK_pre {l : Launch} {D : va_G} {tc : Nat → ClassId} {B b k : Nat} {N : NB} {h : EHp} {s : State} {H : Heap} {locs : List Loc} (hH : HR D tc B b N h s H locs k) (hE : EV l B s) (hsz : N.2 = true → H.size = B + N.1) : ∀ U : State, U.heap = H → s.WarmedH U.vm → PK D tc B b N h U ∧ EV l B U := by
  intro U hU hW
  refine ⟨⟨by rw [hU]; exact hH.2.1, va_K.moved hW.alike hH.1, ?_, by rw [hU]; exact hsz⟩, EV.warm hE hW (fun a h1 h2 => ?_)⟩
  · rw [hU]; exact Nat.le_trans hH.2.2.2.1 hH.2.2.1.1
  · rw [hU]; exact hH.2.2.1.2.1 a h1 h2
/-- what follows a call -/
theorem g_after {p : Program} {l : Launch} {e : Env} {R : Room} {s : State} {m : MethodId} {args : Array Value} {below : List Frame} {meth : Method} {c : Code} {D : va_G} {tc : Nat → ClassId} {B b k n mc' ms' pc : Nat} {N : NB} {h : EHp} {H : Heap} {locs : List Loc} {ls : Array Slot} {st0 rest : List Value} {a : Array Value} {post' : Post} {Q : State → Prop}
    (hH : HR D tc B b N h s H locs k) (hr : vx_Run p l e R s m args below meth c H locs k n mc' ms' (F0 m pc ls st0) rest (QQ D tc B b post' a) (XX D tc B b post') (fun q => B ≤ q))
    (hN : ∀ r N' h', post' (.inl r) N' h' → N'.2 = true → N.2 = true ∧ N'.1 = N.1 + mc') (hNx : ∀ E N' h', post' (.inr E) N' h' → N'.2 = false)
    (kk : ∀ (r : Option Value) (N' : NB) (h' : EHp) (H1 : Heap) (locs1 : List Loc), post' (.inl r) N' h' → HR D tc B b N' h' s H1 locs1 (k + mc') → W p l e R s m args below meth c H1 locs1 (k + mc') (n + ms') Q (F0 m (pc + 3) ls ((r.map (cv B b)).toList ++ rest)))
    (kx : ∀ (E : String) (N' : NB) (h' : EHp) (H1 : Heap) (locs1 : List Loc) (q9 : Addr) (ce : Cell), post' (.inr E) N' h' → HR D tc B b N' h' s H1 locs1 (k + mc') → H1[q9]? = some ce → ce.vm = .none → s.vm.findClass E = some ce.cls → vx_W p l e R s m args below meth c H1 locs1 (k + mc') (n + ms') Q (F0 m pc ls rest) q9) :
    W p l e R s m args below meth c H locs k n Q (F0 m pc ls st0) := by
  intro T hT hX
  rcases hr T hT hX with ⟨v, st₀, t, T', L, h0, X', hL, e1, e2, ⟨⟨r, N', h', hv, hp, hP1, hK1, hB1, hz1⟩, hF⟩, st⟩ | ⟨q, st₀, t, T', L, E, cE, h0, X', hL, e1, e2, ⟨⟨N', h', hp, hP1, hK1, hB1, hz1⟩, hF⟩, hce, hcv, hcl, st⟩
  · cases hv
    obtain ⟨k1, k2, k3⟩ := vx_keep (A0 := fun q => B ≤ q) h0 e1 hH.2.2.1 (fun _ _ z => z) (fun _ z => z) hL hF
    have hA : s.vm.Alike t.vm := by rw [← e2]; exact X'.warmed.alike
    obtain ⟨t2, a1, b1⟩ := kk r N' h' T'.heap (locs ++ L) hp ⟨va_K.moved hA.symm hK1, by rw [e1]; exact hP1, k3, hH.2.2.2.1, fun z => by
      have h1 := hN r N' h' hp z
      have h2 := hH.2.2.2.2 h1.1
      omega⟩ T' rfl X'
    exact ⟨t2, st t2 a1, b1⟩
  · obtain ⟨k1, k2, k3⟩ := vx_keep (A0 := fun q => B ≤ q) h0 e1 hH.2.2.1 (fun _ _ z => z) (fun _ z => z) hL hF
    have hA : s.vm.Alike t.vm := by rw [← e2]; exact X'.warmed.alike
    obtain ⟨t2, a1, b1⟩ := kx E N' h' T'.heap (locs ++ L) q cE hp ⟨va_K.moved hA.symm hK1, by rw [e1]; exact hP1, k3, hH.2.2.2.1, fun z => by rw [hNx E N' h' hp] at z; cases z⟩ (by rw [e1]; exact hce) hcv hcl T' rfl X'
    exact ⟨t2, st.trans a1, b1⟩
/-- an exception goes on to the caller -/
theorem g_outx {p : Program} {l : Launch} {e : Env} {R : Room} {s : State} {m : MethodId} {args : Array Value} {below : List Frame} {meth : Method} {c : Code} {md : MD} {D : va_G} {tc : Nat → ClassId} {B b k n mc ms pc : Nat} {N : NB} {h : EHp} {H : Heap} {locs : List Loc} {ls : Array Slot} {rest : List Value} {post : Post} {Q : State → Prop} {E : String} {q9 : Addr} {ce : Cell}
    (hC : CX p s m args meth c md) (hH : HR D tc B b N h s H locs k) (hQ : Q = vx_MQ below (QQ D tc B b post) (XX D tc B b post) args s mc ms (fun q => B ≤ q) ∨ ∀ E N' h', ¬ post (.inr E) N' h')
    (hp : post (.inr E) N h) (hz : N.2 = false) (hout : ∀ x ∈ tableOf md.2.2.2.2, covers x pc = false) (hc : k ≤ mc) (hs : n ≤ ms) (h1 : H[q9]? = some ce) (h2 : ce.vm = .none) (h3 : s.vm.findClass E = some ce.cls) : vx_W p l e R s m args below meth c H locs k n Q (F0 m pc ls rest) q9 := by
  rcases hQ with rfl | hQ
  · refine vx_out (by rw [hC.2.2.2.2.2.2.2.2]; exact hout) hC.2.2.2.2.2.2.1 h1 h2 h3 (fun t ht hA => ?_) hH.2.2.1.2.2 hc hs
    refine ⟨⟨N, h, hp, by rw [ht]; exact hH.2.1, va_K.moved hA hH.1, ?_, fun z => by rw [hz] at z; cases z⟩, hH.2.2.1.F ht⟩
    rw [ht]; exact Nat.le_trans hH.2.2.2.1 hH.2.2.1.1
  · exact absurd hp (hQ E N h)
def CVd (own : String) (ix ci : Nat) (cd : MD) (nA : Nat) : Prop := (∃ (T : u_T) (NF : Nat), vwCl[ci]? = some (cd.1.cls, T, NF)) ∧ Cond.methodLink own ix cd.1 ∈ LT ∧ Cond.instanceMethod cd.1 ∈ LT ∧ Cond.selects cd.1.cls cd.1 cd.1 ∈ LT ∧ Cond.initialized cd.1.cls ∈ LT ∧ Cond.code cd.1 cd.2.1 cd.2.2.1 cd.2.2.2.1 ∈ LT ∧ cd.2.2.2.2 = [] ∧ (cd.1.cls ≠ "java/lang/invoke/MethodHandle" ∧ cd.1.cls ≠ "java/lang/invoke/VarHandle" ∧ (parseMethodDescriptor cd.1.desc).map (fun d => d.parameters.length) = some nA)
def CSd (own : String) (ix : Nat) (cd : MD) (nA : Nat) : Prop := Cond.methodLink own ix cd.1 ∈ LT ∧ Cond.static cd.1 ∈ LT ∧ Cond.initialized cd.1.cls ∈ LT ∧ Cond.code cd.1 cd.2.1 cd.2.2.1 cd.2.2.2.1 ∈ LT ∧ cd.2.2.2.2 = [] ∧ (cd.1.cls ≠ "java/lang/invoke/MethodHandle" ∧ cd.1.cls ≠ "java/lang/invoke/VarHandle" ∧ (parseMethodDescriptor cd.1.desc).map (fun d => d.parameters.length) = some nA)
def CSw (own : String) (ix : Nat) (cd : MD) (nA : Nat) : Prop := Cond.methodLink own ix cd.1 ∈ LT ∧ Cond.static cd.1 ∈ LT ∧ Cond.initialized cd.1.cls ∈ LT ∧ Cond.codeWith cd.1 cd.2.1 cd.2.2.1 cd.2.2.2.1 cd.2.2.2.2 ∈ LT ∧ cd.2.2.2.2 ≠ [] ∧ (cd.1.cls ≠ "java/lang/invoke/MethodHandle" ∧ cd.1.cls ≠ "java/lang/invoke/VarHandle" ∧ (parseMethodDescriptor cd.1.desc).map (fun d => d.parameters.length) = some nA)
def CId (own : String) (ix : Nat) (cd : MD) (nA : Nat) : Prop := Cond.methodLink own ix cd.1 ∈ LT ∧ Cond.instanceMethod cd.1 ∈ LT ∧ cd.1.name = "<init>" ∧ Cond.initialized cd.1.cls ∈ LT ∧ Cond.code cd.1 cd.2.1 cd.2.2.1 none ∈ LT ∧ cd.2.2.2.1 = none ∧ cd.2.2.2.2 = [] ∧ (cd.1.cls ≠ "java/lang/invoke/MethodHandle" ∧ cd.1.cls ≠ "java/lang/invoke/VarHandle" ∧ (parseMethodDescriptor cd.1.desc).map (fun d => d.parameters.length) = some nA)
def CNd (own : String) (ix : Nat) (cd : MD) (host : String) (nA : Nat) : Prop := (own, ix, cd.1, host) ∈ nwM ∧ Cond.instanceMethod cd.1 ∈ LT ∧ cd.1.name = "<init>" ∧ Cond.initialized cd.1.cls ∈ LT ∧ Cond.code cd.1 cd.2.1 cd.2.2.1 none ∈ LT ∧ cd.2.2.2.1 = none ∧ cd.2.2.2.2 = [] ∧ (cd.1.cls ≠ "java/lang/invoke/MethodHandle" ∧ cd.1.cls ≠ "java/lang/invoke/VarHandle" ∧ (parseMethodDescriptor cd.1.desc).map (fun d => d.parameters.length) = some nA)
theorem wsM_nil {md : MD} (h : md.2.2.2.2 = []) : wsM md = Cond.code md.1 md.2.1 md.2.2.1 md.2.2.2.1 :: LT := by
  unfold wsM
  rw [h]
theorem wsM_cons {md : MD} (h : md.2.2.2.2 ≠ []) : wsM md = Cond.codeWith md.1 md.2.1 md.2.2.1 md.2.2.2.1 md.2.2.2.2 :: LT := by
  unfold wsM
  cases hh : md.2.2.2.2 with
  | nil => exact absurd hh h
  | cons z r => rfl
theorem catsum {B b : Nat} {st : List Value} (hcat : (st.map Value.category).sum ≤ 8) : ((st.map (cv B b)).map fun v => v.category).sum ≤ 8 := by
  rw [List.map_map]
  have : (fun v => v.category) ∘ cv B b = Value.category := by funext v; exact cv_cat B b v
  rw [this]; exact hcat
theorem monroom {m : MethodId} {pc : Nat} {ls : Array Slot} {st0 : List Value} {rest : List Value} (h : (rest.map fun v => v.category).sum ≤ 8) : 2 * (F0 m pc ls st0).monitorRoom + (rest.map fun v => v.category).sum ≤ 8 := lv_room h
section GCall
variable {l : Launch} {X : State → Nat → Nat → Prop} {md : MD} {d mc ms : Nat} {post : Post} {k n pc q : Nat} {al : List (Option Value)} {st st0 : List Value} {N : NB} {h : EHp} {cd : MD} {ix ci nA d' mc' ms' i : Nat} {av : List Value} {fs : List Value} {post' : Post}
/-- a caller without a table: what its callee throws goes on -/
theorem g_callV (hw : CVd md.1.cls ix ci cd nA) (hM : CT l cd d' mc' ms' (.ref i :: av) N h post') (hi : i < N.1) (hh : h i = cO ci fs) (hlen : av.length = nA) (hcat : (st.map Value.category).sum ≤ 8) (hfr : d' + 1 ≤ d ∧ 8 + (cd.2.2.1 + 11) + 37 * d' ≤ 37 * d) (hrm : k + mc' ≤ mc ∧ n + ms' ≤ ms) (htb : md.2.2.2.2 = [])
    (hN : ∀ r N' h', post' (.inl r) N' h' → N'.2 = true → N.2 = true ∧ N'.1 = N.1 + mc') (hNx : ∀ E N' h', post' (.inr E) N' h' → N'.2 = false ∧ post (.inr E) N' h') (hs0 : st0 = av.reverse ++ .ref i :: st) (hd : decode md.2.1 pc = .ok (.invokevirtual ix, 3)) (hq : pc + 3 = q)
    (kk : ∀ r N' h', post' (.inl r) N' h' → G l X md d mc ms post (k + mc') (n + ms') q al (r.toList ++ st) N' h') : G l X md d mc ms post k n pc al st0 N h := by
  subst hq hs0
  intro p e s m args below meth c D tc B b H locs ls Q hC hE hX hH hL hK hQ T hT hS
  have hsz := fun z => hH.tight hT hS.heapSize z
  obtain ⟨⟨TT, NF, hcl⟩, w1, w2, w3, w4, w5, w6, w7⟩ := hw
  have hts := hC.2.2.2.2.2.1
  have he := wl_at (tc := tc) (B := B) (b := b) (h := h) hi
  rw [hh] at he
  refine g_after hH (vx_runV (Ts := LT) (cc := md.2.1) (nL := md.2.2.1) (own := md.1.cls) (As := av.map (cv B b)) (rest := st.map (cv B b)) (b := B + i) ⟨hC.1, hC.2.1, hC.2.2.1, hC.2.2.2.2.1, hts⟩ (hM D tc B b) (cwV (C := cd.1.cls) (index := ix) nA hts (LT_goodIn (by rw [wsM_nil w6]; intro w hw; simp only [wsV, List.cons_append, List.nil_append, List.mem_cons] at hw; rcases hw with rfl | rfl | rfl | rfl | rfl | hw <;> assumption)) (wsM_nil w6) rfl rfl ⟨rfl, w7⟩ hfr) ⟨PK_blind, va_recv hH.1 hH.2.1 hcl he, fun U hU hW => ⟨rfl, PK_pre hH hE hsz U hU hW⟩⟩ rfl (by simpa using hlen) hL.1 (by simp [cv]) (monroom (catsum hcat)) hd hrm) hN (fun E N' h' z => (hNx E N' h' z).1) (fun r N' h' H1 locs1 hp hH1 => ?_) (fun E N' h' H1 locs1 q9 ce hp hH1 g1 g2 g3 => ?_) T hT hS
  · have := kk r N' h' hp p e s m args below meth c D tc B b H1 locs1 ls Q hC hE hX hH1 hL hK hQ
    cases r <;> exact this
  · exact g_outx hC hH1 hQ (hNx E N' h' hp).2 (hNx E N' h' hp).1 (by rw [htb]; intro x hx; cases hx) hrm.1 hrm.2 g1 g2 g3
theorem g_callS (hw : CSd md.1.cls ix cd nA) (hM : CT l cd d' mc' ms' av N h post') (hlen : av.length = nA) (hcat : (st.map Value.category).sum ≤ 8) (hfr : d' + 1 ≤ d ∧ 8 + (cd.2.2.1 + 11) + 37 * d' ≤ 37 * d) (hrm : k + mc' ≤ mc ∧ n + ms' ≤ ms) (htb : md.2.2.2.2 = [])
    (hN : ∀ r N' h', post' (.inl r) N' h' → N'.2 = true → N.2 = true ∧ N'.1 = N.1 + mc') (hNx : ∀ E N' h', post' (.inr E) N' h' → N'.2 = false ∧ post (.inr E) N' h') (hs0 : st0 = av.reverse ++ st) (hd : decode md.2.1 pc = .ok (.invokestatic ix, 3)) (hq : pc + 3 = q)
    (kk : ∀ r N' h', post' (.inl r) N' h' → G l X md d mc ms post (k + mc') (n + ms') q al (r.toList ++ st) N' h') : G l X md d mc ms post k n pc al st0 N h := by
  subst hq hs0
  intro p e s m args below meth c D tc B b H locs ls Q hC hE hX hH hL hK hQ T hT hS
  have hsz := fun z => hH.tight hT hS.heapSize z
  obtain ⟨w1, w2, w4, w5, w6, w7⟩ := hw
  have hts := hC.2.2.2.2.2.1
  refine g_after hH (vx_runS (Ts := LT) (cc := md.2.1) (nL := md.2.2.1) (own := md.1.cls) (As := av.map (cv B b)) (rest := st.map (cv B b)) ⟨hC.1, hC.2.1, hC.2.2.1, hC.2.2.2.2.1, hts⟩ (hM D tc B b) (va_cwS (index := ix) nA hts (LT_goodIn (by rw [wsM_nil w6]; intro w hw; simp only [va_wsS, List.cons_append, List.nil_append, List.mem_cons] at hw; rcases hw with rfl | rfl | rfl | rfl | hw <;> assumption)) (wsM_nil w6) rfl rfl w7 hfr) ⟨PK_blind, fun U hU hW => ⟨rfl, PK_pre hH hE hsz U hU hW⟩⟩ rfl (by simpa using hlen) hL.1 (by simp) (monroom (catsum hcat)) hd hrm) hN (fun E N' h' z => (hNx E N' h' z).1) (fun r N' h' H1 locs1 hp hH1 => ?_) (fun E N' h' H1 locs1 q9 ce hp hH1 g1 g2 g3 => ?_) T hT hS
  · have := kk r N' h' hp p e s m args below meth c D tc B b H1 locs1 ls Q hC hE hX hH1 hL hK hQ
    cases r <;> exact this
  · exact g_outx hC hH1 hQ (hNx E N' h' hp).2 (hNx E N' h' hp).1 (by rw [htb]; intro x hx; cases hx) hrm.1 hrm.2 g1 g2 g3
theorem g_callSw (hw : CSw md.1.cls ix cd nA) (hM : CT l cd d' mc' ms' av N h post') (hlen : av.length = nA) (hcat : (st.map Value.category).sum ≤ 8) (hfr : d' + 1 ≤ d ∧ 8 + (cd.2.2.1 + 11) + 37 * d' ≤ 37 * d) (hrm : k + mc' ≤ mc ∧ n + ms' ≤ ms) (htb : md.2.2.2.2 = [])
    (hN : ∀ r N' h', post' (.inl r) N' h' → N'.2 = true → N.2 = true ∧ N'.1 = N.1 + mc') (hNx : ∀ E N' h', post' (.inr E) N' h' → N'.2 = false ∧ post (.inr E) N' h') (hs0 : st0 = av.reverse ++ st) (hd : decode md.2.1 pc = .ok (.invokestatic ix, 3)) (hq : pc + 3 = q)
    (kk : ∀ r N' h', post' (.inl r) N' h' → G l X md d mc ms post (k + mc') (n + ms') q al (r.toList ++ st) N' h') : G l X md d mc ms post k n pc al st0 N h := by
  subst hq hs0
  intro p e s m args below meth c D tc B b H locs ls Q hC hE hX hH hL hK hQ T hT hS
  have hsz := fun z => hH.tight hT hS.heapSize z
  obtain ⟨w1, w2, w4, w5, w6, w7⟩ := hw
  have hts := hC.2.2.2.2.2.1
  refine g_after hH (vx_runSX (Ts := LT) (cc := md.2.1) (nL := md.2.2.1) (own := md.1.cls) (As := av.map (cv B b)) (rest := st.map (cv B b)) ⟨hC.1, hC.2.1, hC.2.2.1, hC.2.2.2.2.1, hts⟩ (hM D tc B b) (vx_cwSW (index := ix) nA hts (LT_goodIn (by rw [wsM_cons w6]; intro w hw; simp only [va_wsS, List.cons_append, List.nil_append, List.mem_cons] at hw; rcases hw with rfl | rfl | rfl | rfl | hw <;> assumption)) (wsM_cons w6) rfl rfl w7 hfr) ⟨PK_blind, fun U hU hW => ⟨rfl, PK_pre hH hE hsz U hU hW⟩⟩ rfl (by simpa using hlen) hL.1 (by simp) (monroom (catsum hcat)) hd hrm) hN (fun E N' h' z => (hNx E N' h' z).1) (fun r N' h' H1 locs1 hp hH1 => ?_) (fun E N' h' H1 locs1 q9 ce hp hH1 g1 g2 g3 => ?_) T hT hS
  · have := kk r N' h' hp p e s m args below meth c D tc B b H1 locs1 ls Q hC hE hX hH1 hL hK hQ
    cases r <;> exact this
  · exact g_outx hC hH1 hQ (hNx E N' h' hp).2 (hNx E N' h' hp).1 (by rw [htb]; intro x hx; cases hx) hrm.1 hrm.2 g1 g2 g3
/-- a caller with a table: what its callee throws is caught by the row (sp, ep, hp, ct), the rows ahead don't take it; the handler stores it at once into the local j -/
theorem g_callVH {sp ep hp0 ct j q2 : Nat} {pre suf : List (Nat × Nat × Nat × Nat)} {Eh : String} (hw : CVd md.1.cls ix ci cd nA) (hM : CT l cd d' mc' ms' (.ref i :: av) N h post') (hi : i < N.1) (hh : h i = cO ci fs) (hlen : av.length = nA) (hcat : (st.map Value.category).sum ≤ 8) (hfr : d' + 1 ≤ d ∧ 8 + (cd.2.2.1 + 11) + 37 * d' ≤ 37 * d) (hrm : k + mc' ≤ mc ∧ n + ms' ≤ ms)
    (hN : ∀ r N' h', post' (.inl r) N' h' → N'.2 = true → N.2 = true ∧ N'.1 = N.1 + mc') (hNx : ∀ E N' h', post' (.inr E) N' h' → N'.2 = false ∧ E = Eh) (hs0 : st0 = av.reverse ++ .ref i :: st) (hd : decode md.2.1 pc = .ok (.invokevirtual ix, 3)) (hq : pc + 3 = q)
    (htb : md.2.2.2.2 = pre ++ (sp, ep, hp0, ct) :: suf) (hpre : ∀ z ∈ pre, z.2.2.2 ≠ 0 ∧ ∃ nm : String, Cond.classLink md.1.cls z.2.2.2 nm ∈ LT ∧ (Eh, nm) ∈ ncL) (hcov : sp ≤ pc ∧ pc < ep) (hct : ct ≠ 0) (hlk : Cond.classLink md.1.cls ct Eh ∈ LT) (hcs : (Eh, Eh) ∈ nwC)
    (hd2 : (∃ jj : Fin 4, (jj : Nat) = j ∧ decode md.2.1 hp0 = .ok (.astore_n jj, 1) ∧ hp0 + 1 = q2) ∨ (decode md.2.1 hp0 = .ok (.astore j, 2) ∧ hp0 + 2 = q2)) (hj : j < md.2.2.1) (hok : okS al j = true)
    (kk : ∀ r N' h', post' (.inl r) N' h' → G l X md d mc ms post (k + mc') (n + ms') q al (r.toList ++ st) N' h') (kx : ∀ N' h', post' (.inr Eh) N' h' → G l X md d mc ms post (k + mc') (n + ms') q2 (al.set j none) [] N' h') : G l X md d mc ms post k n pc al st0 N h := by
  subst hq hs0
  intro p e s m args below meth c D tc B b H locs ls Q hC hE hX hH hL hK hQ T hT hS
  have hsz := fun z => hH.tight hT hS.heapSize z
  obtain ⟨⟨TT, NF, hcl⟩, w1, w2, w3, w4, w5, w6, w7⟩ := hw
  have hts := hC.2.2.2.2.2.1
  have he := wl_at (tc := tc) (B := B) (b := b) (h := h) hi
  rw [hh] at he
  refine g_after hH (vx_runV (Ts := LT) (cc := md.2.1) (nL := md.2.2.1) (own := md.1.cls) (As := av.map (cv B b)) (rest := st.map (cv B b)) (b := B + i) ⟨hC.1, hC.2.1, hC.2.2.1, hC.2.2.2.2.1, hts⟩ (hM D tc B b) (cwV (C := cd.1.cls) (index := ix) nA hts (LT_goodIn (by rw [wsM_nil w6]; intro w hw; simp only [wsV, List.cons_append, List.nil_append, List.mem_cons] at hw; rcases hw with rfl | rfl | rfl | rfl | rfl | hw <;> assumption)) (wsM_nil w6) rfl rfl ⟨rfl, w7⟩ hfr) ⟨PK_blind, va_recv hH.1 hH.2.1 hcl he, fun U hU hW => ⟨rfl, PK_pre hH hE hsz U hU hW⟩⟩ rfl (by simpa using hlen) hL.1 (by simp [cv]) (monroom (catsum hcat)) hd hrm) hN (fun E N' h' z => (hNx E N' h' z).1) (fun r N' h' H1 locs1 hp hH1 => ?_) (fun E N' h' H1 locs1 q9 ce hp hH1 g1 g2 g3 => ?_) T hT hS
  · have := kk r N' h' hp p e s m args below meth c D tc B b H1 locs1 ls Q hC hE hX hH1 hL hK hQ
    cases r <;> exact this
  · obtain ⟨-, rfl⟩ := hNx E N' h' hp
    refine vx_catch hC.2.2.2.2.1 (tableOf pre) ⟨sp, ep, hp0, ct⟩ (tableOf suf) (by rw [hC.2.2.2.2.2.2.2.2, htb]; simp [tableOf]) (fun z hz => ?_) (by simp [covers, hcov]) hct (hts _ hlk) (va_Nw.use rfl (hE.2.2.2.2.1 _ hcs)) g1 g2 g3 ?_
    · obtain ⟨z0, hz0, rfl⟩ := List.mem_map.mp hz
      obtain ⟨h1, nm, h2, h3⟩ := hpre z0 hz0
      exact Or.inr ⟨h1, nm, hts _ h2, hE.2.2.2.2.2.2.1 _ h3⟩
    · rcases hd2 with ⟨jj, hjj, hd2, rfl⟩ | ⟨hd2, rfl⟩
      · exact lv_astore_n hC.1 hC.2.1 hd2 hjj hL.has hj rfl (fun ls' hl' => kx N' h' hp p e s m args below meth c D tc B b H1 locs1 ls' Q hC hE hX hH1 (LR.put0 hok hl') hK hQ)
      · exact lv_astore hC.1 hC.2.1 hd2 hL.has hj rfl (fun ls' hl' => kx N' h' hp p e s m args below meth c D tc B b H1 locs1 ls' Q hC hE hX hH1 (LR.put0 hok hl') hK hQ)
/-- what 'throw new E("text")' in the class MonotonePostings wants of the tables -/
def THd (ik is ic : Nat) (E text : String) : Prop := Bundle.fit E = true ∧ Cond.classLink RX7 ik E ∈ LT ∧ Cond.initialized E ∈ LT ∧ (is, text) ∈ strL ∧ (E, E) ∈ nwC ∧ (∀ w ∈ (vx_atS RX7 ic E ["java/lang/RuntimeException", "java/lang/Exception"]).filter goodWord, w ∈ LT) ∧ (∀ w ∈ (vx_atS RX7 ic E ["java/lang/RuntimeException", "java/lang/Exception"]).filter (fun w => !goodWord w), w ∈ Cond.castable E E :: nwD.map Cond.declares) ∧ (∀ w ∈ Cond.classLink RX7 ik E :: Cond.initialized E :: vx_atS RX7 ic E ["java/lang/RuntimeException", "java/lang/Exception"], vx_ot w = true)
theorem g_throw {ik is ic : Nat} {E text : String} (ht : THd ik is ic E text) (hm : md.1.cls = RX7) (htb : md.2.2.2.2 = []) (hz : N.2 = false) (hp : post (.inr E) N h) (hcat : (st.map Value.category).sum ≤ 8) (hd5 : 6 ≤ d) (hk : k + 1 ≤ mc) (hn : n + 6 ≤ ms)
    (d0 : decode md.2.1 pc = .ok (.new ik, 3)) (d3 : decode md.2.1 (pc + 3) = .ok (.dup, 1)) (d4 : decode md.2.1 (pc + 4) = .ok (.ldc is, 2)) (d6 : decode md.2.1 (pc + 6) = .ok (.invokespecial ic, 3)) (d9 : decode md.2.1 (pc + 9) = .ok (.athrow, 1)) : G l X md d mc ms post k n pc al st N h := by
  intro p e s m args below meth c D tc B b H locs ls Q hC hE hX hH hL hK hQ
  obtain ⟨t1, t2, t3, t4, t5, t6, t7, t8⟩ := ht
  have hts := hC.2.2.2.2.2.1
  obtain ⟨sa, hsa⟩ := hE.2.2.2.1 _ t4
  rcases hQ with rfl | hQ
  · have hc8 := catsum (B := B) (b := b) hcat
    refine vx_throwS (own := RX7) (names := ["java/lang/RuntimeException", "java/lang/Exception"]) (sa := sa) (A := fun q => B ≤ q) hC.1 hC.2.1 hE.1 (by rw [← hm]; exact hC.2.2.2.2.1) t1 (by decide +kernel) (hts _ t2) (hts _ t3) hsa
      (vx_hat (fun w hw => hts _ (t6 w hw)) t7 (vx_c (va_Nw.use rfl (hE.2.2.2.2.1 _ t5)) (fun w hw => by obtain ⟨y, hy, rfl⟩ := List.mem_map.mp hw; exact va_Nw.use rfl (hE.2.2.2.2.2.2.2.2.2 y hy)))) t8 hE.2.1 hE.2.2.1 hH.2.2.1 (hL.1.trans hC.2.2.1.symm) d0 d3 d4 d6 d9
      (by rw [hC.2.2.2.2.2.2.2.2, htb]; intro x hx; cases hx) (by show 2 + 3 < d; omega) (by show _ + (13 * 3 + 43) ≤ 37 * d; omega) hk hn hC.2.2.2.2.2.2.1 (fun t hA hs1 hs2 => ?_) hH.2.2.1.2.2 hk hn
    have hkp : ∀ (j : Nat) (x : Nat × va_E), (wl tc B b N.1 h)[j]? = some x → t.heap[x.1]? = H[x.1]? := fun j x hx => hs2 x.1 ((hH.2.1 j x hx).lt)
    refine ⟨⟨N, h, hp, hH.2.1.kept hkp, va_K.moved hA hH.1, ?_, fun z => by rw [hz] at z; cases z⟩, Nat.le_trans hH.2.2.1.1 hs1, fun q9 h1 h2 => ?_⟩
    · exact Nat.le_trans hH.2.2.2.1 (Nat.le_trans hH.2.2.1.1 hs1)
    · rw [hs2 q9 (Nat.lt_of_lt_of_le h1 hH.2.2.1.1)]
      exact hH.2.2.1.2.1 q9 h1 h2
  · exact absurd hp (hQ E N h)
end GCall
