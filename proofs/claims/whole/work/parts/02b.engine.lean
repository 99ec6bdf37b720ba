/-! ===== THE ENGINE: a judgement over a picture of the heap. Objects are numbered by the order in which they were made since the law began: object i lies at the address B + i. The picture h gives each its contents. ===== -/
abbrev ECell : Type := Nat × Nat × ((Int → Int) ⊕ (Nat → Int64) ⊕ (Nat → UInt64) ⊕ (Int → Option Nat) ⊕ List Value)
abbrev EHp : Type := Nat → ECell
abbrev NB : Type := Nat × Bool
def cI (n : Nat) (f : Int → Int) : ECell := (0, n, .inl f)
def cZ (n : Nat) (f : Int → Int) : ECell := (1, n, .inl f)
def cJ (n : Nat) (f : Nat → Int64) : ECell := (2, n, .inr (.inl f))
def cD (n : Nat) (f : Nat → UInt64) : ECell := (3, n, .inr (.inr (.inl f)))
def cR (t n : Nat) (f : Int → Option Nat) : ECell := (t, n, .inr (.inr (.inr (.inl f))))
def cO (ci : Nat) (fs : List Value) : ECell := (ci, 0, .inr (.inr (.inr (.inr fs))))
/-- a value of the picture, as the machine has it: references by their addresses; a float stands for the script -/
def cv (B b : Nat) : Value → Value
  | .ref i => .ref (B + i)
  | .float _ => .ref b
  | v => v
def ce (tc : Nat → ClassId) (B b : Nat) : ECell → va_E
  | (t, n, .inl f) => .inl (tc t, n, .inl (fun j => iI (f (j : Nat))))
  | (t, n, .inr (.inl f)) => .inl (tc t, n, .inr (.inl f))
  | (t, n, .inr (.inr (.inl f))) => .inl (tc t, n, .inr (.inr (.inr (.inl f))))
  | (t, n, .inr (.inr (.inr (.inl f)))) => .inl (tc t, n, .inr (.inr (.inr (.inr (fun j => (f (j : Nat)).map (B + ·))))))
  | (t, _, .inr (.inr (.inr (.inr fs)))) => .inr (t, fs.map (cv B b))
def wl (tc : Nat → ClassId) (B b N : Nat) (h : EHp) : va_W := (List.range N).map (fun i => (B + i, ce tc B b (h i)))
def ueh (h : EHp) (i : Nat) (c : ECell) : EHp := fun j => if j = i then c else h j
theorem ueh_s {h : EHp} {i : Nat} {c : ECell} : ueh h i c i = c := if_pos rfl
theorem ueh_n {h : EHp} {i j : Nat} {c : ECell} (hn : j ≠ i) : ueh h i c j = h j := if_neg hn
theorem wl_at {tc : Nat → ClassId} {B b N : Nat} {h : EHp} {i : Nat} (hi : i < N) : (wl tc B b N h)[i]? = some (B + i, ce tc B b (h i)) := by
  simp [wl, hi]
theorem wl_get {tc : Nat → ClassId} {B b N : Nat} {h : EHp} {k : Nat} {q : Nat × va_E} (hk : (wl tc B b N h)[k]? = some q) : k < N ∧ q = (B + k, ce tc B b (h k)) := by
  have hl : k < N := by
    have := (List.getElem?_eq_some_iff.mp hk).1
    simpa [wl] using this
  refine ⟨hl, ?_⟩
  rw [wl_at hl] at hk
  exact (Option.some.inj hk).symm
theorem wl_set {tc : Nat → ClassId} {B b N : Nat} {h : EHp} {i : Nat} {c : ECell} : (wl tc B b N h).set i (B + i, ce tc B b c) = wl tc B b N (ueh h i c) := by
  apply List.ext_getElem?
  intro k
  rw [List.getElem?_set]
  by_cases hk : i = k
  · subst hk
    by_cases hl : i < N
    · rw [if_pos rfl, wl_at hl, ueh_s, if_pos (by simpa [wl] using hl)]
    · simp [wl, hl]
  · rw [if_neg hk]
    by_cases hl : k < N
    · rw [wl_at hl, wl_at hl, ueh_n (fun h => hk h.symm)]
    · simp [wl, hl]
theorem wl_push {tc : Nat → ClassId} {B b N : Nat} {h : EHp} {c : ECell} : wl tc B b N h ++ [(B + N, ce tc B b c)] = wl tc B b (N + 1) (ueh h N c) := by
  unfold wl
  rw [List.range_succ, List.map_append]
  congr 1
  · apply List.map_congr_left
    intro i hi
    have : i ≠ N := Nat.ne_of_lt (List.mem_range.mp hi)
    rw [ueh_n this]
  · simp [ueh_s]
theorem wl_D {tc : Nat → ClassId} {B b N : Nat} {h : EHp} : va_D (fun q => B ≤ q) (wl tc B b N h) := by
  refine ⟨fun i j p q hp hq e => ?_, fun k q hk => ?_⟩
  · obtain ⟨-, rfl⟩ := wl_get hp
    obtain ⟨-, rfl⟩ := wl_get hq
    have e' : B + i = B + j := e
    omega
  · obtain ⟨-, rfl⟩ := wl_get hk
    exact Nat.le_add_right _ _
def tyl (tc : Nat → ClassId) : List (ClassId × FieldType) := [(tc 0, .int), (tc 1, .boolean), (tc 2, .long), (tc 3, .double), (tc 4, .object RX4), (tc 5, .object RX6)]
/-- methods: name, code, locals, what it returns, its table -/
abbrev MD : Type := MethodName × ByteArray × Nat × Option FieldType × List (Nat × Nat × Nat × Nat)
abbrev Out : Type := Option Value ⊕ String
abbrev rmo (d mc ms : Nat) : Room := { frames := d, cells := mc, slots := ms, locals := 37 * d }
def strL : List (Nat × String) := [(195, "no such list or index"), (198, "out of range"), (64, "not greater than the last document"), (75, "the list is full"), (142, "the union is too long"), (170, "no saved state")]
abbrev eIO : String := "java/lang/IndexOutOfBoundsException"
abbrev eIA : String := "java/lang/IllegalArgumentException"
abbrev eIS : String := "java/lang/IllegalStateException"
def nwC : List (String × String) := [(eIO, eIO), (eIA, eIA), (eIS, eIS)]
def nwM : List (String × Nat × MethodName × String) := [(RX7, 25, yX3_init, RX7), (RX7, 32, yX1_init, RX7), (RX6, 19, yX0_init, RX7), (RX6, 31, yX4_init, RX7)]
def nwD : List MethodName := [Bundle.initS "java/lang/RuntimeException", Bundle.initS "java/lang/Exception", Bundle.initS "java/lang/Throwable"]
def ncL : List (String × String) := [(eIO, eIA), (eIO, eIS), (eIA, eIO), (eIA, eIS), (eIS, eIO), (eIS, eIA)]
/-- what the machine's tables and old cells give for throws, nest mates and arrays of objects -/
def EV (l : Launch) (B : Nat) (s : State) : Prop :=
  l.stackTraces = false ∧ vx_Zq Bundle.tN "UNASSIGNED_STACK" Bundle.steD (fun q => B ≤ q) s s.heap ∧ vx_Zq Bundle.tN "SUPPRESSED_SENTINEL" Bundle.listD (fun q => B ≤ q) s s.heap ∧
  (∀ q ∈ strL, ∃ sa, vk_R RX7 q.1 q.2 sa s) ∧ (∀ q ∈ nwC, va_Nw (.castable q.1 q.2) s) ∧ (∀ q ∈ nwM, va_Nw (.methodLinkNest q.1 q.2.1 q.2.2.1 q.2.2.2) s) ∧ (∀ q ∈ ncL, va_Nc q.1 q.2 s) ∧ va_AO RX4 s ∧ va_AO RX6 s ∧ (∀ y ∈ nwD, va_Nw (.declares y) s)
theorem EV.warm {l : Launch} {B : Nat} {s U : State} (h : EV l B s) (hW : s.WarmedH U.vm) (hq : ∀ a : Nat, a < s.heap.size → ¬ B ≤ a → U.heap[a]? = s.heap[a]?) : EV l B U := by
  obtain ⟨h1, h2, h3, h4, h5, h6, h7, h8, h9, h10⟩ := h
  refine ⟨h1, vx_Zq.moved hW.alike (h2.kept hq), vx_Zq.moved hW.alike (h3.kept hq), fun q hm => ?_, fun q hm => va_Nw.warmC hW (h5 q hm), fun q hm => va_Nw.warmM hW (h6 q hm), fun q hm => va_Nc.moved hW.alike (h7 q hm), va_AO.moved hW.alike h8, va_AO.moved hW.alike h9, fun y hy => va_Nw.warmD hW (h10 y hy)⟩
  obtain ⟨sa, hs⟩ := h4 q hm
  exact ⟨sa, vk_R.warm hW hs⟩
def PK (D : va_G) (tc : Nat → ClassId) (B b : Nat) (N : NB) (h : EHp) (t : State) : Prop :=
  va_P D vwCl (wl tc B b N.1 h) t.heap ∧ va_K D vwCl (tyl tc) t ∧ B ≤ t.heap.size ∧ (N.2 = true → t.heap.size = B + N.1)
abbrev Post : Type := Out → NB → EHp → Prop
def QQ (D : va_G) (tc : Nat → ClassId) (B b : Nat) (post : Post) : Array Value → State → Outcome → State → Prop := fun _ st oc t =>
  (∃ (r : Option Value) (N : NB) (h : EHp), oc = .returned (r.map (cv B b)) ∧ post (.inl r) N h ∧ PK D tc B b N h t) ∧ va_F (fun q => B ≤ q) st t
def XX (D : va_G) (tc : Nat → ClassId) (B b : Nat) (post : Post) : String → State → State → Prop := fun E st t =>
  (∃ (N : NB) (h : EHp), post (.inr E) N h ∧ PK D tc B b N h t) ∧ va_F (fun q => B ≤ q) st t
def CX (p : Program) (s : State) (m : MethodId) (args : Array Value) (meth : Method) (c : Code) (md : MD) : Prop :=
  p.tables.exec = Jvm.exec ∧ c.code = md.2.1 ∧ c.maxLocals = md.2.2.1 ∧ meth.sig.returnType = md.2.2.2.1 ∧ s.vm.findClass md.1.cls = some m.cls ∧ (∀ w ∈ LT, w.before args s = true) ∧ meth.locks = false ∧ meth.name = md.1.name ∧ c.exceptionTable.toList = tableOf md.2.2.2.2
def HR (D : va_G) (tc : Nat → ClassId) (B b : Nat) (N : NB) (h : EHp) (s : State) (H : Heap) (locs : List Loc) (k : Nat) : Prop :=
  va_K D vwCl (tyl tc) s ∧ va_P D vwCl (wl tc B b N.1 h) H ∧ va_S (fun q => B ≤ q) s.heap H locs ∧ B ≤ s.heap.size ∧ (N.2 = true → s.heap.size + k ≤ B + N.1)
theorem HR.lt {D : va_G} {tc : Nat → ClassId} {B b : Nat} {N : NB} {h : EHp} {s : State} {H : Heap} {locs : List Loc} {k : Nat} (hH : HR D tc B b N h s H locs k) {i : Nat} (hi : i < N.1) : B + i < H.size := (hH.2.1 i _ (wl_at hi)).lt
theorem HR.tight {D : va_G} {tc : Nat → ClassId} {B b : Nat} {N : NB} {h : EHp} {s : State} {H : Heap} {locs : List Loc} {k : Nat} (hH : HR D tc B b N h s H locs k) {T : State} (hT : T.heap = H) (hX : T.heap.size ≤ s.heap.size + k) (hz : N.2 = true) : H.size = B + N.1 := by
  have h1 := hH.2.2.2.2 hz
  rw [hT] at hX
  have h2 : B + N.1 ≤ H.size := by
    cases hn : N.1 with
    | zero =>
      have := hH.2.2.1.1
      have := hH.2.2.2.1
      omega
    | succ j =>
      have := hH.lt (i := j) (by omega)
      omega
  omega
def LR (B b nL : Nat) (al : List (Option Value)) (ls : Array Slot) : Prop :=
  ls.size = nL ∧ lv_wf ls ∧ ∀ (i : Nat) (v : Value), al[i]? = some (some v) → ls[i]? = some (.val (cv B b v))
def rIns : Option Value → Instr
  | none => .return_
  | some (.int _) => .ireturn
  | some (.long _) => .lreturn
  | some (.double _) => .dreturn
  | some _ => .areturn
def rOk (ret : Option FieldType) : Option Value → Prop
  | none => ret = none
  | some (.int v) => ∃ ty, ret = some ty ∧ narrow ty (.int v) = .int v
  | some (.long _) => ret = some .long
  | some (.double _) => ret = some .double
  | some (.ref _) => ∃ n, ret = some (.object n)
  | some _ => False
/-- from this point of the method's body, with these locals, this stack and this picture of the heap, the method ends as 'post' says -/
def G (l : Launch) (X : State → Nat → Nat → Prop) (md : MD) (d mc ms : Nat) (post : Post) (k n pc : Nat) (al : List (Option Value)) (st : List Value) (N : NB) (h : EHp) : Prop :=
  ∀ (p : Program) (e : Env) (s : State) (m : MethodId) (args : Array Value) (below : List Frame) (meth : Method) (c : Code) (D : va_G) (tc : Nat → ClassId) (B b : Nat) (H : Heap) (locs : List Loc) (ls : Array Slot) (Q : State → Prop),
    CX p s m args meth c md → EV l B s → X s B b → HR D tc B b N h s H locs k → LR B b md.2.2.1 al ls →
    (∀ (r : Option Value) (N' : NB) (h' : EHp) (H' : Heap) (locs' : List Loc) (pc' : Nat) (ls' : Array Slot), post (.inl r) N' h' → HR D tc B b N' h' s H' locs' mc → rOk md.2.2.2.1 r → decode md.2.1 pc' = .ok (rIns r, 1) → W p l e (rmo d mc ms) s m args below meth c H' locs' mc ms Q (F0 m pc' ls' (r.map (cv B b)).toList)) →
    (Q = vx_MQ below (QQ D tc B b post) (XX D tc B b post) args s mc ms (fun q => B ≤ q) ∨ ∀ E N' h', ¬ post (.inr E) N' h') →
    W p l e (rmo d mc ms) s m args below meth c H locs k n Q (F0 m pc ls (st.map (cv B b)))
def wsM (md : MD) : List Cond := (match md.2.2.2.2 with
  | [] => Cond.code md.1 md.2.1 md.2.2.1 md.2.2.2.1
  | hh => Cond.codeWith md.1 md.2.1 md.2.2.1 md.2.2.2.1 hh) :: LT
/-- a method's contract over the picture -/
def CT (l : Launch) (md : MD) (d mc ms : Nat) (av : List Value) (N : NB) (h : EHp) (post : Post) : Prop :=
  ∀ (D : va_G) (tc : Nat → ClassId) (B b : Nat), vx_Met l md.1 (wsM md) (rmo d mc ms) (va_Pc (av.map (cv B b)) (fun U => PK D tc B b N h U ∧ EV l B U)) (QQ D tc B b post) (XX D tc B b post) mc ms (fun q => B ≤ q)
def noX : State → Nat → Nat → Prop := fun _ _ _ => True
def lvl : List Value → List (Option Value)
  | [] => []
  | v :: vs => if v.category = 2 then some v :: none :: lvl vs else some v :: lvl vs
theorem cv_cat (B b : Nat) : ∀ v : Value, (cv B b v).category = v.category := by intro v; cases v <;> rfl
theorem lvl_at (B b : Nat) : ∀ (vs : List Value) (i0 i : Nat) (v : Value), (lvl vs)[i]? = some (some v) → (i0 + i, cv B b v) ∈ lv_args i0 (vs.map (cv B b)) := by
  intro vs
  induction vs with
  | nil => intro i0 i v h; simp [lvl] at h
  | cons w vs ih =>
    intro i0 i v h
    unfold lvl at h
    simp only [List.map_cons, lv_args, cv_cat]
    by_cases hc : w.category = 2
    · rw [if_pos hc] at h
      rw [if_pos hc]
      match i, h with
      | 0, h =>
        simp at h
        subst h
        exact List.mem_cons_self
      | 1, h => simp at h
      | i + 2, h =>
        simp at h
        have := ih (i0 + 2) i v h
        refine List.mem_cons_of_mem _ ?_
        rw [show i0 + (i + 2) = i0 + 2 + i by omega]
        exact this
    · rw [if_neg hc] at h
      rw [if_neg hc]
      match i, h with
      | 0, h =>
        simp at h
        subst h
        exact List.mem_cons_self
      | i + 1, h =>
        simp at h
        have := ih (i0 + 1) i v h
        refine List.mem_cons_of_mem _ ?_
        rw [show i0 + (i + 1) = i0 + 1 + i by omega]
        exact this
theorem lvl_pad (vs : List Value) (n : Nat) (i : Nat) (v : Value) (h : (lvl vs ++ List.replicate n none)[i]? = some (some v)) : (lvl vs)[i]? = some (some v) := by
  by_cases hi : i < (lvl vs).length
  · rwa [List.getElem?_append_left hi] at h
  · rw [List.getElem?_append_right (by omega)] at h
    have := List.mem_of_getElem? h
    have := List.eq_of_mem_replicate this
    cases this
theorem G.ret {l : Launch} {p : Program} {e : Env} {s : State} {m : MethodId} {args : Array Value} {below : List Frame} {meth : Method} {c : Code} {D : va_G} {tc : Nat → ClassId} {B b : Nat} {md : MD} {d mc ms : Nat} {post : Post} (hC : CX p s m args meth c md) :
    ∀ (r : Option Value) (N' : NB) (h' : EHp) (H' : Heap) (locs' : List Loc) (pc' : Nat) (ls' : Array Slot), post (.inl r) N' h' → HR D tc B b N' h' s H' locs' mc → rOk md.2.2.2.1 r → decode md.2.1 pc' = .ok (rIns r, 1) → W p l e (rmo d mc ms) s m args below meth c H' locs' mc ms (vx_MQ below (QQ D tc B b post) (XX D tc B b post) args s mc ms (fun q => B ≤ q)) (F0 m pc' ls' (r.map (cv B b)).toList) := by
  intro r N' h' H' locs' pc' ls' hp hH hr hd T hT hX
  have hsz := fun z => hH.tight hT hX.heapSize z
  obtain ⟨hx, hb, -, hrt, -, -, hlk, -, -⟩ := hC
  obtain ⟨hK, hP, hS, hB, -⟩ := hH
  have hq : ∀ t : State, t.heap = H' → s.WarmedH t.vm → QQ D tc B b post args s (.returned (r.map (cv B b))) t := by
    intro t ht hW
    refine ⟨⟨r, N', h', rfl, hp, ?_⟩, hS.F ht⟩
    refine ⟨by rw [ht]; exact hP, va_K.moved hW.alike hK, ?_, by rw [ht]; exact hsz⟩
    rw [ht]; exact Nat.le_trans hB hS.1
  refine vx_ret ?_ T hT hX
  match r, hr, hd, hq with
  | none, hr, hd, hq => exact W.vret hx hb (hrt.trans hr) hq hS.2.2 hd hlk
  | some (.int v), hr, hd, hq =>
    obtain ⟨ty, e1, e2⟩ := hr
    exact W.zret hx hb (hrt.trans e1) e2 hq hS.2.2 hd hlk
  | some (.long v), hr, hd, hq => exact W.lret hx hb (hrt.trans hr) hq hS.2.2 hd hlk
  | some (.double v), hr, hd, hq => exact W.dret hx hb (hrt.trans hr) hq hS.2.2 hd hlk
  | some (.ref v), hr, hd, hq =>
    obtain ⟨n, e1⟩ := hr
    exact W.aret hx hb (hrt.trans e1) (Or.inl ⟨n, rfl⟩) (Or.inr ⟨_, rfl⟩) hq hS.2.2 hd hlk
theorem CT.of {l : Launch} {md : MD} {d mc ms : Nat} {av : List Value} {N : NB} {h : EHp} {post : Post} (hy : plainName md.1.cls = true) (hlen : (lg_sl av).length ≤ md.2.2.1)
    (g : G l noX md d mc ms post 0 0 0 (lvl av ++ List.replicate (md.2.2.1 - (lg_sl av).length) none) [] N h) : CT l md d mc ms av N h post := by
  intro D tc B b
  have hsl : ∀ vs : List Value, (lg_sl (vs.map (cv B b))).length = (lg_sl vs).length := by
    intro vs
    induction vs with
    | nil => rfl
    | cons w vs ih =>
      simp only [lg_sl, List.map_cons, List.flatMap_cons, List.length_append] at ih ⊢
      rw [ih, cv_cat]
      by_cases hc : w.category = 2 <;> simp [hc]
  have body : ∀ (p : Program) (e : Env) (s : State) (m : MethodId) (args : Array Value) (below : List Frame) (meth : Method) (c : Code), CX p s m args meth c md → va_Pc (av.map (cv B b)) (fun U => PK D tc B b N h U ∧ EV l B U) args s → W p l e (rmo d mc ms) s m args below meth c s.heap [] 0 0 (vx_MQ below (QQ D tc B b post) (XX D tc B b post) args s mc ms (fun q => B ≤ q)) (entryFrame m args md.2.2.1) := by
    intro p e s m args below meth c hC hv
    obtain ⟨rfl, hPK, hE⟩ := hv
    obtain ⟨hP, hK, hB, hz⟩ := hPK
    have hl := lv_entry (av.map (cv B b)) (n := md.2.2.1) (by rw [hsl]; exact hlen)
    rw [lg_entry_eq]
    generalize (lg_sl (av.map (cv B b)) ++ List.replicate (md.2.2.1 - (lg_sl (av.map (cv B b))).length) Slot.unset).toArray = ls at hl ⊢
    exact g p e s m _ below meth c D tc B b s.heap [] ls _ hC hE trivial ⟨hK, hP, va_S.rf, hB, fun z => Nat.le_of_eq (hz z)⟩ ⟨hl.1, hl.2.1, fun i v hi => by
      have := lvl_at B b av 0 i v (lvl_pad av _ i v hi)
      rw [Nat.zero_add] at this
      exact hl.2.2 _ this⟩ (G.ret hC) (Or.inl rfl)
  obtain ⟨y, cc, nL, rt, hh⟩ := md
  cases hh with
  | nil =>
    refine vx_ofW (cc := cc) (maxL := nL) (ret := rt) hy rfl ?_
    intro p e s m args below meth c s₁ Bd hml htab hv
    have hts := atoms_spec (ws := wsM (y, cc, nL, rt, [])) Bd.pre
    refine body p e s m args below meth c ⟨Bd.exec, Bd.bytes, hml, Bd.returns, findClass_of_methodNamed Bd.named, fun w hw => hts w (List.mem_cons_of_mem _ hw), Bd.notSynchronized, (name_of_methodNamed Bd.named Bd.method).1, ?_⟩ hv
    have : c.exceptionTable.toList = [] := List.eq_nil_iff_forall_not_mem.mpr (fun x hx => htab x hx)
    rw [this]; rfl
  | cons z hh =>
    refine vx_ofWH (cc := cc) (maxL := nL) (ret := rt) (hh := z :: hh) hy rfl ?_
    intro p e s m args below meth c s₁ Bd hml hv
    have hts := atoms_spec (ws := wsM (y, cc, nL, rt, z :: hh)) Bd.pre
    refine body p e s m args below meth c ⟨Bd.exec, Bd.bytes, hml, Bd.returns, findClass_of_methodNamed Bd.named, fun w hw => hts w (List.mem_cons_of_mem _ hw), Bd.notSynchronized, (name_of_methodNamed Bd.named Bd.method).1, ?_⟩ hv
    exact vx_table (x := y) Bd (hts _ List.mem_cons_self)
