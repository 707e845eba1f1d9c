/-! an abstract machine over the cells of the two objects: its state, what it stands for, and the judgement G -/
abbrev St : Type := (Nat → Nat → Int32) × (Nat → Nat → Option Nat) × Nat
abbrev Lc : Type := List (Option Value)
/-- kinds of the cells, in the order in which they are made: (0, n) int[n], (1, n) boolean[n], (2, n) int[n][], (3, c) an object of class c -/
def KTl : List (Nat × Nat) := [(3, 5), (3, 2), (0, 101), (3, 1), (2, 4), (0, 101), (0, 101), (0, 101), (0, 101), (0, 101), (3, 3), (0, 60), (0, 3), (3, 0), (0, 20), (0, 20), (3, 4), (1, 20), (0, 20), (0, 20), (3, 2), (0, 101), (3, 3), (0, 96)]
def KT (i : Nat) : Nat × Nat := KTl.getD i (9, 0)
def szK (i : Nat) : Nat := match KT i with
  | (0, n) => n
  | (1, n) => n
  | (2, n) => n
  | (_, c) => cN c
def slz : Nat → Nat
  | 0 => 0
  | n + 1 => slz n + szK n
theorem slz_mono {a b : Nat} (h : a ≤ b) : slz a ≤ slz b := by
  induction h with
  | refl => exact Nat.le_refl _
  | step _ ih => exact Nat.le_trans ih (Nat.le_add_right _ _)
def cv (base b : Nat) : Value → Value
  | .ref i => .ref (if i = 1000 then b else base + i)
  | v => v
theorem cv_cat (base b : Nat) (v : Value) : (cv base b v).category = v.category := by cases v <;> rfl
def rfv (o : Option Nat) : Value := match o with
  | some q => .ref q
  | none => .null
def vent (cI cZ cII : ClassId) (base : Nat) (σ : St) (i : Nat) : va_E := match KT i with
  | (0, n) => .inl (cI, n, .inl (σ.1 i))
  | (1, n) => .inl (cZ, n, .inl (σ.1 i))
  | (2, n) => .inl (cII, n, .inr (.inr (.inr (.inr (fun j => (σ.2.1 i j).map (fun a => base + a))))))
  | (_, c) => .inr (c, (List.range (cN c)).map fun j => bif cR c j then va_rf ((σ.2.1 i j).map (fun a => base + a)) else .int (σ.1 i j))
def vw (cI cZ cII : ClassId) (base : Nat) (σ : St) : va_W := (List.range σ.2.2).map fun i => (base + i, vent cI cZ cII base σ i)
theorem vw_get {cI cZ cII : ClassId} {base : Nat} {σ : St} {i : Nat} (h : i < σ.2.2) : (vw cI cZ cII base σ)[i]? = some (base + i, vent cI cZ cII base σ i) := by
  simp [vw, h]
theorem vw_at {cI cZ cII : ClassId} {base : Nat} {σ : St} {k : Nat} {q : Nat × va_E} (h : (vw cI cZ cII base σ)[k]? = some q) : k < σ.2.2 ∧ q = (base + k, vent cI cZ cII base σ k) := by
  by_cases hk : k < σ.2.2
  · rw [vw_get hk] at h
    exact ⟨hk, (Option.some.inj h).symm⟩
  · rw [List.getElem?_eq_none (by simp [vw]; omega)] at h
    cases h
theorem vw_D {cI cZ cII : ClassId} {base : Nat} {σ : St} : va_D (fun q => base ≤ q) (vw cI cZ cII base σ) := by
  refine ⟨fun i j p q hi hj e => ?_, fun k q h => ?_⟩
  · obtain ⟨-, rfl⟩ := vw_at hi
    obtain ⟨-, rfl⟩ := vw_at hj
    have e' : base + i = base + j := e
    omega
  · obtain ⟨-, rfl⟩ := vw_at h
    exact Nat.le_add_right _ _
theorem vw_set {cI cZ cII : ClassId} {base : Nat} {σ σ' : St} {i : Nat} (hi : i < σ.2.2) (hn : σ'.2.2 = σ.2.2) (h : ∀ j, j ≠ i → vent cI cZ cII base σ' j = vent cI cZ cII base σ j) : (vw cI cZ cII base σ).set i (base + i, vent cI cZ cII base σ' i) = vw cI cZ cII base σ' := by
  apply List.ext_getElem?
  intro j
  by_cases hj : j = i
  · subst hj
    rw [List.getElem?_set_self (by simp [vw, hi]), vw_get (by rw [hn]; exact hi)]
  · rw [List.getElem?_set_ne (Ne.symm hj)]
    by_cases hl : j < σ.2.2
    · rw [vw_get hl, vw_get (by rw [hn]; exact hl), h j hj]
    · rw [List.getElem?_eq_none (by simp [vw]; omega), List.getElem?_eq_none (by simp [vw]; omega)]
theorem vw_push {cI cZ cII : ClassId} {base : Nat} {σ σ' : St} {e : va_E} (hn : σ'.2.2 = σ.2.2 + 1) (h : ∀ j, j < σ.2.2 → vent cI cZ cII base σ' j = vent cI cZ cII base σ j) (he : vent cI cZ cII base σ' σ.2.2 = e) : vw cI cZ cII base σ ++ [(base + σ.2.2, e)] = vw cI cZ cII base σ' := by
  unfold vw
  rw [hn, List.range_succ, List.map_append]
  congr 1
  · apply List.map_congr_left
    intro j hj
    rw [h j (List.mem_range.mp hj)]
  · rw [← he]
    rfl
/-- an array class over int[] is there (it isn't kept by the tables' words alone) -/
def vxA (U : State) : Prop := (Cond.arrayOver (.array .int)).before #[] U = true
theorem vx_idx_bare (vm : Vm) (comp : ClassId) : (vm.bare.classes.findIdx? fun (x : Class) => match x.kind with | .array component _ => component == comp | _ => false) = (vm.classes.findIdx? fun (x : Class) => match x.kind with | .array component _ => component == comp | _ => false) := by
  simp only [Vm.bare, Array.findIdx?_map]
  rfl
theorem vxA.moved {u U : State} (hvm : u.vm.Alike U.vm) (h : vxA u) : vxA U := by
  obtain ⟨comp, c, k, h1, h2, h3, h4, h5⟩ := arrayOverA_spec h
  obtain ⟨k', hk', he⟩ := hvm.2.2 _ _ h3
  have hi : (U.vm.classes.findIdx? fun (x : Class) => match x.kind with | .array component _ => component == comp | _ => false) = some c := by
    rw [← vx_idx_bare]
    first | rw [hvm.bare_eq] | rw [← hvm.bare_eq]
    rw [vx_idx_bare]
    exact h2
  have hkind : k'.kind = .array comp (.array .int) := by rw [he]; exact h4
  have f1 : U.vm.findClass (FieldType.array .int).toString = some comp := by rw [hvm.findClass]; exact h1
  have f2 : U.vm.findClass ("[" ++ (FieldType.array .int).toString) = some c := by rw [hvm.findClass]; exact h5
  unfold vxA Cond.before Cond.holds
  simp only [Cond.value]
  rw [f1, Option.bind_some]
  refine (congrArg (fun o : Option Nat => (o.bind (fun c => (U.vm.classes[c]?).map fun (k : Class) => match k.kind with | .array _ ty => decide (ty = FieldType.array .int) && decide (U.vm.findClass ("[" ++ (FieldType.array .int).toString) = some c) | _ => false) == some true)) hi).trans ?_
  simp [hk', hkind, f2]
/-- what lasts: the classes' tables, the words that the tables don't keep by themselves -/
def PK (dC : Nat → ClassId) (dI : Nat → Nat → Nat) (cI cZ cII : ClassId) (U : State) : Prop :=
  va_K (dC, dI) cls [(cI, .int), (cZ, .boolean), (cII, .array .int)] U ∧ vxA U ∧ (∃ kA kI : Class, U.vm.classes[cII]? = some kA ∧ kA.kind = .array cI (.array .int) ∧ U.vm.classes[cI]? = some kI) ∧ ∀ w ∈ nwl, va_Nw w U
theorem nwl_warm {s U : State} (hW : s.WarmedH U.vm) {w : Cond} (hw : w ∈ nwl) (h : va_Nw w s) : va_Nw w U := by
  simp only [nwl, List.mem_cons, List.not_mem_nil, or_false] at hw
  rcases hw with rfl | rfl | rfl | rfl | rfl <;> exact va_Nw.warmM hW h
theorem nwl_same {s U : State} (hW : s.vm = U.vm) {w : Cond} (hw : w ∈ nwl) (h : va_Nw w s) : va_Nw w U := by
  simp only [nwl, List.mem_cons, List.not_mem_nil, or_false] at hw
  rcases hw with rfl | rfl | rfl | rfl | rfl <;> exact va_Nw.same rfl hW h
theorem PK.warm {dC : Nat → ClassId} {dI : Nat → Nat → Nat} {cI cZ cII : ClassId} {s U : State} (hW : s.WarmedH U.vm) (h : PK dC dI cI cZ cII s) : PK dC dI cI cZ cII U := by
  obtain ⟨h1, h2, ⟨kA, kI, a1, a2, a3⟩, h4⟩ := h
  have hvm : s.vm.Alike U.vm := hW.alike
  refine ⟨va_K.moved hvm h1, vxA.moved hvm h2, ?_, fun w hw => nwl_warm hW hw (h4 w hw)⟩
  obtain ⟨k1, g1, e1⟩ := hvm.2.2 _ _ a1
  obtain ⟨k2, g2, e2⟩ := hvm.2.2 _ _ a3
  exact ⟨k1, k2, g1, by rw [e1]; exact a2, g2⟩
theorem PK.same {dC : Nat → ClassId} {dI : Nat → Nat → Nat} {cI cZ cII : ClassId} {s U : State} (hW : s.vm = U.vm) (h : PK dC dI cI cZ cII s) : PK dC dI cI cZ cII U := by
  obtain ⟨h1, h2, ⟨kA, kI, a1, a2, a3⟩, h4⟩ := h
  have hvm : s.vm.Alike U.vm := by rw [hW]; exact Vm.Alike.refl _
  exact ⟨va_K.moved hvm h1, vxA.moved hvm h2, ⟨kA, kI, by rw [← hW]; exact a1, a2, by rw [← hW]; exact a3⟩, fun w hw => nwl_same hW hw (h4 w hw)⟩
/-- the machine's locals hold the abstract ones -/
def lvr (base b : Nat) (mls : Array Slot) (nL : Nat) (ls : Lc) : Prop := mls.size = nL ∧ lv_wf mls ∧ ∀ (i : Nat) (v : Value), ls[i]? = some (some v) → mls[i]? = some (.val (cv base b v))
def vls (base b : Nat) (ls : Lc) : List (Nat × Value) := ls.zipIdx.filterMap fun q => q.1.map fun v => (q.2, cv base b v)
theorem vls_mem {base b : Nat} {ls : Lc} {q : Nat × Value} : q ∈ vls base b ls ↔ ∃ v, ls[q.1]? = some (some v) ∧ q.2 = cv base b v := by
  simp only [vls, List.mem_filterMap, Option.map_eq_some_iff, Prod.exists]
  constructor
  · rintro ⟨o, i, h, v, rfl, rfl⟩
    exact ⟨v, List.mem_zipIdx_iff_getElem?.mp h, rfl⟩
  · rintro ⟨v, h, e⟩
    exact ⟨some v, q.1, List.mem_zipIdx_iff_getElem?.mpr h, v, rfl, by rw [← e]⟩
theorem lvr.has {base b : Nat} {mls : Array Slot} {nL : Nat} {ls : Lc} (h : lvr base b mls nL ls) : lv_has mls nL (vls base b ls) :=
  ⟨h.1, h.2.1, fun q hq => by obtain ⟨v, h1, h2⟩ := vls_mem.mp hq; rw [h2]; exact h.2.2 _ _ h1⟩
/-- no double stands right ahead of place a -/
def ndb (ls : Lc) (a : Nat) : Bool := match a with
  | 0 => true
  | a + 1 => match ls[a]? with
    | some (some (.double _)) => false
    | some (some (.long _)) => false
    | _ => true
theorem ndb_ok {base b : Nat} {ls : Lc} {a j : Nat} {v : Value} (h : ndb ls a = true) (hj : ls[j]? = some (some v)) (ha : j + 1 = a) : (cv base b v).category ≠ 2 := by
  subst ha
  rw [cv_cat]
  simp only [ndb, hj] at h
  cases v <;> first | (simp [Value.category]; done) | simp at h
theorem lvr.set1 {base b : Nat} {mls : Array Slot} {nL a : Nat} {ls : Lc} {x : Value} (hn : ndb ls a = true) (h : lv_has mls nL ((a, cv base b x) :: (vls base b ls).filter (fun q => !(q.1 == a) && !(q.1 + 1 == a && q.2.category == 2)))) : lvr base b mls nL (ls.set a (some x)) := by
  refine ⟨h.1, h.2.1, fun i v hi => ?_⟩
  rw [List.getElem?_set] at hi
  by_cases e : a = i
  · subst e
    rw [if_pos rfl] at hi
    split at hi
    · cases hi
      exact h.2.2 _ List.mem_cons_self
    · cases hi
  · rw [if_neg e] at hi
    refine h.2.2 (i, cv base b v) (List.mem_cons_of_mem _ (List.mem_filter.mpr ⟨vls_mem.mpr ⟨v, hi, rfl⟩, ?_⟩))
    have h2 : i + 1 = a → (cv base b v).category ≠ 2 := fun q => ndb_ok hn hi q
    by_cases h3 : i + 1 = a
    · have := h2 h3
      simp [Ne.symm e, h3, this]
    · simp [Ne.symm e, h3]
theorem lvr.set2 {base b : Nat} {mls : Array Slot} {nL a : Nat} {ls : Lc} {x : Value} (hn : ndb ls a = true) (h : lv_has mls nL ((a, cv base b x) :: (vls base b ls).filter (fun q => !(q.1 == a) && (!(q.1 == a + 1) && !(q.1 + 1 == a && q.2.category == 2))))) : lvr base b mls nL ((ls.set a (some x)).set (a + 1) none) := by
  refine ⟨h.1, h.2.1, fun i v hi => ?_⟩
  rw [List.getElem?_set] at hi
  by_cases e1 : a + 1 = i
  · subst e1
    rw [if_pos rfl] at hi
    split at hi <;> cases hi
  rw [if_neg e1, List.getElem?_set] at hi
  by_cases e : a = i
  · subst e
    rw [if_pos rfl] at hi
    split at hi
    · cases hi
      exact h.2.2 _ List.mem_cons_self
    · cases hi
  · rw [if_neg e] at hi
    refine h.2.2 (i, cv base b v) (List.mem_cons_of_mem _ (List.mem_filter.mpr ⟨vls_mem.mpr ⟨v, hi, rfl⟩, ?_⟩))
    have h2 : i + 1 = a → (cv base b v).category ≠ 2 := fun q => ndb_ok hn hi q
    by_cases h3 : i + 1 = a
    · have := h2 h3
      simp [Ne.symm e, Ne.symm e1, h3, this]
    · simp [Ne.symm e, Ne.symm e1, h3]
/-- what a method's walk stands on -/
def MC (k : Nat) (dC : Nat → ClassId) (dI : Nat → Nat → Nat) (cI cZ cII : ClassId) (base b L : Nat) (xs : Nat → Int32) (p : Program) (R : Room) (s : State) (m : MethodId) (args : Array Value) (meth : Method) (c : Code) : Prop :=
  p.tables.exec = Jvm.exec ∧ c.code = mb k ∧ c.maxLocals = mL k ∧ s.vm.findClass (cn (mcl k)) = some m.cls ∧ (∀ w ∈ WT, w.before args s = true) ∧ PK dC dI cI cZ cII s ∧ (mkd k = 2 → meth.name = "<init>") ∧ mfr k ≤ R.frames ∧ mlo k ≤ R.locals ∧ base ≤ s.heap.size ∧ (Nat.blt k 2 = true → va_X b L xs s s.heap ∧ b < s.heap.size ∧ b < base)
/-- at pc, with these locals, this stack and these cells: the method comes to its return with the answer r and the cells σ' -/
def G (L : Nat) (xs : Nat → Int32) (k n0 pc : Nat) (ls : Lc) (st : List Value) (σ : St) (r : Option Value) (σ' : St) : Prop :=
  ∀ (l : Launch) (dC : Nat → ClassId) (dI : Nat → Nat → Nat) (cI cZ cII : ClassId) (base b : Nat) (p : Program) (e : Env) (R : Room) (s : State) (m : MethodId) (args : Array Value) (below : List Frame) (meth : Method) (c : Code) (H : Heap) (locs : List Loc) (Q : State → Prop) (mls : Array Slot),
    MC k dC dI cI cZ cII base b L xs p R s m args meth c → lvr base b mls (mL k) ls → H.size = base + σ.2.2 → va_P (dC, dI) cls (vw cI cZ cII base σ) H → va_S (fun q => base ≤ q) s.heap H locs → n0 ≤ σ.2.2 → σ'.2.2 - n0 ≤ R.cells → slz σ'.2.2 - slz n0 ≤ R.slots →
    (∀ (H' : Heap) (locs' : List Loc) (pc' : Nat) (mls' : Array Slot), Nat.ble 62 (ct k pc').1 = true → Nat.ble (ct k pc').1 65 = true → H'.size = base + σ'.2.2 → va_P (dC, dI) cls (vw cI cZ cII base σ') H' → va_S (fun q => base ≤ q) s.heap H' locs' → W p l e R s m args below meth c H' locs' (σ'.2.2 - n0) (slz σ'.2.2 - slz n0) Q (F0 m pc' mls' ((r.map (cv base b)).toList))) →
    W p l e R s m args below meth c H locs (σ.2.2 - n0) (slz σ.2.2 - slz n0) Q (F0 m pc mls (st.map (cv base b)))
def u2 {α : Type} (S : Nat → α) (i : Nat) (f : α) : Nat → α := fun j => if j = i then f else S j
