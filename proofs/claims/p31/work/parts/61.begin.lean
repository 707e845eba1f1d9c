/-! the start: the classes' tables, the words that the tables don't keep by themselves -/
def insp : List Nat := [79, 51, 38, 66, 92, 30]
theorem insp_all : (List.range 6).all (fun c => memW (insp.getD c 0) (.instantiable (cn c) (cN c))) = true := by decide +kernel
theorem insp_ok {c : Nat} (h : c < 6) : Cond.instantiable (cn c) (cN c) ∈ WT := memW_ok (List.all_eq_true.mp insp_all c (List.mem_range.mpr h))
theorem tb_of {i : Nat} {w : Cond} (h : lw_tbl[i]? = some w) : w ∈ lw_tbl := List.mem_of_getElem? h
theorem PK_start {s : State} {args : Array Value} (hts : ∀ w ∈ lw_tbl, w.before args s = true) : ∃ (dC : Nat → ClassId) (dI : Nat → Nat → Nat) (cI cZ cII : ClassId), PK dC dI cI cZ cII s := by
  have hW : ∀ w ∈ WT, w.before args s = true := fun w hw => hts w (List.mem_filter.mp hw).1
  have kn : ∀ c, c < 6 → ∃ (cC : ClassId) (iS : Nat → Nat), u_Kn s (cn c) (cT c) (cN c) cC iS := fun c hc => u_known hW (cok hc).1 (hW _ (insp_ok hc))
  obtain ⟨dC, dI, hK⟩ : ∃ (dC : Nat → ClassId) (dI : Nat → Nat → Nat), ∀ (c : Nat) (q : vw_C), cls[c]? = some q → u_Kn s q.1 q.2.1 q.2.2 (dC c) (dI c) := by
    refine ⟨fun c => if h : c < 6 then (kn c h).choose else 0, fun c => if h : c < 6 then (kn c h).choose_spec.choose else fun _ => 0, fun c q hq => ?_⟩
    have hc : c < 6 := (List.getElem?_eq_some_iff.mp hq).1
    rw [cls_at c hc] at hq
    cases hq
    dsimp only
    rw [dif_pos hc, dif_pos hc]
    exact (kn c hc).choose_spec.choose_spec
  have a1 : (Cond.arrayClass .int).before args s = true := hts _ (tb_of (i := 49) (by decide +kernel))
  have a2 : (Cond.arrayClass .boolean).before args s = true := hts _ (tb_of (i := 110) (by decide +kernel))
  have a3 : (Cond.arrayOver (.array .int)).before args s = true := hts _ (tb_of (i := 57) (by decide +kernel))
  obtain ⟨cI, kI, pI, i1, i2, i3⟩ := Cond.arrayClass_spec a1
  obtain ⟨cZ, kZ, pZ, z1, z2, z3⟩ := Cond.arrayClass_spec a2
  obtain ⟨comp, cII, kA, o1, o2, o3, o4, o5⟩ := arrayOverA_spec a3
  have ec : comp = cI := Option.some.inj (o1.symm.trans i1)
  subst ec
  refine ⟨dC, dI, comp, cZ, cII, ⟨hK, fun k q hq => ?_⟩, ?_, ⟨kA, kI, o3, o4, i2⟩, fun w hw => ?_⟩
  · match k, hq with
    | 0, hq => cases hq; exact ⟨fun N z => ⟨fun k h => (by cases h), kI, i2, pI, i3⟩, i1⟩
    | 1, hq => cases hq; exact ⟨fun N z => ⟨fun k h => (by cases h), kZ, z2, pZ, z3⟩, z1⟩
    | 2, hq => cases hq; exact ⟨fun N z => ⟨fun k h => (by cases h), kA, o3, comp, o4⟩, o5⟩
    | k + 3, hq => simp at hq
  · exact a3
  · simp only [nwl, List.mem_cons, List.not_mem_nil, or_false] at hw
    rcases hw with rfl | rfl | rfl | rfl | rfl
    · exact va_Nw.of rfl (hts _ (tb_of (i := 52) (by decide +kernel)))
    · exact va_Nw.of rfl (hts _ (tb_of (i := 80) (by decide +kernel)))
    · exact va_Nw.of rfl (hts _ (tb_of (i := 93) (by decide +kernel)))
    · exact va_Nw.of rfl (hts _ (tb_of (i := 174) (by decide +kernel)))
    · exact va_Nw.of rfl (hts _ (tb_of (i := 357) (by decide +kernel)))
