def inip : List Nat := [26, 24, 23, 25, 27, 22]
theorem ini_all : (List.range 6).all (fun c => memW (inip.getD c 0) (.initialized (cn c))) = true := by decide +kernel
theorem ini_ok {c : Nat} (h : c < 6) : Cond.initialized (cn c) ∈ WT := memW_ok (List.all_eq_true.mp ini_all c (List.mem_range.mpr h))
theorem G_ret {L : Nat} {xs : Nat → Int32} {k n0 pc : Nat} {ls : Lc} {st : List Value} {σ σE : St} {r : Option Value} (h1 : Nat.ble 62 (ct k pc).1 = true) (h2 : Nat.ble (ct k pc).1 65 = true) (hst : st = r.toList) (hσ : σ = σE) : G L xs k n0 pc ls st σ r σE := by
  subst hst
  subst hσ
  intro l dC dI cI cZ cII base b0 p en R s m args below meth c H locs Q mls mc lv hH hP hS hn hc1 hc2 hret
  have h := hret H locs pc mls h1 h2 hH hP hS
  cases r with
  | none => exact h
  | some v => exact h
/-- the answer's form fits the method's type -/
def okR (t : Option FieldType) (r : Option Value) : Prop := match t, r with
  | some .int, some (.int _) => True
  | some .boolean, some (.int x) => narrow .boolean (.int x) = .int x
  | some .double, some (.double _) => True
  | some .long, some (.long _) => True
  | none, none => True
  | _, _ => False
theorem lv_args_mem : ∀ (vs : List Value) (o i : Nat) (v : Value), vs.all (fun v => Nat.beq v.category 1) = true → vs[i]? = some v → (o + i, v) ∈ lv_args o vs
  | [], _, i, v, _, h => by simp at h
  | w :: vs, o, i, v, ha, h => by
    simp only [List.all_cons, Bool.and_eq_true] at ha
    have hc : w.category = 1 := Nat.eq_of_beq_eq_true ha.1
    unfold lv_args
    rw [if_neg (by omega)]
    cases i with
    | zero =>
      rw [List.getElem?_cons_zero] at h
      cases h
      exact List.mem_cons_self
    | succ i =>
      rw [List.getElem?_cons_succ] at h
      have := lv_args_mem vs (o + 1) i v ha.2 h
      rw [show o + (i + 1) = o + 1 + i by omega]
      exact List.mem_cons_of_mem _ this
theorem lg_sl_len : ∀ (vs : List Value), vs.all (fun v => Nat.beq v.category 1) = true → (lg_sl vs).length = vs.length
  | [], _ => rfl
  | w :: vs, ha => by
    simp only [List.all_cons, Bool.and_eq_true] at ha
    have hc : w.category = 1 := Nat.eq_of_beq_eq_true ha.1
    have := lg_sl_len vs ha.2
    simp only [lg_sl, List.flatMap_cons, if_neg (show ¬ w.category = 2 by omega)] at this ⊢
    simp [this]
theorem all_cv {base b : Nat} : ∀ (vs : List Value), vs.all (fun v => Nat.beq v.category 1) = true → (vs.map (cv base b)).all (fun v => Nat.beq v.category 1) = true
  | [], _ => rfl
  | w :: vs, ha => by
    simp only [List.all_cons, Bool.and_eq_true, List.map_cons] at ha ⊢
    exact ⟨by rw [cv_cat]; exact ha.1, all_cv vs ha.2⟩
theorem lvr_entry {base b n : Nat} {av : List Value} (ha : av.all (fun v => Nat.beq v.category 1) = true) (hl : Nat.ble av.length n = true) : lvr base b ((lg_sl (av.map (cv base b)) ++ List.replicate (n - (lg_sl (av.map (cv base b))).length) Slot.unset).toArray) n (av.map some ++ List.replicate (n - av.length) none) := by
  have hl := Nat.le_of_ble_eq_true hl
  have ha' := all_cv (base := base) (b := b) av ha
  have h := lv_entry (av.map (cv base b)) (n := n) (by rw [lg_sl_len _ ha', List.length_map]; exact hl)
  refine ⟨h.1, h.2.1, fun i v hi => ?_⟩
  have hi2 : av[i]? = some v := by
    by_cases hlt : i < av.length
    · rw [List.getElem?_append_left (by rw [List.length_map]; exact hlt), List.getElem?_map] at hi
      cases e : av[i]? with
      | none => rw [e] at hi; cases hi
      | some w => rw [e] at hi; exact congrArg some (Option.some.inj (Option.some.inj hi))
    · rw [List.getElem?_append_right (by rw [List.length_map]; omega), List.getElem?_replicate] at hi
      split at hi <;> cases hi
  have := h.2.2 (0 + i, cv base b v) (lv_args_mem _ 0 i _ ha' (by rw [List.getElem?_map, hi2]; rfl))
  rw [Nat.zero_add] at this
  exact this
theorem EvM_of {k : Nat} {av : List Value} {σ σ' : St} {r : Option Value} {ls : Lc} (hk0 : Nat.blt 1 k = true) (hk1 : Nat.blt k 118 = true) (hls : ls = av.map some ++ List.replicate (mL k - av.length) none) (ha : av.all (fun v => Nat.beq v.category 1) = true) (hl : Nat.ble av.length (mL k) = true) (hn : Nat.ble σ.2.2 σ'.2.2 = true) (hr : okR (mr k) r) (h : G 0 (fun _ => 0) k σ.2.2 0 ls [] σ r σ') : EvM k av σ r σ' := by
  have hn := Nat.le_of_ble_eq_true hn
  refine ⟨hn, fun l dC dI cI cZ cII base b => ?_⟩
  have hk9 : 1 < k := Nat.le_of_ble_eq_true hk0
  obtain ⟨f1, f2, f3, f4, f5, f6, f7, f8, f9, f10⟩ := mfacts (Nat.ble_eq_true_of_le (show 0 + 1 ≤ k by omega)) hk1
  refine Met.ofW (cc := mb k) (maxL := mL k) (ret := mr k) f5 rfl ?_
  intro p e s m args below meth c s₁ B hml hv
  obtain ⟨rfl, hpk, hsz, hP⟩ := hv
  have hts := atoms_spec (ws := .code (my k) (mb k) (mL k) (mr k) :: WT) B.pre
  have hown : s.vm.findClass (cn (mcl k)) = some m.cls := by rw [← f3]; exact findClass_of_methodNamed B.named
  have hlocks := B.notSynchronized
  have hret := B.returns
  have hx := B.exec
  have hb := B.bytes
  rw [lg_entry_eq]
  subst hls
  have h := h l dC dI cI cZ cII base b p e (headSpec (.code (my k) (mb k) (mL k) (mr k) :: WT) { frames := mfr k, cells := σ'.2.2 - σ.2.2, slots := slz σ'.2.2 - slz σ.2.2, locals := mlo k }).room s m _ below meth c s.heap [] (MQ below (fun (_ : Array Value) st oc t => (oc = .returned (r.map (cv base b)) ∧ t.heap.size = base + σ'.2.2 ∧ va_P (dC, dI) cls (vw cI cZ cII base σ') t.heap) ∧ va_F (fun q => base ≤ q) st t) (av.map (cv base b)).toArray s (σ'.2.2 - σ.2.2) (slz σ'.2.2 - slz σ.2.2) (fun q => base ≤ q)) _
    ⟨hx, hb, hml, hown, fun w hw => hts w (List.mem_cons_of_mem _ hw), hpk, fun e2 => by rw [(name_of_methodNamed B.named B.method).1]; exact f10 e2, Nat.le_refl _, Nat.le_refl _, by omega, fun e0 => by have e1 : k < 2 := Nat.le_of_ble_eq_true e0; omega⟩ (lvr_entry ha hl) hsz hP va_S.rf (Nat.le_refl _) (Nat.le_refl _) (Nat.le_refl _) ?_
  · rw [Nat.sub_self, Nat.sub_self] at h
    exact h
  · intro H' locs' pc' mls' h62 h64 hH' hP' hS'
    have h62 := Nat.le_of_ble_eq_true h62
    have h64 := Nat.le_of_ble_eq_true h64
    generalize hai : ct k pc' = ai at h62 h64
    have hne : Nat.beq ai.1 99 = false := by
      cases e9 : Nat.beq ai.1 99 with
      | false => rfl
      | true => have := Nat.eq_of_beq_eq_true e9; omega
    obtain ⟨hd, -, hsd, -⟩ := ct_ok hai hne
    obtain ⟨op, nx, a, b9, wp, ix, v⟩ := ai
    have h62 : 62 ≤ op := h62
    have h64 : op ≤ 65 := h64
    have hpost : ∀ (r' : Option Value), r' = r.map (cv base b) → ∀ t : State, t.heap = H' → s.WarmedH t.vm → ((Outcome.returned r' = .returned (r.map (cv base b)) ∧ t.heap.size = base + σ'.2.2 ∧ va_P (dC, dI) cls (vw cI cZ cII base σ') t.heap) ∧ va_F (fun q => base ≤ q) s t) := fun r' hr' t ht _ => ⟨⟨by rw [hr'], by rw [ht]; exact hH', by rw [ht]; exact hP'⟩, hS'.F ht⟩
    rcases (show op = 62 ∨ op = 63 ∨ op = 64 ∨ op = 65 by omega) with rfl | rfl | rfl | rfl
    · have hd : decode (mb k) pc' = .ok (.ireturn, 1) := hd
      have hsd : mr k = some .int ∨ mr k = some .boolean := of_decide_eq_true hsd
      rcases hsd with e | e
      · rw [e] at hr hret
        match r, hr with
        | some (.int x), _ => exact W.iret (v := x) hx hb hret (hpost _ rfl) hS'.2.2 hd
      · rw [e] at hr hret
        match r, hr with
        | some (.int x), hr => exact W.zret (v := x) hx hb hret hr (hpost _ rfl) hS'.2.2 hd
    · have hd : decode (mb k) pc' = .ok (.return_, 1) := hd
      have e : mr k = none := of_decide_eq_true hsd
      rw [e] at hr hret
      match r, hr with
      | none, _ => exact W.vret hx hb hret (hpost _ rfl) hS'.2.2 hd
    · have hd : decode (mb k) pc' = .ok (.dreturn, 1) := hd
      have e : mr k = some .double := of_decide_eq_true hsd
      rw [e] at hr hret
      match r, hr with
      | some (.double x), _ => exact W.dret (v := x) hx hb hret (hpost _ rfl) hS'.2.2 hd
    · have hd : decode (mb k) pc' = .ok (.lreturn, 1) := hd
      have e : mr k = some .long := of_decide_eq_true hsd
      rw [e] at hr hret
      match r, hr with
      | some (.long x), _ => exact W.lret (v := x) hx hb hret (hpost _ rfl) hS'.2.2 hd
/-- a switch's roads -/
def swG (P : Nat → Prop) (x : Int32) : Nat → List Nat → Prop
  | _, [] => True
  | i, t :: ts => (x = nI i → P t) ∧ swG P x (i + 1) ts
theorem swG_get {P : Nat → Prop} {x : Int32} : ∀ (ts : List Nat) (i j t : Nat), swG P x i ts → ts[j]? = some t → x = nI (i + j) → P t
  | [], _, _, _, _, h, _ => by simp at h
  | u :: us, i, j, t, hs, h, hx => by
    cases j with
    | zero =>
      rw [List.getElem?_cons_zero] at h
      cases h
      exact hs.1 hx
    | succ j =>
      rw [List.getElem?_cons_succ] at h
      exact swG_get us (i + 1) j t hs.2 h (by rw [hx]; congr 1; omega)

theorem G_switch {L : Nat} {xs : Nat → Int32} {k n0 pc nx a b wp ix : Nat} {v : Int32} {ls : Lc} {st : List Value} {σ σE : St} {r : Option Value} {x : Int32} {lo : Nat} {hi : Int} {ts : List Nat} {d : Nat} (hc : ct k pc = (42, nx, a, b, wp, ix, v)) (hsw : swt a = ((lo : Int), hi, ts, d)) (hlen : hi = (lo : Int) + (ts.length : Int) - 1) (hin : swG (fun t => G L xs k n0 t ls st σ r σE) x lo ts) (hout : x.toInt < (lo : Int) ∨ hi < x.toInt → G L xs k n0 d ls st σ r σE) : G L xs k n0 pc ls (.int x :: st) σ r σE := by
  intro l dC dI cI cZ cII base b0 p en R s m args below meth c H locs Q mls mc lv hH hP hS hn hc1 hc2 hret
  obtain ⟨hx, hb, hml, hown, hts, hpk, hini, hfr, hlo, hbs, hX⟩ := mc
  obtain ⟨hd, hnx, hsd, hk⟩ := ct_ok hc rfl
  have hd : decode (mb k) pc = .ok (.tableswitch (((swt a).2.2.2 : Int) - (pc : Int)) (swt a).1 (swt a).2.1 ((swt a).2.2.1.map (fun t : Nat => ((t : Nat) : Int) - (pc : Int))).toArray, 4 - pc % 4 + 12 + 4 * (swt a).2.2.1.length) := hd
  rw [hsw] at hd
  have hd : decode (mb k) pc = .ok (.tableswitch ((d : Int) - (pc : Int)) (lo : Int) hi ((ts.map (fun t : Nat => ((t : Nat) : Int) - (pc : Int))).toArray), 4 - pc % 4 + 12 + 4 * ts.length) := hd
  by_cases h : x.toInt < (lo : Int) ∨ hi < x.toInt
  · refine lv_tableOut hx hb (tgt := d) hd h (by omega) ?_
    exact hout h l dC dI cI cZ cII base b0 p en R s m args below meth c H locs Q mls ⟨hx, hb, hml, hown, hts, hpk, hini, hfr, hlo, hbs, hX⟩ lv hH hP hS hn hc1 hc2 hret
  · have h1 : ¬ x.toInt < (lo : Int) := fun q => h (Or.inl q)
    have h2 : ¬ hi < x.toInt := fun q => h (Or.inr q)
    obtain ⟨j, hj⟩ : ∃ j : Nat, x.toInt - (lo : Int) = j := ⟨(x.toInt - (lo : Int)).toNat, by omega⟩
    have hjl : j < ts.length := by omega
    have hget : ts[j]? = some ts[j] := List.getElem?_eq_getElem hjl
    refine lv_tableIn hx hb (off := (ts[j] : Int) - (pc : Int)) (tgt := ts[j]) hd h1 h2 ?_ (by omega) ?_
    · rw [hj]
      simp [hget]
    · have hxn : x = nI (lo + j) := by
        have e : x.toInt = ((lo + j : Nat) : Int) := by omega
        rw [← Int32.ofInt_toInt x, e]
        rfl
      exact (swG_get ts lo j ts[j] hin hget hxn) l dC dI cI cZ cII base b0 p en R s m args below meth c H locs Q mls ⟨hx, hb, hml, hown, hts, hpk, hini, hfr, hlo, hbs, hX⟩ lv hH hP hS hn hc1 hc2 hret
theorem G_objinit {L : Nat} {xs : Nat → Int32} {k n0 pc nx a b wp ix : Nat} {v : Int32} {ls : Lc} {st : List Value} {σ σE : St} {r : Option Value} {q : Nat} (hc : ct k pc = (61, nx, a, b, wp, ix, v)) (hrl : Nat.ble st.length 4 = true) (hq : Nat.blt q 24 = true) (kk : G L xs k n0 nx ls st σ r σE) : G L xs k n0 pc ls (.ref q :: st) σ r σE := by
  intro l dC dI cI cZ cII base b0 p en R s m args below meth c H locs Q mls mc lv hH hP hS hn hc1 hc2 hret
  obtain ⟨hx, hb, hml, hown, hts, hpk, hini, hfr, hlo, hbs, hX⟩ := mc
  obtain ⟨hd, hnx, hsd, hk⟩ := ct_ok hc rfl
  have hd : decode (mb k) pc = .ok (.invokespecial ix, 3) := hd
  have e1 : nx = pc + 3 := Nat.eq_of_beq_eq_true hnx
  subst e1
  have hsd : (memW wp (.methodLink (cn (mcl k)) ix objectInit) && Nat.ble 1 (mfr k) && Nat.ble 20 (mlo k)) = true := hsd
  simp only [Bool.and_eq_true] at hsd
  have g1 : 1 ≤ mfr k := Nat.le_of_ble_eq_true hsd.1.2
  have g2 : 20 ≤ mlo k := Nat.le_of_ble_eq_true hsd.2
  have hq32 : q < 24 := Nat.le_of_ble_eq_true hq
  show W p l en R s m args below meth c H locs _ _ Q (F0 m pc mls (cv base b0 (.ref q) :: st.map (cv base b0)))
  rw [cv_ref hq32]
  refine W.objInit hx hb hown (hts _ (memW_ok hsd.1.1)) (hts _ (memW_ok (p := 35) (by decide +kernel))) (hts _ (memW_ok (p := 36) (by decide +kernel))) rfl (lv.1.trans hml.symm) rfl hd (by omega) ?_ ?_
  · have := cat_four (base := base) (b := b0) hrl
    show 2 * 0 + _ + 12 ≤ _
    omega
  · exact kk l dC dI cI cZ cII base b0 p en R s m args below meth c H locs Q mls ⟨hx, hb, hml, hown, hts, hpk, hini, hfr, hlo, hbs, hX⟩ lv hH hP hS hn hc1 hc2 hret
theorem G_new {L : Nat} {xs : Nat → Int32} {k n0 pc nx a b wp ix : Nat} {v : Int32} {ls : Lc} {st : List Value} {σ σE : St} {r : Option Value} {q : Nat} (hc : ct k pc = (53, nx, a, b, wp, ix, v)) (hq : σ.2.2 = q) (hK : KT q = (3, a)) (hnE : Nat.ble (q + 1) σE.2.2 = true) (kk : G L xs k n0 nx ls (.ref q :: st) (u2 σ.1 q (fun _ => 0), u2 σ.2.1 q (fun _ => none), q + 1) r σE) : G L xs k n0 pc ls st σ r σE := by
  intro l dC dI cI cZ cII base b0 p en R s m args below meth c H locs Q mls mc lv hH hP hS hn hc1 hc2 hret
  obtain ⟨hx, hb, hml, hown, hts, hpk, hini, hfr, hlo, hbs, hX⟩ := mc
  obtain ⟨hd, hnx, hsd, hk⟩ := ct_ok hc rfl
  have hd : decode (mb k) pc = .ok (.new ix, 3) := hd
  have e1 : nx = pc + 3 := Nat.eq_of_beq_eq_true hnx
  subst e1
  subst hq
  have hsd : (Nat.blt a 6 && memW wp (.classLink (cn (mcl k)) ix (cn a)) && memW b (.instantiable (cn a) (cN a))) = true := hsd
  simp only [Bool.and_eq_true] at hsd
  have ha7 : a < 6 := Nat.le_of_ble_eq_true hsd.1.1
  obtain ⟨o1, o2, o3, o4⟩ := cok ha7
  have hnE : σ.2.2 + 1 ≤ σE.2.2 := Nat.le_of_ble_eq_true hnE
  have hs1 := slz_mono hnE
  have hs0 := slz_mono hn
  have hsz : szK σ.2.2 = cN a := by simp only [szK, hK]
  have hs2 : slz (σ.2.2 + 1) = slz σ.2.2 + cN a := by rw [← hsz]; rfl
  have h32 : σ.2.2 < 24 := KT_lt hK (by decide)
  have hini2 : (Cond.initialized (cn a)).before args s = true := hts _ (ini_ok ha7)
  have hKn := hpk.1.1 a _ (cls_at a ha7)
  refine W.newcK (n := cN a) hx hb hown (hts _ (memW_ok hsd.1.2)) (hts _ (memW_ok hsd.2)) hini2 rfl hd (by omega) (by omega) hKn.2.1 hH fun H1 kC hkC e1 z1 o1' => ?_
  have hP1 : va_P (dC, dI) cls (vw cI cZ cII base (u2 σ.1 σ.2.2 (fun _ => 0), u2 σ.2.1 σ.2.2 (fun _ => none), σ.2.2 + 1)) H1 := by
    rw [← vw_push (σ := σ) (σ' := (u2 σ.1 σ.2.2 (fun _ => 0), u2 σ.2.1 σ.2.2 (fun _ => none), σ.2.2 + 1)) rfl (fun j hj => vent_eq (u2_ne (by omega)) (u2_ne (by omega))) (vent_o hK)]
    refine (hP.kept (fun y x hy => ?_)).app (fun y x hy => ?_)
    · obtain ⟨y1, rfl⟩ := vw_at hy
      exact o1' _ (by show base + y < _; omega)
    · have hz : y < 1 := (List.getElem?_eq_some_iff.mp hy).1
      rw [show y = 0 by omega] at hy
      cases hy
      refine ⟨_, cls_at a ha7, (u_born (cY a) hts o1 hKn hkC e1 o2).to (fun j hj => ?_)⟩
      show defaultValue (cY a j) = vp_V (vfs base _ a σ.2.2) j
      rw [vp_V, List.getD_eq_getElem?_getD, vfs_at hj]
      cases hr : cR a j with
      | true => simp [u2, va_rf, (rck_ref (x := 0) ha7 hj hr).2.2]
      | false => simp [u2, rck_def ha7 hj hr]
  have hS1 : va_S (fun q => base ≤ q) s.heap H1 locs := ⟨by have := hS.1; omega, fun x h1 h2 => (o1' x (by have := hS.1; omega)).trans (hS.2.1 x h1 h2), hS.2.2⟩
  have hn1 : n0 ≤ σ.2.2 + 1 := by omega
  rw [show σ.2.2 - n0 + 1 = σ.2.2 + 1 - n0 by omega, show slz σ.2.2 - slz n0 + cN a = slz (σ.2.2 + 1) - slz n0 by omega]
  have h := kk l dC dI cI cZ cII base b0 p en R s m args below meth c H1 locs Q mls ⟨hx, hb, hml, hown, hts, hpk, hini, hfr, hlo, hbs, hX⟩ lv (z1.trans (by show base + σ.2.2 + 1 = base + (σ.2.2 + 1); omega)) hP1 hS1 hn1 hc1 hc2 hret
  rw [List.map_cons, cv_ref h32] at h
  exact h
theorem G_newarray {L : Nat} {xs : Nat → Int32} {k n0 pc nx a b wp ix : Nat} {v : Int32} {ls : Lc} {st : List Value} {σ σE : St} {r : Option Value} {x : Int32} {q n : Nat} (hc : ct k pc = (54, nx, a, b, wp, ix, v)) (hq : σ.2.2 = q) (e : x = nI n) (hK : KT q = (a, n)) (hnE : Nat.ble (q + 1) σE.2.2 = true) (kk : G L xs k n0 nx ls (.ref q :: st) (u2 σ.1 q (fun _ => 0), u2 σ.2.1 q (fun _ => none), q + 1) r σE) : G L xs k n0 pc ls (.int x :: st) σ r σE := by
  intro l dC dI cI cZ cII base b0 p en R s m args below meth c H locs Q mls mc lv hH hP hS hn hc1 hc2 hret
  obtain ⟨hx, hb, hml, hown, hts, hpk, hini, hfr, hlo, hbs, hX⟩ := mc
  obtain ⟨hd, hnx, hsd, hk⟩ := ct_ok hc rfl
  have e1 : nx = pc + 2 := Nat.eq_of_beq_eq_true hnx
  subst e1
  subst hq
  have ha2 : a < 2 := by
    have h9 := hsd
    simp only [sdI, Bool.and_eq_true] at h9
    exact Nat.le_of_ble_eq_true h9.2
  have hn3 := KT_n hK
  have hnE : σ.2.2 + 1 ≤ σE.2.2 := Nat.le_of_ble_eq_true hnE
  have hs1 := slz_mono hnE
  have hs0 := slz_mono hn
  have h32 : σ.2.2 < 24 := KT_lt hK (by omega)
  have hn0x : ¬ x < 0 := by rw [e]; exact nI_pos (by omega)
  have hcl : x.toNatClampNeg = n := by rw [e]; exact nI_clamp (by omega)
  have hn1 : n0 ≤ σ.2.2 + 1 := by omega
  have hS1 : ∀ H1 : Heap, H1.size = base + σ.2.2 + 1 → (∀ y, y < base + σ.2.2 → H1[y]? = H[y]?) → va_S (fun q => base ≤ q) s.heap H1 locs := fun H1 z1 o1' => ⟨by have := hS.1; omega, fun x h1 h2 => (o1' x (by have := hS.1; omega)).trans (hS.2.1 x h1 h2), hS.2.2⟩
  match a, ha2 with
  | 0, _ =>
    have hd : decode (mb k) pc = .ok (.newarray .int, 2) := hd
    have hsd : (memW wp (.arrayClass .int) && Nat.blt 0 2) = true := hsd
    rw [Bool.and_eq_true] at hsd
    have hsz : szK σ.2.2 = n := by simp only [szK, hK]
    have hs2 : slz (σ.2.2 + 1) = slz σ.2.2 + n := by rw [← hsz]; rfl
    refine va_newaK (atype := .int) hx hb (hts _ (memW_ok hsd.1)) rfl hd rfl hn0x hcl (by show n * 4 ≤ _; omega) (by omega) (by omega) hH fun H1 cA e1 z1 o1' hAr hNm => ?_
    have hcA : cA = cI := by
      have h9 := (hpk.1.2 0 _ rfl).2
      exact Option.some.inj (hNm.symm.trans h9)
    subst hcA
    have hP1 : va_P (dC, dI) cls (vw cA cZ cII base (u2 σ.1 σ.2.2 (fun _ => 0), u2 σ.2.1 σ.2.2 (fun _ => none), σ.2.2 + 1)) H1 := by
      rw [← vw_push (σ := σ) (σ' := (u2 σ.1 σ.2.2 (fun _ => 0), u2 σ.2.1 σ.2.2 (fun _ => none), σ.2.2 + 1)) rfl (fun j hj => vent_eq (u2_ne (by omega)) (u2_ne (by omega))) (vent_i hK)]
      refine (hP.kept (fun y x hy => ?_)).app (fun y x hy => ?_)
      · obtain ⟨y1, rfl⟩ := vw_at hy
        exact o1' _ (by show base + y < _; omega)
      · have hz : y < 1 := (List.getElem?_eq_some_iff.mp hy).1
        rw [show y = 0 by omega] at hy
        cases hy
        show H1[base + σ.2.2]? = some (vp_cell _ _)
        rw [e1, vp_cell_i]
        simp [u2, defaultValue, newarray.typeOf]
    rw [show σ.2.2 - n0 + 1 = σ.2.2 + 1 - n0 by omega, show slz σ.2.2 - slz n0 + n = slz (σ.2.2 + 1) - slz n0 by omega]
    have h := kk l dC dI cA cZ cII base b0 p en R s m args below meth c H1 locs Q mls ⟨hx, hb, hml, hown, hts, hpk, hini, hfr, hlo, hbs, hX⟩ lv (z1.trans (by show base + σ.2.2 + 1 = base + (σ.2.2 + 1); omega)) hP1 (hS1 H1 z1 o1') hn1 hc1 hc2 hret
    rw [List.map_cons, cv_ref h32] at h
    exact h
  | 1, _ =>
    have hd : decode (mb k) pc = .ok (.newarray .boolean, 2) := hd
    have hsd : (memW wp (.arrayClass .boolean) && Nat.blt 1 2) = true := hsd
    rw [Bool.and_eq_true] at hsd
    have hsz : szK σ.2.2 = n := by simp only [szK, hK]
    have hs2 : slz (σ.2.2 + 1) = slz σ.2.2 + n := by rw [← hsz]; rfl
    refine va_newaK (atype := .boolean) hx hb (hts _ (memW_ok hsd.1)) rfl hd rfl hn0x hcl (by show n * 1 ≤ _; omega) (by omega) (by omega) hH fun H1 cA e1 z1 o1' hAr hNm => ?_
    have hcA : cA = cZ := by
      have h9 := (hpk.1.2 1 _ rfl).2
      exact Option.some.inj (hNm.symm.trans h9)
    subst hcA
    have hP1 : va_P (dC, dI) cls (vw cI cA cII base (u2 σ.1 σ.2.2 (fun _ => 0), u2 σ.2.1 σ.2.2 (fun _ => none), σ.2.2 + 1)) H1 := by
      rw [← vw_push (σ := σ) (σ' := (u2 σ.1 σ.2.2 (fun _ => 0), u2 σ.2.1 σ.2.2 (fun _ => none), σ.2.2 + 1)) rfl (fun j hj => vent_eq (u2_ne (by omega)) (u2_ne (by omega))) (vent_z hK)]
      refine (hP.kept (fun y x hy => ?_)).app (fun y x hy => ?_)
      · obtain ⟨y1, rfl⟩ := vw_at hy
        exact o1' _ (by show base + y < _; omega)
      · have hz : y < 1 := (List.getElem?_eq_some_iff.mp hy).1
        rw [show y = 0 by omega] at hy
        cases hy
        show H1[base + σ.2.2]? = some (vp_cell _ _)
        rw [e1, vp_cell_i]
        simp [u2, defaultValue, newarray.typeOf]
    rw [show σ.2.2 - n0 + 1 = σ.2.2 + 1 - n0 by omega, show slz σ.2.2 - slz n0 + n = slz (σ.2.2 + 1) - slz n0 by omega]
    have h := kk l dC dI cI cA cII base b0 p en R s m args below meth c H1 locs Q mls ⟨hx, hb, hml, hown, hts, hpk, hini, hfr, hlo, hbs, hX⟩ lv (z1.trans (by show base + σ.2.2 + 1 = base + (σ.2.2 + 1); omega)) hP1 (hS1 H1 z1 o1') hn1 hc1 hc2 hret
    rw [List.map_cons, cv_ref h32] at h
    exact h
