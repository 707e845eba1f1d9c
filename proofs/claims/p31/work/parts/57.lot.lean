/-! a method that reads the script: lot -/
def EvX (L : Nat) (xs : Nat → Int32) (k : Nat) (av : List Value) (σ : St) (r : Option Value) (σ' : St) : Prop := σ.2.2 ≤ σ'.2.2 ∧
  ∀ (l : Launch) (dC : Nat → ClassId) (dI : Nat → Nat → Nat) (cI cZ cII : ClassId) (base b : Nat),
    Met l (my k) (.code (my k) (mb k) (mL k) (mr k) :: WT) { frames := mfr k, cells := σ'.2.2 - σ.2.2, slots := slz σ'.2.2 - slz σ.2.2, locals := mlo k }
      (va_Pc (av.map (cv base b)) (fun U => (PK dC dI cI cZ cII U ∧ U.heap.size = base + σ.2.2 ∧ va_P (dC, dI) cls (vw cI cZ cII base σ) U.heap) ∧ va_X b L xs U U.heap ∧ b < U.heap.size ∧ b < base))
      (fun _ st oc t => (oc = .returned (r.map (cv base b)) ∧ t.heap.size = base + σ'.2.2 ∧ va_P (dC, dI) cls (vw cI cZ cII base σ') t.heap) ∧ va_F (fun q => base ≤ q) st t)
      (σ'.2.2 - σ.2.2) (slz σ'.2.2 - slz σ.2.2) (fun q => base ≤ q)
theorem vx_blindX {dC : Nat → ClassId} {dI : Nat → Nat → Nat} {cI cZ cII : ClassId} {av : List Value} {n b L base : Nat} {xs : Nat → Int32} {ws : va_W} : FrameBlind (va_Pc av (fun U => (PK dC dI cI cZ cII U ∧ U.heap.size = n ∧ va_P (dC, dI) cls ws U.heap) ∧ va_X b L xs U U.heap ∧ b < U.heap.size ∧ b < base)) := by
  intro a U g mk q
  obtain ⟨q0, ⟨q1, q2, q3⟩, q4, q5, q6⟩ := q
  exact ⟨q0, ⟨PK.same (s := U) (U := U.calling g mk a) rfl q1, q2, q3⟩, va_X.moved (u := U) (U := U.calling g mk a) (Vm.Alike.refl _) q4, q5, q6⟩
theorem EvX_of {L : Nat} {xs : Nat → Int32} {k : Nat} {av : List Value} {σ σ' : St} {r : Option Value} {ls : Lc} (hk0 : Nat.blt 0 k = true) (hk1 : Nat.blt k 118 = true) (hls : ls = av.map some ++ List.replicate (mL k - av.length) none) (ha : av.all (fun v => Nat.beq v.category 1) = true) (hl : Nat.ble av.length (mL k) = true) (hn : Nat.ble σ.2.2 σ'.2.2 = true) (hr : okR (mr k) r) (h : G L xs k σ.2.2 0 ls [] σ r σ') : EvX L xs k av σ r σ' := by
  have hn := Nat.le_of_ble_eq_true hn
  refine ⟨hn, fun l dC dI cI cZ cII base b => ?_⟩
  obtain ⟨f1, f2, f3, f4, f5, f6, f7, f8, f9, f10⟩ := mfacts hk0 hk1
  refine Met.ofW (cc := mb k) (maxL := mL k) (ret := mr k) f5 rfl ?_
  intro p e s m args below meth c s₁ B hml hv
  obtain ⟨rfl, ⟨hpk, hsz, hP⟩, hXX, hX2, hX3⟩ := hv
  have hts := atoms_spec (ws := .code (my k) (mb k) (mL k) (mr k) :: WT) B.pre
  have hown : s.vm.findClass (cn (mcl k)) = some m.cls := by rw [← f3]; exact findClass_of_methodNamed B.named
  have hlocks := B.notSynchronized
  have hret := B.returns
  have hx := B.exec
  have hb := B.bytes
  rw [lg_entry_eq]
  subst hls
  have h := h l dC dI cI cZ cII base b p e (headSpec (.code (my k) (mb k) (mL k) (mr k) :: WT) { frames := mfr k, cells := σ'.2.2 - σ.2.2, slots := slz σ'.2.2 - slz σ.2.2, locals := mlo k }).room s m _ below meth c s.heap [] (MQ below (fun (_ : Array Value) st oc t => (oc = .returned (r.map (cv base b)) ∧ t.heap.size = base + σ'.2.2 ∧ va_P (dC, dI) cls (vw cI cZ cII base σ') t.heap) ∧ va_F (fun q => base ≤ q) st t) (av.map (cv base b)).toArray s (σ'.2.2 - σ.2.2) (slz σ'.2.2 - slz σ.2.2) (fun q => base ≤ q)) _
    ⟨hx, hb, hml, hown, fun w hw => hts w (List.mem_cons_of_mem _ hw), hpk, fun e2 => by rw [(name_of_methodNamed B.named B.method).1]; exact f10 e2, Nat.le_refl _, Nat.le_refl _, by omega, fun _ => ⟨hXX, hX2, hX3⟩⟩ (lvr_entry ha hl) hsz hP va_S.rf (Nat.le_refl _) (Nat.le_refl _) (Nat.le_refl _) ?_
  · rw [Nat.sub_self, Nat.sub_self] at h
    exact h
  · intro H' locs' pc' mls' h62 h64 hH' hP' hS'
    have h62 := Nat.le_of_ble_eq_true h62
    have h64 := Nat.le_of_ble_eq_true h64
    generalize hai : ct k pc' = ai at h62 h64
    have hne : Nat.beq ai.1 99 = false := by
      cases e9 : Nat.beq ai.1 99 with
      | false => rfl
      | true => have := Nat.eq_of_beq_eq_true e9; omega
    obtain ⟨hd, -, hsd, -⟩ := ct_ok hai hne
    obtain ⟨op, nx, a, b9, wp, ix, v⟩ := ai
    have h62 : 62 ≤ op := h62
    have h64 : op ≤ 65 := h64
    have hpost : ∀ (r' : Option Value), r' = r.map (cv base b) → ∀ t : State, t.heap = H' → s.WarmedH t.vm → ((Outcome.returned r' = .returned (r.map (cv base b)) ∧ t.heap.size = base + σ'.2.2 ∧ va_P (dC, dI) cls (vw cI cZ cII base σ') t.heap) ∧ va_F (fun q => base ≤ q) s t) := fun r' hr' t ht _ => ⟨⟨by rw [hr'], by rw [ht]; exact hH', by rw [ht]; exact hP'⟩, hS'.F ht⟩
    rcases (show op = 62 ∨ op = 63 ∨ op = 64 ∨ op = 65 by omega) with rfl | rfl | rfl | rfl
    · have hd : decode (mb k) pc' = .ok (.ireturn, 1) := hd
      have hsd : mr k = some .int ∨ mr k = some .boolean := of_decide_eq_true hsd
      rcases hsd with e | e
      · rw [e] at hr hret
        match r, hr with
        | some (.int x), _ => exact W.iret (v := x) hx hb hret (hpost _ rfl) hS'.2.2 hd
      · rw [e] at hr hret
        match r, hr with
        | some (.int x), hr => exact W.zret (v := x) hx hb hret hr (hpost _ rfl) hS'.2.2 hd
    · have hd : decode (mb k) pc' = .ok (.return_, 1) := hd
      have e : mr k = none := of_decide_eq_true hsd
      rw [e] at hr hret
      match r, hr with
      | none, _ => exact W.vret hx hb hret (hpost _ rfl) hS'.2.2 hd
    · have hd : decode (mb k) pc' = .ok (.dreturn, 1) := hd
      have e : mr k = some .double := of_decide_eq_true hsd
      rw [e] at hr hret
      match r, hr with
      | some (.double x), _ => exact W.dret (v := x) hx hb hret (hpost _ rfl) hS'.2.2 hd
    · have hd : decode (mb k) pc' = .ok (.lreturn, 1) := hd
      have e : mr k = some .long := of_decide_eq_true hsd
      rw [e] at hr hret
      match r, hr with
      | some (.long x), _ => exact W.lret (v := x) hx hb hret (hpost _ rfl) hS'.2.2 hd
theorem G_callX {L : Nat} {xs : Nat → Int32} {k n0 pc nx a b wp ix : Nat} {v : Int32} {ls : Lc} {st : List Value} {σ σE : St} {r : Option Value} {kc : Nat} {As rest : List Value} {σ1 : St} {r1 : Option Value} (hk2 : Nat.blt k 2 = true) (hM : EvX L xs kc (As) σ r1 σ1) (hc : ct k pc = (57, nx, kc, b, wp, ix, v)) (hlen : Nat.beq As.length (mnp kc) = true) (hst : st = As.reverse ++ rest) (hrl : Nat.ble rest.length 4 = true) (hnE : Nat.ble σ1.2.2 σE.2.2 = true) (kk : G L xs k n0 nx ls (r1.toList ++ rest) σ1 r σE) : G L xs k n0 pc ls st σ r σE := by
  intro l dC dI cI cZ cII base b0 p en R s m args below meth c H locs Q mls mc lv hH hP hS hn hc1 hc2 hret
  obtain ⟨hx, hb, hml, hown, hts, hpk, hini, hfr, hlo, hbs, hX⟩ := mc
  obtain ⟨hd, hnx, hsd, hk⟩ := ct_ok hc rfl
  have hd : decode (mb k) pc = .ok (.invokestatic ix, 3) := hd
  have e1 : nx = pc + 3 := Nat.eq_of_beq_eq_true hnx
  subst e1
  have hsd : (Nat.blt 0 kc && Nat.blt kc 118 && memW wp (.methodLink (cn (mcl k)) ix (my kc)) && Nat.beq (mkd kc) 1 && Nat.ble (mfr kc + 1) (mfr k) && Nat.ble (8 + (mL kc + 11) + mlo kc) (mlo k)) = true := hsd
  simp only [Bool.and_eq_true, decide_eq_true_eq] at hsd
  obtain ⟨⟨⟨⟨⟨s1, s2⟩, s3⟩, s4⟩, s5⟩, s6⟩ := hsd
  have s4 := Nat.eq_of_beq_eq_true s4
  have s5 : mfr kc + 1 ≤ mfr k := Nat.le_of_ble_eq_true s5
  have s6 : 8 + (mL kc + 11) + mlo kc ≤ mlo k := Nat.le_of_ble_eq_true s6
  have hlen := Nat.eq_of_beq_eq_true hlen
  have hnE : σ1.2.2 ≤ σE.2.2 := Nat.le_of_ble_eq_true hnE
  obtain ⟨f1, f2, f3, f4, f5, f6, f7, f8, f9, f10⟩ := mfacts s1 s2
  obtain ⟨hle, hM⟩ := hM
  have hM := hM l dC dI cI cZ cII base b0
  have hm := slz_mono hnE
  have hm1 := slz_mono hle
  have hm0 := slz_mono hn
  obtain ⟨x1, x2, x3⟩ := hX hk2
  have hq : H[b0]? = s.heap[b0]? := hS.2.1 b0 x2 (show ¬ base ≤ b0 by omega)
  subst hst
  refine vx_run (A := fun q => base ≤ q) (rv := r1.map (cv base b0)) (B := fun t => t.heap.size = base + σ1.2.2 ∧ va_P (dC, dI) cls (vw cI cZ cII base σ1) t.heap) (va_runS (As := As.map (cv base b0)) (rest := rest.map (cv base b0)) ⟨hx, hb, hml, hown, hts⟩ hM ⟨⟨rfl, rfl, Nat.le_trans s5 hfr, Nat.le_trans s6 hlo, pay_in hts (ws_good f1), List.mem_cons_self, hts _ f1, hts _ f2, f4, (fun sig h => by rw [h] at f6; exact (Option.some.inj f6).symm), hts _ (memW_ok s3)⟩, hts _ (f7 s4)⟩ ⟨vx_blindX, fun U hU hW => ⟨rfl, ⟨PK.warm hW hpk, by rw [hU]; exact hH, by rw [hU]; exact hP⟩, by rw [hU]; exact va_X.moved hW.alike (va_X.kept x1 hq), by rw [hU]; exact Nat.lt_of_lt_of_le x2 hS.1, x3⟩⟩ rfl (by rw [List.length_map]; exact hlen) lv.1 (by simp [List.map_append, List.map_reverse]) (lv_room (cat_four hrl)) hd ⟨by omega, by omega⟩) hS (fun t H1 locs1 ht hB hS1 => ?_)
  rw [toList_map, show σ.2.2 - n0 + (σ1.2.2 - σ.2.2) = σ1.2.2 - n0 by omega, show slz σ.2.2 - slz n0 + (slz σ1.2.2 - slz σ.2.2) = slz σ1.2.2 - slz n0 by omega]
  rw [ht] at hB
  have hn := Nat.le_trans hn hle
  exact kk l dC dI cI cZ cII base b0 p en R s m args below meth c H1 locs1 Q mls ⟨hx, hb, hml, hown, hts, hpk, hini, hfr, hlo, hbs, hX⟩ lv hB.1 hB.2 hS1 hn hc1 hc2 hret
set_option maxRecDepth 100000 in
/-- lot answers some int -/
theorem ex_lot {L : Nat} {xs : Nat → Int32} (hL : L < 2 ^ 31) (S : Sf) (R : Rf) {j : Nat} (hj : j < 2 ^ 31) : ∃ v : Int32, EvX L xs kLaw_lot [.ref 1000, .int (nI j)] (mk S R) (some (.int v)) (mk S R) := by
  by_cases h : j < L
  · refine ⟨xs j, EvX_of (ls := [some (.ref 1000), some (.int (nI j))]) rfl rfl rfl rfl rfl rfl trivial ?_⟩
    refine G_iload_n rfl rfl ?_
    refine G_aload_n rfl rfl ?_
    refine G_slen rfl rfl ?_
    refine G_icmp_ge rfl (fun q => absurd q (nI_ge h hL)) (fun _ => ?_)
    refine G_aload_n rfl rfl ?_
    refine G_iload_n rfl rfl ?_
    refine G_saload (q := 0) (n := 0) rfl rfl rfl h hL ?_
    refine G_goto rfl ?_
    exact G_ret rfl rfl rfl rfl
  · refine ⟨(-2038419) * (nI j + 4721) + 4481, EvX_of (ls := [some (.ref 1000), some (.int (nI j))]) rfl rfl rfl rfl rfl rfl trivial ?_⟩
    · refine G_iload_n rfl rfl ?_
      refine G_aload_n rfl rfl ?_
      refine G_slen rfl rfl ?_
      refine G_icmp_ge rfl (fun _ => ?_) (fun q => absurd (nI_le (show L ≤ j by omega) hj) q)
      refine G_ldc rfl ?_
      refine G_iload_n rfl rfl ?_
      refine G_sipush rfl ?_
      refine G_iadd rfl ?_
      refine G_imul rfl ?_
      refine G_sipush rfl ?_
      refine G_iadd rfl ?_
      exact G_ret rfl rfl rfl rfl
