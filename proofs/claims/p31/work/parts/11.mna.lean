theorem vx_outer (c : ClassId) (N h0 : Nat) : ∀ i : Nat, Jvm.Free.Multi.outerC c N h0 i = arrV c N (fun j => va_rf (if j < i then some (h0 + 1 + j) else none))
  | 0 => by
    show ({ cls := c, slots := Array.replicate N .null, vm := .none } : Cell) = _
    rw [arrV_new]
    refine congrArg (arrV c N) (funext fun j => ?_)
    simp [va_rf]
  | i + 1 => by
    show (Jvm.Free.Multi.outerC c N h0 i).setSlot i (.ref (h0 + 1 + i)) = _
    rw [vx_outer c N h0 i, arrV_store]
    refine congrArg (arrV c N) (funext fun j => ?_)
    by_cases e : j = i
    · subst e
      simp [updV, va_rf]
    · by_cases h : j < i
      · simp [updV, e, h, Nat.lt_succ_of_lt h]
      · simp [updV, e, h, show ¬ j < i + 1 by omega]
theorem G_mna {L : Nat} {xs : Nat → Int32} {k n0 pc nx a b wp ix : Nat} {v : Int32} {ls : Lc} {st : List Value} {σ σE : St} {r : Option Value} {x y : Int32} {q : Nat} (hc : ct k pc = (55, nx, a, b, wp, ix, v)) (hq : σ.2.2 = q) (ex : x = nI 4) (ey : y = nI 101) (hK : KT q = (2, 4)) (hKr : ∀ j, j < 4 → KT (q + 1 + j) = (0, 101)) (hnE : Nat.ble (q + 5) σE.2.2 = true) (kk : G L xs k n0 nx ls (.ref q :: st) (fun i => if i < q then σ.1 i else fun _ => 0, u2 σ.2.1 q (fun j => if j < 4 then some (q + 1 + j) else none), q + 5) r σE) : G L xs k n0 pc ls (.int y :: .int x :: st) σ r σE := by
  intro l dC dI cI cZ cII base b0 p en R s m args below meth c H locs Q mls mc lv hH hP hS hn hc1 hc2 hret
  obtain ⟨hx, hb, hml, hown, hts, hpk, hini, hfr, hlo, hbs, hX⟩ := mc
  obtain ⟨hd, hnx, hsd, hk⟩ := ct_ok hc rfl
  have hd : decode (mb k) pc = .ok (.multianewarray ix 2, 4) := hd
  have e1 : nx = pc + 4 := Nat.eq_of_beq_eq_true hnx
  subst e1
  subst hq
  have hsd : memW wp (.classLink (cn (mcl k)) ix "[[I") = true := hsd
  have hnE : σ.2.2 + 5 ≤ σE.2.2 := Nat.le_of_ble_eq_true hnE
  have hs1 := slz_mono hnE
  have hs0 := slz_mono hn
  have h32 : σ.2.2 < 24 := KT_lt hK (by decide)
  have hx0 : ¬ x < 0 := by rw [ex]; decide
  have hy0 : ¬ y < 0 := by rw [ey]; decide
  have hxc : x.toNatClampNeg = 4 := by rw [ex]; decide
  have hyc : y.toNatClampNeg = 101 := by rw [ey]; decide
  have z0 : szK σ.2.2 = 4 := by simp only [szK, hK]
  have z1 : szK (σ.2.2 + 1) = 101 := by simp only [szK, show KT (σ.2.2 + 1) = (0, 101) from hKr 0 (by decide)]
  have z2 : szK (σ.2.2 + 2) = 101 := by simp only [szK, show KT (σ.2.2 + 2) = (0, 101) from hKr 1 (by decide)]
  have z3 : szK (σ.2.2 + 3) = 101 := by simp only [szK, show KT (σ.2.2 + 3) = (0, 101) from hKr 2 (by decide)]
  have z4 : szK (σ.2.2 + 4) = 101 := by simp only [szK, show KT (σ.2.2 + 4) = (0, 101) from hKr 3 (by decide)]
  have hs2 : slz (σ.2.2 + 5) = slz σ.2.2 + 4 + 404 := by
    show slz σ.2.2 + szK σ.2.2 + szK (σ.2.2 + 1) + szK (σ.2.2 + 2) + szK (σ.2.2 + 3) + szK (σ.2.2 + 4) = _
    rw [z0, z1, z2, z3, z4]
  intro T hT Xs
  obtain ⟨vm₁, cA, comp, -, fA, fC, hO, -, X', step⟩ := Xs.multianewarray2F (ty := .int) hx hown (show (Cond.classLink (cn (mcl k)) ix ("[" ++ (FieldType.array .int).toString)).before args s = true from hts _ (memW_ok hsd)) hpk.2.1 (hts _ (memW_ok (p := 49) (by decide +kernel))) (g := F0 m pc mls (.int y :: .int x :: st.map (cv base b0))) rfl (by rw [hb]; exact hd) rfl hx0 hy0 (by rw [hxc]; decide) (by rw [hyc]; decide) (by rw [hyc]; decide) rfl rfl (by rw [hxc]; omega) (by rw [hxc, hyc]; omega)
  have ec : comp = cI := by
    have h9 := (hpk.1.2 0 _ rfl).2
    exact Option.some.inj (fC.symm.trans h9)
  subst ec
  have ec : cA = cII := by
    have h9 := (hpk.1.2 2 _ rfl).2
    exact Option.some.inj (fA.symm.trans h9)
  subst ec
  rw [hxc, hyc] at X' step
  generalize hF : Jvm.Free.Multi.fill (T.setVm vm₁) cA comp 4 101 (defaultValue .int) 4 = F at X' step
  have hTh : (T.setVm vm₁).heap = H := hT
  obtain ⟨f1, f2, -, -⟩ := Jvm.Free.Multi.fill_facts (T.setVm vm₁) cA comp 4 101 (defaultValue .int) 4
  rw [hF, hTh] at f1 f2
  have hold : ∀ z : Nat, z < H.size → F.heap[z]? = H[z]? := fun z hz => by
    have := Jvm.Free.Multi.fill_old (T.setVm vm₁) cA comp 4 101 (defaultValue .int) (a := z) (by rw [hTh]; exact hz) 4
    rw [hF, hTh] at this
    exact this
  have hrow : ∀ j : Nat, j < 4 → F.heap[H.size + 1 + j]? = some (vp_cell comp (101, .inl (fun _ => 0))) := fun j hj => by
    have := Jvm.Free.Multi.fill_inner (T.setVm vm₁) cA comp 4 101 (defaultValue .int) 4 j hj
    rw [hF, hTh] at this
    rw [this, vp_cell_i]
    exact congrArg some (arrV_new comp 101 (.int 0))
  have hout : Jvm.Free.Multi.outerC cA 4 H.size 4 = vp_cell cA (4, .inr (.inr (.inr (.inr (fun i => if i < 4 then some (H.size + 1 + i) else none))))) := by
    rw [vp_cell_q]
    exact vx_outer cA 4 H.size 4
  rw [hout] at f2
  have hP1 : va_P (dC, dI) cls (vw comp cZ cA base (fun i => if i < σ.2.2 then σ.1 i else fun _ => 0, u2 σ.2.1 σ.2.2 (fun j => if j < 4 then some (σ.2.2 + 1 + j) else none), σ.2.2 + 5)) F.heap := by
    intro y1 w hw
    obtain ⟨hlt, rfl⟩ := vw_at hw
    have hlt : y1 < σ.2.2 + 5 := hlt
    rcases Nat.lt_or_ge y1 σ.2.2 with h | h
    · rw [vent_eq (σ := σ) (by simp [h]) (u2_ne (by omega))]
      have h1 := hP y1 _ (vw_get h)
      exact h1.kept (hold _ (by show base + y1 < _; omega))
    · rcases Nat.eq_or_lt_of_le h with h | h
      · subst h
        rw [vent_a hK]
        show F.heap[base + σ.2.2]? = some (vp_cell _ _)
        rw [← hH, f2]
        refine congrArg some (congrArg (vp_cell cA) ?_)
        simp only [u2, if_true]
        refine congrArg (fun f => ((4, .inr (.inr (.inr (.inr f)))) : vp_A)) (funext fun j => ?_)
        by_cases hj : j < 4
        · simp [hj, hH]
          omega
        · simp [hj]
      · obtain ⟨j, rfl⟩ : ∃ j, y1 = σ.2.2 + 1 + j := ⟨y1 - (σ.2.2 + 1), by omega⟩
        rw [vent_i (hKr j (by omega))]
        show F.heap[base + (σ.2.2 + 1 + j)]? = some (vp_cell _ _)
        have h1 := hrow j (by omega)
        rw [hH, show base + σ.2.2 + 1 + j = base + (σ.2.2 + 1 + j) by omega] at h1
        rw [h1]
        simp [show ¬ σ.2.2 + 1 + j < σ.2.2 by omega]
  have hS1 : va_S (fun q => base ≤ q) s.heap F.heap locs := ⟨by have := hS.1; omega, fun z h1 h2 => (hold z (by have := hS.1; omega)).trans (hS.2.1 z h1 h2), hS.2.2⟩
  have hn1 : n0 ≤ σ.2.2 + 5 := by omega
  have h := kk l dC dI comp cZ cA base b0 p en R s m args below meth c F.heap locs Q mls ⟨hx, hb, hml, hown, hts, hpk, hini, hfr, hlo, hbs, hX⟩ lv (by show F.heap.size = base + (σ.2.2 + 5); omega) hP1 hS1 hn1 hc1 hc2 hret
  rw [List.map_cons, cv_ref h32] at h
  rw [show σ.2.2 - n0 + 1 + 4 = σ.2.2 + 5 - n0 by omega, show slz σ.2.2 - slz n0 + 4 + 4 * 101 = slz (σ.2.2 + 5) - slz n0 by omega] at X'
  obtain ⟨t, a1, b1⟩ := h F rfl X'
  refine ⟨t, step t ?_, b1⟩
  have e : T.heap.size = base + σ.2.2 := by rw [hT]; exact hH
  rw [e]
  exact a1
