/-- a method's contract: from the cells σ with these arguments it comes to the cells σ' with the answer r -/
def EvM (k : Nat) (av : List Value) (σ : St) (r : Option Value) (σ' : St) : Prop := σ.2.2 ≤ σ'.2.2 ∧
  ∀ (l : Launch) (dC : Nat → ClassId) (dI : Nat → Nat → Nat) (cI cZ cII : ClassId) (base b : Nat),
    Met l (my k) (.code (my k) (mb k) (mL k) (mr k) :: WT) { frames := mfr k, cells := σ'.2.2 - σ.2.2, slots := slz σ'.2.2 - slz σ.2.2, locals := mlo k }
      (va_Pc (av.map (cv base b)) (fun U => PK dC dI cI cZ cII U ∧ U.heap.size = base + σ.2.2 ∧ va_P (dC, dI) cls (vw cI cZ cII base σ) U.heap))
      (fun _ st oc t => (oc = .returned (r.map (cv base b)) ∧ t.heap.size = base + σ'.2.2 ∧ va_P (dC, dI) cls (vw cI cZ cII base σ') t.heap) ∧ va_F (fun q => base ≤ q) st t)
      (σ'.2.2 - σ.2.2) (slz σ'.2.2 - slz σ.2.2) (fun q => base ≤ q)
theorem mfacts {a : Nat} (h0 : Nat.blt 0 a = true) (h1 : Nat.blt a 118 = true) :
    (Cond.code (my a) (mb a) (mL a) (mr a) ∈ WT) ∧ (Cond.initialized (my a).cls ∈ WT) ∧ (my a).cls = cn (mcl a) ∧ ((my a).cls ≠ "java/lang/invoke/MethodHandle" ∧ (my a).cls ≠ "java/lang/invoke/VarHandle") ∧ plainName (my a).cls = true ∧ (parseMethodDescriptor (my a).desc).map (fun d => d.parameters.length) = some (mnp a) ∧
    (mkd a = 1 → Cond.static (my a) ∈ WT) ∧ (mkd a ≠ 1 → Cond.instanceMethod (my a) ∈ WT) ∧ (mkd a = 0 → Cond.selects (my a).cls (my a) (my a) ∈ WT) ∧ (mkd a = 2 → (my a).name = "<init>") := by
  have g0 : 0 < a := Nat.le_of_ble_eq_true h0
  have g1 : a < 118 := Nat.le_of_ble_eq_true h1
  have h := mchk_all (a - 1) (by omega)
  rw [show a - 1 + 1 = a by omega, mchk] at h
  simp only [Bool.and_eq_true, decide_eq_true_eq] at h
  obtain ⟨⟨⟨⟨⟨⟨q1, q2⟩, q3⟩, q4⟩, q5⟩, q6⟩, q7⟩ := h
  have q1 : Cond.code (my a) (mb a) (mL a) (mr a) ∈ WT := by
    by_cases h12 : a < 12
    · exact mcw a g0 h12
    · have hb : Nat.blt a 12 = false := by
        cases e : Nat.blt a 12 with
        | false => rfl
        | true => exact absurd (Nat.le_of_ble_eq_true e) h12
      rw [hb, cond_false] at q1
      exact memW_ok q1
  refine ⟨q1, memW_ok q2, q3, q4, q5, q6, fun e => ?_, fun e => ?_, fun e => ?_, fun e => ?_⟩
  · rw [e] at q7
    exact memW_ok q7
  · have e1 : Nat.beq (mkd a) 1 = false := by
      cases e2 : Nat.beq (mkd a) 1 with
      | false => rfl
      | true => exact absurd (Nat.eq_of_beq_eq_true e2) e
    rw [e1, cond_false, Bool.and_eq_true] at q7
    exact memW_ok q7.1
  · rw [e] at q7
    have q8 : (memW (mp3 a) (.instanceMethod (my a)) && memW (mp4 a) (.selects (my a).cls (my a) (my a))) = true := q7
    rw [Bool.and_eq_true] at q8
    exact memW_ok q8.2
  · rw [e] at q7
    have q8 : (memW (mp3 a) (.instanceMethod (my a)) && decide ((my a).name = "<init>")) = true := q7
    rw [Bool.and_eq_true] at q8
    exact of_decide_eq_true q8.2
theorem ws_good {w0 : Cond} (h : w0 ∈ WT) : GoodIn WT (w0 :: WT) := fun w hw => by
  rcases List.mem_cons.mp hw with rfl | hw
  · exact ⟨h, WT_good h⟩
  · exact ⟨hw, WT_good hw⟩
theorem vx_blind {dC : Nat → ClassId} {dI : Nat → Nat → Nat} {cI cZ cII : ClassId} {av : List Value} {n : Nat} {ws : va_W} : FrameBlind (va_Pc av (fun U => PK dC dI cI cZ cII U ∧ U.heap.size = n ∧ va_P (dC, dI) cls ws U.heap)) := by
  intro a U g mk q
  obtain ⟨q0, q1, q2, q3⟩ := q
  exact ⟨q0, PK.same (s := U) (U := U.calling g mk a) rfl q1, q2, q3⟩
section VXR
variable {p : Program} {l : Launch} {e : Env} {R : Room} {s : State} {m : MethodId} {args : Array Value} {below : List Frame} {meth : Method} {c : Code} {H : Heap} {locs : List Loc} {cells slots : Nat} {Q : State → Prop}
theorem vx_run {A : Nat → Prop} {H0 : Heap} {mc ms pc : Nat} {ls : Array Slot} {rest st0 : List Value} {rv : Option Value} {B : State → Prop} (hr : va_Run p l e R s m args below meth c H locs cells slots mc ms (F0 m pc ls st0) rest (fun st oc t => (oc = .returned rv ∧ B t) ∧ va_F A st t) A) (hS : va_S A H0 H locs)
    (kk : ∀ (t : State) (H1 : Heap) (locs1 : List Loc), t.heap = H1 → B t → va_S A H0 H1 locs1 → W p l e R s m args below meth c H1 locs1 (cells + mc) (slots + ms) Q (F0 m (pc + 3) ls (rv.toList ++ rest))) : W p l e R s m args below meth c H locs cells slots Q (F0 m pc ls st0) := by
  intro T hT X
  obtain ⟨v, st₀, t, T', L, h0, X', hL, e1, e2, ⟨⟨hv, hb⟩, hz, hk⟩, st⟩ := hr T hT X
  cases hv
  rw [h0] at hz hk
  obtain ⟨t2, a1, b1⟩ := kk t T'.heap (locs ++ L) e1.symm hb
    ⟨Nat.le_trans hS.1 (by rw [e1]; exact hz), fun q h1 h2 => by rw [e1, hk q (Nat.lt_of_lt_of_le h1 hS.1) h2]; exact hS.2.1 q h1 h2, fun q hq => by
      rcases List.mem_append.mp hq with h | h
      · exact hS.2.2 q h
      · exact hL q h⟩ T' rfl X'
  exact ⟨t2, st t2 a1, b1⟩
end VXR
theorem cat_le (v : Value) : v.category ≤ 2 := by
  rcases lv_cat v with h | h <;> omega
theorem cat_sum {base b : Nat} (l : List Value) : ((l.map (cv base b)).map fun v => v.category).sum ≤ 2 * l.length := by
  induction l with
  | nil => simp
  | cons v t ih =>
    have := cat_le (cv base b v)
    simp only [List.map_cons, List.sum_cons, List.length_cons]
    omega
theorem cat_four {base b : Nat} {l : List Value} (h : Nat.ble l.length 4 = true) : ((l.map (cv base b)).map fun v => v.category).sum ≤ 8 := by
  have h1 : l.length ≤ 4 := Nat.le_of_ble_eq_true h
  have := cat_sum (base := base) (b := b) l
  omega
theorem toList_map (r : Option Value) (f : Value → Value) (rest : List Value) : (r.map f).toList ++ rest.map f = (r.toList ++ rest).map f := by cases r <;> rfl

theorem G_callV {L : Nat} {xs : Nat → Int32} {k n0 pc nx a b wp ix : Nat} {v : Int32} {ls : Lc} {st : List Value} {σ σE : St} {r : Option Value} {kc i : Nat} {As rest : List Value} {σ1 : St} {r1 : Option Value} (hM : EvM kc (.ref i :: As) σ r1 σ1) (hc : ct k pc = (56, nx, kc, b, wp, ix, v)) (hlen : Nat.beq As.length (mnp kc) = true) (hi : Nat.blt i 24 = true) (hin : Nat.blt i σ.2.2 = true) (hK : KT i = (3, mcl kc)) (hst : st = As.reverse ++ (.ref i :: rest)) (hrl : Nat.ble rest.length 4 = true) (hnE : Nat.ble σ1.2.2 σE.2.2 = true) (kk : G L xs k n0 nx ls (r1.toList ++ rest) σ1 r σE) : G L xs k n0 pc ls st σ r σE := by
  intro l dC dI cI cZ cII base b0 p en R s m args below meth c H locs Q mls mc lv hH hP hS hn hc1 hc2 hret
  obtain ⟨hx, hb, hml, hown, hts, hpk, hini, hfr, hlo, hbs, hX⟩ := mc
  obtain ⟨hd, hnx, hsd, hk⟩ := ct_ok hc rfl
  have hd : decode (mb k) pc = .ok (.invokevirtual ix, 3) := hd
  have e1 : nx = pc + 3 := Nat.eq_of_beq_eq_true hnx
  subst e1
  have hsd : (Nat.blt 0 kc && Nat.blt kc 118 && memW wp (.methodLink (cn (mcl k)) ix (my kc)) && Nat.beq (mkd kc) 0 && Nat.ble (mfr kc + 1) (mfr k) && Nat.ble (8 + (mL kc + 11) + mlo kc) (mlo k)) = true := hsd
  simp only [Bool.and_eq_true, decide_eq_true_eq] at hsd
  obtain ⟨⟨⟨⟨⟨s1, s2⟩, s3⟩, s4⟩, s5⟩, s6⟩ := hsd
  have s4 := Nat.eq_of_beq_eq_true s4
  have s5 : mfr kc + 1 ≤ mfr k := Nat.le_of_ble_eq_true s5
  have s6 : 8 + (mL kc + 11) + mlo kc ≤ mlo k := Nat.le_of_ble_eq_true s6
  have hlen := Nat.eq_of_beq_eq_true hlen
  have hnE : σ1.2.2 ≤ σE.2.2 := Nat.le_of_ble_eq_true hnE
  obtain ⟨f1, f2, f3, f4, f5, f6, f7, f8, f9, f10⟩ := mfacts s1 s2
  obtain ⟨hle, hM⟩ := hM
  have hM := hM l dC dI cI cZ cII base b0
  have hm := slz_mono hnE
  have hm1 := slz_mono hle
  have hm0 := slz_mono hn
  subst hst
  have h32 : i < 24 := Nat.le_of_ble_eq_true hi
  have hin : i < σ.2.2 := Nat.le_of_ble_eq_true hin
  have hav : (Value.ref i :: As).map (cv base b0) = .ref (base + i) :: As.map (cv base b0) := by rw [List.map_cons, cv_ref h32]
  rw [hav] at hM
  have hc7 : mcl kc < 6 := by
    by_cases h7 : mcl kc < 6
    · exact h7
    · exfalso
      have h8 := List.all_eq_true.mp (show KTl.all (fun q => !(Nat.beq q.1 3) || Nat.blt q.2 6) = true from by decide +kernel) (3, mcl kc) (by
        have h9 : KTl[i]? = some (KTl[i]'(show i < KTl.length from h32)) := List.getElem?_eq_getElem _
        have h10 : KT i = KTl[i]'(show i < KTl.length from h32) := by
          unfold KT
          rw [List.getD_eq_getElem?_getD, h9]
          rfl
        rw [← hK, h10]
        exact List.getElem_mem _)
      exact h7 (Nat.le_of_ble_eq_true h8)
  have hrv := va_recv hpk.1 hP (cls_at (mcl kc) hc7) ((vw_get hin).trans (by rw [vent_o hK]))
  rw [show (cn (mcl kc), cT (mcl kc), cN (mcl kc)).1 = (my kc).cls from f3.symm] at hrv
  refine vx_run (A := fun q => base ≤ q) (rv := r1.map (cv base b0)) (B := fun t => t.heap.size = base + σ1.2.2 ∧ va_P (dC, dI) cls (vw cI cZ cII base σ1) t.heap) (va_runV (As := As.map (cv base b0)) (rest := rest.map (cv base b0)) (C := (my kc).cls) ⟨hx, hb, hml, hown, hts⟩ hM ⟨⟨rfl, rfl, Nat.le_trans s5 hfr, Nat.le_trans s6 hlo, pay_in hts (ws_good f1), List.mem_cons_self, hts _ f1, hts _ f2, f4, (fun sig h => by rw [h] at f6; exact (Option.some.inj f6).symm), hts _ (memW_ok s3)⟩, hts _ (f8 (by rw [s4]; decide)), hts _ (f9 s4)⟩ ⟨vx_blind, hrv, fun U hU hW => ⟨rfl, PK.warm hW hpk, by rw [hU]; exact hH, by rw [hU]; exact hP⟩⟩ rfl (by rw [List.length_map]; exact hlen) lv.1 (by simp [List.map_append, List.map_reverse, cv_ref h32]) (lv_room (cat_four hrl)) hd ⟨by omega, by omega⟩) hS (fun t H1 locs1 ht hB hS1 => ?_)
  rw [toList_map, show σ.2.2 - n0 + (σ1.2.2 - σ.2.2) = σ1.2.2 - n0 by omega, show slz σ.2.2 - slz n0 + (slz σ1.2.2 - slz σ.2.2) = slz σ1.2.2 - slz n0 by omega]
  rw [ht] at hB
  have hn := Nat.le_trans hn hle
  exact kk l dC dI cI cZ cII base b0 p en R s m args below meth c H1 locs1 Q mls ⟨hx, hb, hml, hown, hts, hpk, hini, hfr, hlo, hbs, hX⟩ lv hB.1 hB.2 hS1 hn hc1 hc2 hret
theorem G_callS {L : Nat} {xs : Nat → Int32} {k n0 pc nx a b wp ix : Nat} {v : Int32} {ls : Lc} {st : List Value} {σ σE : St} {r : Option Value} {kc : Nat} {As rest : List Value} {σ1 : St} {r1 : Option Value} (hM : EvM kc (As) σ r1 σ1) (hc : ct k pc = (57, nx, kc, b, wp, ix, v)) (hlen : Nat.beq As.length (mnp kc) = true) (hst : st = As.reverse ++ rest) (hrl : Nat.ble rest.length 4 = true) (hnE : Nat.ble σ1.2.2 σE.2.2 = true) (kk : G L xs k n0 nx ls (r1.toList ++ rest) σ1 r σE) : G L xs k n0 pc ls st σ r σE := by
  intro l dC dI cI cZ cII base b0 p en R s m args below meth c H locs Q mls mc lv hH hP hS hn hc1 hc2 hret
  obtain ⟨hx, hb, hml, hown, hts, hpk, hini, hfr, hlo, hbs, hX⟩ := mc
  obtain ⟨hd, hnx, hsd, hk⟩ := ct_ok hc rfl
  have hd : decode (mb k) pc = .ok (.invokestatic ix, 3) := hd
  have e1 : nx = pc + 3 := Nat.eq_of_beq_eq_true hnx
  subst e1
  have hsd : (Nat.blt 0 kc && Nat.blt kc 118 && memW wp (.methodLink (cn (mcl k)) ix (my kc)) && Nat.beq (mkd kc) 1 && Nat.ble (mfr kc + 1) (mfr k) && Nat.ble (8 + (mL kc + 11) + mlo kc) (mlo k)) = true := hsd
  simp only [Bool.and_eq_true, decide_eq_true_eq] at hsd
  obtain ⟨⟨⟨⟨⟨s1, s2⟩, s3⟩, s4⟩, s5⟩, s6⟩ := hsd
  have s4 := Nat.eq_of_beq_eq_true s4
  have s5 : mfr kc + 1 ≤ mfr k := Nat.le_of_ble_eq_true s5
  have s6 : 8 + (mL kc + 11) + mlo kc ≤ mlo k := Nat.le_of_ble_eq_true s6
  have hlen := Nat.eq_of_beq_eq_true hlen
  have hnE : σ1.2.2 ≤ σE.2.2 := Nat.le_of_ble_eq_true hnE
  obtain ⟨f1, f2, f3, f4, f5, f6, f7, f8, f9, f10⟩ := mfacts s1 s2
  obtain ⟨hle, hM⟩ := hM
  have hM := hM l dC dI cI cZ cII base b0
  have hm := slz_mono hnE
  have hm1 := slz_mono hle
  have hm0 := slz_mono hn
  subst hst
  refine vx_run (A := fun q => base ≤ q) (rv := r1.map (cv base b0)) (B := fun t => t.heap.size = base + σ1.2.2 ∧ va_P (dC, dI) cls (vw cI cZ cII base σ1) t.heap) (va_runS (As := As.map (cv base b0)) (rest := rest.map (cv base b0)) ⟨hx, hb, hml, hown, hts⟩ hM ⟨⟨rfl, rfl, Nat.le_trans s5 hfr, Nat.le_trans s6 hlo, pay_in hts (ws_good f1), List.mem_cons_self, hts _ f1, hts _ f2, f4, (fun sig h => by rw [h] at f6; exact (Option.some.inj f6).symm), hts _ (memW_ok s3)⟩, hts _ (f7 s4)⟩ ⟨vx_blind, fun U hU hW => ⟨rfl, PK.warm hW hpk, by rw [hU]; exact hH, by rw [hU]; exact hP⟩⟩ rfl (by rw [List.length_map]; exact hlen) lv.1 (by simp [List.map_append, List.map_reverse]) (lv_room (cat_four hrl)) hd ⟨by omega, by omega⟩) hS (fun t H1 locs1 ht hB hS1 => ?_)
  rw [toList_map, show σ.2.2 - n0 + (σ1.2.2 - σ.2.2) = σ1.2.2 - n0 by omega, show slz σ.2.2 - slz n0 + (slz σ1.2.2 - slz σ.2.2) = slz σ1.2.2 - slz n0 by omega]
  rw [ht] at hB
  have hn := Nat.le_trans hn hle
  exact kk l dC dI cI cZ cII base b0 p en R s m args below meth c H1 locs1 Q mls ⟨hx, hb, hml, hown, hts, hpk, hini, hfr, hlo, hbs, hX⟩ lv hB.1 hB.2 hS1 hn hc1 hc2 hret
theorem G_callSN {L : Nat} {xs : Nat → Int32} {k n0 pc nx a b wp ix : Nat} {v : Int32} {ls : Lc} {st : List Value} {σ σE : St} {r : Option Value} {kc : Nat} {As rest : List Value} {σ1 : St} {r1 : Option Value} (hM : EvM kc (As) σ r1 σ1) (hc : ct k pc = (59, nx, kc, b, wp, ix, v)) (hlen : Nat.beq As.length (mnp kc) = true) (hst : st = As.reverse ++ rest) (hrl : Nat.ble rest.length 4 = true) (hnE : Nat.ble σ1.2.2 σE.2.2 = true) (kk : G L xs k n0 nx ls (r1.toList ++ rest) σ1 r σE) : G L xs k n0 pc ls st σ r σE := by
  intro l dC dI cI cZ cII base b0 p en R s m args below meth c H locs Q mls mc lv hH hP hS hn hc1 hc2 hret
  obtain ⟨hx, hb, hml, hown, hts, hpk, hini, hfr, hlo, hbs, hX⟩ := mc
  obtain ⟨hd, hnx, hsd, hk⟩ := ct_ok hc rfl
  have hd : decode (mb k) pc = .ok (.invokestatic ix, 3) := hd
  have e1 : nx = pc + 3 := Nat.eq_of_beq_eq_true hnx
  subst e1
  have hsd : (Nat.blt 0 kc && Nat.blt kc 118 && decide (nwl[b]? = some (.methodLinkNest (cn (mcl k)) ix (my kc) cn5)) && Nat.beq (mkd kc) 1 && Nat.ble (mfr kc + 1) (mfr k) && Nat.ble (8 + (mL kc + 11) + mlo kc) (mlo k)) = true := hsd
  simp only [Bool.and_eq_true, decide_eq_true_eq] at hsd
  obtain ⟨⟨⟨⟨⟨s1, s2⟩, s3⟩, s4⟩, s5⟩, s6⟩ := hsd
  have s4 := Nat.eq_of_beq_eq_true s4
  have s5 : mfr kc + 1 ≤ mfr k := Nat.le_of_ble_eq_true s5
  have s6 : 8 + (mL kc + 11) + mlo kc ≤ mlo k := Nat.le_of_ble_eq_true s6
  have hlen := Nat.eq_of_beq_eq_true hlen
  have hnE : σ1.2.2 ≤ σE.2.2 := Nat.le_of_ble_eq_true hnE
  obtain ⟨f1, f2, f3, f4, f5, f6, f7, f8, f9, f10⟩ := mfacts s1 s2
  obtain ⟨hle, hM⟩ := hM
  have hM := hM l dC dI cI cZ cII base b0
  have hm := slz_mono hnE
  have hm1 := slz_mono hle
  have hm0 := slz_mono hn
  subst hst
  refine vx_run (A := fun q => base ≤ q) (rv := r1.map (cv base b0)) (B := fun t => t.heap.size = base + σ1.2.2 ∧ va_P (dC, dI) cls (vw cI cZ cII base σ1) t.heap) (va_runSN (As := As.map (cv base b0)) (rest := rest.map (cv base b0)) ⟨hx, hb, hml, hown, hts⟩ hM ⟨⟨⟨rfl, rfl, Nat.le_trans s5 hfr, Nat.le_trans s6 hlo, pay_in hts (ws_good f1), List.mem_cons_self⟩, hts _ f1, hts _ f2, f4, (fun sig h => by rw [h] at f6; exact (Option.some.inj f6).symm), va_Nw.use rfl (hpk.2.2.2 _ (List.mem_of_getElem? s3))⟩, hts _ (f7 s4), trivial⟩ ⟨vx_blind, fun U hU hW => ⟨rfl, PK.warm hW hpk, by rw [hU]; exact hH, by rw [hU]; exact hP⟩⟩ rfl (by rw [List.length_map]; exact hlen) lv.1 (by simp [List.map_append, List.map_reverse]) (lv_room (cat_four hrl)) hd ⟨by omega, by omega⟩) hS (fun t H1 locs1 ht hB hS1 => ?_)
  rw [toList_map, show σ.2.2 - n0 + (σ1.2.2 - σ.2.2) = σ1.2.2 - n0 by omega, show slz σ.2.2 - slz n0 + (slz σ1.2.2 - slz σ.2.2) = slz σ1.2.2 - slz n0 by omega]
  rw [ht] at hB
  have hn := Nat.le_trans hn hle
  exact kk l dC dI cI cZ cII base b0 p en R s m args below meth c H1 locs1 Q mls ⟨hx, hb, hml, hown, hts, hpk, hini, hfr, hlo, hbs, hX⟩ lv hB.1 hB.2 hS1 hn hc1 hc2 hret
theorem G_callI {L : Nat} {xs : Nat → Int32} {k n0 pc nx a b wp ix : Nat} {v : Int32} {ls : Lc} {st : List Value} {σ σE : St} {r : Option Value} {kc i : Nat} {As rest : List Value} {σ1 : St} {r1 : Option Value} (hM : EvM kc (.ref i :: As) σ r1 σ1) (hc : ct k pc = (58, nx, kc, b, wp, ix, v)) (hlen : Nat.beq As.length (mnp kc) = true) (hi : Nat.blt i 24 = true) (hst : st = As.reverse ++ (.ref i :: rest)) (hrl : Nat.ble rest.length 4 = true) (hnE : Nat.ble σ1.2.2 σE.2.2 = true) (kk : G L xs k n0 nx ls (r1.toList ++ rest) σ1 r σE) : G L xs k n0 pc ls st σ r σE := by
  intro l dC dI cI cZ cII base b0 p en R s m args below meth c H locs Q mls mc lv hH hP hS hn hc1 hc2 hret
  obtain ⟨hx, hb, hml, hown, hts, hpk, hini, hfr, hlo, hbs, hX⟩ := mc
  obtain ⟨hd, hnx, hsd, hk⟩ := ct_ok hc rfl
  have hd : decode (mb k) pc = .ok (.invokespecial ix, 3) := hd
  have e1 : nx = pc + 3 := Nat.eq_of_beq_eq_true hnx
  subst e1
  have hsd : (Nat.blt 0 kc && Nat.blt kc 118 && memW wp (.methodLink (cn (mcl k)) ix (my kc)) && Nat.beq (mkd kc) 2 && decide (mr kc = none) && Nat.ble (mfr kc + 1) (mfr k) && Nat.ble (8 + (mL kc + 11) + mlo kc) (mlo k)) = true := hsd
  simp only [Bool.and_eq_true, decide_eq_true_eq] at hsd
  obtain ⟨⟨⟨⟨⟨⟨s1, s2⟩, s3⟩, s4⟩, s7⟩, s5⟩, s6⟩ := hsd
  have s4 := Nat.eq_of_beq_eq_true s4
  have s5 : mfr kc + 1 ≤ mfr k := Nat.le_of_ble_eq_true s5
  have s6 : 8 + (mL kc + 11) + mlo kc ≤ mlo k := Nat.le_of_ble_eq_true s6
  have hlen := Nat.eq_of_beq_eq_true hlen
  have hnE : σ1.2.2 ≤ σE.2.2 := Nat.le_of_ble_eq_true hnE
  obtain ⟨f1, f2, f3, f4, f5, f6, f7, f8, f9, f10⟩ := mfacts s1 s2
  obtain ⟨hle, hM⟩ := hM
  have hM := hM l dC dI cI cZ cII base b0
  have hm := slz_mono hnE
  have hm1 := slz_mono hle
  have hm0 := slz_mono hn
  subst hst
  have h32 : i < 24 := Nat.le_of_ble_eq_true hi
  have hav : (Value.ref i :: As).map (cv base b0) = .ref (base + i) :: As.map (cv base b0) := by rw [List.map_cons, cv_ref h32]
  rw [hav] at hM
  rw [s7] at f1 hM
  refine vx_run (A := fun q => base ≤ q) (rv := r1.map (cv base b0)) (B := fun t => t.heap.size = base + σ1.2.2 ∧ va_P (dC, dI) cls (vw cI cZ cII base σ1) t.heap) (va_runI (As := As.map (cv base b0)) (rest := rest.map (cv base b0)) (b := base + i) ⟨hx, hb, hml, hown, hts⟩ hM ⟨⟨rfl, rfl, Nat.le_trans s5 hfr, Nat.le_trans s6 hlo, pay_in hts (ws_good f1), List.mem_cons_self, hts _ f1, hts _ f2, f4, (fun sig h => by rw [h] at f6; exact (Option.some.inj f6).symm), hts _ (memW_ok s3)⟩, f10 s4, hts _ (f8 (by rw [s4]; decide))⟩ ⟨vx_blind, fun U hU hW => ⟨rfl, PK.warm hW hpk, by rw [hU]; exact hH, by rw [hU]; exact hP⟩⟩ rfl (by rw [List.length_map]; exact hlen) lv.1 (by simp [List.map_append, List.map_reverse, cv_ref h32]) (lv_room (cat_four hrl)) hd ⟨by omega, by omega⟩) hS (fun t H1 locs1 ht hB hS1 => ?_)
  rw [toList_map, show σ.2.2 - n0 + (σ1.2.2 - σ.2.2) = σ1.2.2 - n0 by omega, show slz σ.2.2 - slz n0 + (slz σ1.2.2 - slz σ.2.2) = slz σ1.2.2 - slz n0 by omega]
  rw [ht] at hB
  have hn := Nat.le_trans hn hle
  exact kk l dC dI cI cZ cII base b0 p en R s m args below meth c H1 locs1 Q mls ⟨hx, hb, hml, hown, hts, hpk, hini, hfr, hlo, hbs, hX⟩ lv hB.1 hB.2 hS1 hn hc1 hc2 hret
theorem G_callIN {L : Nat} {xs : Nat → Int32} {k n0 pc nx a b wp ix : Nat} {v : Int32} {ls : Lc} {st : List Value} {σ σE : St} {r : Option Value} {kc i : Nat} {As rest : List Value} {σ1 : St} {r1 : Option Value} (hM : EvM kc (.ref i :: As) σ r1 σ1) (hc : ct k pc = (60, nx, kc, b, wp, ix, v)) (hlen : Nat.beq As.length (mnp kc) = true) (hi : Nat.blt i 24 = true) (hst : st = As.reverse ++ (.ref i :: rest)) (hrl : Nat.ble rest.length 4 = true) (hnE : Nat.ble σ1.2.2 σE.2.2 = true) (kk : G L xs k n0 nx ls (r1.toList ++ rest) σ1 r σE) : G L xs k n0 pc ls st σ r σE := by
  intro l dC dI cI cZ cII base b0 p en R s m args below meth c H locs Q mls mc lv hH hP hS hn hc1 hc2 hret
  obtain ⟨hx, hb, hml, hown, hts, hpk, hini, hfr, hlo, hbs, hX⟩ := mc
  obtain ⟨hd, hnx, hsd, hk⟩ := ct_ok hc rfl
  have hd : decode (mb k) pc = .ok (.invokespecial ix, 3) := hd
  have e1 : nx = pc + 3 := Nat.eq_of_beq_eq_true hnx
  subst e1
  have hsd : (Nat.blt 0 kc && Nat.blt kc 118 && decide (nwl[b]? = some (.methodLinkNest (cn (mcl k)) ix (my kc) cn5)) && Nat.beq (mkd kc) 2 && decide (mr kc = none) && Nat.ble (mfr kc + 1) (mfr k) && Nat.ble (8 + (mL kc + 11) + mlo kc) (mlo k)) = true := hsd
  simp only [Bool.and_eq_true, decide_eq_true_eq] at hsd
  obtain ⟨⟨⟨⟨⟨⟨s1, s2⟩, s3⟩, s4⟩, s7⟩, s5⟩, s6⟩ := hsd
  have s4 := Nat.eq_of_beq_eq_true s4
  have s5 : mfr kc + 1 ≤ mfr k := Nat.le_of_ble_eq_true s5
  have s6 : 8 + (mL kc + 11) + mlo kc ≤ mlo k := Nat.le_of_ble_eq_true s6
  have hlen := Nat.eq_of_beq_eq_true hlen
  have hnE : σ1.2.2 ≤ σE.2.2 := Nat.le_of_ble_eq_true hnE
  obtain ⟨f1, f2, f3, f4, f5, f6, f7, f8, f9, f10⟩ := mfacts s1 s2
  obtain ⟨hle, hM⟩ := hM
  have hM := hM l dC dI cI cZ cII base b0
  have hm := slz_mono hnE
  have hm1 := slz_mono hle
  have hm0 := slz_mono hn
  subst hst
  have h32 : i < 24 := Nat.le_of_ble_eq_true hi
  have hav : (Value.ref i :: As).map (cv base b0) = .ref (base + i) :: As.map (cv base b0) := by rw [List.map_cons, cv_ref h32]
  rw [hav] at hM
  rw [s7] at f1 hM
  refine vx_run (A := fun q => base ≤ q) (rv := r1.map (cv base b0)) (B := fun t => t.heap.size = base + σ1.2.2 ∧ va_P (dC, dI) cls (vw cI cZ cII base σ1) t.heap) (va_runIN (As := As.map (cv base b0)) (rest := rest.map (cv base b0)) (b := base + i) ⟨hx, hb, hml, hown, hts⟩ hM ⟨⟨⟨rfl, rfl, Nat.le_trans s5 hfr, Nat.le_trans s6 hlo, pay_in hts (ws_good f1), List.mem_cons_self⟩, hts _ f1, hts _ f2, f4, (fun sig h => by rw [h] at f6; exact (Option.some.inj f6).symm), va_Nw.use rfl (hpk.2.2.2 _ (List.mem_of_getElem? s3))⟩, f10 s4, hts _ (f8 (by rw [s4]; decide))⟩ ⟨vx_blind, fun U hU hW => ⟨rfl, PK.warm hW hpk, by rw [hU]; exact hH, by rw [hU]; exact hP⟩⟩ rfl (by rw [List.length_map]; exact hlen) lv.1 (by simp [List.map_append, List.map_reverse, cv_ref h32]) (lv_room (cat_four hrl)) hd ⟨by omega, by omega⟩) hS (fun t H1 locs1 ht hB hS1 => ?_)
  rw [toList_map, show σ.2.2 - n0 + (σ1.2.2 - σ.2.2) = σ1.2.2 - n0 by omega, show slz σ.2.2 - slz n0 + (slz σ1.2.2 - slz σ.2.2) = slz σ1.2.2 - slz n0 by omega]
  rw [ht] at hB
  have hn := Nat.le_trans hn hle
  exact kk l dC dI cI cZ cII base b0 p en R s m args below meth c H1 locs1 Q mls ⟨hx, hb, hml, hown, hts, hpk, hini, hfr, hlo, hbs, hX⟩ lv hB.1 hB.2 hS1 hn hc1 hc2 hret
