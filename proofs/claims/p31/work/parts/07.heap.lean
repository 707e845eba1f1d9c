theorem KT_lt {i t x : Nat} (h : KT i = (t, x)) (ht : t ≠ 9) : i < 24 := by
  by_cases hi : i < 24
  · exact hi
  · exfalso
    apply ht
    have h1 : KT i = (9, 0) := by
      unfold KT
      rw [List.getD_eq_getElem?_getD, List.getElem?_eq_none (show KTl.length ≤ i from Nat.le_of_not_lt hi)]
      rfl
    rw [h1] at h
    exact (congrArg Prod.fst h).symm
theorem cv_ref {base b i : Nat} (h : i < 24) : cv base b (.ref i) = .ref (base + i) := by
  show Value.ref (if i = 1000 then b else base + i) = _
  rw [if_neg (by omega)]
def vfs (base : Nat) (σ : St) (c i : Nat) : List Value := (List.range (cN c)).map fun j => bif cR c j then va_rf ((σ.2.1 i j).map (fun a => base + a)) else .int (σ.1 i j)
theorem vfs_at {base : Nat} {σ : St} {c i j : Nat} (hj : j < cN c) : (vfs base σ c i)[j]? = some (bif cR c j then va_rf ((σ.2.1 i j).map (fun a => base + a)) else .int (σ.1 i j)) := by
  simp [vfs, hj]
theorem vfs_len {base : Nat} {σ : St} {c i : Nat} : (vfs base σ c i).length = cN c := by simp [vfs]
section VE
variable {cI cZ cII : ClassId} {base : Nat} {σ : St} {i n c : Nat}
theorem vent_i (h : KT i = (0, n)) : vent cI cZ cII base σ i = .inl (cI, n, .inl (σ.1 i)) := by simp only [vent, h]
theorem vent_z (h : KT i = (1, n)) : vent cI cZ cII base σ i = .inl (cZ, n, .inl (σ.1 i)) := by simp only [vent, h]
theorem vent_a (h : KT i = (2, n)) : vent cI cZ cII base σ i = .inl (cII, n, .inr (.inr (.inr (.inr (fun j => (σ.2.1 i j).map (fun a => base + a)))))) := by simp only [vent, h]
theorem vent_o (h : KT i = (3, c)) : vent cI cZ cII base σ i = .inr (c, vfs base σ c i) := by simp only [vent, h, vfs]
theorem vent_eq {σ' : St} (h1 : σ'.1 i = σ.1 i) (h2 : σ'.2.1 i = σ.2.1 i) : vent cI cZ cII base σ' i = vent cI cZ cII base σ i := by
  simp only [vent, h1, h2]
end VE
theorem cok {c : Nat} (hc : c < 6) : (∀ w ∈ u_ws (cn c) (cT c) (cN c), w ∈ WT) ∧ (∀ k, k < cN c → parseFieldDescriptor (cT c k).2.2.1 = some (cY c k)) ∧ (∀ k, k < cN c → (cT c k).1 = cn c) ∧ (∀ a, a < cN c → ∀ b, b < cN c → a ≠ b → (cT c a).2.1 ≠ (cT c b).2.1) := by
  have h := List.all_eq_true.mp cchk_all c (List.mem_range.mpr hc)
  have h1 : ∀ k, k < cN c → _ := fun k hk => List.all_eq_true.mp h k (List.mem_range.mpr hk)
  simp only [Bool.and_eq_true, decide_eq_true_eq] at h1
  refine ⟨fun w hw => ?_, fun k hk => (h1 k hk).1.1.2, fun k hk => (h1 k hk).1.2, fun a ha b hb hab => ?_⟩
  · obtain ⟨k, hk, rfl⟩ := List.mem_map.mp hw
    exact memW_ok (h1 k (List.mem_range.mp hk)).1.1.1
  · have h2 := List.all_eq_true.mp (h1 b hb).2 a (List.mem_range.mpr ha)
    simp only [Bool.or_eq_true, decide_eq_true_eq] at h2
    rcases h2 with h2 | h2
    · exact absurd (Nat.eq_of_beq_eq_true h2) hab
    · exact h2
def rck (c k : Nat) : Bool := bif cR c k then (match cY c k with
    | .object _ => true
    | .array _ => true
    | _ => false) else (match cY c k with
    | .int => true
    | .boolean => true
    | _ => false)
theorem rck_all : (List.range 6).all (fun c => (List.range (cN c)).all fun k => rck c k) = true := by decide +kernel
theorem rck_ok {c k : Nat} (hc : c < 6) (hk : k < cN c) : rck c k = true := List.all_eq_true.mp (List.all_eq_true.mp rck_all c (List.mem_range.mpr hc)) k (List.mem_range.mpr hk)
theorem rck_ref {c k x : Nat} (hc : c < 6) (hk : k < cN c) (h : cR c k = true) : narrow (cY c k) (.ref x) = .ref x ∧ fits (cY c k) (.ref x) = true ∧ defaultValue (cY c k) = .null := by
  have h1 := rck_ok hc hk
  rw [rck, h, cond_true] at h1
  split at h1
  · rename_i e; rw [e]; exact ⟨rfl, rfl, rfl⟩
  · rename_i e; rw [e]; exact ⟨rfl, rfl, rfl⟩
  · cases h1
/-- a value that a field of this type can hold -/
def pfOK (ty : FieldType) (x : Int32) : Bool := match ty with
  | .boolean => decide (x = 0) || decide (x = 1)
  | _ => true
theorem rck_int {c k : Nat} {x : Int32} (hc : c < 6) (hk : k < cN c) (h : cR c k = false) (hx : pfOK (cY c k) x = true) : narrow (cY c k) (.int x) = .int x ∧ fits (cY c k) (.int x) = true := by
  have h1 := rck_ok hc hk
  rw [rck, h, cond_false] at h1
  split at h1
  · rename_i e; rw [e]; exact ⟨rfl, rfl⟩
  · rename_i e
    rw [e] at hx ⊢
    simp only [pfOK, Bool.or_eq_true, decide_eq_true_eq] at hx
    rcases hx with rfl | rfl <;> exact ⟨by decide, by decide⟩
  · cases h1
theorem rck_def {c k : Nat} (hc : c < 6) (hk : k < cN c) (h : cR c k = false) : defaultValue (cY c k) = .int 0 := by
  have h1 := rck_ok hc hk
  rw [rck, h, cond_false] at h1
  split at h1
  · rename_i e; rw [e]; rfl
  · rename_i e; rw [e]; rfl
  · cases h1
def nref (w : Value) : Bool := match w with
  | .ref q => Nat.blt q 1000
  | _ => true
theorem u2_same {α : Type} {S : Nat → α} {i : Nat} {f : α} : u2 S i f i = f := by simp [u2]
theorem u2_ne {α : Type} {S : Nat → α} {i j : Nat} {f : α} (h : j ≠ i) : u2 S i f j = S j := by simp [u2, h]

theorem G_getfield {L : Nat} {xs : Nat → Int32} {k n0 pc nx a b wp ix : Nat} {v : Int32} {ls : Lc} {st : List Value} {σ σE : St} {r : Option Value} {i : Nat} {w : Value} (hc : ct k pc = (43, nx, a, b, wp, ix, v)) (hi : Nat.blt i σ.2.2 = true) (hK : KT i = (3, a)) (hw : (bif cR a b then rfv (σ.2.1 i b) else .int (σ.1 i b)) = w) (hnr : nref w = true) (kk : G L xs k n0 nx ls (w :: st) σ r σE) : G L xs k n0 pc ls (.ref i :: st) σ r σE := by
  intro l dC dI cI cZ cII base b0 p en R s m args below meth c H locs Q mls mc lv hH hP hS hn hc1 hc2 hret
  obtain ⟨hx, hb, hml, hown, hts, hpk, hini, hfr, hlo, hbs, hX⟩ := mc
  obtain ⟨hd, hnx, hsd, hk⟩ := ct_ok hc rfl
  have hd : decode (mb k) pc = .ok (.getfield ix, 3) := hd
  have e : nx = pc + 3 := Nat.eq_of_beq_eq_true hnx
  subst e
  have hsd : (Nat.blt a 6 && Nat.blt b (cN a) && memW wp (.fieldLink (cn (mcl k)) ix (cn a) (cT a b).2.1 (cT a b).2.2.1)) = true := hsd
  simp only [Bool.and_eq_true] at hsd
  have ha7 : a < 6 := Nat.le_of_ble_eq_true hsd.1.1
  have hbN : b < cN a := Nat.le_of_ble_eq_true hsd.1.2
  have hin : i < σ.2.2 := Nat.le_of_ble_eq_true hi
  have h32 : i < 24 := KT_lt hK (by decide)
  obtain ⟨o1, o2, o3, o4⟩ := cok ha7
  show W p l en R s m args below meth c H locs _ _ Q (F0 m pc mls (cv base b0 (.ref i) :: st.map (cv base b0)))
  rw [cv_ref h32]
  refine va_get (D := (dC, dI)) (ci := a) (v := cv base b0 w) (C := cn a) (T := cT a) (N := cN a) (own := cn (mcl k)) (ref := cn a) hx hb hts o1 hown hpk.1 hP i (vw_get hin |>.trans (by rw [vent_o hK])) (cls_at a ha7) b hbN (hts _ (memW_ok hsd.2)) (fun x h => by rw [← o3 b hbN]; exact h) ?_ hd ?_
  · rw [vfs_at hbN, ← hw]
    cases hr : cR a b with
    | false => simp [cv]
    | true =>
      rw [hr, cond_true] at hw
      simp only [cond_true]
      cases hq : σ.2.1 i b with
      | none => rfl
      | some q =>
        rw [hq] at hw
        rw [← hw] at hnr
        have hq1 : q < 1000 := Nat.le_of_ble_eq_true hnr
        show some (Value.ref (base + q)) = some (cv base b0 (.ref q))
        show _ = some (Value.ref (if q = 1000 then b0 else base + q))
        rw [if_neg (by omega)]
  · exact kk l dC dI cI cZ cII base b0 p en R s m args below meth c H locs Q mls ⟨hx, hb, hml, hown, hts, hpk, hini, hfr, hlo, hbs, hX⟩ lv hH hP hS hn hc1 hc2 hret
theorem G_putfield {L : Nat} {xs : Nat → Int32} {k n0 pc nx a b wp ix : Nat} {v : Int32} {ls : Lc} {st : List Value} {σ σE : St} {r : Option Value} {i : Nat} {x : Int32} (hc : ct k pc = (44, nx, a, b, wp, ix, v)) (hi : Nat.blt i σ.2.2 = true) (hK : KT i = (3, a)) (hty : pfOK (cY a b) x = true) (kk : G L xs k n0 nx ls st (u2 σ.1 i (upd (σ.1 i) b x), σ.2) r σE) : G L xs k n0 pc ls (.int x :: .ref i :: st) σ r σE := by
  intro l dC dI cI cZ cII base b0 p en R s m args below meth c H locs Q mls mc lv hH hP hS hn hc1 hc2 hret
  obtain ⟨hx, hb, hml, hown, hts, hpk, hini, hfr, hlo, hbs, hX⟩ := mc
  obtain ⟨hd, hnx, hsd, hk⟩ := ct_ok hc rfl
  have hd : decode (mb k) pc = .ok (.putfield ix, 3) := hd
  have e : nx = pc + 3 := Nat.eq_of_beq_eq_true hnx
  subst e
  have hsd : (Nat.blt a 6 && Nat.blt b (cN a) && memW wp (.fieldLink (cn (mcl k)) ix (cn a) (cT a b).2.1 (cT a b).2.2.1) && decide ((cT a b).2.2.2 = false) && !cR a b) = true := hsd
  simp only [Bool.and_eq_true, decide_eq_true_eq, Bool.not_eq_true'] at hsd
  obtain ⟨⟨⟨⟨q1, q2⟩, q3⟩, q4⟩, q5⟩ := hsd
  have ha7 : a < 6 := Nat.le_of_ble_eq_true q1
  have hbN : b < cN a := Nat.le_of_ble_eq_true q2
  have hin : i < σ.2.2 := Nat.le_of_ble_eq_true hi
  have h32 : i < 24 := KT_lt hK (by decide)
  obtain ⟨o1, o2, o3, o4⟩ := cok ha7
  obtain ⟨f1, f2⟩ := rck_int ha7 hbN q5 hty
  show W p l en R s m args below meth c H locs _ _ Q (F0 m pc mls (.int x :: cv base b0 (.ref i) :: st.map (cv base b0)))
  rw [cv_ref h32]
  have hap := va_apart (own := cn (mcl k)) hts o1 (cY a) o2 o4 hpk.1 (cls_at a ha7)
  obtain ⟨r9, g1, cell, g2, g3, g4, g5⟩ := hP i _ (vw_get hin |>.trans (by rw [vent_o hK]))
  have hr9 : r9 = (cn a, cT a, cN a) := Option.some.inj (g1.symm.trans (cls_at a ha7))
  subst hr9
  obtain ⟨hSl, hfc, kC, hkC, hkind⟩ := hpk.1.1 a _ (cls_at a ha7)
  obtain ⟨cf, kf, fi, f, hif, hsl⟩ := hSl b hbN
  have hlay := hts _ (o1 _ (u_in_lay hbN))
  unfold u_lay at hlay
  rw [if_neg (by rw [q4]; decide)] at hlay
  have hst := (u_facts hfc hkC (u_lays hts o1 hbN) hif).1
  have h6 := u_store hfc hkC hkind hlay hif (o2 b hbN) f1 f2
  refine W.putK hx hb (f := f) ⟨hown, hts _ (memW_ok q3), ⟨_, _, _, (by rw [← o3 b hbN]; exact hif)⟩, hst⟩ (by rw [g3]; exact h6) g2 g4 (by rw [hsl]; exact k2_hasslot (g5 b hbN)) rfl rfl hd fun H1 e1 e2 e3 => ?_
  rw [hsl] at e1 ⊢
  have hP1 : va_P (dC, dI) cls ((vw cI cZ cII base σ).set i (base + i, .inr (a, (vfs base σ a i).set b (.int x)))) H1 := hP.set vw_D (vw_get hin) ⟨_, cls_at a ha7, t_OB.to (V := updV (vp_V (vfs base σ a i)) b (.int x)) ⟨_, e1, g3, g4, t_set g5 hap hbN (.int x)⟩ (fun j _ => vp_updV_set (by rw [vfs_len]; exact hbN) (.int x) j)⟩ e3
  have hS1 := va_S.put (k := dI a b) hS e2 e3 (Nat.le_add_right base i)
  have hz : vent cI cZ cII base (u2 σ.1 i (upd (σ.1 i) b x), σ.2) i = .inr (a, (vfs base σ a i).set b (.int x)) := by
    rw [vent_o hK]
    congr 2
    apply List.ext_getElem?
    intro j
    by_cases hj : j < cN a
    · rw [vfs_at hj, List.getElem?_set]
      by_cases e : b = j
      · subst e
        rw [if_pos rfl, if_pos (by rw [vfs_len]; exact hj), q5]
        simp [u2, upd]
      · rw [if_neg e, vfs_at hj]
        simp [u2, upd, Ne.symm e]
    · rw [List.getElem?_eq_none (by rw [vfs_len]; omega), List.getElem?_eq_none (by rw [List.length_set, vfs_len]; omega)]
  rw [← hz, vw_set (σ' := (u2 σ.1 i (upd (σ.1 i) b x), σ.2)) hin rfl (fun j hj => vent_eq (u2_ne hj) rfl)] at hP1
  exact kk l dC dI cI cZ cII base b0 p en R s m args below meth c H1 _ Q mls ⟨hx, hb, hml, hown, hts, hpk, hini, hfr, hlo, hbs, hX⟩ lv (e2.trans hH) hP1 hS1 hn hc1 hc2 hret
theorem G_putF {L : Nat} {xs : Nat → Int32} {k n0 pc nx a b wp ix : Nat} {v : Int32} {ls : Lc} {st : List Value} {σ σE : St} {r : Option Value} {i x : Nat} (hc : ct k pc = (45, nx, a, b, wp, ix, v)) (hi : Nat.blt i σ.2.2 = true) (hK : KT i = (3, a)) (hxn : Nat.blt x 1000 = true) (kk : G L xs k n0 nx ls st (σ.1, u2 σ.2.1 i (va_up (σ.2.1 i) b (some x)), σ.2.2) r σE) : G L xs k n0 pc ls (.ref x :: .ref i :: st) σ r σE := by
  intro l dC dI cI cZ cII base b0 p en R s m args below meth c H locs Q mls mc lv hH hP hS hn hc1 hc2 hret
  obtain ⟨hx, hb, hml, hown, hts, hpk, hini, hfr, hlo, hbs, hX⟩ := mc
  obtain ⟨hd, hnx, hsd, hk⟩ := ct_ok hc rfl
  have hd : decode (mb k) pc = .ok (.putfield ix, 3) := hd
  have e : nx = pc + 3 := Nat.eq_of_beq_eq_true hnx
  subst e
  have hsd : (Nat.blt a 6 && Nat.blt b (cN a) && memW wp (.fieldLink (cn (mcl k)) ix (cn a) (cT a b).2.1 (cT a b).2.2.1) && decide ((cT a b).2.2.2 = true) && cR a b && Nat.beq (mcl k) a && Nat.beq (mkd k) 2) = true := hsd
  simp only [Bool.and_eq_true, decide_eq_true_eq, Bool.not_eq_true'] at hsd
  obtain ⟨⟨⟨⟨⟨⟨q1, q2⟩, q3⟩, q4⟩, q5⟩, q6⟩, q7⟩ := hsd
  have q6 := Nat.eq_of_beq_eq_true q6
  have q7 := Nat.eq_of_beq_eq_true q7
  have ha7 : a < 6 := Nat.le_of_ble_eq_true q1
  have hbN : b < cN a := Nat.le_of_ble_eq_true q2
  have hin : i < σ.2.2 := Nat.le_of_ble_eq_true hi
  have h32 : i < 24 := KT_lt hK (by decide)
  obtain ⟨o1, o2, o3, o4⟩ := cok ha7
  obtain ⟨f1, f2, -⟩ := rck_ref (x := base + x) ha7 hbN q5
  show W p l en R s m args below meth c H locs _ _ Q (F0 m pc mls (cv base b0 (.ref x) :: cv base b0 (.ref i) :: st.map (cv base b0)))
  have hx1 : x < 1000 := Nat.le_of_ble_eq_true hxn
  rw [cv_ref h32, show cv base b0 (.ref x) = .ref (base + x) from (by show Value.ref (if x = 1000 then b0 else base + x) = _; rw [if_neg (by omega)])]
  have hap := va_apart (own := cn (mcl k)) hts o1 (cY a) o2 o4 hpk.1 (cls_at a ha7)
  obtain ⟨r9, g1, cell, g2, g3, g4, g5⟩ := hP i _ (vw_get hin |>.trans (by rw [vent_o hK]))
  have hr9 : r9 = (cn a, cT a, cN a) := Option.some.inj (g1.symm.trans (cls_at a ha7))
  subst hr9
  obtain ⟨hSl, hfc, kC, hkC, hkind⟩ := hpk.1.1 a _ (cls_at a ha7)
  obtain ⟨cf, kf, fi, f, hif, hsl⟩ := hSl b hbN
  have hlay := hts _ (o1 _ (u_in_lay hbN))
  unfold u_lay at hlay
  rw [if_pos q4] at hlay
  have hst := (u_facts hfc hkC (u_lays hts o1 hbN) hif).1
  have hcf : m.cls = cf := by
    obtain ⟨_, _, c', _, _, _, -, -, hf', -, -, -, hown2, -⟩ := Cond.laysFinal_spec hlay
    have e1 : c' = cf := by have := hif.symm.trans hf'; simp at this; exact this.1.symm
    rw [o3 b hbN, ← q6] at hown2
    rw [← e1]; exact Option.some.inj (hown.symm.trans hown2)
  have h6 := u_fits hfc hkC hkind (Or.inr hlay) hif (o2 b hbN) f1 f2
  refine W.putFinK hx hb hown (hts _ (memW_ok q3)) (by rw [← o3 b hbN]; exact hif) hst hcf (hini q7) (by rw [g3]; exact h6) g2 g4 (by rw [hsl]; exact k2_hasslot (g5 b hbN)) rfl rfl hd fun H1 e1 e2 e3 => ?_
  rw [hsl] at e1 ⊢
  have hP1 : va_P (dC, dI) cls ((vw cI cZ cII base σ).set i (base + i, .inr (a, (vfs base σ a i).set b (.ref (base + x))))) H1 := hP.set vw_D (vw_get hin) ⟨_, cls_at a ha7, t_OB.to (V := updV (vp_V (vfs base σ a i)) b (.ref (base + x))) ⟨_, e1, g3, g4, t_set g5 hap hbN (.ref (base + x))⟩ (fun j _ => vp_updV_set (by rw [vfs_len]; exact hbN) (.ref (base + x)) j)⟩ e3
  have hS1 := va_S.put (k := dI a b) hS e2 e3 (Nat.le_add_right base i)
  have hz : vent cI cZ cII base (σ.1, u2 σ.2.1 i (va_up (σ.2.1 i) b (some x)), σ.2.2) i = .inr (a, (vfs base σ a i).set b (.ref (base + x))) := by
    rw [vent_o hK]
    congr 2
    apply List.ext_getElem?
    intro j
    by_cases hj : j < cN a
    · rw [vfs_at hj, List.getElem?_set]
      by_cases e : b = j
      · subst e
        rw [if_pos rfl, if_pos (by rw [vfs_len]; exact hj), q5]
        simp [u2, va_up, va_rf]
      · rw [if_neg e, vfs_at hj]
        simp [u2, va_up, Ne.symm e]
    · rw [List.getElem?_eq_none (by rw [vfs_len]; omega), List.getElem?_eq_none (by rw [List.length_set, vfs_len]; omega)]
  rw [← hz, vw_set (σ' := (σ.1, u2 σ.2.1 i (va_up (σ.2.1 i) b (some x)), σ.2.2)) hin rfl (fun j hj => vent_eq rfl (u2_ne hj))] at hP1
  exact kk l dC dI cI cZ cII base b0 p en R s m args below meth c H1 _ Q mls ⟨hx, hb, hml, hown, hts, hpk, hini, hfr, hlo, hbs, hX⟩ lv (e2.trans hH) hP1 hS1 hn hc1 hc2 hret
