/-! the document's own reckoning: texts, part 2: numbers -/
def wsK (w s : Nat) : Prop := (s = 5 ∧ 1 ≤ w ∧ w ≤ 9) ∨ (s = 6 ∧ 10 ≤ w ∧ w ≤ 99) ∨ (s = 7 ∧ (w = 0 ∨ 100 ≤ w) ∧ w ≤ 999)
theorem sub_in {x c : Int32} {k lo hi : Int} (hc : c.toInt = k) (k0 : 0 ≤ k) (k1 : k ≤ 1000) (h0 : 0 ≤ lo) (h1 : hi ≤ 1000) : (lo ≤ (x - c).toInt ∧ (x - c).toInt ≤ hi) ↔ (k + lo ≤ x.toInt ∧ x.toInt ≤ k + hi) := by
  have b1 := Int32.le_toInt x
  have b2 := Int32.toInt_lt x
  rw [Int32.toInt_sub, hc]
  simp only [Int.bmod]
  split <;> omega
theorem mIn_iff {v l m : Int32} : mIn v l m = true ↔ l.toInt ≤ v.toInt ∧ v.toInt ≤ m.toInt := by
  unfold mIn
  rw [Bool.and_eq_true, decide_eq_true_eq, decide_eq_true_eq, Int32.not_lt, Int32.not_lt, Int32.le_iff_toInt_le, Int32.le_iff_toInt_le]
theorem gDig_iff {s : Int32} : gDig s = true ↔ 48 ≤ s.toInt ∧ s.toInt ≤ 57 := mIn_iff (v := s) (l := 48) (m := 57)
theorem bool_eq {a b : Bool} (h : a = true ↔ b = true) : a = b := by cases a <;> cases b <;> simp_all
theorem mIn_dig (x : Int32) : mIn (x - 48) 0 9 = gDig x := bool_eq (by
  rw [mIn_iff, gDig_iff, show (0 : Int32).toInt = 0 by decide, show (9 : Int32).toInt = 9 by decide]
  exact sub_in (k := 48) (lo := 0) (hi := 9) (by decide) (by decide) (by decide) (by decide) (by decide))
theorem eq_toI {x : Int32} {n : Nat} (hn : n < 2 ^ 31) : x = nI n ↔ x.toInt = n := ⟨fun h => by rw [h, nI_toInt hn], fun h => Int32.toInt_inj.mp (by rw [h, nI_toInt hn])⟩
theorem mIn_dig1 (x : Int32) : mIn (x - 48) 1 9 = (gDig x && !decide (x = 48)) := bool_eq (by
  rw [mIn_iff, Bool.and_eq_true, gDig_iff, show (1 : Int32).toInt = 1 by decide, show (9 : Int32).toInt = 9 by decide, Bool.not_eq_true', decide_eq_false_iff_not, show (48 : Int32) = nI 48 from rfl, eq_toI (by decide)]
  have := sub_in (x := x) (c := nI 48) (k := 48) (lo := 1) (hi := 9) (by decide) (by decide) (by decide) (by decide) (by decide)
  rw [this]
  omega)
theorem gDig_v {s : Int32} (h : gDig s = true) : ∃ d, d ≤ 9 ∧ s = nI (48 + d) := by
  obtain ⟨h1, h2⟩ := gDig_iff.mp h
  refine ⟨(s.toInt - 48).toNat, by omega, (eq_toI (by omega)).mpr (by omega)⟩
theorem gDig_0 : gDig 0 = false := by decide
theorem stepv {w d : Nat} : (10 : Int32) * nI w + nI (48 + d) - 48 = nI (10 * w + d) := by
  have h1 : nI (10 * w + d) = 10 * nI w + nI d := by rw [← nI_add, nI_mul']; rfl
  have h2 : nI (48 + d) = 48 + nI d := by rw [← nI_add]; rfl
  rw [h1, h2]
  grind
section GFS
variable {f : Nat → Int32} {n p s s' : Nat} {acc : Int32}
theorem gF_s (h : p < n) (e : gN s (f p) = some s') : gF f n (n - p) p s = gF f n (n - (p + 1)) (p + 1) s' := by
  have : n - p = (n - (p + 1)) + 1 := by omega
  rw [this, gF, e]
theorem gF_x (h : p < n) (e : gN s (f p) = none) : gF f n (n - p) p s = nI p := by
  have : n - p = (n - (p + 1)) + 1 := by omega
  rw [this, gF, e]
theorem gF_e (h : ¬ 5 ≤ s) : gF f n (n - n) n s = nI n := by rw [Nat.sub_self, gF, if_neg h]
theorem gF_t (h : 5 ≤ s) : gF f n (n - n) n s = -4 := by rw [Nat.sub_self, gF, if_pos h]
theorem nvv_s (h : p < n) (e : gDig (f p) = true) : nvv f (n - p) p acc = nvv f (n - (p + 1)) (p + 1) (acc * 10 + f p - 48) := by
  have : n - p = (n - (p + 1)) + 1 := by omega
  rw [this, nvv, e, cond_true]
theorem nvv_e (hp : p ≤ n) (h : p < n → gDig (f p) = false) : nvv f (n - p) p acc = acc := by
  by_cases q : p < n
  · have : n - p = (n - (p + 1)) + 1 := by omega
    rw [this, nvv, h q, cond_false]
  · rw [show n - p = 0 by omega, nvv]
theorem mhe_in (h : p < n) : mhe f n p = f p := if_pos h
theorem mhe_out (h : ¬ p < n) : mhe f n p = 0 := if_neg h
/-- at a state below 5 the sign at the place tells all, 0 behind the end too -/
theorem gF_m (hp : p ≤ n) (h5 : ¬ 5 ≤ s) (h0 : gN s 0 = none) (e : gN s (mhe f n p) = none) : gF f n (n - p) p s = nI p := by
  by_cases q : p < n
  · exact gF_x q (by rw [mhe_in q] at e; exact e)
  · rw [show p = n by omega]; exact gF_e h5
theorem gF_ms (h0 : gN s 0 = none) (e : gN s (mhe f n p) = some s') : p < n ∧ mhe f n p = f p ∧ gF f n (n - p) p s = gF f n (n - (p + 1)) (p + 1) s' := by
  by_cases q : p < n
  · exact ⟨q, mhe_in q, gF_s q (by rw [mhe_in q] at e; exact e)⟩
  · rw [mhe_out q, h0] at e; cases e
end GFS
/-- the digits of a number from p on -/
def PD (f : Nat → Int32) (n p s w p' s' w' : Nat) : Prop := p ≤ p' ∧ p' ≤ n ∧ wsK w' s' ∧ gF f n (n - p) p s = gF f n (n - p') p' s' ∧ (p' < n → gDig (f p') = true → s' = 7) ∧ ((p' < n → gDig (f p') = false) → nvv f (n - p) p (nI w) = nI w') ∧ ∀ j, p ≤ j → j < p' → f j ≠ 44
theorem PD_rf {f : Nat → Int32} {n p s w : Nat} (hp : p ≤ n) (hw : wsK w s) (h : p < n → gDig (f p) = true → s = 7) : PD f n p s w p s w := ⟨Nat.le_refl _, hp, hw, rfl, h, fun q => nvv_e hp q, fun j h1 h2 => by omega⟩
theorem PD_s {f : Nat → Int32} {n p s w p' s' w' d : Nat} (hp : p < n) (hd : d ≤ 9) (e : f p = nI (48 + d)) (hg : gDig (f p) = true) (hs : s = 5 ∨ s = 6) (h : PD f n (p + 1) (s + 1) (10 * w + d) p' s' w') : PD f n p s w p' s' w' := by
  obtain ⟨h1, h2, h3, h4, h5, h6, h7⟩ := h
  refine ⟨by omega, h2, h3, ?_, h5, fun q => ?_, fun j q1 q2 => ?_⟩
  · rw [← h4]
    refine gF_s hp ?_
    rcases hs with rfl | rfl
    · show (bif gDig (f p) then some 6 else gNP (f p)) = _
      rw [hg]; rfl
    · show (bif gDig (f p) then some 7 else gNP (f p)) = _
      rw [hg]; rfl
  · rw [← h6 q, nvv_s hp hg, e, Int32.mul_comm, stepv]
  · by_cases z : j = p
    · rw [z, e]
      intro k
      have := (nI_eq (show 48 + d < 2 ^ 31 by omega) (show 44 < 2 ^ 31 by decide)).mp k
      omega
    · exact h7 j (by omega) q2
section MT2
variable (S : Nat → Nat → Int32) (R : Nat → Nat)
theorem TS_sp {p q : Nat} {ok : Bool} : u2 (TS S p ok) 24 (upd (TS S p ok 24) 9 (nI q)) = TS S q ok := by
  have h := TS_set S (p := p) (p' := q) (ok := ok) (ok' := ok)
  have e : upd (TS S p ok 24) 10 (b2i ok) = TS S p ok 24 := by
    funext z
    by_cases h10 : z = 10
    · subst h10; rw [upd_same, TS_10]
    · rw [upd_ne h10]
  rw [e] at h
  exact h
def tnE (p : Nat) (ok b : Bool) (v : Int32) : Nat → Nat → Int32 := u2 (TS S p ok) 24 (upd (TS S p ok 24) 13 (bif b then -v else v))
set_option maxRecDepth 100000 in
theorem tn_exit (p : Nat) (ok b : Bool) (v : Int32) : Gm kM_takesNumber 136 [some (.ref 24), some (.int (b2i b)), some (.int v)] [] (TS S p ok, PF R, 32) none (tnE S p ok b v, PF R, 32) := by
  unfold tnE
  cases b with
  | true =>
    refine G_aload_n rfl rfl ?_
    refine G_iload_n rfl rfl ?_
    refine G_if_eq rfl (fun h => ?_) (fun h => ?_)
    · exact absurd h (by decide)
    refine G_iload_n rfl rfl ?_
    refine G_ineg rfl ?_
    refine G_goto rfl ?_
    refine H_putI rfl rfl rfl rfl ?_
    exact H_retv rfl rfl (rfl)
  | false =>
    refine G_aload_n rfl rfl ?_
    refine G_iload_n rfl rfl ?_
    refine G_if_eq rfl (fun h => ?_) (fun h => ?_)
    · skip
      refine G_iload_n rfl rfl ?_
      refine H_putI rfl rfl rfl rfl ?_
      exact H_retv rfl rfl (rfl)
    · exact absurd rfl h
set_option maxRecDepth 100000 in
theorem tn_off (p : Nat) (b : Bool) (v : Int32) : Gm kM_takesNumber 67 [some (.ref 24), some (.int (b2i b)), some (.int v)] [] (TS S p false, PF R, 32) none (tnE S p false b v, PF R, 32) := by
  refine G_aload_n rfl rfl ?_
  refine H_getI rfl rfl rfl rfl ?_
  refine G_if_eq rfl (fun h => ?_) (fun h => ?_)
  · exact tn_exit S R p false b v
  · exact absurd (TS_10 S) h
set_option maxRecDepth 100000 in
theorem tn_stop {n p w s : Nat} (hn : S 24 6 = nI n) (hc : n ≤ 60) (b : Bool) (hp : p ≤ n) (hw : wsK w s) (hx : p < n → gDig (S 28 p) = true → s = 7) : Gm kM_takesNumber 67 [some (.ref 24), some (.int (b2i b)), some (.int (nI w))] [] (TS S p true, PF R, 32) none (tnE S p true b (nI w), PF R, 32) := by
  have c1 := ev_mhere S R (ok := true) hn hc (p := p) (by omega)
  have c2 := ev_min (TS S p true) R (mhe (S 28) n p) 48 57
  have no := tn_exit S R p true b (nI w)
  refine G_aload_n rfl rfl ?_
  refine H_getI rfl rfl rfl rfl ?_
  refine G_if_eq rfl (fun h => ?_) (fun h => ?_)
  · exact no
  refine G_iload_n rfl rfl ?_
  refine G_if_le rfl (fun h2 => ?_) (fun h2 => ?_)
  · exact no
  refine G_aload_n rfl rfl ?_
  refine H_callV (c1) rfl rfl rfl rfl rfl rfl rfl rfl ?_
  refine G_bipush rfl ?_
  refine G_bipush rfl ?_
  refine H_callS (c2) rfl rfl rfl rfl rfl ?_
  refine G_if_eq rfl (fun h3 => ?_) (fun h3 => ?_)
  · exact no
  refine G_bipush rfl ?_
  refine G_iload_n rfl rfl ?_
  refine G_imul rfl ?_
  refine G_aload_n rfl rfl ?_
  refine H_callV (c1) rfl rfl rfl rfl rfl rfl rfl rfl ?_
  refine G_iadd rfl ?_
  refine G_bipush rfl ?_
  refine G_isub rfl ?_
  refine G_sipush rfl ?_
  refine G_icmp_gt rfl (fun h4 => ?_) (fun h4 => ?_)
  · exact no
  · have h3 : gDig (mhe (S 28) n p) = true := b2i_n0.mp h3
    have q : p < n := Decidable.byContradiction fun q => by rw [mhe_out q, gDig_0] at h3; cases h3
    rw [mhe_in q] at h3 h4
    obtain ⟨d, hd, e⟩ := gDig_v h3
    have h7 := hx q h3
    rw [e, stepv] at h4
    have h2 : w ≠ 0 := fun z => h2 (by rw [z]; decide)
    refine absurd ?_ h4
    show nI 999 < nI (10 * w + d)
    unfold wsK at hw
    exact nI_lt (by omega) (by omega)
set_option maxRecDepth 100000 in
theorem tn_loop {n : Nat} (hn : S 24 6 = nI n) (hc : n ≤ 60) (b : Bool) : ∀ (m p w s : Nat), p + m = n → wsK w s → ∃ p' s' w', Gm kM_takesNumber 67 [some (.ref 24), some (.int (b2i b)), some (.int (nI w))] [] (TS S p true, PF R, 32) none (tnE S p' true b (nI w'), PF R, 32) ∧ PD (S 28) n p s w p' s' w'
  | 0, p, w, s, hm, hw => ⟨p, s, w, tn_stop S R hn hc b (by omega) hw (fun q => by omega), PD_rf (by omega) hw (fun q => by omega)⟩
  | m + 1, p, w, s, hm, hw => by
    by_cases hx : p < n → gDig (S 28 p) = true → s = 7
    · exact ⟨p, s, w, tn_stop S R hn hc b (by omega) hw hx, PD_rf (by omega) hw hx⟩
    · have hq : p < n := by omega
      have hg : gDig (S 28 p) = true := Decidable.byContradiction fun z => hx (fun _ y => absurd y z)
      have h7 : s ≠ 7 := fun z => hx (fun _ _ => z)
      obtain ⟨d, hd, e⟩ := gDig_v hg
      unfold wsK at hw
      obtain ⟨p', s', w', g, hP⟩ := tn_loop hn hc b m (p + 1) (10 * w + d) (s + 1) (by omega) (by unfold wsK; omega)
      refine ⟨p', s', w', ?_, PD_s hq hd e hg (by omega) hP⟩
      have c1 := ev_mhere S R (ok := true) hn hc (p := p) (by omega)
      rw [mhe_in hq] at c1
      have c2 := ev_min (TS S p true) R (S 28 p) 48 57
      have e2 : mIn (S 28 p) 48 57 = true := hg
      rw [e2] at c2
      refine G_aload_n rfl rfl ?_
      refine H_getI rfl rfl rfl rfl ?_
      refine G_if_eq rfl (fun h => ?_) (fun h => ?_)
      · rw [TS_10] at h; exact absurd h (by decide)
      refine G_iload_n rfl rfl ?_
      refine G_if_le rfl (fun h2 => ?_) (fun h2 => ?_)
      · exact absurd h2 (Int32.not_le.mpr (nI_lt (a := 0) (by omega) (by omega)))
      refine G_aload_n rfl rfl ?_
      refine H_callV (c1) rfl rfl rfl rfl rfl rfl rfl rfl ?_
      refine G_bipush rfl ?_
      refine G_bipush rfl ?_
      refine H_callS (c2) rfl rfl rfl rfl rfl ?_
      refine G_if_eq rfl (fun h3 => ?_) (fun h3 => ?_)
      · exact absurd h3 (by decide)
      refine G_bipush rfl ?_
      refine G_iload_n rfl rfl ?_
      refine G_imul rfl ?_
      refine G_aload_n rfl rfl ?_
      refine H_callV (c1) rfl rfl rfl rfl rfl rfl rfl rfl ?_
      rw [e]
      have es := stepv (w := w) (d := d)
      refine G_iadd rfl ?_
      refine G_bipush rfl ?_
      refine G_isub rfl ?_
      refine G_sipush rfl ?_
      refine G_icmp_gt rfl (fun h4 => ?_) (fun h4 => ?_)
      · refine absurd h4 ?_
        rw [es]
        exact nI_nlt (b := 10 * w + d) (a := 999) (by omega) (by decide)
      rw [e] at c1
      refine G_bipush rfl ?_
      refine G_iload_n rfl rfl ?_
      refine G_imul rfl ?_
      refine G_aload_n rfl rfl ?_
      refine H_callV (c1) rfl rfl rfl rfl rfl rfl rfl rfl ?_
      refine G_iadd rfl ?_
      refine G_bipush rfl ?_
      refine G_isub rfl ?_
      refine H_ist_3_2 rfl rfl ?_
      refine G_aload_n rfl rfl ?_
      refine G_dup rfl rfl ?_
      refine H_getI rfl rfl rfl rfl ?_
      refine G_iconst rfl ?_
      refine G_iadd rfl ?_
      refine H_putI rfl rfl rfl rfl ?_
      refine G_goto rfl ?_
      rw [es, TS_9, ← nI_succ, TS_sp]
      exact g
end MT2
