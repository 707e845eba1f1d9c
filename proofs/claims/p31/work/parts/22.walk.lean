/-! the walk: object 16, met 17, place 18, line 19, waiting field 3 -/
theorem cnt_lt {f : Nat → Bool} {x : Nat} : ∀ {n : Nat}, x < n → f x = false → cnt f n < n
  | 0, h, _ => absurd h (Nat.not_lt_zero _)
  | n + 1, h, hf => by
    by_cases e : x = n
    · subst e
      rw [cnt_f hf]
      have := cnt_le f x
      omega
    · have := cnt_lt (n := n) (show x < n by omega) hf
      cases hn : f n with
      | true => rw [cnt_t hn]; omega
      | false => rw [cnt_f hn]; omega
theorem cnt_up {f g : Nat → Bool} {x : Nat} (hf : f x = false) (hg : g x = true) (he : ∀ y, y ≠ x → g y = f y) : ∀ {n : Nat}, x < n → cnt g n = cnt f n + 1
  | 0, h => absurd h (Nat.not_lt_zero _)
  | n + 1, h => by
    by_cases e : x = n
    · subst e
      rw [cnt_t hg, cnt_f hf, cnt_congr (f := g) (g := f) (fun i hi => he i (by omega))]
    · have ih := cnt_up hf hg he (n := n) (by omega)
      have en := he n (Ne.symm e)
      cases hn : f n with
      | true => rw [cnt_t hn, cnt_t (en.trans hn), ih]
      | false => rw [cnt_f hn, cnt_f (en.trans hn), ih]
def WI (row : Nat → Int32) (a : Nat) (S : Nat → Nat → Int32) (n : Nat) : Prop :=
  S 16 3 = nI n ∧ SI row a (S 17) (S 18) ∧ cnt (fun x => decide (S 17 x = 1)) 20 = n ∧ (∀ i, i < n → ∃ x, x < 20 ∧ S 19 i = nI x ∧ S 17 x = 1) ∧ ∀ x, x < 20 → S 17 x = 1 → ∃ i, i < n ∧ S 19 i = nI x
def wFr (S S' : Nat → Nat → Int32) : Prop := ∀ i, i ≠ 16 → i ≠ 17 → i ≠ 18 → i ≠ 19 → S' i = S i
def wExt (S S' : Nat → Nat → Int32) (n n' : Nat) : Prop := wFr S S' ∧ n ≤ n' ∧ (∀ x, x < 20 → S 17 x = 1 → S' 17 x = 1) ∧ ∀ i, i < n → S' 19 i = S 19 i
theorem wFr.rf {S : Nat → Nat → Int32} : wFr S S := fun _ _ _ _ _ => rfl
theorem wFr.tr {S S1 S2 : Nat → Nat → Int32} (h1 : wFr S S1) (h2 : wFr S1 S2) : wFr S S2 := fun i a b c d => (h2 i a b c d).trans (h1 i a b c d)
theorem wExt.rf {S : Nat → Nat → Int32} {n : Nat} : wExt S S n n := ⟨wFr.rf, Nat.le_refl _, fun _ _ h => h, fun _ _ => rfl⟩
theorem wExt.tr {S S1 S2 : Nat → Nat → Int32} {n n1 n2 : Nat} (h1 : wExt S S1 n n1) (h2 : wExt S1 S2 n1 n2) : wExt S S2 n n2 :=
  ⟨h1.1.tr h2.1, Nat.le_trans h1.2.1 h2.2.1, fun x hx h => h2.2.2.1 x hx (h1.2.2.1 x hx h), fun i hi => (h2.2.2.2 i (Nat.lt_of_lt_of_le hi h1.2.1)).trans (h1.2.2.2 i hi)⟩
def wMeet (S : Nat → Nat → Int32) (x : Nat) (v : Int32) (n : Nat) : Nat → Nat → Int32 := u2 (u2 (u2 (u2 S 17 (upd (S 17) x 1)) 18 (upd (S 18) x v)) 19 (upd (S 19) n (nI x))) 16 (upd (S 16) 3 (nI (n + 1)))
theorem WI_meet {row : Nat → Int32} {a : Nat} {S : Nat → Nat → Int32} {n x : Nat} {v : Int32} (h : WI row a S n) (hx : x < 20) (h0 : S 17 x = 0) (hc : Cn row a x) (hv : ∀ π, Pot row π → v = π x - π a) : WI row a (wMeet S x v n) (n + 1) ∧ wExt S (wMeet S x v n) n (n + 1) := by
  obtain ⟨h1, ⟨a1, a2, a3, a4⟩, h3, h4, h5⟩ := h
  have e17 : wMeet S x v n 17 = upd (S 17) x 1 := by simp [wMeet, u2]
  have e18 : wMeet S x v n 18 = upd (S 18) x v := by simp [wMeet, u2]
  have e19 : wMeet S x v n 19 = upd (S 19) n (nI x) := by simp [wMeet, u2]
  have hmono : ∀ y, S 17 y = 1 → upd (S 17) x 1 y = 1 := fun y hy => by
    unfold upd
    split
    · rfl
    · exact hy
  have hup : ∀ y, upd (S 17) x 1 y = 1 → y = x ∨ S 17 y = 1 := fun y hy => by
    unfold upd at hy
    split at hy
    · rename_i e; exact Or.inl e
    · exact Or.inr hy
  have h01 : ¬ (0 : Int32) = 1 := by decide
  refine ⟨⟨by simp [wMeet, u2, upd], ?_, ?_, ?_, ?_⟩, ?_, by omega, ?_, ?_⟩
  · rw [e17, e18]
    refine ⟨hmono a a1, fun y hy => ?_, fun y hy h => ?_, fun π hp y hy h => ?_⟩
    · by_cases e : y = x
      · rw [e, upd_same]; exact Or.inr rfl
      · rw [upd_ne e]; exact a2 y hy
    · rcases hup y h with e | h
      · rw [e]; exact hc
      · exact a3 y hy h
    · by_cases e : y = x
      · rw [e, upd_same]; exact hv π hp
      · rw [upd_ne e] at h ⊢
        exact a4 π hp y hy h
  · rw [e17, ← h3]
    refine cnt_up (x := x) (by simp [h0]) (by simp [upd]) (fun y hy => ?_) hx
    rw [upd_ne hy]
  · rw [e17, e19]
    intro i hi
    by_cases e : i = n
    · rw [e]
      exact ⟨x, hx, upd_same, upd_same⟩
    · obtain ⟨y, hy, g1, g2⟩ := h4 i (by omega)
      exact ⟨y, hy, by rw [upd_ne e]; exact g1, hmono y g2⟩
  · rw [e17, e19]
    intro y hy h
    rcases hup y h with e | h
    · exact ⟨n, by omega, by rw [e, upd_same]⟩
    · obtain ⟨i, hi, g⟩ := h5 y hy h
      exact ⟨i, by omega, by rw [upd_ne (by omega)]; exact g⟩
  · intro i q1 q2 q3 q4
    simp [wMeet, u2, q1, q2, q3, q4]
  · intro y hy h
    rw [e17]
    exact hmono y h
  · intro i hi
    rw [e19, upd_ne (by omega)]
section WK
variable (S : Nat → Nat → Int32) (R : Nat → Nat)
set_option maxRecDepth 100000 in
theorem ev_placeOf {a : Nat} (ha : a < 20) : EvM kWalk_placeOf [.ref 16, .int (nI a)] (mk S R) (some (.int (S 18 a))) (mk S R) := by
  have h1 := ev_isNode S R (nI a)
  rw [isNd_nI ha] at h1
  refine EvM_mk [some (.ref 16), some (.int (nI a))] rfl rfl rfl rfl rfl (trivial) ?_
  refine G_iload_n rfl rfl ?_
  refine H_callSN (h1) rfl rfl rfl rfl rfl ?_
  refine G_if_eq rfl (fun h => ?_) (fun h => ?_)
  · exact absurd h (by decide)
  refine G_aload_n rfl rfl ?_
  refine H_getR rfl rfl rfl rfl rfl rfl ?_
  refine G_iload_n rfl rfl ?_
  refine H_iald rfl (rfl) (rfl) (ha) (rfl) ?_
  refine G_goto rfl ?_
  exact H_ret rfl rfl (rfl) (rfl)
set_option maxRecDepth 100000 in
theorem ev_meet_old {x : Nat} (hx : x < 20) (v : Int32) (h0 : S 17 x = 1) : EvM kWalk_meet [.ref 16, .int (nI x), .int v] (mk S R) none (mk S R) := by
  have h1 := ev_isNode S R (nI x)
  rw [isNd_nI hx] at h1
  refine EvM_mk [some (.ref 16), some (.int (nI x)), some (.int v)] rfl rfl rfl rfl rfl (trivial) ?_
  refine G_iload_n rfl rfl ?_
  refine H_callSN (h1) rfl rfl rfl rfl rfl ?_
  refine G_if_eq rfl (fun h => ?_) (fun h => ?_)
  · exact absurd h (by decide)
  refine G_aload_n rfl rfl ?_
  refine H_getR rfl rfl rfl rfl rfl rfl ?_
  refine G_iload_n rfl rfl ?_
  refine H_bald rfl (rfl) (rfl) (hx) (rfl) ?_
  refine G_if_ne rfl (fun h => ?_) (fun h => ?_)
  · skip
    exact H_retv rfl rfl (rfl)
  · exact absurd (by rw [h0]; decide) h
set_option maxRecDepth 100000 in
theorem ev_meet_new {x n : Nat} (hx : x < 20) (v : Int32) (h0 : S 17 x = 0) (hn : S 16 3 = nI n) (hn20 : n < 20) : EvM kWalk_meet [.ref 16, .int (nI x), .int v] (mk S R) none (mk (wMeet S x v n) R) := by
  have h1 := ev_isNode S R (nI x)
  rw [isNd_nI hx] at h1
  refine EvM_mk [some (.ref 16), some (.int (nI x)), some (.int v)] rfl rfl rfl rfl rfl (trivial) ?_
  refine G_iload_n rfl rfl ?_
  refine H_callSN (h1) rfl rfl rfl rfl rfl ?_
  refine G_if_eq rfl (fun h => ?_) (fun h => ?_)
  · exact absurd h (by decide)
  refine G_aload_n rfl rfl ?_
  refine H_getR rfl rfl rfl rfl rfl rfl ?_
  refine G_iload_n rfl rfl ?_
  refine H_bald rfl (rfl) (rfl) (hx) (rfl) ?_
  refine G_if_ne rfl (fun h => ?_) (fun h => ?_)
  · exact absurd h0 h
  refine G_aload_n rfl rfl ?_
  refine H_getI rfl rfl rfl rfl ?_
  refine G_bipush rfl ?_
  refine G_icmp_ge rfl (fun h => ?_) (fun h => ?_)
  · exact absurd (by rw [hn] at h; exact h) (ge_no (n := 20) hn20 (by decide))
  refine G_aload_n rfl rfl ?_
  refine H_getR rfl rfl rfl rfl rfl rfl ?_
  refine G_iload_n rfl rfl ?_
  refine G_iconst rfl ?_
  refine H_bast rfl (rfl) rfl (hx) rfl (by decide) ?_
  refine G_aload_n rfl rfl ?_
  refine H_getR rfl rfl rfl rfl rfl rfl ?_
  refine G_iload_n rfl rfl ?_
  refine G_iload_n rfl rfl ?_
  refine H_iast rfl (rfl) (rfl) (hx) (rfl) ?_
  refine G_aload_n rfl rfl ?_
  refine H_getR rfl rfl rfl rfl rfl rfl ?_
  refine G_aload_n rfl rfl ?_
  refine H_getI rfl rfl rfl rfl ?_
  refine G_iload_n rfl rfl ?_
  refine H_iast rfl (hn) (rfl) (hn20) (rfl) ?_
  refine G_aload_n rfl rfl ?_
  refine G_dup rfl rfl ?_
  refine H_getI rfl rfl rfl rfl ?_
  refine G_iconst rfl ?_
  refine G_iadd rfl ?_
  refine H_putI rfl rfl rfl rfl ?_
  exact H_retv rfl rfl ((by simp [wMeet, u2_ne, hn, nI_succ]))
theorem ev_meet {row : Nat → Int32} {a n x : Nat} {v : Int32} (h : WI row a S n) (hx : x < 20) (hc : Cn row a x) (hv : ∀ π, Pot row π → v = π x - π a) : ∃ S' n', EvM kWalk_meet [.ref 16, .int (nI x), .int v] (mk S R) none (mk S' R) ∧ WI row a S' n' ∧ wExt S S' n n' ∧ S' 17 x = 1 := by
  rcases h.2.1.2.1 x hx with h0 | h1
  · have hn20 : n < 20 := by
      have := cnt_lt (f := fun x => decide (S 17 x = 1)) hx (by rw [h0]; decide)
      rw [h.2.2.1] at this
      exact this
    obtain ⟨w1, w2⟩ := WI_meet h hx h0 hc hv
    exact ⟨_, _, ev_meet_new S R hx v h0 h.1 hn20, w1, w2, by simp [wMeet, u2, upd]⟩
  · exact ⟨_, _, ev_meet_old S R hx v h1, h, wExt.rf, h1⟩
end WK
set_option maxRecDepth 100000 in
theorem ev_goFromPoint {q w : Nat} (hq : TQ q w) (R : Nat → Nat) {a p T : Nat} (hp : p < 12) (S : Nat → Nat → Int32) {n : Nat} (hT : NT (S w) T) (h : WI (S w) a S n) (hm : S 17 p = 1) : ∃ S' n', EvM kWalk_goFromPoint [.ref 16, .ref q, .int (nI p)] (mk S R) none (mk S' R) ∧ WI (S w) a S' n' ∧ wExt S S' n n' ∧ ∀ t, t < 8 → hs (S w) (t * 12 + p) = true → S' 17 (12 + t) = 1 := by
  obtain ⟨hT1, hT2, hT3⟩ := hT
  have hw : w = 2 ∨ w = 21 := by rcases hq with ⟨_, rfl⟩ | ⟨_, rfl⟩ <;> simp
  have loop : ∀ d i S1 n1, i + d = T → WI (S w) a S1 n1 → wExt S S1 n n1 → (∀ t, t < i → hs (S w) (t * 12 + p) = true → S1 17 (12 + t) = 1) → ∃ S' n', Gm kWalk_goFromPoint 2 [some (.ref 16), some (.ref q), some (.int (nI p)), some (.int (nI i))] [] (S1, PF R, 24) none (S', PF R, 24) ∧ WI (S w) a S' n' ∧ wExt S S' n n' ∧ ∀ t, t < 8 → hs (S w) (t * 12 + p) = true → S' 17 (12 + t) = 1 := by
    intro d
    induction d with
    | zero =>
      intro i S1 n1 hi h1 he hall
      have ht := ev_tapes hq S1 R
      rw [he.1 w (by omega) (by omega) (by omega) (by omega), hT1] at ht
      refine ⟨S1, n1, ?_, h1, he, fun t ht8 hh => ?_⟩
      · rcases hq with ⟨rfl, rfl⟩ | ⟨rfl, rfl⟩
        · refine G_iload_n rfl rfl ?_
          refine G_aload_n rfl rfl ?_
          refine H_callV (ht) rfl rfl rfl rfl rfl rfl rfl rfl ?_
          refine G_icmp_ge rfl (fun h9 => ?_) (fun h9 => ?_)
          · skip
            exact H_retv rfl rfl (rfl)
          · exact absurd (nI_le (by omega) (by omega)) h9
        · refine G_iload_n rfl rfl ?_
          refine G_aload_n rfl rfl ?_
          refine H_callV (ht) rfl rfl rfl rfl rfl rfl rfl rfl ?_
          refine G_icmp_ge rfl (fun h9 => ?_) (fun h9 => ?_)
          · skip
            exact H_retv rfl rfl (rfl)
          · exact absurd (nI_le (by omega) (by omega)) h9
      · by_cases htT : t < T
        · exact hall t (by omega) hh
        · exfalso
          have := hT3 (t * 12 + p) (by omega) (by omega)
          simp [hs, this] at hh
    | succ d ih =>
      intro i S1 n1 hi h1 he hall
      have hwS : S1 w = S w := he.1 w (by omega) (by omega) (by omega) (by omega)
      have ht := ev_tapes hq S1 R
      rw [hwS, hT1] at ht
      have i8 : i < 8 := by omega
      have hh := ev_has hq S1 R (nI i) (nI p)
      rw [hwS, tHas_nI i8 hp] at hh
      have hpl := ev_placeOf S1 R (a := p) (by omega)
      have hat := ev_at hq S1 R (nI i) (nI p)
      rw [hwS, tAt_nI i8 hp] at hat
      have e12 : (12 : Int32) + nI i = nI (12 + i) := nI_add 12 i
      by_cases hb : hs (S w) (i * 12 + p) = true
      · have hedge : Cn (S w) (12 + i) p := by
          have := Cn.edge (row := S w) (j := i * 12 + p) (by omega) hb
          rwa [show 12 + (i * 12 + p) / 12 = 12 + i by omega, show (i * 12 + p) % 12 = p by omega] at this
        have hmp : S1 17 p = 1 := he.2.2.1 p (by omega) hm
        have hcp := h1.2.1.2.2.1 p (by omega) hmp
        obtain ⟨S2, n2, ev2, w2, x2, m2⟩ := ev_meet S1 R h1 (x := 12 + i) (v := S1 18 p - S w (i * 12 + p)) (by omega) (hcp.tr hedge.sy) (fun π hπ => by
          have e1 := h1.2.1.2.2.2 π hπ p (by omega) hmp
          have e2 := hπ (i * 12 + p) (by omega) hb
          rw [show 12 + (i * 12 + p) / 12 = 12 + i by omega, show (i * 12 + p) % 12 = p by omega] at e2
          rw [e1, e2]
          grind)
        obtain ⟨S', n', g, r1, r2, r3⟩ := ih (i + 1) S2 n2 (by omega) w2 (he.tr x2) (fun t ht hh => by
          by_cases e : t = i
          · rw [e]; exact m2
          · exact x2.2.2.1 _ (by omega) (hall t (by omega) hh))
        refine ⟨S', n', ?_, r1, r2, r3⟩
        rw [← e12] at ev2
        rw [nI_succ] at g
        rcases hq with ⟨rfl, rfl⟩ | ⟨rfl, rfl⟩
        · refine G_iload_n rfl rfl ?_
          refine G_aload_n rfl rfl ?_
          refine H_callV (ht) rfl rfl rfl rfl rfl rfl rfl rfl ?_
          refine G_icmp_ge rfl (fun h9 => ?_) (fun h9 => ?_)
          · exact absurd h9 (ge_no (by omega) (by omega))
          refine G_aload_n rfl rfl ?_
          refine G_iload_n rfl rfl ?_
          refine G_iload_n rfl rfl ?_
          refine H_callV (hh) rfl rfl rfl rfl rfl rfl rfl rfl ?_
          refine G_if_eq rfl (fun h9 => ?_) (fun h9 => ?_)
          · exact absurd h9 (by rw [hb]; decide)
          refine G_aload_n rfl rfl ?_
          refine G_bipush rfl ?_
          refine G_iload_n rfl rfl ?_
          refine G_iadd rfl ?_
          refine G_aload_n rfl rfl ?_
          refine G_iload_n rfl rfl ?_
          refine H_callV (hpl) rfl rfl rfl rfl rfl rfl rfl rfl ?_
          refine G_aload_n rfl rfl ?_
          refine G_iload_n rfl rfl ?_
          refine G_iload_n rfl rfl ?_
          refine H_callV (hat) rfl rfl rfl rfl rfl rfl rfl rfl ?_
          refine G_isub rfl ?_
          refine H_callU (ev2) rfl rfl rfl rfl rfl rfl rfl rfl ?_
          refine H_inc_4_3 rfl rfl ?_
          refine G_goto rfl ?_
          exact g
        · refine G_iload_n rfl rfl ?_
          refine G_aload_n rfl rfl ?_
          refine H_callV (ht) rfl rfl rfl rfl rfl rfl rfl rfl ?_
          refine G_icmp_ge rfl (fun h9 => ?_) (fun h9 => ?_)
          · exact absurd h9 (ge_no (by omega) (by omega))
          refine G_aload_n rfl rfl ?_
          refine G_iload_n rfl rfl ?_
          refine G_iload_n rfl rfl ?_
          refine H_callV (hh) rfl rfl rfl rfl rfl rfl rfl rfl ?_
          refine G_if_eq rfl (fun h9 => ?_) (fun h9 => ?_)
          · exact absurd h9 (by rw [hb]; decide)
          refine G_aload_n rfl rfl ?_
          refine G_bipush rfl ?_
          refine G_iload_n rfl rfl ?_
          refine G_iadd rfl ?_
          refine G_aload_n rfl rfl ?_
          refine G_iload_n rfl rfl ?_
          refine H_callV (hpl) rfl rfl rfl rfl rfl rfl rfl rfl ?_
          refine G_aload_n rfl rfl ?_
          refine G_iload_n rfl rfl ?_
          refine G_iload_n rfl rfl ?_
          refine H_callV (hat) rfl rfl rfl rfl rfl rfl rfl rfl ?_
          refine G_isub rfl ?_
          refine H_callU (ev2) rfl rfl rfl rfl rfl rfl rfl rfl ?_
          refine H_inc_4_3 rfl rfl ?_
          refine G_goto rfl ?_
          exact g
      · have hb : hs (S w) (i * 12 + p) = false := by simpa using hb
        obtain ⟨S', n', g, r1, r2, r3⟩ := ih (i + 1) S1 n1 (by omega) h1 he (fun t ht hh => by
          by_cases e : t = i
          · rw [e, hb] at hh; cases hh
          · exact hall t (by omega) hh)
        refine ⟨S', n', ?_, r1, r2, r3⟩
        rw [nI_succ] at g
        rcases hq with ⟨rfl, rfl⟩ | ⟨rfl, rfl⟩
        · refine G_iload_n rfl rfl ?_
          refine G_aload_n rfl rfl ?_
          refine H_callV (ht) rfl rfl rfl rfl rfl rfl rfl rfl ?_
          refine G_icmp_ge rfl (fun h9 => ?_) (fun h9 => ?_)
          · exact absurd h9 (ge_no (by omega) (by omega))
          refine G_aload_n rfl rfl ?_
          refine G_iload_n rfl rfl ?_
          refine G_iload_n rfl rfl ?_
          refine H_callV (hh) rfl rfl rfl rfl rfl rfl rfl rfl ?_
          refine G_if_eq rfl (fun h9 => ?_) (fun h9 => ?_)
          · skip
            refine H_inc_4_3 rfl rfl ?_
            refine G_goto rfl ?_
            exact g
          · exact absurd (by rw [hb]; rfl) h9
        · refine G_iload_n rfl rfl ?_
          refine G_aload_n rfl rfl ?_
          refine H_callV (ht) rfl rfl rfl rfl rfl rfl rfl rfl ?_
          refine G_icmp_ge rfl (fun h9 => ?_) (fun h9 => ?_)
          · exact absurd h9 (ge_no (by omega) (by omega))
          refine G_aload_n rfl rfl ?_
          refine G_iload_n rfl rfl ?_
          refine G_iload_n rfl rfl ?_
          refine H_callV (hh) rfl rfl rfl rfl rfl rfl rfl rfl ?_
          refine G_if_eq rfl (fun h9 => ?_) (fun h9 => ?_)
          · skip
            refine H_inc_4_3 rfl rfl ?_
            refine G_goto rfl ?_
            exact g
          · exact absurd (by rw [hb]; rfl) h9
  obtain ⟨S', n', g, r⟩ := loop T 0 S n (by omega) h wExt.rf (fun t ht => absurd ht (Nat.not_lt_zero t))
  refine ⟨S', n', ?_, r⟩
  refine EvM_mk [some (.ref 16), some (.ref q), some (.int (nI p)), none] rfl rfl rfl rfl rfl (trivial) ?_
  refine G_iconst rfl ?_
  refine H_ist_4_3 rfl rfl ?_
  exact g
set_option maxRecDepth 100000 in
theorem ev_goFromTape {q w : Nat} (hq : TQ q w) (R : Nat → Nat) {a t : Nat} (ht8 : t < 8) (S : Nat → Nat → Int32) {n : Nat} (h : WI (S w) a S n) (hm : S 17 (12 + t) = 1) : ∃ S' n', EvM kWalk_goFromTape [.ref 16, .ref q, .int (nI t)] (mk S R) none (mk S' R) ∧ WI (S w) a S' n' ∧ wExt S S' n n' ∧ ∀ p, p < 12 → hs (S w) (t * 12 + p) = true → S' 17 p = 1 := by
  have hw : w = 2 ∨ w = 21 := by rcases hq with ⟨_, rfl⟩ | ⟨_, rfl⟩ <;> simp
  have e12 : (12 : Int32) + nI t = nI (12 + t) := nI_add 12 t
  have loop : ∀ d i S1 n1, i + d = 12 → WI (S w) a S1 n1 → wExt S S1 n n1 → (∀ p, p < i → hs (S w) (t * 12 + p) = true → S1 17 p = 1) → ∃ S' n', Gm kWalk_goFromTape 2 [some (.ref 16), some (.ref q), some (.int (nI t)), some (.int (nI i))] [] (S1, PF R, 24) none (S', PF R, 24) ∧ WI (S w) a S' n' ∧ wExt S S' n n' ∧ ∀ p, p < 12 → hs (S w) (t * 12 + p) = true → S' 17 p = 1 := by
    intro d
    induction d with
    | zero =>
      intro i S1 n1 hi h1 he hall
      refine ⟨S1, n1, ?_, h1, he, fun p hp hh => hall p (by omega) hh⟩
      refine G_iload_n rfl rfl ?_
      refine G_bipush rfl ?_
      refine G_icmp_ge rfl (fun h9 => ?_) (fun h9 => ?_)
      · skip
        exact H_retv rfl rfl (rfl)
      · exact absurd (nI_le (a := 12) (by omega) (by omega)) h9
    | succ d ih =>
      intro i S1 n1 hi h1 he hall
      have hwS : S1 w = S w := he.1 w (by omega) (by omega) (by omega) (by omega)
      have i12 : i < 12 := by omega
      have hh := ev_has hq S1 R (nI t) (nI i)
      rw [hwS, tHas_nI ht8 i12] at hh
      have hpl := ev_placeOf S1 R (a := 12 + t) (by omega)
      rw [← e12] at hpl
      have hat := ev_at hq S1 R (nI t) (nI i)
      rw [hwS, tAt_nI ht8 i12] at hat
      by_cases hb : hs (S w) (t * 12 + i) = true
      · have hedge : Cn (S w) (12 + t) i := by
          have := Cn.edge (row := S w) (j := t * 12 + i) (by omega) hb
          rwa [show 12 + (t * 12 + i) / 12 = 12 + t by omega, show (t * 12 + i) % 12 = i by omega] at this
        have hmp : S1 17 (12 + t) = 1 := he.2.2.1 (12 + t) (by omega) hm
        have hcp := h1.2.1.2.2.1 (12 + t) (by omega) hmp
        obtain ⟨S2, n2, ev2, w2, x2, m2⟩ := ev_meet S1 R h1 (x := i) (v := S1 18 (12 + t) + S w (t * 12 + i)) (by omega) (hcp.tr hedge) (fun π hπ => by
          have e1 := h1.2.1.2.2.2 π hπ (12 + t) (by omega) hmp
          have e2 := hπ (t * 12 + i) (by omega) hb
          rw [show 12 + (t * 12 + i) / 12 = 12 + t by omega, show (t * 12 + i) % 12 = i by omega] at e2
          rw [e1, e2]
          grind)
        obtain ⟨S', n', g, r1, r2, r3⟩ := ih (i + 1) S2 n2 (by omega) w2 (he.tr x2) (fun p hp hh => by
          by_cases e : p = i
          · rw [e]; exact m2
          · exact x2.2.2.1 _ (by omega) (hall p (by omega) hh))
        refine ⟨S', n', ?_, r1, r2, r3⟩
        rw [nI_succ] at g
        rcases hq with ⟨rfl, rfl⟩ | ⟨rfl, rfl⟩
        · refine G_iload_n rfl rfl ?_
          refine G_bipush rfl ?_
          refine G_icmp_ge rfl (fun h9 => ?_) (fun h9 => ?_)
          · exact absurd h9 (ge_no i12 (by decide))
          refine G_aload_n rfl rfl ?_
          refine G_iload_n rfl rfl ?_
          refine G_iload_n rfl rfl ?_
          refine H_callV (hh) rfl rfl rfl rfl rfl rfl rfl rfl ?_
          refine G_if_eq rfl (fun h9 => ?_) (fun h9 => ?_)
          · exact absurd h9 (by rw [hb]; decide)
          refine G_aload_n rfl rfl ?_
          refine G_iload_n rfl rfl ?_
          refine G_aload_n rfl rfl ?_
          refine G_bipush rfl ?_
          refine G_iload_n rfl rfl ?_
          refine G_iadd rfl ?_
          refine H_callV (hpl) rfl rfl rfl rfl rfl rfl rfl rfl ?_
          refine G_aload_n rfl rfl ?_
          refine G_iload_n rfl rfl ?_
          refine G_iload_n rfl rfl ?_
          refine H_callV (hat) rfl rfl rfl rfl rfl rfl rfl rfl ?_
          refine G_iadd rfl ?_
          refine H_callU (ev2) rfl rfl rfl rfl rfl rfl rfl rfl ?_
          refine H_inc_4_3 rfl rfl ?_
          refine G_goto rfl ?_
          exact g
        · refine G_iload_n rfl rfl ?_
          refine G_bipush rfl ?_
          refine G_icmp_ge rfl (fun h9 => ?_) (fun h9 => ?_)
          · exact absurd h9 (ge_no i12 (by decide))
          refine G_aload_n rfl rfl ?_
          refine G_iload_n rfl rfl ?_
          refine G_iload_n rfl rfl ?_
          refine H_callV (hh) rfl rfl rfl rfl rfl rfl rfl rfl ?_
          refine G_if_eq rfl (fun h9 => ?_) (fun h9 => ?_)
          · exact absurd h9 (by rw [hb]; decide)
          refine G_aload_n rfl rfl ?_
          refine G_iload_n rfl rfl ?_
          refine G_aload_n rfl rfl ?_
          refine G_bipush rfl ?_
          refine G_iload_n rfl rfl ?_
          refine G_iadd rfl ?_
          refine H_callV (hpl) rfl rfl rfl rfl rfl rfl rfl rfl ?_
          refine G_aload_n rfl rfl ?_
          refine G_iload_n rfl rfl ?_
          refine G_iload_n rfl rfl ?_
          refine H_callV (hat) rfl rfl rfl rfl rfl rfl rfl rfl ?_
          refine G_iadd rfl ?_
          refine H_callU (ev2) rfl rfl rfl rfl rfl rfl rfl rfl ?_
          refine H_inc_4_3 rfl rfl ?_
          refine G_goto rfl ?_
          exact g
      · have hb : hs (S w) (t * 12 + i) = false := by simpa using hb
        obtain ⟨S', n', g, r1, r2, r3⟩ := ih (i + 1) S1 n1 (by omega) h1 he (fun p hp hh => by
          by_cases e : p = i
          · rw [e, hb] at hh; cases hh
          · exact hall p (by omega) hh)
        refine ⟨S', n', ?_, r1, r2, r3⟩
        rw [nI_succ] at g
        rcases hq with ⟨rfl, rfl⟩ | ⟨rfl, rfl⟩
        · refine G_iload_n rfl rfl ?_
          refine G_bipush rfl ?_
          refine G_icmp_ge rfl (fun h9 => ?_) (fun h9 => ?_)
          · exact absurd h9 (ge_no i12 (by decide))
          refine G_aload_n rfl rfl ?_
          refine G_iload_n rfl rfl ?_
          refine G_iload_n rfl rfl ?_
          refine H_callV (hh) rfl rfl rfl rfl rfl rfl rfl rfl ?_
          refine G_if_eq rfl (fun h9 => ?_) (fun h9 => ?_)
          · skip
            refine H_inc_4_3 rfl rfl ?_
            refine G_goto rfl ?_
            exact g
          · exact absurd (by rw [hb]; rfl) h9
        · refine G_iload_n rfl rfl ?_
          refine G_bipush rfl ?_
          refine G_icmp_ge rfl (fun h9 => ?_) (fun h9 => ?_)
          · exact absurd h9 (ge_no i12 (by decide))
          refine G_aload_n rfl rfl ?_
          refine G_iload_n rfl rfl ?_
          refine G_iload_n rfl rfl ?_
          refine H_callV (hh) rfl rfl rfl rfl rfl rfl rfl rfl ?_
          refine G_if_eq rfl (fun h9 => ?_) (fun h9 => ?_)
          · skip
            refine H_inc_4_3 rfl rfl ?_
            refine G_goto rfl ?_
            exact g
          · exact absurd (by rw [hb]; rfl) h9
  obtain ⟨S', n', g, r⟩ := loop 12 0 S n (by omega) h wExt.rf (fun t ht => absurd ht (Nat.not_lt_zero t))
  refine ⟨S', n', ?_, r⟩
  refine EvM_mk [some (.ref 16), some (.ref q), some (.int (nI t)), none] rfl rfl rfl rfl rfl (trivial) ?_
  refine G_iconst rfl ?_
  refine H_ist_4_3 rfl rfl ?_
  exact g
