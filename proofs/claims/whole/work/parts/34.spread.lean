/-! the document's own reckoning: spreads -/
def jB (row m : Nat → Int32) (t p : Nat) : Bool := hs row (t * 12 + p) && !decide (m (12 + t) = m p)
def jM (m : Nat → Int32) (t p : Nat) : Nat → Int32 := upd (upd m (12 + t) 1) p 1
def jA (row m A : Nat → Int32) (t p : Nat) : Nat → Int32 := if m (12 + t) = 0 then upd A (12 + t) (A p - row (t * 12 + p)) else upd A p (A (12 + t) + row (t * 12 + p))
def jS (row : Nat → Int32) (S : Nat → Nat → Int32) (t p : Nat) : Nat → Nat → Int32 := bif jB row (S 29) t p then u2 (u2 S 30 (jA row (S 29) (S 30) t p)) 29 (jM (S 29) t p) else S
def SPI (row : Nat → Int32) (a N : Nat) (m A : Nat → Int32) : Prop := (∀ x, x < 20 → m x = 0 ∨ m x = 1) ∧ m a = 1 ∧ cnt (fun x => decide (m x = 1)) 20 = N ∧ ∀ x, x < 20 → m x = 1 → Cn row a x ∧ (∀ π, Pot row π → A x = π x - π a) ∧ -(999 * (N : Int)) ≤ (A x).toInt ∧ (A x).toInt ≤ 999 * (N : Int)
def MS (row : Nat → Int32) (a : Nat) (m A : Nat → Int32) : Prop := (∀ x, x < 20 → m x = b2i (cB row a x)) ∧ ∀ x, x < 20 → cB row a x = true → (∀ π, Pot row π → A x = π x - π a) ∧ -19980 ≤ (A x).toInt ∧ (A x).toInt ≤ 19980
theorem Cn_edge {row : Nat → Int32} {t p : Nat} (ht : t < 8) (hp : p < 12) (h : hs row (t * 12 + p) = true) : Cn row (12 + t) p := fun A c hA => by
  have := (c (t * 12 + p) (by omega) h).mp
  rw [show (t * 12 + p) / 12 = t by omega, show (t * 12 + p) % 12 = p by omega] at this
  exact this hA
theorem Pot_edge {row π : Nat → Int32} {t p : Nat} (ht : t < 8) (hp : p < 12) (h : hs row (t * 12 + p) = true) (hπ : Pot row π) : row (t * 12 + p) = π p - π (12 + t) := by
  have := hπ (t * 12 + p) (by omega) h
  rw [show (t * 12 + p) / 12 = t by omega, show (t * 12 + p) % 12 = p by omega] at this
  exact this
theorem SPI_step {row m A : Nat → Int32} {a N t p : Nat} (h : SPI row a N m A) (hN : N ≤ 20) (hr : RG row) (hj : jB row m t p = true) (ht : t < 8) (hp : p < 12) : SPI row a (N + 1) (jM m t p) (jA row m A t p) := by
  obtain ⟨h1, h2, h3, h4⟩ := h
  unfold jB at hj
  rw [Bool.and_eq_true, Bool.not_eq_true', decide_eq_false_iff_not] at hj
  obtain ⟨hh, hne⟩ := hj
  have hb := isNb_iff.mp (hr _ (by omega) hh)
  have key : ∀ (x y : Nat) (v : Int32), x < 20 → y < 20 → m x = 1 → m y = 0 → Cn row x y → (∀ π, Pot row π → v = A x + (π y - π x)) → (v.toInt = (A x).toInt + (row (t * 12 + p)).toInt ∨ v.toInt = (A x).toInt - (row (t * 12 + p)).toInt) → SPI row a (N + 1) (upd m y 1) (upd A y v) := by
    intro x y v hx hy mx my hc hv hi
    have xy : x ≠ y := fun e => by rw [e, my] at mx; cases mx
    obtain ⟨c1, c2, c3, c4⟩ := h4 x hx mx
    refine ⟨fun z hz => ?_, ?_, ?_, fun z hz hm => ?_⟩
    · by_cases e : z = y
      · rw [e, upd_same]; exact Or.inr rfl
      · rw [upd_ne e]; exact h1 z hz
    · rw [upd_ne (fun e => by rw [e, my] at h2; cases h2)]; exact h2
    · rw [← h3]
      exact cnt_up (x := y) (by show decide (m y = 1) = false; rw [my]; rfl) (by show decide (upd m y 1 y = 1) = true; rw [upd_same]; rfl) (fun z hz => by show decide (upd m y 1 z = 1) = decide (m z = 1); rw [upd_ne hz]) hy
    · by_cases e : z = y
      · rw [e, upd_same]
        refine ⟨c1.tr hc, fun π hπ => ?_, ?_, ?_⟩
        · rw [hv π hπ, c2 π hπ]; grind
        · push_cast; omega
        · push_cast; omega
      · rw [upd_ne e] at hm ⊢
        obtain ⟨d1, d2, d3, d4⟩ := h4 z hz hm
        exact ⟨d1, d2, by push_cast; omega, by push_cast; omega⟩
  have hd := Cn_edge ht hp hh
  obtain n0 | n1 := h1 (12 + t) (by omega)
  · have p1 : m p = 1 := by
      obtain e | e := h1 p (by omega)
      · exact absurd (by rw [n0, e]) hne
      · exact e
    have e : jM m t p = upd m (12 + t) 1 := by
      funext z
      unfold jM
      by_cases ez : z = p
      · rw [ez, upd_same, upd_ne (by omega), p1]
      · rw [upd_ne ez]
    rw [e, jA, if_pos n0]
    obtain ⟨c1, c2, c3, c4⟩ := h4 p (by omega) p1
    refine key p (12 + t) _ (by omega) (by omega) p1 n0 hd.sy (fun π hπ => by rw [Pot_edge ht hp hh hπ]; grind) (Or.inr ?_)
    rw [Int32.toInt_sub]
    exact Int.bmod_eq_of_le (by omega) (by omega)
  · have p0 : m p = 0 := by
      obtain e | e := h1 p (by omega)
      · exact e
      · exact absurd (by rw [n1, e]) hne
    have e : jM m t p = upd m p 1 := by
      unfold jM
      rw [show upd m (12 + t) 1 = m from by funext z; by_cases ez : z = 12 + t; rw [ez, upd_same, n1]; exact upd_ne ez]
    rw [e, jA, if_neg (by rw [n1]; decide)]
    obtain ⟨c1, c2, c3, c4⟩ := h4 (12 + t) (by omega) n1
    refine key (12 + t) p _ (by omega) (by omega) n1 p0 hd (fun π hπ => by rw [Pot_edge ht hp hh hπ]) (Or.inl ?_)
    rw [Int32.toInt_add]
    exact Int.bmod_eq_of_le (by omega) (by omega)
theorem SPI_end {row m A : Nat → Int32} {a N T : Nat} (h : SPI row a N m A) (hN : N ≤ 20) (hT : NT row T) (hx : ∀ t p, t < T → p < 12 → jB row m t p = false) : MS row a m A := by
  obtain ⟨h1, h2, h3, h4⟩ := h
  have cl : Cl row (fun x => m x = 1) := fun j hj hh => by
    have jT : j < T * 12 := Decidable.byContradiction fun q => by
      have := hT.2.2 j (by omega) hj
      exact hs_ne.mp hh this
    have := hx (j / 12) (j % 12) (by omega) (by omega)
    unfold jB at this
    rw [show j / 12 * 12 + j % 12 = j by omega, hh, Bool.true_and, Bool.not_eq_false', decide_eq_true_eq] at this
    show m _ = 1 ↔ m _ = 1
    rw [this]
  have iff : ∀ x, x < 20 → (m x = 1 ↔ Cn row a x) := fun x hx => ⟨fun h => (h4 x hx h).1, fun h => h _ cl h2⟩
  refine ⟨fun x hx => ?_, fun x hx hc => ?_⟩
  · cases hc : cB row a x with
    | true => exact (iff x hx).mpr (cB_iff.mp hc)
    | false =>
      obtain e | e := h1 x hx
      · exact e
      · rw [cB_iff.mpr ((iff x hx).mp e)] at hc; cases hc
  · obtain ⟨-, d2, d3, d4⟩ := h4 x hx ((iff x hx).mpr (cB_iff.mp hc))
    exact ⟨d2, by omega, by omega⟩
theorem down_all (N : Nat) {P : Nat → Prop} (hN : P N) (hs : ∀ i, i < N → P (i + 1) → P i) : ∀ i, i ≤ N → P i := fun i hi => down_from N P hN hs i hi
def sFr (S S' : Nat → Nat → Int32) : Prop := ∀ i, i ≠ 29 → i ≠ 30 → S' i = S i
def iM (m : Nat → Int32) (a i : Nat) : Nat → Int32 := fun x => if x < i then (if x = a then 1 else 0) else m x
def iA (A : Nat → Int32) (i : Nat) : Nat → Int32 := fun x => if x < i then 0 else A x
theorem iM_s {m : Nat → Int32} {a i : Nat} : upd (iM m a i) i (if i = a then 1 else 0) = iM m a (i + 1) := by
  funext x
  unfold iM
  by_cases h : x = i
  · subst h; rw [upd_same, if_pos (show x < x + 1 by omega)]
  · rw [upd_ne h]
    by_cases h2 : x < i
    · rw [if_pos h2, if_pos (show x < i + 1 by omega)]
    · rw [if_neg h2, if_neg (show ¬ x < i + 1 by omega)]
theorem iA_s {A : Nat → Int32} {i : Nat} : upd (iA A i) i 0 = iA A (i + 1) := by
  funext x
  unfold iA
  by_cases h : x = i
  · subst h; rw [upd_same, if_pos (by omega)]
  · rw [upd_ne h]
    by_cases h2 : x < i
    · rw [if_pos h2, if_pos (by omega)]
    · rw [if_neg h2, if_neg (by omega)]
section MSP
variable (S : Nat → Nat → Int32) (R : Nat → Nat) {row : Nat → Int32} {T : Nat}
set_option maxRecDepth 100000 in
theorem ev_mjoins (hC : CS row T (S 25)) {t p : Nat} (ht : t < 8) (hp : p < 12) : EvM kM_joins [.ref 24, .int (nI t), .int (nI p)] (mk S R) (some (.int (b2i (jB row (S 29) t p)))) (mk (jS row S t p) R) := by
  have c1 := ev_mhas S R hC ht hp
  have c2 := ev_mof S R ht hp
  have ex : (12 : Int32) + nI t = nI (12 + t) := (nI_add 12 t).symm ▸ rfl
  refine EvM_mk [some (.ref 24), some (.int (nI t)), some (.int (nI p)), none] rfl rfl rfl rfl rfl (okb _) ?_
  refine G_bipush rfl ?_
  refine G_iload_n rfl rfl ?_
  refine G_iadd rfl ?_
  refine H_ist_4_3 rfl rfl ?_
  rw [ex]
  refine G_aload_n rfl rfl ?_
  refine G_iload_n rfl rfl ?_
  refine G_iload_n rfl rfl ?_
  refine H_callV (c1) rfl rfl rfl rfl rfl rfl rfl rfl ?_
  refine G_if_eq rfl (fun h => ?_) (fun h => ?_)
  · have e : jB row (S 29) t p = false := by rw [jB, b2i_0.mp h]; rfl
    refine G_iconst rfl ?_
    exact H_ret rfl rfl ((by rw [e]; rfl)) ((by rw [jS, e]; rfl))
  refine G_aload_n rfl rfl ?_
  refine H_getR rfl rfl rfl rfl rfl rfl ?_
  refine G_iload_n rfl rfl ?_
  refine H_bald rfl (rfl) (rfl) ((by omega)) (rfl) ?_
  refine G_aload_n rfl rfl ?_
  refine H_getR rfl rfl rfl rfl rfl rfl ?_
  refine G_iload_n rfl rfl ?_
  refine H_bald rfl (rfl) (rfl) ((by omega)) (rfl) ?_
  refine G_icmp_ne rfl (fun h2 => ?_) (fun h2 => ?_)
  · have e : jB row (S 29) t p = true := by rw [jB, b2i_n0.mp h, decide_eq_false h2]; rfl
    have hof := CR_of hC (j := t * 12 + p) (by omega) (b2i_n0.mp h)
    rw [hof] at c2
    refine G_aload_n rfl rfl ?_
    refine H_getR rfl rfl rfl rfl rfl rfl ?_
    refine G_iload_n rfl rfl ?_
    refine H_bald rfl (rfl) (rfl) ((by omega)) (rfl) ?_
    refine G_if_eq rfl (fun h3 => ?_) (fun h3 => ?_)
    · skip
      refine G_aload_n rfl rfl ?_
      refine H_getR rfl rfl rfl rfl rfl rfl ?_
      refine G_iload_n rfl rfl ?_
      refine G_aload_n rfl rfl ?_
      refine H_getR rfl rfl rfl rfl rfl rfl ?_
      refine G_iload_n rfl rfl ?_
      refine H_iald rfl (rfl) (rfl) ((by omega)) (rfl) ?_
      refine G_aload_n rfl rfl ?_
      refine G_iload_n rfl rfl ?_
      refine G_iload_n rfl rfl ?_
      refine H_callV (c2) rfl rfl rfl rfl rfl rfl rfl rfl ?_
      refine G_isub rfl ?_
      refine H_iast rfl (rfl) (rfl) ((by omega)) (rfl) ?_
      refine G_aload_n rfl rfl ?_
      refine H_getR rfl rfl rfl rfl rfl rfl ?_
      refine G_iload_n rfl rfl ?_
      refine G_iconst rfl ?_
      refine H_bast rfl (rfl) rfl ((by omega)) rfl (by decide) ?_
      refine G_aload_n rfl rfl ?_
      refine H_getR rfl rfl rfl rfl rfl rfl ?_
      refine G_iload_n rfl rfl ?_
      refine G_iconst rfl ?_
      refine H_bast rfl (rfl) rfl ((by omega)) rfl (by decide) ?_
      refine G_iconst rfl ?_
      exact H_ret rfl rfl ((by rw [e]; rfl)) ((by rw [jS, e, cond_true, jA, if_pos h3, jM, u2_same, u2_u2, u2_ne (show 29 ≠ 30 by decide)]))
    · skip
      refine G_aload_n rfl rfl ?_
      refine H_getR rfl rfl rfl rfl rfl rfl ?_
      refine G_iload_n rfl rfl ?_
      refine G_aload_n rfl rfl ?_
      refine H_getR rfl rfl rfl rfl rfl rfl ?_
      refine G_iload_n rfl rfl ?_
      refine H_iald rfl (rfl) (rfl) ((by omega)) (rfl) ?_
      refine G_aload_n rfl rfl ?_
      refine G_iload_n rfl rfl ?_
      refine G_iload_n rfl rfl ?_
      refine H_callV (c2) rfl rfl rfl rfl rfl rfl rfl rfl ?_
      refine G_iadd rfl ?_
      refine H_iast rfl (rfl) (rfl) ((by omega)) (rfl) ?_
      refine G_goto rfl ?_
      refine G_aload_n rfl rfl ?_
      refine H_getR rfl rfl rfl rfl rfl rfl ?_
      refine G_iload_n rfl rfl ?_
      refine G_iconst rfl ?_
      refine H_bast rfl (rfl) rfl ((by omega)) rfl (by decide) ?_
      refine G_aload_n rfl rfl ?_
      refine H_getR rfl rfl rfl rfl rfl rfl ?_
      refine G_iload_n rfl rfl ?_
      refine G_iconst rfl ?_
      refine H_bast rfl (rfl) rfl ((by omega)) rfl (by decide) ?_
      refine G_iconst rfl ?_
      exact H_ret rfl rfl ((by rw [e]; rfl)) ((by rw [jS, e, cond_true, jA, if_neg h3, jM, u2_same, u2_u2, u2_ne (show 29 ≠ 30 by decide)]))
  · have e : jB row (S 29) t p = false := by rw [jB, decide_eq_true (Decidable.of_not_not h2), Bool.not_true, Bool.and_false]
    refine G_iconst rfl ?_
    exact H_ret rfl rfl ((by rw [e]; rfl)) ((by rw [jS, e]; rfl))
theorem jS_fr {t p : Nat} : sFr S (jS row S t p) := fun i h1 h2 => by
  unfold jS
  cases jB row (S 29) t p
  · rfl
  · rw [cond_true, u2_ne h1, u2_ne h2]
/-- one more reading is looked at -/
theorem jS_sp {a N t p : Nat} (h : SPI row a N (S 29) (S 30)) (hr : RG row) (ht : t < 8) (hp : p < 12) : SPI row a (N + (bif jB row (S 29) t p then 1 else 0)) (jS row S t p 29) (jS row S t p 30) := by
  have hN : N ≤ 20 := by rw [← h.2.2.1]; exact cnt_le _ _
  cases hj : jB row (S 29) t p with
  | false => rw [jS, hj]; exact h
  | true =>
    rw [jS, hj, cond_true, cond_true, u2_same, u2_ne (show 30 ≠ 29 by decide), u2_same]
    exact SPI_step h hN hr hj ht hp
/-- what a part of a round gives: from S with g and N to S1 with g1 and N1, the readings that A tells are looked at -/
def RD (row : Nat → Int32) (a N : Nat) (S S1 : Nat → Nat → Int32) (g g1 : Bool) (A : Nat → Nat → Prop) : Prop := sFr S S1 ∧ ∃ N1, SPI row a N1 (S1 29) (S1 30) ∧ ((g1 = g ∧ S1 = S ∧ N1 = N ∧ ∀ t p, A t p → jB row (S 29) t p = false) ∨ (g1 = true ∧ N < N1))
theorem sFr.tr {S S1 S2 : Nat → Nat → Int32} (h1 : sFr S S1) (h2 : sFr S1 S2) : sFr S S2 := fun i q1 q2 => (h2 i q1 q2).trans (h1 i q1 q2)
set_option maxRecDepth 100000 in
theorem sp_points {a t : Nat} (ht : t < 8) {v0 : Int32} : ∀ p, p ≤ 12 → ∀ (S : Nat → Nat → Int32) (g : Bool) (N : Nat) l5, CS row T (S 25) → SPI row a N (S 29) (S 30) → ∃ S1 g1 l5', RD row a N S S1 g g1 (fun t' p' => t' = t ∧ p ≤ p' ∧ p' < 12) ∧ ∀ σ : Nat → Nat → Int32, (Gm kM_spreads 97 [some (.ref 24), some (.int v0), some (.int (b2i g1)), some (.int (nI t)), some (.int (nI 12)), l5'] [] (S1, PF R, 32) none (σ, PF R, 32) → Gm kM_spreads 60 [some (.ref 24), some (.int v0), some (.int (b2i g)), some (.int (nI t)), some (.int (nI p)), l5] [] (S, PF R, 32) none (σ, PF R, 32)) := by
  refine down_all 12 (fun S g N l5 hC h => ?_) (fun p hp ih S g N l5 hC h => ?_)
  · refine ⟨S, g, l5, ⟨fun _ _ _ => rfl, N, h, Or.inl ⟨rfl, rfl, rfl, fun t' p' q => by omega⟩⟩, fun σ kk => ?_⟩
    refine G_iload rfl rfl ?_
    refine G_bipush rfl ?_
    refine G_icmp_ge rfl (fun q => ?_) (fun q => ?_)
    · exact kk
    · exact absurd (by decide) q
  · have cj := ev_mjoins S R hC ht hp
    have hC1 : CS row T (jS row S t p 25) := by rw [jS_fr S 25 (by decide) (by decide)]; exact hC
    obtain ⟨S1, g1, l5', ⟨f1, N1, hs1, alt⟩, kont⟩ := ih (jS row S t p) (g || jB row (S 29) t p) _ (some (.int (b2i (jB row (S 29) t p)))) hC1 (jS_sp S h hC.2.1 ht hp)
    refine ⟨S1, g1, l5', ⟨(jS_fr S).tr f1, N1, hs1, ?_⟩, fun σ kk => ?_⟩
    · cases hj : jB row (S 29) t p with
      | true =>
        rw [hj, cond_true, Bool.or_true] at alt
        obtain ⟨e1, -, e3, -⟩ | ⟨e1, e2⟩ := alt
        · exact Or.inr ⟨e1, by omega⟩
        · exact Or.inr ⟨e1, by omega⟩
      | false =>
        rw [hj, cond_false, Bool.or_false, Nat.add_zero, show jS row S t p = S by rw [jS, hj]; rfl] at alt
        obtain ⟨e1, e2, e3, e4⟩ | ⟨e1, e2⟩ := alt
        · refine Or.inl ⟨e1, e2, e3, fun t' p' q => ?_⟩
          by_cases ep : p' = p
          · rw [q.1, ep]; exact hj
          · exact e4 t' p' ⟨q.1, by omega, q.2.2⟩
        · exact Or.inr ⟨e1, e2⟩
    · have kk := kont σ kk
      rw [nI_succ] at kk
      refine G_iload rfl rfl ?_
      refine G_bipush rfl ?_
      refine G_icmp_ge rfl (fun q => ?_) (fun q => ?_)
      · exact absurd q (ge_no hp (by decide))
      refine G_aload_n rfl rfl ?_
      refine G_iload_n rfl rfl ?_
      refine G_iload rfl rfl ?_
      refine H_callV (cj) rfl rfl rfl rfl rfl rfl rfl rfl ?_
      refine H_ist_6_5 rfl rfl ?_
      refine G_iload_n rfl rfl ?_
      refine G_if_ne rfl (fun q1 => ?_) (fun q1 => ?_)
      · skip
        refine G_iconst rfl ?_
        refine G_goto rfl ?_
        refine H_ist_6_2 rfl rfl ?_
        refine H_inc_6_4 rfl rfl ?_
        refine G_goto rfl ?_
        rw [show (g || jB row (S 29) t p) = true by rw [b2i_n0.mp q1]; rfl] at kk
        exact kk
      refine G_iload rfl rfl ?_
      refine G_if_eq rfl (fun q2 => ?_) (fun q2 => ?_)
      · skip
        refine G_iconst rfl ?_
        refine H_ist_6_2 rfl rfl ?_
        refine H_inc_6_4 rfl rfl ?_
        refine G_goto rfl ?_
        rw [show (g || jB row (S 29) t p) = false by rw [b2i_0.mp (Decidable.of_not_not q1), b2i_0.mp q2]; rfl] at kk
        exact kk
      · skip
        refine G_iconst rfl ?_
        refine G_goto rfl ?_
        refine H_ist_6_2 rfl rfl ?_
        refine H_inc_6_4 rfl rfl ?_
        refine G_goto rfl ?_
        rw [show (g || jB row (S 29) t p) = true by rw [b2i_n0.mp q2, Bool.or_true]] at kk
        exact kk
set_option maxRecDepth 100000 in
theorem sp_tapes {a : Nat} {v0 : Int32} (hT8 : T ≤ 8) : ∀ t, t ≤ T → ∀ (S : Nat → Nat → Int32) (g : Bool) (N : Nat) l4 l5, CS row T (S 25) → SPI row a N (S 29) (S 30) → ∃ S1 g1 l4' l5', RD row a N S S1 g g1 (fun t' p' => t ≤ t' ∧ t' < T ∧ p' < 12) ∧ ∀ σ : Nat → Nat → Int32, (Gm kM_spreads 39 [some (.ref 24), some (.int v0), some (.int (b2i g1)), some (.int (nI T)), l4', l5'] [] (S1, PF R, 32) none (σ, PF R, 32) → Gm kM_spreads 47 [some (.ref 24), some (.int v0), some (.int (b2i g)), some (.int (nI t)), l4, l5] [] (S, PF R, 32) none (σ, PF R, 32)) := by
  refine down_all T (fun S g N l4 l5 hC h => ?_) (fun t ht ih S g N l4 l5 hC h => ?_)
  · refine ⟨S, g, l4, l5, ⟨fun _ _ _ => rfl, N, h, Or.inl ⟨rfl, rfl, rfl, fun t' p' q => by omega⟩⟩, fun σ kk => ?_⟩
    refine G_iload_n rfl rfl ?_
    refine G_aload_n rfl rfl ?_
    refine H_getR rfl rfl rfl rfl rfl rfl ?_
    refine G_iconst rfl ?_
    refine H_iald rfl (rfl) (rfl) ((by decide)) (rfl) ?_
    refine G_icmp_ge rfl (fun q => ?_) (fun q => ?_)
    · skip
      refine G_goto rfl ?_
      exact kk
    · exact absurd (by rw [hC.2.2.1]; exact Int32.le_refl _) q
  · obtain ⟨S1, g1, l5', ⟨f1, N1, hs1, alt1⟩, k1⟩ := sp_points R (T := T) (v0 := v0) (show t < 8 by omega) 0 (by omega) S g N l5 hC h
    have hC1 : CS row T (S1 25) := by rw [f1 25 (by decide) (by decide)]; exact hC
    obtain ⟨S2, g2, l4', l5'', ⟨f2, N2, hs2, alt2⟩, k2⟩ := ih S1 g1 N1 (some (.int (nI 12))) l5' hC1 hs1
    refine ⟨S2, g2, l4', l5'', ⟨f1.tr f2, N2, hs2, ?_⟩, fun σ kk => ?_⟩
    · obtain ⟨a1, a2, a3, a4⟩ | ⟨a1, a2⟩ := alt1
      · obtain ⟨b1, b2, b3, b4⟩ | ⟨b1, b2⟩ := alt2
        · refine Or.inl ⟨b1.trans a1, b2.trans a2, b3.trans a3, fun t' p' q => ?_⟩
          by_cases et : t' = t
          · exact a4 t' p' ⟨et, Nat.zero_le _, q.2.2⟩
          · have := b4 t' p' ⟨by omega, q.2.1, q.2.2⟩
            rw [a2] at this
            exact this
        · exact Or.inr ⟨b1, by omega⟩
      · obtain ⟨b1, b2, b3, b4⟩ | ⟨b1, b2⟩ := alt2
        · exact Or.inr ⟨b1.trans a1, by omega⟩
        · exact Or.inr ⟨b1, by omega⟩
    · have kk := k2 σ kk
      refine G_iload_n rfl rfl ?_
      refine G_aload_n rfl rfl ?_
      refine H_getR rfl rfl rfl rfl rfl rfl ?_
      refine G_iconst rfl ?_
      refine H_iald rfl (rfl) (rfl) ((by decide)) (rfl) ?_
      refine G_icmp_ge rfl (fun q => ?_) (fun q => ?_)
      · exact absurd (by rw [← hC.2.2.1]; exact q) (ge_no ht (by omega))
      refine G_iconst rfl ?_
      refine H_ist_6_4 rfl rfl ?_
      refine k1 σ ?_
      refine H_inc_6_3 rfl rfl ?_
      refine G_goto rfl ?_
      rw [nI_succ] at kk
      exact kk
set_option maxRecDepth 100000 in
theorem sp_rounds {a : Nat} {v0 : Int32} (hT8 : T ≤ 8) : ∀ (d : Nat) (S : Nat → Nat → Int32) (N : Nat) l3 l4 l5, N + d = 20 → CS row T (S 25) → SPI row a N (S 29) (S 30) → ∃ S1, sFr S S1 ∧ MS row a (S1 29) (S1 30) ∧ Gm kM_spreads 39 [some (.ref 24), some (.int v0), some (.int 1), l3, l4, l5] [] (S, PF R, 32) none (S1, PF R, 32) := by
  intro d
  induction d using Nat.strongRecOn with
  | ind d ih =>
    intro S N l3 l4 l5 hd hC h
    obtain ⟨S1, g1, l4', l5', ⟨f1, N1, hs1, alt⟩, k1⟩ := sp_tapes R (T := T) (v0 := v0) hT8 0 (by omega) S false N l4 l5 hC h
    have hC1 : CS row T (S1 25) := by rw [f1 25 (by decide) (by decide)]; exact hC
    have hN1 : N1 ≤ 20 := by rw [← hs1.2.2.1]; exact cnt_le _ _
    obtain ⟨b1, b2, b3, b4⟩ | ⟨b1, b2⟩ := alt
    · subst b1
      refine ⟨S1, f1, SPI_end hs1 hN1 hC.1 (fun t p ht hp => by rw [b2]; exact b4 t p ⟨Nat.zero_le _, ht, hp⟩), ?_⟩
      refine G_iload_n rfl rfl ?_
      refine G_if_eq rfl (fun q => ?_) (fun q => ?_)
      · exact absurd q (by decide)
      refine G_iconst rfl ?_
      refine H_ist_6_2 rfl rfl ?_
      refine G_iconst rfl ?_
      refine H_ist_6_3 rfl rfl ?_
      refine k1 _ ?_
      refine G_iload_n rfl rfl ?_
      refine G_if_eq rfl (fun q => ?_) (fun q => ?_)
      · skip
        exact H_retv rfl rfl (rfl)
      · exact absurd rfl q
    · subst b1
      obtain ⟨S2, f2, ms, g⟩ := ih (20 - N1) (by omega) S1 N1 (some (.int (nI T))) l4' l5' (by omega) hC1 hs1
      refine ⟨S2, f1.tr f2, ms, ?_⟩
      refine G_iload_n rfl rfl ?_
      refine G_if_eq rfl (fun q => ?_) (fun q => ?_)
      · exact absurd q (by decide)
      refine G_iconst rfl ?_
      refine H_ist_6_2 rfl rfl ?_
      refine G_iconst rfl ?_
      refine H_ist_6_3 rfl rfl ?_
      exact k1 _ g
set_option maxRecDepth 100000 in
theorem ev_mspreads (hC : CS row T (S 25)) {a : Nat} (ha : a < 20) : ∃ S1, EvM kM_spreads [.ref 24, .int (nI a)] (mk S R) none (mk S1 R) ∧ sFr S S1 ∧ MS row a (S1 29) (S1 30) := by
  have e29 : ∀ m : Nat → Int32, cnt (fun x => decide (iM m a 20 x = 1)) 20 = 1 := by
    intro m
    rw [cnt_congr (g := fun x => decide (x = a)) (fun i hi => by unfold iM; rw [if_pos hi]; by_cases e : i = a <;> simp [e])]
    have := cnt_up (f := fun _ => false) (g := fun x => decide (x = a)) (x := a) rfl (by simp) (fun y hy => by simp [hy]) ha
    rw [this, cnt_none (fun _ _ => rfl)]
  have h0 : SPI row a 1 (iM (S 29) a 20) (iA (S 30) 20) := by
    refine ⟨fun x hx => ?_, ?_, e29 _, fun x hx hm => ?_⟩
    · unfold iM
      rw [if_pos hx]
      split
      · exact Or.inr rfl
      · exact Or.inl rfl
    · unfold iM
      rw [if_pos ha, if_pos rfl]
    · have ex : x = a := by
        unfold iM at hm
        rw [if_pos hx] at hm
        by_cases e : x = a
        · exact e
        · rw [if_neg e] at hm; cases hm
      unfold iA
      rw [if_pos hx, ex]
      exact ⟨Cn.rf, fun π _ => by grind, by decide, by decide⟩
  obtain ⟨S1, f1, ms, g⟩ := sp_rounds R (T := T) (v0 := nI a) hC.1.2.1 19 (u2 (u2 S 29 (iM (S 29) a 20)) 30 (iA (S 30) 20)) 1 none none none rfl (by rw [u2_ne (by decide), u2_ne (by decide)]; exact hC) (by rw [u2_ne (show 29 ≠ 30 by decide), u2_same, u2_same]; exact h0)
  refine ⟨S1, ?_, fun i q1 q2 => (f1 i q1 q2).trans (by rw [u2_ne q2, u2_ne q1]), ms⟩
  refine EvM_mk [some (.ref 24), some (.int (nI a)), none, none, none, none] rfl rfl rfl rfl rfl (trivial) ?_
  refine G_iconst rfl ?_
  refine H_ist_6_2 rfl rfl ?_
  have goal : Gm kM_spreads 2 [some (.ref 24), some (.int (nI a)), some (.int (nI 0)), none, none, none] [] (u2 (u2 S 29 (iM (S 29) a 0)) 30 (iA (S 30) 0), PF R, 32) none (S1, PF R, 32) := by
    refine down 20 (fun i => Gm kM_spreads 2 [some (.ref 24), some (.int (nI a)), some (.int (nI i)), none, none, none] [] (u2 (u2 S 29 (iM (S 29) a i)) 30 (iA (S 30) i), PF R, 32) none (S1, PF R, 32)) ?_ (fun i hi ih => ?_)
    · skip
      refine G_iload_n rfl rfl ?_
      refine G_bipush rfl ?_
      refine G_icmp_ge rfl (fun q => ?_) (fun q => ?_)
      · skip
        refine G_iconst rfl ?_
        refine H_ist_6_2 rfl rfl ?_
        exact g
      · exact absurd (by decide) q
    · have st : ∀ v : Int32, v = (if i = a then 1 else 0) → u2 (u2 (u2 (u2 S 29 (iM (S 29) a i)) 30 (iA (S 30) i)) 29 (upd (u2 (u2 S 29 (iM (S 29) a i)) 30 (iA (S 30) i) 29) i v)) 30 (upd (u2 (u2 (u2 S 29 (iM (S 29) a i)) 30 (iA (S 30) i)) 29 (upd (u2 (u2 S 29 (iM (S 29) a i)) 30 (iA (S 30) i) 29) i v) 30) i 0) = u2 (u2 S 29 (iM (S 29) a (i + 1))) 30 (iA (S 30) (i + 1)) := by
        intro v hv
        rw [u2_ne (show 30 ≠ 29 by decide), u2_same, iA_s, u2_ne (show 29 ≠ 30 by decide), u2_same, hv, iM_s]
        funext z
        simp only [u2]
        by_cases z1 : z = 30
        · simp [z1]
        · by_cases z2 : z = 29
          · simp [z2]
          · simp [z1, z2]
      rw [nI_succ] at ih
      refine G_iload_n rfl rfl ?_
      refine G_bipush rfl ?_
      refine G_icmp_ge rfl (fun q => ?_) (fun q => ?_)
      · exact absurd q (ge_no hi (by decide))
      refine G_aload_n rfl rfl ?_
      refine H_getR rfl rfl rfl rfl rfl rfl ?_
      refine G_iload_n rfl rfl ?_
      refine G_iload_n rfl rfl ?_
      refine G_iload_n rfl rfl ?_
      refine G_icmp_ne rfl (fun q1 => ?_) (fun q1 => ?_)
      · skip
        refine G_iconst rfl ?_
        refine H_bast rfl (rfl) rfl (hi) rfl (by decide) ?_
        refine G_aload_n rfl rfl ?_
        refine H_getR rfl rfl rfl rfl rfl rfl ?_
        refine G_iload_n rfl rfl ?_
        refine G_iconst rfl ?_
        refine H_iast rfl (rfl) (rfl) (hi) (rfl) ?_
        refine H_inc_6_2 rfl rfl ?_
        refine G_goto rfl ?_
        rw [st 0 (by rw [if_neg (fun e => q1 (by rw [e]))])]
        exact ih
      · skip
        refine G_iconst rfl ?_
        refine G_goto rfl ?_
        refine H_bast rfl (rfl) rfl (hi) rfl (by decide) ?_
        refine G_aload_n rfl rfl ?_
        refine H_getR rfl rfl rfl rfl rfl rfl ?_
        refine G_iload_n rfl rfl ?_
        refine G_iconst rfl ?_
        refine H_iast rfl (rfl) (rfl) (hi) (rfl) ?_
        refine H_inc_6_2 rfl rfl ?_
        refine G_goto rfl ?_
        rw [st 1 (by rw [if_pos ((nI_eq (show i < 2 ^ 31 by omega) (show a < 2 ^ 31 by omega)).mp (Decidable.of_not_not q1))])]
        exact ih
  rw [show u2 (u2 S 29 (iM (S 29) a 0)) 30 (iA (S 30) 0) = S by
    have e1 : iM (S 29) a 0 = S 29 := by funext x; unfold iM; rw [if_neg (by omega)]
    have e2 : iA (S 30) 0 = S 30 := by funext x; unfold iA; rw [if_neg (by omega)]
    rw [e1, e2, u2_self, u2_self]] at goal
  exact goal
end MSP
