/-! groups: object 13, first 14, distance 15 -/
def isPt (p : Int32) : Bool := decide (¬ p < 0) && decide (¬ 12 ≤ p)
def isNd (p : Int32) : Bool := decide (¬ p < 0) && decide (¬ 20 ≤ p)
def isNb (p : Int32) : Bool := decide (¬ p < -999) && decide (¬ 999 < p)
theorem isNd_nI {a : Nat} (h : a < 20) : isNd (nI a) = true := by
  have h1 : ¬ nI a < 0 := nI_pos (by omega)
  have h2 : ¬ 20 ≤ nI a := ge_no (n := 20) h (by decide)
  simp [isNd, h1, h2]
theorem isPt_nI {a : Nat} (h : a < 12) : isPt (nI a) = true := by
  have h1 : ¬ nI a < 0 := nI_pos (by omega)
  have h2 : ¬ 12 ≤ nI a := ge_no (n := 12) h (by decide)
  simp [isPt, h1, h2]
theorem isPt_ix {p : Int32} (h : isPt p = true) : ∃ a, a < 12 ∧ p = nI a := by
  simp only [isPt, Bool.and_eq_true, decide_eq_true_eq] at h
  exact lt_ix 12 (by decide) h.1 h.2
theorem tHas_nI {row : Nat → Int32} {t p : Nat} (ht : t < 8) (hp : p < 12) : tHas row (nI t) (nI p) = hs row (t * 12 + p) := by rw [tHas, tAt_nI ht hp, hs]
def jn (row f0 d0 : Nat → Int32) : Nat → (Nat → Int32) × (Nat → Int32)
  | 0 => (f0, d0)
  | m + 1 => if hs row m = true then (if (jn row f0 d0 m).1 (12 + m / 12) = (jn row f0 d0 m).1 (m % 12) then jn row f0 d0 m else (jF (jn row f0 d0 m).1 (12 + m / 12) (m % 12), jD (jn row f0 d0 m).1 (jn row f0 d0 m).2 (12 + m / 12) (m % 12) (row m))) else jn row f0 d0 m
theorem jn_JS {row f0 d0 : Nat → Int32} (hf : ∀ x, x < 20 → f0 x = nI x) (hd : ∀ x, x < 20 → d0 x = 0) : ∀ m, m ≤ 96 → JS (pre row m) (jn row f0 d0 m).1 (jn row f0 d0 m).2
  | 0, _ => JS_0 hf hd
  | m + 1, hm => by
    have ih := jn_JS (row := row) hf hd m (by omega)
    rw [jn]
    by_cases h : hs row m = true
    · rw [if_pos h]
      by_cases h2 : (jn row f0 d0 m).1 (12 + m / 12) = (jn row f0 d0 m).1 (m % 12)
      · rw [if_pos h2]
        exact JS_same (by omega) ih h2
      · rw [if_neg h2]
        exact JS_join (by omega) h ih h2
    · rw [if_neg h]
      exact JS_skip ih (by simpa using h)
def jFi (f : Nat → Int32) (a b i : Nat) : Nat → Int32 := fun x => if x < i ∧ f x = f b then f a else f x
def jDi (f d : Nat → Int32) (a b : Nat) (w : Int32) (i : Nat) : Nat → Int32 := fun x => if x < i ∧ f x = f b then d x + (d a + w - d b) else d x
/-- nothing is on the tapes that aren't there -/
def NT (row : Nat → Int32) (T : Nat) : Prop := row 96 = nI T ∧ T ≤ 8 ∧ ∀ j, T * 12 ≤ j → j < 96 → row j = NONE
section GG
variable (S : Nat → Nat → Int32) (R : Nat → Nat)
set_option maxRecDepth 100000 in
theorem ev_isPoint (p : Int32) : EvM kX_isPoint [.int p] (mk S R) (some (.int (b2i (isPt p)))) (mk S R) := by
  refine EvM_mk [some (.int p)] rfl rfl rfl rfl rfl (okb _) ?_
  refine G_iload_n rfl rfl ?_
  refine G_if_lt rfl (fun h1 => ?_) (fun h1 => ?_)
  · skip
    refine G_iconst rfl ?_
    exact H_ret rfl rfl ((by simp [isPt, h1, b2i])) (rfl)
  refine G_iload_n rfl rfl ?_
  refine G_bipush rfl ?_
  refine G_icmp_ge rfl (fun h2 => ?_) (fun h2 => ?_)
  · skip
    refine G_iconst rfl ?_
    exact H_ret rfl rfl ((by simp [isPt, h2, b2i])) (rfl)
  refine G_iconst rfl ?_
  refine G_goto rfl ?_
  exact H_ret rfl rfl ((by simp [isPt, h1, h2, b2i])) (rfl)
set_option maxRecDepth 100000 in
theorem ev_isNode (p : Int32) : EvM kX_isNode [.int p] (mk S R) (some (.int (b2i (isNd p)))) (mk S R) := by
  refine EvM_mk [some (.int p)] rfl rfl rfl rfl rfl (okb _) ?_
  refine G_iload_n rfl rfl ?_
  refine G_if_lt rfl (fun h1 => ?_) (fun h1 => ?_)
  · skip
    refine G_iconst rfl ?_
    exact H_ret rfl rfl ((by simp [isNd, h1, b2i])) (rfl)
  refine G_iload_n rfl rfl ?_
  refine G_bipush rfl ?_
  refine G_icmp_ge rfl (fun h2 => ?_) (fun h2 => ?_)
  · skip
    refine G_iconst rfl ?_
    exact H_ret rfl rfl ((by simp [isNd, h2, b2i])) (rfl)
  refine G_iconst rfl ?_
  refine G_goto rfl ?_
  exact H_ret rfl rfl ((by simp [isNd, h1, h2, b2i])) (rfl)
set_option maxRecDepth 100000 in
theorem ev_isNumber (p : Int32) : EvM kX_isNumber [.int p] (mk S R) (some (.int (b2i (isNb p)))) (mk S R) := by
  refine EvM_mk [some (.int p)] rfl rfl rfl rfl rfl (okb _) ?_
  refine G_iload_n rfl rfl ?_
  refine G_sipush rfl ?_
  refine G_icmp_lt rfl (fun h1 => ?_) (fun h1 => ?_)
  · skip
    refine G_iconst rfl ?_
    exact H_ret rfl rfl ((by simp [isNb, h1, b2i])) (rfl)
  refine G_iload_n rfl rfl ?_
  refine G_sipush rfl ?_
  refine G_icmp_gt rfl (fun h2 => ?_) (fun h2 => ?_)
  · skip
    refine G_iconst rfl ?_
    exact H_ret rfl rfl ((by simp [isNb, h2, b2i])) (rfl)
  refine G_iconst rfl ?_
  refine G_goto rfl ?_
  exact H_ret rfl rfl ((by simp [isNb, h1, h2, b2i])) (rfl)
set_option maxRecDepth 100000 in
theorem ev_together {a b : Nat} (ha : a < 20) (hb : b < 20) : EvM kGroups_together [.ref 13, .int (nI a), .int (nI b)] (mk S R) (some (.int (b2i (decide (S 14 a = S 14 b))))) (mk S R) := by
  have h1 := ev_isNode S R (nI a)
  have h2 := ev_isNode S R (nI b)
  rw [isNd_nI ha] at h1
  rw [isNd_nI hb] at h2
  refine EvM_mk [some (.ref 13), some (.int (nI a)), some (.int (nI b))] rfl rfl rfl rfl rfl (okb _) ?_
  refine G_iload_n rfl rfl ?_
  refine H_callSN (h1) rfl rfl rfl rfl rfl ?_
  refine G_if_eq rfl (fun h => ?_) (fun h => ?_)
  · exact absurd h (by decide)
  refine G_iload_n rfl rfl ?_
  refine H_callSN (h2) rfl rfl rfl rfl rfl ?_
  refine G_if_eq rfl (fun h => ?_) (fun h => ?_)
  · exact absurd h (by decide)
  refine G_aload_n rfl rfl ?_
  refine H_getR rfl rfl rfl rfl rfl rfl ?_
  refine G_iload_n rfl rfl ?_
  refine H_iald rfl (rfl) (rfl) (ha) (rfl) ?_
  refine G_aload_n rfl rfl ?_
  refine H_getR rfl rfl rfl rfl rfl rfl ?_
  refine G_iload_n rfl rfl ?_
  refine H_iald rfl (rfl) (rfl) (hb) (rfl) ?_
  refine G_icmp_ne rfl (fun h => ?_) (fun h => ?_)
  · skip
    refine G_iconst rfl ?_
    exact H_ret rfl rfl ((by simp [h, b2i])) (rfl)
  · have h := Decidable.of_not_not h
    refine G_iconst rfl ?_
    refine G_goto rfl ?_
    exact H_ret rfl rfl ((by simp [h, b2i])) (rfl)
set_option maxRecDepth 100000 in
theorem ev_way {a b : Nat} (ha : a < 20) (hb : b < 20) : EvM kGroups_way [.ref 13, .int (nI a), .int (nI b)] (mk S R) (some (.int (S 15 b - S 15 a))) (mk S R) := by
  have h1 := ev_isNode S R (nI a)
  have h2 := ev_isNode S R (nI b)
  rw [isNd_nI ha] at h1
  rw [isNd_nI hb] at h2
  refine EvM_mk [some (.ref 13), some (.int (nI a)), some (.int (nI b))] rfl rfl rfl rfl rfl (trivial) ?_
  refine G_iload_n rfl rfl ?_
  refine H_callSN (h1) rfl rfl rfl rfl rfl ?_
  refine G_if_eq rfl (fun h => ?_) (fun h => ?_)
  · exact absurd h (by decide)
  refine G_iload_n rfl rfl ?_
  refine H_callSN (h2) rfl rfl rfl rfl rfl ?_
  refine G_if_eq rfl (fun h => ?_) (fun h => ?_)
  · exact absurd h (by decide)
  refine G_aload_n rfl rfl ?_
  refine H_getR rfl rfl rfl rfl rfl rfl ?_
  refine G_iload_n rfl rfl ?_
  refine H_iald rfl (rfl) (rfl) (hb) (rfl) ?_
  refine G_aload_n rfl rfl ?_
  refine H_getR rfl rfl rfl rfl rfl rfl ?_
  refine G_iload_n rfl rfl ?_
  refine H_iald rfl (rfl) (rfl) (ha) (rfl) ?_
  refine G_isub rfl ?_
  refine G_goto rfl ?_
  exact H_ret rfl rfl (rfl) (rfl)
def jT (f d : Nat → Int32) (a b : Nat) (w : Int32) : (Nat → Int32) × (Nat → Int32) := if f a = f b then (f, d) else (jF f a b, jD f d a b w)
set_option maxRecDepth 100000 in
theorem ev_joinTwo {a b : Nat} (ha : a < 20) (hb : b < 20) (w : Int32) : EvM kGroups_joinTwo [.ref 13, .int (nI a), .int (nI b), .int w] (mk S R) none (mk (u2 (u2 S 14 (jT (S 14) (S 15) a b w).1) 15 (jT (S 14) (S 15) a b w).2) R) := by
  have h1 := ev_isNode S R (nI a)
  have h2 := ev_isNode S R (nI b)
  rw [isNd_nI ha] at h1
  rw [isNd_nI hb] at h2
  refine EvM_mk [some (.ref 13), some (.int (nI a)), some (.int (nI b)), some (.int w), none, none, none] rfl rfl rfl rfl rfl (trivial) ?_
  refine G_iload_n rfl rfl ?_
  refine H_callSN (h1) rfl rfl rfl rfl rfl ?_
  refine G_if_eq rfl (fun h => ?_) (fun h => ?_)
  · exact absurd h (by decide)
  refine G_iload_n rfl rfl ?_
  refine H_callSN (h2) rfl rfl rfl rfl rfl ?_
  refine G_if_eq rfl (fun h => ?_) (fun h => ?_)
  · exact absurd h (by decide)
  refine G_aload_n rfl rfl ?_
  refine H_getR rfl rfl rfl rfl rfl rfl ?_
  refine G_iload_n rfl rfl ?_
  refine H_iald rfl (rfl) (rfl) (ha) (rfl) ?_
  refine G_aload_n rfl rfl ?_
  refine H_getR rfl rfl rfl rfl rfl rfl ?_
  refine G_iload_n rfl rfl ?_
  refine H_iald rfl (rfl) (rfl) (hb) (rfl) ?_
  refine G_icmp_ne rfl (fun he => ?_) (fun he => ?_)
  · skip
    refine G_aload_n rfl rfl ?_
    refine H_getR rfl rfl rfl rfl rfl rfl ?_
    refine G_iload_n rfl rfl ?_
    refine H_iald rfl (rfl) (rfl) (hb) (rfl) ?_
    refine H_ist_7_4 rfl rfl ?_
    refine G_aload_n rfl rfl ?_
    refine H_getR rfl rfl rfl rfl rfl rfl ?_
    refine G_iload_n rfl rfl ?_
    refine H_iald rfl (rfl) (rfl) (ha) (rfl) ?_
    refine G_iload_n rfl rfl ?_
    refine G_iadd rfl ?_
    refine G_aload_n rfl rfl ?_
    refine H_getR rfl rfl rfl rfl rfl rfl ?_
    refine G_iload_n rfl rfl ?_
    refine H_iald rfl (rfl) (rfl) (hb) (rfl) ?_
    refine G_isub rfl ?_
    refine H_ist_7_5 rfl rfl ?_
    refine G_iconst rfl ?_
    refine H_ist_7_6 rfl rfl ?_
    unfold jT
    rw [if_neg he]
    have goal : Gm kGroups_joinTwo 58 [some (.ref 13), some (.int (nI a)), some (.int (nI b)), some (.int w), some (.int (S 14 b)), some (.int (S 15 a + w - S 15 b)), some (.int (nI 0))] [] (u2 (u2 S 14 (jFi (S 14) a b 0)) 15 (jDi (S 14) (S 15) a b w 0), PF R, 24) none (u2 (u2 S 14 (jF (S 14) a b)) 15 (jD (S 14) (S 15) a b w), PF R, 24) := by
      refine down 20 (fun i => Gm kGroups_joinTwo 58 [some (.ref 13), some (.int (nI a)), some (.int (nI b)), some (.int w), some (.int (S 14 b)), some (.int (S 15 a + w - S 15 b)), some (.int (nI i))] [] (u2 (u2 S 14 (jFi (S 14) a b i)) 15 (jDi (S 14) (S 15) a b w i), PF R, 24) _ _) ?_ (fun i hi ih => ?_)
      · skip
        refine G_iload rfl rfl ?_
        refine G_bipush rfl ?_
        refine G_icmp_ge rfl (fun h => ?_) (fun h => ?_)
        · skip
          exact H_retv rfl rfl (rfl)
        · exact absurd (by decide) h
      · have f1 : ∀ x, i ≤ x → jFi (S 14) a b i x = S 14 x := fun x hx => if_neg (fun q => by omega)
        have d1 : ∀ x, i ≤ x → jDi (S 14) (S 15) a b w i x = S 15 x := fun x hx => if_neg (fun q => by omega)
        have fa : jFi (S 14) a b i a = S 14 a := if_neg (fun q => he q.2)
        refine G_iload rfl rfl ?_
        refine G_bipush rfl ?_
        refine G_icmp_ge rfl (fun h => ?_) (fun h => ?_)
        · exact absurd h (ge_no hi (by decide))
        refine G_aload_n rfl rfl ?_
        refine H_getR rfl rfl rfl rfl rfl rfl ?_
        refine G_iload rfl rfl ?_
        refine H_iald rfl (rfl) (rfl) (hi) (rfl) ?_
        rw [u2_ne (show 14 ≠ 15 by decide), u2_same, f1 i (Nat.le_refl i)]
        refine G_iload rfl rfl ?_
        refine G_icmp_ne rfl (fun h => ?_) (fun h => ?_)
        · skip
          refine H_inc_7_6 rfl rfl ?_
          refine G_goto rfl ?_
          have e1 : jFi (S 14) a b (i + 1) = jFi (S 14) a b i := funext fun x => by
            unfold jFi
            by_cases hx : x = i
            · subst hx
              rw [if_neg (fun q => h q.2), if_neg (fun q => h q.2)]
            · by_cases hx2 : x < i
              · simp [hx2, show x < i + 1 by omega]
              · simp [hx2, show ¬ x < i + 1 by omega]
          have e2 : jDi (S 14) (S 15) a b w (i + 1) = jDi (S 14) (S 15) a b w i := funext fun x => by
            unfold jDi
            by_cases hx : x = i
            · subst hx
              rw [if_neg (fun q => h q.2), if_neg (fun q => h q.2)]
            · by_cases hx2 : x < i
              · simp [hx2, show x < i + 1 by omega]
              · simp [hx2, show ¬ x < i + 1 by omega]
          rw [e1, e2, nI_succ] at ih
          exact ih
        · have h := Decidable.of_not_not h
          refine G_aload_n rfl rfl ?_
          refine H_getR rfl rfl rfl rfl rfl rfl ?_
          refine G_iload rfl rfl ?_
          refine G_aload_n rfl rfl ?_
          refine H_getR rfl rfl rfl rfl rfl rfl ?_
          refine G_iload_n rfl rfl ?_
          refine H_iald rfl (rfl) (rfl) (ha) (rfl) ?_
          rw [u2_ne (show 14 ≠ 15 by decide), u2_same, fa]
          refine H_iast rfl (rfl) (rfl) (hi) (rfl) ?_
          refine G_aload_n rfl rfl ?_
          refine H_getR rfl rfl rfl rfl rfl rfl ?_
          refine G_iload rfl rfl ?_
          refine G_dup2 rfl rfl rfl ?_
          refine H_iald rfl (rfl) (rfl) (hi) (rfl) ?_
          refine G_iload rfl rfl ?_
          refine G_iadd rfl ?_
          refine H_iast rfl (rfl) (rfl) (hi) (rfl) ?_
          refine H_inc_7_6 rfl rfl ?_
          refine G_goto rfl ?_
          have e1 : upd (jFi (S 14) a b i) i (S 14 a) = jFi (S 14) a b (i + 1) := funext fun x => by
            unfold jFi upd
            by_cases hx : x = i
            · subst hx
              rw [if_pos rfl, if_pos ⟨by omega, h⟩]
            · rw [if_neg hx]
              by_cases hx2 : x < i
              · simp [hx2, show x < i + 1 by omega]
              · simp [hx2, show ¬ x < i + 1 by omega]
          have e2 : upd (jDi (S 14) (S 15) a b w i) i (S 15 i + (S 15 a + w - S 15 b)) = jDi (S 14) (S 15) a b w (i + 1) := funext fun x => by
            unfold jDi upd
            by_cases hx : x = i
            · subst hx
              rw [if_pos rfl, if_pos ⟨by omega, h⟩]
            · rw [if_neg hx]
              by_cases hx2 : x < i
              · simp [hx2, show x < i + 1 by omega]
              · simp [hx2, show ¬ x < i + 1 by omega]
          rw [u2_ne (show 14 ≠ 15 by decide), u2_same, u2_ne (show 15 ≠ 14 by decide), u2_same, d1 i (Nat.le_refl i), e1, e2, u2_comm (show (15 : Nat) ≠ 14 by decide), u2_u2, u2_u2]
          rw [nI_succ] at ih
          exact ih
    have z1 : jFi (S 14) a b 0 = S 14 := funext fun x => if_neg (fun q => by omega)
    have z2 : jDi (S 14) (S 15) a b w 0 = S 15 := funext fun x => if_neg (fun q => by omega)
    have z3 : u2 (u2 S 14 (S 14)) 15 (S 15) = S := by rw [u2_self, u2_self]
    rw [z1, z2, z3] at goal
    exact goal
  · have he := Decidable.of_not_not he
    unfold jT
    rw [if_pos he]
    exact H_retv rfl rfl ((by show S = u2 (u2 S 14 (S 14)) 15 (S 15); rw [u2_self, u2_self]))
set_option maxRecDepth 100000 in
theorem ev_join {T : Nat} (hT : NT (S 2) T) : ∃ f d, EvM kGroups_join [.ref 13, .ref 1] (mk S R) none (mk (u2 (u2 S 14 f) 15 d) R) ∧ JS (S 2) f d := by
  have hq : TQ 1 2 := Or.inl ⟨rfl, rfl⟩
  obtain ⟨hT1, hT2, hT3⟩ := hT
  have hJ := jn_JS (row := S 2) (f0 := cpy nI (S 14) 20) (d0 := cpy (fun _ => 0) (S 15) 20) (fun x hx => if_pos hx) (fun x hx => if_pos hx) (T * 12) (by omega)
  have hp : ∀ j, j < 96 → pre (S 2) (T * 12) j = S 2 j := fun j hj => by
    unfold pre
    by_cases h : j < T * 12
    · rw [if_pos h]
    · rw [if_neg h, hT3 j (by omega) hj]
  refine ⟨_, _, ?_, ⟨fun x y hx hy => (hJ.1 x y hx hy).trans (Cn.congr hp), fun π hπ x y hx hy hc => hJ.2 π ((Pot.congr hp).mpr hπ) x y hx hy ((Cn.congr hp).mpr hc)⟩⟩
  refine EvM_mk [some (.ref 13), some (.ref 1), none, none] rfl rfl rfl rfl rfl (trivial) ?_
  have part2 : Gm kGroups_join 28 [some (.ref 13), some (.ref 1), some (.int (nI 20)), none] [] (u2 (u2 S 14 (cpy nI (S 14) 20)) 15 (cpy (fun _ => 0) (S 15) 20), PF R, 24) none (u2 (u2 S 14 (jn (S 2) (cpy nI (S 14) 20) (cpy (fun _ => 0) (S 15) 20) (T * 12)).1) 15 (jn (S 2) (cpy nI (S 14) 20) (cpy (fun _ => 0) (S 15) 20) (T * 12)).2, PF R, 24) := by
    generalize hf0 : cpy nI (S 14) 20 = f0
    generalize hd0 : cpy (fun _ => 0) (S 15) 20 = d0
    refine G_iconst rfl ?_
    refine H_ist_4_2 rfl rfl ?_
    refine down T (fun t => ∀ l3, Gm kGroups_join 30 [some (.ref 13), some (.ref 1), some (.int (nI t)), l3] [] (u2 (u2 S 14 (jn (S 2) f0 d0 (t * 12)).1) 15 (jn (S 2) f0 d0 (t * 12)).2, PF R, 24) none (u2 (u2 S 14 (jn (S 2) f0 d0 (T * 12)).1) 15 (jn (S 2) f0 d0 (T * 12)).2, PF R, 24)) (fun l3 => ?_) (fun t ht ih l3 => ?_) none
    · have ht := ev_tapes hq (u2 (u2 S 14 (jn (S 2) f0 d0 (T * 12)).1) 15 (jn (S 2) f0 d0 (T * 12)).2) R
      rw [u2_ne (by decide), u2_ne (by decide), hT1] at ht
      refine G_iload_n rfl rfl ?_
      refine G_aload_n rfl rfl ?_
      refine H_callV (ht) rfl rfl rfl rfl rfl rfl rfl rfl ?_
      refine G_icmp_ge rfl (fun h => ?_) (fun h => ?_)
      · skip
        exact H_retv rfl rfl (rfl)
      · exact absurd (Int32.le_refl _) h
    · have ht' := ev_tapes hq (u2 (u2 S 14 (jn (S 2) f0 d0 (t * 12)).1) 15 (jn (S 2) f0 d0 (t * 12)).2) R
      rw [u2_ne (by decide), u2_ne (by decide), hT1] at ht'
      refine G_iload_n rfl rfl ?_
      refine G_aload_n rfl rfl ?_
      refine H_callV (ht') rfl rfl rfl rfl rfl rfl rfl rfl ?_
      refine G_icmp_ge rfl (fun h => ?_) (fun h => ?_)
      · exact absurd h (ge_no ht (by omega))
      refine G_iconst rfl ?_
      refine H_ist_4_3 rfl rfl ?_
      refine down 12 (fun p => Gm kGroups_join 40 [some (.ref 13), some (.ref 1), some (.int (nI t)), some (.int (nI p))] [] (u2 (u2 S 14 (jn (S 2) f0 d0 (t * 12 + p)).1) 15 (jn (S 2) f0 d0 (t * 12 + p)).2, PF R, 24) none _) ?_ (fun p hp ih2 => ?_)
      · skip
        refine G_iload_n rfl rfl ?_
        refine G_bipush rfl ?_
        refine G_icmp_ge rfl (fun h => ?_) (fun h => ?_)
        · skip
          refine H_inc_4_2 rfl rfl ?_
          refine G_goto rfl ?_
          have := ih (some (.int (nI 12)))
          rw [nI_succ, show (t + 1) * 12 = t * 12 + 12 by omega] at this
          exact this
        · exact absurd (by decide) h
      · have t8 : t < 8 := by omega
        have hm1 : 12 + (t * 12 + p) / 12 = 12 + t := by omega
        have hm2 : (t * 12 + p) % 12 = p := by omega
        generalize hSS : u2 (u2 S 14 (jn (S 2) f0 d0 (t * 12 + p)).1) 15 (jn (S 2) f0 d0 (t * 12 + p)).2 = SS
        have s2 : SS 2 = S 2 := by rw [← hSS, u2_ne (by decide), u2_ne (by decide)]
        have s14 : SS 14 = (jn (S 2) f0 d0 (t * 12 + p)).1 := by rw [← hSS, u2_ne (by decide), u2_same]
        have s15 : SS 15 = (jn (S 2) f0 d0 (t * 12 + p)).2 := by rw [← hSS, u2_same]
        have hh := ev_has hq SS R (nI t) (nI p)
        rw [s2, tHas_nI t8 hp] at hh
        refine G_iload_n rfl rfl ?_
        refine G_bipush rfl ?_
        refine G_icmp_ge rfl (fun h => ?_) (fun h => ?_)
        · exact absurd h (ge_no hp (by decide))
        refine G_aload_n rfl rfl ?_
        refine G_iload_n rfl rfl ?_
        refine G_iload_n rfl rfl ?_
        refine H_callV (hh) rfl rfl rfl rfl rfl rfl rfl rfl ?_
        refine G_if_eq rfl (fun h1 => ?_) (fun h1 => ?_)
        · have h1 := b2i_0.mp h1
          refine H_inc_4_3 rfl rfl ?_
          refine G_goto rfl ?_
          rw [← nI_succ, ← hSS]
          rw [← Nat.add_assoc, jn, if_neg (by rw [h1]; decide)] at ih2
          exact ih2
        · have h1 := b2i_n0.mp h1
          have ha := ev_at hq SS R (nI t) (nI p)
          rw [s2, tAt_nI t8 hp] at ha
          have e12 : (12 : Int32) + nI t = nI (12 + t) := nI_add 12 t
          refine G_aload_n rfl rfl ?_
          refine G_bipush rfl ?_
          refine G_iload_n rfl rfl ?_
          refine G_iadd rfl ?_
          refine G_iload_n rfl rfl ?_
          refine G_aload_n rfl rfl ?_
          refine G_iload_n rfl rfl ?_
          refine G_iload_n rfl rfl ?_
          refine H_callV (ha) rfl rfl rfl rfl rfl rfl rfl rfl ?_
          rw [e12]
          refine H_callU (ev_joinTwo SS R (a := 12 + t) (b := p) (by omega) (by omega) (S 2 (t * 12 + p))) rfl rfl rfl rfl rfl rfl rfl rfl ?_
          refine H_inc_4_3 rfl rfl ?_
          refine G_goto rfl ?_
          rw [← nI_succ]
          rw [← Nat.add_assoc, jn, if_pos h1, hm1, hm2] at ih2
          rw [s14, s15, ← hSS, u2_comm (show (15 : Nat) ≠ 14 by decide), u2_u2, u2_u2]
          unfold jT
          split
          · rename_i he
            rw [if_pos he] at ih2
            exact ih2
          · rename_i he
            rw [if_neg he] at ih2
            exact ih2
  refine G_iconst rfl ?_
  refine H_ist_4_2 rfl rfl ?_
  have goal : Gm kGroups_join 2 [some (.ref 13), some (.ref 1), some (.int (nI 0)), none] [] (u2 (u2 S 14 (cpy nI (S 14) 0)) 15 (cpy (fun _ => 0) (S 15) 0), PF R, 24) none (u2 (u2 S 14 (jn (S 2) (cpy nI (S 14) 20) (cpy (fun _ => 0) (S 15) 20) (T * 12)).1) 15 (jn (S 2) (cpy nI (S 14) 20) (cpy (fun _ => 0) (S 15) 20) (T * 12)).2, PF R, 24) := by
    refine down 20 (fun i => Gm kGroups_join 2 [some (.ref 13), some (.ref 1), some (.int (nI i)), none] [] (u2 (u2 S 14 (cpy nI (S 14) i)) 15 (cpy (fun _ => 0) (S 15) i), PF R, 24) none _) ?_ (fun i hi ih => ?_)
    · skip
      refine G_iload_n rfl rfl ?_
      refine G_bipush rfl ?_
      refine G_icmp_ge rfl (fun h => ?_) (fun h => ?_)
      · exact part2
      · exact absurd (by decide) h
    · skip
      refine G_iload_n rfl rfl ?_
      refine G_bipush rfl ?_
      refine G_icmp_ge rfl (fun h => ?_) (fun h => ?_)
      · exact absurd h (ge_no hi (by decide))
      refine G_aload_n rfl rfl ?_
      refine H_getR rfl rfl rfl rfl rfl rfl ?_
      refine G_iload_n rfl rfl ?_
      refine G_iload_n rfl rfl ?_
      refine H_iast rfl (rfl) (rfl) (hi) (rfl) ?_
      refine G_aload_n rfl rfl ?_
      refine H_getR rfl rfl rfl rfl rfl rfl ?_
      refine G_iload_n rfl rfl ?_
      refine G_iconst rfl ?_
      refine H_iast rfl (rfl) (rfl) (hi) (rfl) ?_
      refine H_inc_4_2 rfl rfl ?_
      refine G_goto rfl ?_
      rw [u2_ne (show 14 ≠ 15 by decide), u2_same, u2_ne (show 15 ≠ 14 by decide), u2_same, cpy_s (f := nI), show upd (cpy (fun _ => 0) (S 15) i) i 0 = _ from cpy_s (f := fun _ => 0), u2_comm (show (15 : Nat) ≠ 14 by decide), u2_u2, u2_u2, ← nI_succ]
      exact ih
  rw [cpy_0, cpy_0, u2_self, u2_self] at goal
  exact goal
end GG
