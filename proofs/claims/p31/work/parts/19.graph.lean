/-! points 0 to 11 and tapes 12 to 19, joined by readings: what hangs together, and how far -/
def hs (row : Nat → Int32) (j : Nat) : Bool := !decide (row j = NONE)
/-- a set that no reading leads out of -/
def Cl (row : Nat → Int32) (A : Nat → Prop) : Prop := ∀ j, j < 96 → hs row j = true → (A (12 + j / 12) ↔ A (j % 12))
def Cn (row : Nat → Int32) (x y : Nat) : Prop := ∀ A : Nat → Prop, Cl row A → A x → A y
/-- places that the readings tell -/
def Pot (row : Nat → Int32) (π : Nat → Int32) : Prop := ∀ j, j < 96 → hs row j = true → row j = π (j % 12) - π (12 + j / 12)
theorem Cn.rf {row : Nat → Int32} {x : Nat} : Cn row x x := fun _ _ h => h
theorem Cn.tr {row : Nat → Int32} {x y z : Nat} (h1 : Cn row x y) (h2 : Cn row y z) : Cn row x z := fun A c h => h2 A c (h1 A c h)
theorem Cn.sy {row : Nat → Int32} {x y : Nat} (h : Cn row x y) : Cn row y x := by
  intro A c hy
  refine Classical.byContradiction fun hx => ?_
  exact h (fun z => ¬ A z) (fun j hj hh => not_congr (c j hj hh)) hx hy
theorem Cn.edge {row : Nat → Int32} {j : Nat} (hj : j < 96) (hh : hs row j = true) : Cn row (12 + j / 12) (j % 12) := fun _ c h => (c j hj hh).mp h
theorem Cl.of_Cn {row : Nat → Int32} {x : Nat} : Cl row (fun z => Cn row x z) := fun _ hj hh => ⟨fun h => h.tr (Cn.edge hj hh), fun h => h.tr (Cn.edge hj hh).sy⟩
theorem Cn.mono {row row' : Nat → Int32} (h : ∀ j, j < 96 → hs row j = true → hs row' j = true) {x y : Nat} (hc : Cn row x y) : Cn row' x y := fun A c hx => hc A (fun j hj hh => c j hj (h j hj hh)) hx
theorem Cn.congr {row row' : Nat → Int32} (h : ∀ j, j < 96 → row j = row' j) {x y : Nat} : Cn row x y ↔ Cn row' x y :=
  ⟨Cn.mono (fun j hj hh => by rw [hs, ← h j hj]; exact hh), Cn.mono (fun j hj hh => by rw [hs, h j hj]; exact hh)⟩
theorem Pot.congr {row row' : Nat → Int32} (h : ∀ j, j < 96 → row j = row' j) {π : Nat → Int32} : Pot row π ↔ Pot row' π := by
  constructor
  · intro p j hj hh
    rw [← h j hj]
    exact p j hj (by rw [hs, h j hj]; exact hh)
  · intro p j hj hh
    rw [h j hj]
    exact p j hj (by rw [hs, ← h j hj]; exact hh)
theorem i32_a {a b c d : Int32} (h : a - b = c - d) : a - c = b - d := by grind
theorem Pot.uniq {row : Nat → Int32} {π ρ : Nat → Int32} (h1 : Pot row π) (h2 : Pot row ρ) {x y : Nat} (hc : Cn row x y) : π y - π x = ρ y - ρ x := by
  have h := hc (fun z => π z - ρ z = π x - ρ x) (fun j hj hh => by
    have e1 := h1 j hj hh
    have e2 := h2 j hj hh
    constructor <;> intro h <;> grind) rfl
  grind
/-- the two groupings are the same: f tells groups, d distances in them -/
def JS (row : Nat → Int32) (f d : Nat → Int32) : Prop := (∀ x y, x < 20 → y < 20 → (f x = f y ↔ Cn row x y)) ∧ ∀ π, Pot row π → ∀ x y, x < 20 → y < 20 → Cn row x y → d y - d x = π y - π x
/-- one join of two nodes -/
def jF (f : Nat → Int32) (a b : Nat) : Nat → Int32 := fun x => if x < 20 ∧ f x = f b then f a else f x
def jD (f d : Nat → Int32) (a b : Nat) (w : Int32) : Nat → Int32 := fun x => if x < 20 ∧ f x = f b then d x + (d a + w - d b) else d x
/-- the first m cells alone -/
def pre (row : Nat → Int32) (m : Nat) : Nat → Int32 := fun j => if j < m then row j else NONE
theorem hs_pre {row : Nat → Int32} {m j : Nat} : hs (pre row m) j = true ↔ j < m ∧ hs row j = true := by
  unfold hs pre
  by_cases h : j < m
  · simp [h]
  · simp [h]
theorem JS_0 {row f d : Nat → Int32} (hf : ∀ x, x < 20 → f x = nI x) (hd : ∀ x, x < 20 → d x = 0) : JS (pre row 0) f d := by
  have hc : ∀ x y, Cn (pre row 0) x y → x = y := fun x y h => (h (fun z => x = z) (fun j hj hh => absurd (hs_pre.mp hh).1 (by omega)) rfl)
  refine ⟨fun x y hx hy => ⟨fun h => ?_, fun h => by rw [hc x y h]⟩, fun π _ x y hx hy h => ?_⟩
  · rw [hf x hx, hf y hy] at h
    rw [(nI_eq (by omega) (by omega)).mp h]
    exact Cn.rf
  · rw [hc x y h]
    grind
theorem JS_skip {row f d : Nat → Int32} {m : Nat} (h : JS (pre row m) f d) (hm : hs row m = false) : JS (pre row (m + 1)) f d := by
  have e : ∀ j, j < 96 → pre row m j = pre row (m + 1) j := fun j _ => by
    unfold pre
    by_cases h1 : j < m
    · rw [if_pos h1, if_pos (by omega)]
    · rw [if_neg h1]
      by_cases h2 : j < m + 1
      · rw [if_pos h2, show j = m by omega]
        simp [hs] at hm
        exact hm.symm
      · rw [if_neg h2]
  exact ⟨fun x y hx hy => (h.1 x y hx hy).trans (Cn.congr e), fun π hp x y hx hy hc => h.2 π ((Pot.congr e).mpr hp) x y hx hy ((Cn.congr e).mpr hc)⟩
theorem pre_mono {row : Nat → Int32} {m : Nat} {x y : Nat} (h : Cn (pre row m) x y) : Cn (pre row (m + 1)) x y := h.mono (fun j _ hh => hs_pre.mpr ⟨by have := (hs_pre.mp hh).1; omega, (hs_pre.mp hh).2⟩)
theorem pre_pot {row : Nat → Int32} {m : Nat} {π : Nat → Int32} (h : Pot (pre row (m + 1)) π) : Pot (pre row m) π := fun j hj hh => by
  have h1 := hs_pre.mp hh
  have h2 := h j hj (hs_pre.mpr ⟨by omega, h1.2⟩)
  unfold pre at h2 ⊢
  rw [if_pos h1.1]
  rwa [if_pos (by omega)] at h2
theorem pre_pot' {row : Nat → Int32} {m : Nat} (hm : m < 96) (hh : hs row m = true) {π : Nat → Int32} (h : Pot (pre row (m + 1)) π) : row m = π (m % 12) - π (12 + m / 12) := by
  have := h m hm (hs_pre.mpr ⟨by omega, hh⟩)
  unfold pre at this
  rwa [if_pos (by omega)] at this
theorem JS_same {row f d : Nat → Int32} {m : Nat} (hm : m < 96) (h : JS (pre row m) f d) (he : f (12 + m / 12) = f (m % 12)) : JS (pre row (m + 1)) f d := by
  have hab := (h.1 (12 + m / 12) (m % 12) (by omega) (by omega)).mp he
  have hc : ∀ x y, Cn (pre row (m + 1)) x y → Cn (pre row m) x y := fun x y hxy A c hx => hxy A (fun j hj hh => by
    have h1 := hs_pre.mp hh
    by_cases hjm : j < m
    · exact c j hj (hs_pre.mpr ⟨hjm, h1.2⟩)
    · rw [show j = m by omega]
      exact ⟨fun q => hab A c q, fun q => hab.sy A c q⟩) hx
  exact ⟨fun x y hx hy => (h.1 x y hx hy).trans ⟨pre_mono, hc x y⟩, fun π hp x y hx hy hxy => h.2 π (pre_pot hp) x y hx hy (hc x y hxy)⟩
theorem JS_join {row f d : Nat → Int32} {m : Nat} (hm : m < 96) (hh : hs row m = true) (h : JS (pre row m) f d) (he : ¬ f (12 + m / 12) = f (m % 12)) : JS (pre row (m + 1)) (jF f (12 + m / 12) (m % 12)) (jD f d (12 + m / 12) (m % 12) (row m)) := by
  have ha : 12 + m / 12 < 20 := by omega
  have hb : m % 12 < 20 := by omega
  have hed : Cn (pre row (m + 1)) (12 + m / 12) (m % 12) := Cn.edge hm (hs_pre.mpr ⟨by omega, hh⟩)
  generalize ea : 12 + m / 12 = a at ha hed he ⊢
  have e1 : ∀ x, x < 20 → f x = f (m % 12) → Cn (pre row (m + 1)) x (m % 12) := fun x hx e => pre_mono ((h.1 x _ hx hb).mp e)
  have hfa : jF f a (m % 12) a = f a := by
    unfold jF
    rw [if_neg (fun q => he q.2)]
  have hf1 : ∀ x, x < 20 → f x = f (m % 12) → jF f a (m % 12) x = f a := fun x hx e => if_pos ⟨hx, e⟩
  have hf2 : ∀ x, ¬ f x = f (m % 12) → jF f a (m % 12) x = f x := fun x e => if_neg (fun q => e q.2)
  have key : ∀ x y, x < 20 → y < 20 → jF f a (m % 12) x = jF f a (m % 12) y → Cn (pre row (m + 1)) x y := by
    intro x y hx hy e
    by_cases h1 : f x = f (m % 12) <;> by_cases h2 : f y = f (m % 12)
    · exact pre_mono ((h.1 x y hx hy).mp (h1.trans h2.symm))
    · rw [hf1 x hx h1, hf2 y h2] at e
      exact ((e1 x hx h1).tr hed.sy).tr (pre_mono ((h.1 a y ha hy).mp e))
    · rw [hf2 x h1, hf1 y hy h2] at e
      exact (pre_mono ((h.1 x a hx ha).mp e)).tr (hed.tr (e1 y hy h2).sy)
    · rw [hf2 x h1, hf2 y h2] at e
      exact pre_mono ((h.1 x y hx hy).mp e)
  have hall : ∀ x y, x < 20 → y < 20 → (jF f a (m % 12) x = jF f a (m % 12) y ↔ Cn (pre row (m + 1)) x y) := by
    intro x y hx hy
    refine ⟨key x y hx hy, fun hxy => ?_⟩
    have := hxy (fun z => z < 20 → jF f a (m % 12) x = jF f a (m % 12) z) (fun j hj hjj => by
      have h1 := hs_pre.mp hjj
      have hj1 : 12 + j / 12 < 20 := by omega
      have hj2 : j % 12 < 20 := by omega
      have heq : jF f a (m % 12) (12 + j / 12) = jF f a (m % 12) (j % 12) := by
        by_cases hjm : j < m
        · have e2 := (h.1 (12 + j / 12) (j % 12) hj1 hj2).mpr (Cn.edge hj (hs_pre.mpr ⟨hjm, h1.2⟩))
          unfold jF
          by_cases h5 : f (j % 12) = f (m % 12)
          · rw [if_pos ⟨hj1, e2.trans h5⟩, if_pos ⟨hj2, h5⟩]
          · rw [if_neg (fun q => h5 (e2 ▸ q.2)), if_neg (fun q => h5 q.2), e2]
        · have hjm : j = m := by omega
          subst hjm
          rw [ea, hfa, hf1 _ hb rfl]
      exact ⟨fun q _ => (q hj1).trans heq, fun q _ => (q hj2).trans heq.symm⟩) (fun _ => rfl)
    exact this hy
  refine ⟨hall, fun π hp x y hx hy hxy => ?_⟩
  have hw := pre_pot' hm hh hp
  rw [ea] at hw
  have hp0 := pre_pot hp
  have e := (hall x y hx hy).mpr hxy
  have dd : ∀ x y, x < 20 → y < 20 → f x = f y → d y - d x = π y - π x := fun x y hx hy e => h.2 π hp0 x y hx hy ((h.1 x y hx hy).mp e)
  have hd1 : ∀ x, x < 20 → f x = f (m % 12) → jD f d a (m % 12) (row m) x = d x + (d a + row m - d (m % 12)) := fun x hx e => if_pos ⟨hx, e⟩
  have hd2 : ∀ x, ¬ f x = f (m % 12) → jD f d a (m % 12) (row m) x = d x := fun x e => if_neg (fun q => e q.2)
  by_cases h1 : f x = f (m % 12) <;> by_cases h2 : f y = f (m % 12)
  · rw [hd1 x hx h1, hd1 y hy h2]
    have := dd x y hx hy (h1.trans h2.symm)
    grind
  · rw [hf1 x hx h1, hf2 y h2] at e
    rw [hd1 x hx h1, hd2 y h2]
    have e2 := dd a y ha hy e
    have e3 := dd x (m % 12) hx hb h1
    grind
  · rw [hf2 x h1, hf1 y hy h2] at e
    rw [hd2 x h1, hd1 y hy h2]
    have e2 := dd a x ha hx e.symm
    have e3 := dd y (m % 12) hy hb h2
    grind
  · rw [hf2 x h1, hf2 y h2] at e
    rw [hd2 x h1, hd2 y h2]
    exact dd x y hx hy e

/-- what is met from a start: μ tells who, α how far -/
def SI (row : Nat → Int32) (start : Nat) (μ α : Nat → Int32) : Prop :=
  μ start = 1 ∧ (∀ x, x < 20 → μ x = 0 ∨ μ x = 1) ∧ (∀ x, x < 20 → μ x = 1 → Cn row start x) ∧ (∀ π, Pot row π → ∀ x, x < 20 → μ x = 1 → α x = π x - π start)
/-- behind it -/
def SS (row : Nat → Int32) (start : Nat) (μ α : Nat → Int32) : Prop := SI row start μ α ∧ ∀ x, x < 20 → (μ x = 1 ↔ Cn row start x)
theorem SI_0 {row : Nat → Int32} {start : Nat} {μ α : Nat → Int32} (h1 : μ start = 1) (h2 : ∀ x, x < 20 → x ≠ start → μ x = 0) (h3 : α start = 0) : SI row start μ α := by
  refine ⟨h1, fun x hx => ?_, fun x hx h => ?_, fun π hp x hx h => ?_⟩
  · by_cases e : x = start
    · rw [e]; exact Or.inr h1
    · exact Or.inl (h2 x hx e)
  · by_cases e : x = start
    · rw [e]; exact Cn.rf
    · rw [h2 x hx e] at h; exact absurd h (by decide)
  · by_cases e : x = start
    · rw [e, h3]; grind
    · rw [h2 x hx e] at h; exact absurd h (by decide)
theorem SI_fwd {row : Nat → Int32} {start j : Nat} {μ α : Nat → Int32} (hj : j < 96) (hh : hs row j = true) (h : SI row start μ α) (hn : μ (12 + j / 12) = 1) : SI row start (upd (upd μ (12 + j / 12) 1) (j % 12) 1) (upd α (j % 12) (α (12 + j / 12) + row j)) := by
  obtain ⟨a1, a2, a3, a4⟩ := h
  have hne : 12 + j / 12 ≠ j % 12 := by omega
  have hm : ∀ x, upd (upd μ (12 + j / 12) 1) (j % 12) 1 x = if x = j % 12 then 1 else μ x := fun x => by
    unfold upd
    by_cases e : x = j % 12
    · rw [if_pos e, if_pos e]
    · rw [if_neg e, if_neg e]
      by_cases e2 : x = 12 + j / 12
      · rw [if_pos e2, e2, hn]
      · rw [if_neg e2]
  have hc := a3 _ (by omega) hn
  refine ⟨?_, fun x hx => ?_, fun x hx h => ?_, fun π hp x hx h => ?_⟩
  · rw [hm]; split
    · rfl
    · exact a1
  · rw [hm]; split
    · exact Or.inr rfl
    · exact a2 x hx
  · rw [hm] at h
    by_cases e : x = j % 12
    · rw [e]; exact hc.tr (Cn.edge hj hh)
    · rw [if_neg e] at h; exact a3 x hx h
  · rw [hm] at h
    by_cases e : x = j % 12
    · rw [e, upd_same, a4 π hp _ (by omega) hn, hp j hj hh]
      grind
    · rw [if_neg e] at h
      rw [upd_ne e]
      exact a4 π hp x hx h
theorem SI_bwd {row : Nat → Int32} {start j : Nat} {μ α : Nat → Int32} (hj : j < 96) (hh : hs row j = true) (h : SI row start μ α) (hn : μ (j % 12) = 1) : SI row start (upd (upd μ (12 + j / 12) 1) (j % 12) 1) (upd α (12 + j / 12) (α (j % 12) - row j)) := by
  obtain ⟨a1, a2, a3, a4⟩ := h
  have hne : 12 + j / 12 ≠ j % 12 := by omega
  have hm : ∀ x, upd (upd μ (12 + j / 12) 1) (j % 12) 1 x = if x = 12 + j / 12 then 1 else μ x := fun x => by
    unfold upd
    by_cases e : x = j % 12
    · rw [if_pos e, if_neg (by omega), e, hn]
    · rw [if_neg e]
  have hc := a3 _ (by omega) hn
  refine ⟨?_, fun x hx => ?_, fun x hx h => ?_, fun π hp x hx h => ?_⟩
  · rw [hm]; split
    · rfl
    · exact a1
  · rw [hm]; split
    · exact Or.inr rfl
    · exact a2 x hx
  · rw [hm] at h
    by_cases e : x = 12 + j / 12
    · rw [e]; exact hc.tr (Cn.edge hj hh).sy
    · rw [if_neg e] at h; exact a3 x hx h
  · rw [hm] at h
    by_cases e : x = 12 + j / 12
    · rw [e, upd_same, a4 π hp _ (by omega) hn, hp j hj hh]
      grind
    · rw [if_neg e] at h
      rw [upd_ne e]
      exact a4 π hp x hx h
theorem SS_of {row : Nat → Int32} {start : Nat} (hst : start < 20) {μ α : Nat → Int32} (h : SI row start μ α) (hc : ∀ j, j < 96 → hs row j = true → μ (12 + j / 12) = μ (j % 12)) : SS row start μ α := by
  refine ⟨h, fun x hx => ⟨h.2.2.1 x hx, fun hcn => ?_⟩⟩
  exact hcn (fun z => z < 20 → μ z = 1) (fun j hj hh => by
    have e := hc j hj hh
    exact ⟨fun q _ => by rw [← e]; exact q (by omega), fun q _ => by rw [e]; exact q (by omega)⟩) (fun _ => h.1) hx
