/-! what a house tells; a day -/
abbrev HS : Type := (Int → Int) × (Int → Int) × (Int → Int) × (Int → Int) × (Int → Int) × Nat × Nat × Option ((Int → Int) → Int) × Option ((Int → Int) → Int)
def sW (S : HS) : Int → Int := S.1
def sU (S : HS) : Int → Int := S.2.1
def sH (S : HS) : Int → Int := S.2.2.1
def sE (S : HS) : Int → Int := S.2.2.2.1
def sAw (S : HS) : Int → Int := S.2.2.2.2.1
def sNt (S : HS) : Nat := S.2.2.2.2.2.1
def sNp (S : HS) : Nat := S.2.2.2.2.2.2.1
def sPu (S : HS) : Option ((Int → Int) → Int) := S.2.2.2.2.2.2.2.1
def sFe (S : HS) : Option ((Int → Int) → Int) := S.2.2.2.2.2.2.2.2
def hsW (S : HS) : Prop := sNt S ≤ 6 ∧ sNp S ≤ 7 ∧ (∀ t : Int, 0 ≤ t → t < sNt S → (1 ≤ sW S t ∧ sW S t ≤ 20) ∧ (0 ≤ sU S t ∧ sU S t ≤ 9)) ∧ (∀ p : Int, 0 ≤ p → p < sNp S → (0 ≤ sH S p ∧ sH S p ≤ 60) ∧ (2 ≤ sE S p ∧ sE S p ≤ 9) ∧ (1 ≤ sAw S p ∧ sAw S p ≤ 8)) ∧ (∀ F, sPu S = some F → ∀ v, i32 (F v)) ∧ (∀ F, sFe S = some F → ∀ v, i32 (F v))
/-- a row: cells of cases in use belong to people -/
def rC (S : HS) (f : Int → Int) : Prop := ∀ p : Int, 0 ≤ p → p < sNp S → f (8 + p) < sNp S
def rT (B : Int) (f : Int → Int) : Prop := rW f ∧ (∀ i, 29 ≤ i → i < 77 → 0 ≤ f i) ∧ (∀ t, 0 ≤ t → t < 6 → f (29 + t) + f (35 + t) + f (41 + t) + f (47 + t) + f (53 + t) + f (59 + t) + f (65 + t) + f (71 + t) ≤ B) ∧ 0 ≤ f 0 ∧ f 0 ≤ 20000 ∧ B ≤ 1000000
theorem rT_in {B : Int} {f : Int → Int} (h : rT B f) {c t : Int} (hc : 0 ≤ c ∧ c < 7) (ht : 0 ≤ t ∧ t < 6) : 0 ≤ f (35 + c * 6 + t) ∧ f (35 + c * 6 + t) + f (29 + t) ≤ B ∧ 0 ≤ f (29 + t) := by
  obtain ⟨h1, h2, h3, h4⟩ := h
  have q0 := h2 (29 + t) (by omega) (by omega)
  have q1 := h2 (35 + t) (by omega) (by omega)
  have q2 := h2 (41 + t) (by omega) (by omega)
  have q3 := h2 (47 + t) (by omega) (by omega)
  have q4 := h2 (53 + t) (by omega) (by omega)
  have q5 := h2 (59 + t) (by omega) (by omega)
  have q6 := h2 (65 + t) (by omega) (by omega)
  have q7 := h2 (71 + t) (by omega) (by omega)
  have q8 := h3 t ht.1 ht.2
  rcases (show c = 0 ∨ c = 1 ∨ c = 2 ∨ c = 3 ∨ c = 4 ∨ c = 5 ∨ c = 6 by omega) with rfl | rfl | rfl | rfl | rfl | rfl | rfl
  · rw [show (35 + 0 * 6 + t : Int) = 35 + t by omega]; omega
  · rw [show (35 + 1 * 6 + t : Int) = 41 + t by omega]; omega
  · rw [show (35 + 2 * 6 + t : Int) = 47 + t by omega]; omega
  · rw [show (35 + 3 * 6 + t : Int) = 53 + t by omega]; omega
  · rw [show (35 + 4 * 6 + t : Int) = 59 + t by omega]; omega
  · rw [show (35 + 5 * 6 + t : Int) = 65 + t by omega]; omega
  · rw [show (35 + 6 * 6 + t : Int) = 71 + t by omega]; omega
/-- n pieces of t from the cupboard into the case c -/
def mvC (f : Int → Int) (c t n : Int) : Int → Int := upI (upI f (35 + c * 6 + t) (f (35 + c * 6 + t) + n)) (29 + t) (f (29 + t) - n)
theorem mvC_at {f : Int → Int} {c t n : Int} (hc : 0 ≤ c ∧ c < 7) (ht : 0 ≤ t ∧ t < 6) (i : Int) : mvC f c t n i = if i = 29 + t then f (29 + t) - n else if i = 35 + c * 6 + t then f i + n else f i := by
  unfold mvC upI
  by_cases e : i = 29 + t
  · rw [if_pos e, if_pos e]
  · rw [if_neg e, if_neg e]
    by_cases e2 : i = 35 + c * 6 + t
    · rw [if_pos e2, if_pos e2, e2]
    · rw [if_neg e2, if_neg e2]
theorem mvC_lo {f : Int → Int} {c t n : Int} (hc : 0 ≤ c ∧ c < 7) (ht : 0 ≤ t ∧ t < 6) {i : Int} (hi : i < 29) : mvC f c t n i = f i := by
  rw [mvC_at hc ht, if_neg (by omega), if_neg (by omega)]
theorem mvC_rT {B : Int} {f : Int → Int} {c t n : Int} (h : rT B f) (hc : 0 ≤ c ∧ c < 7) (ht : 0 ≤ t ∧ t < 6) (h0 : 0 ≤ f (35 + c * 6 + t) + n) (h1 : 0 ≤ f (29 + t) - n) : rT B (mvC f c t n) := by
  have hin := rT_in h hc ht
  obtain ⟨g1, g2, g3, g4, g5, g6⟩ := h
  have lo : ∀ i, i < 29 → mvC f c t n i = f i := fun i hi => mvC_lo hc ht hi
  have nn : ∀ i, 29 ≤ i → i < 77 → 0 ≤ mvC f c t n i := by
    intro i a b
    rw [mvC_at hc ht]
    have q := g2 i a b
    by_cases e : i = 29 + t
    · rw [if_pos e]; exact h1
    · rw [if_neg e]
      by_cases e2 : i = 35 + c * 6 + t
      · rw [if_pos e2, e2]; exact h0
      · rw [if_neg e2]; exact q
  have sm : ∀ u, 0 ≤ u → u < 6 → mvC f c t n (29 + u) + mvC f c t n (35 + u) + mvC f c t n (41 + u) + mvC f c t n (47 + u) + mvC f c t n (53 + u) + mvC f c t n (59 + u) + mvC f c t n (65 + u) + mvC f c t n (71 + u) = f (29 + u) + f (35 + u) + f (41 + u) + f (47 + u) + f (53 + u) + f (59 + u) + f (65 + u) + f (71 + u) := by
    intro u a b
    simp only [mvC_at hc ht]
    by_cases e : u = t
    · subst e
      rcases (show c = 0 ∨ c = 1 ∨ c = 2 ∨ c = 3 ∨ c = 4 ∨ c = 5 ∨ c = 6 by omega) with rfl | rfl | rfl | rfl | rfl | rfl | rfl <;>
      · repeat rw [if_pos (by omega)]
        repeat rw [if_neg (by omega)]
        repeat rw [if_pos (by omega)]
        repeat rw [if_neg (by omega)]
        repeat rw [if_pos (by omega)]
        repeat rw [if_neg (by omega)]
        omega
    · repeat rw [if_neg (by omega)]
  have up : ∀ i, 29 ≤ i → i < 77 → mvC f c t n i ≤ B := by
    intro i a b
    have k1 : ∀ u, 0 ≤ u → u < 6 → mvC f c t n (29 + u) + mvC f c t n (35 + u) + mvC f c t n (41 + u) + mvC f c t n (47 + u) + mvC f c t n (53 + u) + mvC f c t n (59 + u) + mvC f c t n (65 + u) + mvC f c t n (71 + u) ≤ B := fun u a b => by rw [sm u a b]; exact g3 u a b
    have k2 : ∀ u, 0 ≤ u → u < 6 → (i = 29 + u ∨ i = 35 + u ∨ i = 41 + u ∨ i = 47 + u ∨ i = 53 + u ∨ i = 59 + u ∨ i = 65 + u ∨ i = 71 + u) → mvC f c t n i ≤ B := by
      intro u a b e
      have := k1 u a b
      have q0 := nn (29 + u) (by omega) (by omega)
      have q1 := nn (35 + u) (by omega) (by omega)
      have q2 := nn (41 + u) (by omega) (by omega)
      have q3 := nn (47 + u) (by omega) (by omega)
      have q4 := nn (53 + u) (by omega) (by omega)
      have q5 := nn (59 + u) (by omega) (by omega)
      have q6 := nn (65 + u) (by omega) (by omega)
      have q7 := nn (71 + u) (by omega) (by omega)
      rcases e with rfl | rfl | rfl | rfl | rfl | rfl | rfl | rfl <;> omega
    refine k2 ((i - 29) % 6) (by omega) (by omega) (by omega)
  refine ⟨⟨fun i a b => ?_, fun p a b => ?_⟩, nn, fun u a b => by rw [sm u a b]; exact g3 u a b, by rw [lo 0 (by omega)]; exact g4, by rw [lo 0 (by omega)]; exact g5, g6⟩
  · rcases (show i < 29 ∨ 29 ≤ i by omega) with q | q
    · rw [lo i q]; exact g1.1 i a b
    · have x1 := nn i q b
      have x2 := up i q b
      constructor <;> omega
  · rw [lo (1 + p) (by omega), lo (8 + p) (by omega), lo (15 + p) (by omega), lo (22 + p) (by omega)]
    exact g1.2 p a b
/-- a number below 29 changed, within its bounds -/
theorem upI_rT {B : Int} {f : Int → Int} {i x : Int} (h : rT B f) (hi : i < 29) (hw : rW (upI f i x)) (h0 : i = 0 → 0 ≤ x ∧ x ≤ 20000) : rT B (upI f i x) := by
  obtain ⟨g1, g2, g3, g4, g5, g6⟩ := h
  have hi9 : ∀ j, 29 ≤ j → upI f i x j = f j := fun j hj => upI_n (by omega)
  refine ⟨hw, fun j a b => by rw [hi9 j a]; exact g2 j a b, fun t a b => ?_, ?_, ?_, g6⟩
  · rw [hi9 (29 + t) (by omega), hi9 (35 + t) (by omega), hi9 (41 + t) (by omega), hi9 (47 + t) (by omega), hi9 (53 + t) (by omega), hi9 (59 + t) (by omega), hi9 (65 + t) (by omega), hi9 (71 + t) (by omega)]
    exact g3 t a b
  · by_cases e : (0 : Int) = i
    · rw [← e, upI_s]; exact (h0 e.symm).1
    · rw [upI_n e]; exact g4
  · by_cases e : (0 : Int) = i
    · rw [← e, upI_s]; exact (h0 e.symm).2
    · rw [upI_n e]; exact g5
theorem upI_rW {f : Int → Int} {i x : Int} (h : rW f) (hx : -1 ≤ x ∧ x ≤ 100000000) (h1 : 1 ≤ i → i < 8 → 0 ≤ x ∧ x ≤ 8) (h2 : 8 ≤ i → i < 15 → 0 ≤ x ∧ x < 7) (h3 : 15 ≤ i → i < 22 → 0 ≤ x ∧ x ≤ 9) (h4 : 22 ≤ i → i < 29 → -1 ≤ x ∧ x < 7) : rW (upI f i x) := by
  refine ⟨fun j a b => ?_, fun p a b => ?_⟩
  · unfold upI
    by_cases e : j = i
    · rw [if_pos e]; exact hx
    · rw [if_neg e]; exact h.1 j a b
  · have q := h.2 p a b
    unfold upI
    refine ⟨?_, ?_, ?_, ?_⟩
    · by_cases e : 1 + p = i
      · rw [if_pos e]; exact h1 (by omega) (by omega)
      · rw [if_neg e]; exact q.1
    · by_cases e : 8 + p = i
      · rw [if_pos e]; exact h2 (by omega) (by omega)
      · rw [if_neg e]; exact q.2.1
    · by_cases e : 15 + p = i
      · rw [if_pos e]; exact h3 (by omega) (by omega)
      · rw [if_neg e]; exact q.2.2.1
    · by_cases e : 22 + p = i
      · rw [if_pos e]; exact h4 (by omega) (by omega)
      · rw [if_neg e]; exact q.2.2.2
theorem sumF_rT {B : Int} {us f : Int → Int} {p : Int} {n : Nat} (h : rT B f) (hp : 0 ≤ p ∧ p < 7) (hn : n ≤ 6) (hu : ∀ i : Int, 0 ≤ i → i < n → 0 ≤ us i ∧ us i ≤ 20) : 0 ≤ sumF us f p n ∧ sumF us f p n ≤ 120000000 := by
  have hc := (h.1.2 p hp.1 hp.2).2.1
  have hB := h.2.2.2.2.2
  have h0 : 0 ≤ B := by
    have := rT_in h (c := 0) (t := 0) ⟨by omega, by omega⟩ ⟨by omega, by omega⟩
    omega
  have q := sumF_b (us := us) (f := f) (p := p) (B := B) (n := n) hu h0 (fun i a b => by
    have := rT_in h hc ⟨a, by omega⟩
    omega)
  refine ⟨q.1, ?_⟩
  have h1 : 20 * B * (n : Int) ≤ 20 * 1000000 * 6 := Int.mul_le_mul (by omega) (by omega) (by omega) (by omega)
  omega
