/-! THE REFERENCE. Its row: where a row's number lies there -/
def pm (j : Int) : Int := if j < 15 then j else if j < 29 then j + 48 else if j < 35 then j + 28 else j - 20
theorem pm_b {j : Int} (h0 : 0 ≤ j) (h1 : j < 77) : 0 ≤ pm j ∧ pm j < 77 := by
  unfold pm
  by_cases a : j < 15
  · rw [if_pos a]; omega
  · rw [if_neg a]
    by_cases b : j < 29
    · rw [if_pos b]; omega
    · rw [if_neg b]
      by_cases c : j < 35
      · rw [if_pos c]; omega
      · rw [if_neg c]; omega
theorem pm_inj {i j : Int} (h0 : 0 ≤ i) (h1 : i < 77) (g0 : 0 ≤ j) (g1 : j < 77) (e : pm i = pm j) : i = j := by
  unfold pm at e
  by_cases a : i < 15
  · rw [if_pos a] at e
    by_cases a2 : j < 15
    · rw [if_pos a2] at e; exact e
    · rw [if_neg a2] at e
      by_cases b2 : j < 29
      · rw [if_pos b2] at e; omega
      · rw [if_neg b2] at e
        by_cases c2 : j < 35
        · rw [if_pos c2] at e; omega
        · rw [if_neg c2] at e; omega
  · rw [if_neg a] at e
    by_cases b : i < 29
    · rw [if_pos b] at e
      by_cases a2 : j < 15
      · rw [if_pos a2] at e; omega
      · rw [if_neg a2] at e
        by_cases b2 : j < 29
        · rw [if_pos b2] at e; omega
        · rw [if_neg b2] at e
          by_cases c2 : j < 35
          · rw [if_pos c2] at e; omega
          · rw [if_neg c2] at e; omega
    · rw [if_neg b] at e
      by_cases c : i < 35
      · rw [if_pos c] at e
        by_cases a2 : j < 15
        · rw [if_pos a2] at e; omega
        · rw [if_neg a2] at e
          by_cases b2 : j < 29
          · rw [if_pos b2] at e; omega
          · rw [if_neg b2] at e
            by_cases c2 : j < 35
            · rw [if_pos c2] at e; omega
            · rw [if_neg c2] at e; omega
      · rw [if_neg c] at e
        by_cases a2 : j < 15
        · rw [if_pos a2] at e; omega
        · rw [if_neg a2] at e
          by_cases b2 : j < 29
          · rw [if_pos b2] at e; omega
          · rw [if_neg b2] at e
            by_cases c2 : j < 35
            · rw [if_pos c2] at e; omega
            · rw [if_neg c2] at e; omega
theorem pm_lo {j : Int} (h : j < 15) : pm j = j := if_pos h
theorem pm_f {p : Int} (h : 0 ≤ p ∧ p < 7) : pm (15 + p) = 63 + p := by
  unfold pm; rw [if_neg (by omega), if_pos (by omega)]; omega
theorem pm_k {p : Int} (h : 0 ≤ p ∧ p < 7) : pm (22 + p) = 70 + p := by
  unfold pm; rw [if_neg (by omega), if_pos (by omega)]; omega
theorem pm_s {t : Int} (h : 0 ≤ t ∧ t < 6) : pm (29 + t) = 57 + t := by
  unfold pm; rw [if_neg (by omega), if_neg (by omega), if_pos (by omega)]; omega
theorem pm_i {c t : Int} (h : 0 ≤ c ∧ c < 7) (h2 : 0 ≤ t ∧ t < 6) : pm (35 + c * 6 + t) = 15 + 6 * c + t := by
  unfold pm; rw [if_neg (by omega), if_neg (by omega), if_neg (by omega)]; omega
def RV (h : HP) (b : Int) (f : Int → Int) : Prop := ∀ j : Int, 0 ≤ j → j < 77 → hA h 18 (b + pm j) = f j
theorem RV_d {h : HP} {b i : Int} {f : Int → Int} (v : RV h b f) (e : i = b) : hA h 18 i = f 0 := by
  have := v 0 (by omega) (by omega)
  rw [pm_lo (by omega), show b + 0 = i by omega] at this
  exact this
theorem RV_o {h : HP} {b i p : Int} {f : Int → Int} (v : RV h b f) (hp : 0 ≤ p ∧ p < 7) (e : i = b + 1 + p) : hA h 18 i = f (1 + p) := by
  have := v (1 + p) (by omega) (by omega)
  rw [pm_lo (by omega), show b + (1 + p) = i by omega] at this
  exact this
theorem RV_c {h : HP} {b i p : Int} {f : Int → Int} (v : RV h b f) (hp : 0 ≤ p ∧ p < 7) (e : i = b + 8 + p) : hA h 18 i = f (8 + p) := by
  have := v (8 + p) (by omega) (by omega)
  rw [pm_lo (by omega), show b + (8 + p) = i by omega] at this
  exact this
theorem RV_f {h : HP} {b i p : Int} {f : Int → Int} (v : RV h b f) (hp : 0 ≤ p ∧ p < 7) (e : i = b + 63 + p) : hA h 18 i = f (15 + p) := by
  have := v (15 + p) (by omega) (by omega)
  rw [pm_f hp, show b + (63 + p) = i by omega] at this
  exact this
theorem RV_k {h : HP} {b i p : Int} {f : Int → Int} (v : RV h b f) (hp : 0 ≤ p ∧ p < 7) (e : i = b + 70 + p) : hA h 18 i = f (22 + p) := by
  have := v (22 + p) (by omega) (by omega)
  rw [pm_k hp, show b + (70 + p) = i by omega] at this
  exact this
theorem RV_s {h : HP} {b i p : Int} {f : Int → Int} (v : RV h b f) (hp : 0 ≤ p ∧ p < 6) (e : i = b + 57 + p) : hA h 18 i = f (29 + p) := by
  have := v (29 + p) (by omega) (by omega)
  rw [pm_s hp, show b + (57 + p) = i by omega] at this
  exact this
theorem RV_i {h : HP} {b i c t : Int} {f : Int → Int} (v : RV h b f) (hc : 0 ≤ c ∧ c < 7) (ht : 0 ≤ t ∧ t < 6) (e : i = b + 15 + 6 * c + t) : hA h 18 i = f (35 + c * 6 + t) := by
  have := v (35 + c * 6 + t) (by omega) (by omega)
  rw [pm_i hc ht, show b + (15 + 6 * c + t) = i by omega] at this
  exact this
theorem RV_up {h g : HP} {b i j x : Int} {f : Int → Int} (v : RV h b f) (h0 : 0 ≤ j) (h1 : j < 77) (hi : i = b + pm j) (e : g = sA h 18 i x) : RV g b (upI f j x) := by
  obtain ⟨a1, -⟩ := sA_fx e
  intro k k0 k1
  rw [a1]
  unfold upI
  by_cases z : k = j
  · rw [if_pos z, if_pos (by rw [z, hi])]
  · rw [if_neg z, if_neg (fun q => z (pm_inj k0 k1 h0 h1 (by omega)))]
    exact v k k0 k1
/-- all but a row, what a rule reads, its pile, who left -/
def MFr (b : Int) (h0 h : HP) : Prop := (∀ a, a ≠ 18 → a ≠ 20 → a ≠ 21 → hA h a = hA h0 a) ∧ (∀ i, (i < b ∨ b + 77 ≤ i) → hA h 18 i = hA h0 18 i) ∧ (∀ a k, (a ≠ 0 ∨ (k ≠ 47 ∧ k ≠ 48)) → hI h a k = hI h0 a k) ∧ hR h = hR h0
theorem MFr_rf {b : Int} {h : HP} : MFr b h h := ⟨fun _ _ _ _ => rfl, fun _ _ => rfl, fun _ _ _ => rfl, rfl⟩
theorem MFr_tr {b : Int} {h h1 h2 : HP} (a : MFr b h h1) (c : MFr b h1 h2) : MFr b h h2 := ⟨fun x p q r => (c.1 x p q r).trans (a.1 x p q r), fun i hi => (c.2.1 i hi).trans (a.2.1 i hi), fun x k hx => (c.2.2.1 x k hx).trans (a.2.2.1 x k hx), c.2.2.2.trans a.2.2.2⟩
/-! rules: steps one behind the other; the reference's own code of them -/
def vkF (s : Int) : Int := if s = -1 then 4 else if s = -2 then 5 else if s = -7 then 6 else if s = -8 then 7 else -3 - s
def opF (s : Int) : Int := if s = -9 then 3 else if s = -10 then 5 else if s = -11 then 4 else -6 - s
def cdR (c : Int → Int) : Int → List Int → Prop
  | a, [] => (0 ≤ a ∧ a < 1400) ∧ c a = 0
  | a, s :: r => (0 ≤ a ∧ a + 1 < 1400) ∧ (if 0 ≤ s then c a = 1 ∧ c (a + 1) = s ∧ cdR c (a + 2) r else if -8 ≤ s then c a = 2 ∧ c (a + 1) = vkF s ∧ cdR c (a + 2) r else c a = opF s ∧ cdR c (a + 1) r)
def wfL : Nat → List Int → Prop
  | h, [] => h = 1
  | h, s :: r => (-17 ≤ s ∧ s ≤ 9999) ∧ (if -8 ≤ s then h < 64 ∧ wfL (h + 1) r else if s = -9 then 1 ≤ h ∧ wfL h r else 2 ≤ h ∧ wfL (h - 1) r)
def evL (v : Int → Int) : List Int → List Int → List Int
  | [], st => st
  | s :: r, st => if 0 ≤ s then evL v r (s :: st) else if -8 ≤ s then evL v r (v (-1 - s) :: st) else if s = -9 then (match st with
    | x :: q => evL v r ((if x = 0 then 1 else 0) :: q)
    | [] => evL v r []) else (match st with
    | y :: x :: q => evL v r (joinF s x y :: q)
    | q => evL v r q)
def hdL (L : List Int) : Int := L.headD 0
/-- what a rule answers, by its steps -/
def ruF (L : List Int) (v : Int → Int) : Int := hdL (evL v L [])
/-- its values are those below -/
def vaL (P : Int → Prop) (L : List Int) : Prop := ∀ s ∈ L, s < 0 → -8 ≤ s → P (-1 - s)
def mRl (h : HP) (k : Nat) (mk : (Int → Int) → Int → Int) (P : Int → Prop) (o : Option ((Int → Int) → Int)) : Prop := match o with
  | none => hI h 0 k = -1
  | some F => ∃ (a : Int) (L : List Int), 0 ≤ a ∧ hI h 0 k = a ∧ cdR (hA h 6) a L ∧ wfL 0 L ∧ vaL P L ∧ ∀ v, (∀ i, i32 (v i)) → F (mk v) = ruF L v
def inPu (i : Int) : Prop := 0 ≤ i ∧ i < 6
def inFe (i : Int) : Prop := i = 0 ∨ i = 1 ∨ i = 6 ∨ i = 7
def MS (h : HP) (S : HS) : Prop := hsW S ∧ (hI h 0 1 = (sNt S : Int) ∧ hI h 0 2 = (sNp S : Int)) ∧ (∀ t : Int, 0 ≤ t → t < sNt S → hA h 1 t = sW S t ∧ hA h 2 t = sU S t) ∧ (∀ p : Int, 0 ≤ p → p < sNp S → hA h 3 p = sH S p ∧ hA h 4 p = sE S p ∧ hA h 5 p = sAw S p) ∧ mRl h 3 mkP inPu (sPu S) ∧ mRl h 4 mkF inFe (sFe S)
/-- the reference's heap while days go: as h0, but for a row -/
def MD (h0 h : HP) (b : Int) (S : HS) (f : Int → Int) : Prop := MS h0 S ∧ (b = 0 ∨ b = 77) ∧ (MFr b h0 h ∧ ∀ i, i32 (hA h 20 i)) ∧ RV h b f
theorem MD_nt {h0 h : HP} {b : Int} {S : HS} {f : Int → Int} (d : MD h0 h b S f) : hI h 0 1 = (sNt S : Int) := by rw [d.2.2.1.1.2.2.1 0 1 (Or.inr (by decide))]; exact d.1.2.1.1
theorem MD_np {h0 h : HP} {b : Int} {S : HS} {f : Int → Int} (d : MD h0 h b S f) : hI h 0 2 = (sNp S : Int) := by rw [d.2.2.1.1.2.2.1 0 2 (Or.inr (by decide))]; exact d.1.2.1.2
theorem MD_w {h0 h : HP} {b i : Int} {S : HS} {f : Int → Int} (d : MD h0 h b S f) (hi : 0 ≤ i ∧ i < sNt S) : hA h 1 i = sW S i := by rw [d.2.2.1.1.1 1 (by decide) (by decide) (by decide)]; exact (d.1.2.2.1 i hi.1 hi.2).1
theorem MD_u {h0 h : HP} {b i : Int} {S : HS} {f : Int → Int} (d : MD h0 h b S f) (hi : 0 ≤ i ∧ i < sNt S) : hA h 2 i = sU S i := by rw [d.2.2.1.1.1 2 (by decide) (by decide) (by decide)]; exact (d.1.2.2.1 i hi.1 hi.2).2
theorem MD_h {h0 h : HP} {b i : Int} {S : HS} {f : Int → Int} (d : MD h0 h b S f) (hi : 0 ≤ i ∧ i < sNp S) : hA h 3 i = sH S i := by rw [d.2.2.1.1.1 3 (by decide) (by decide) (by decide)]; exact (d.1.2.2.2.1 i hi.1 hi.2).1
theorem MD_e {h0 h : HP} {b i : Int} {S : HS} {f : Int → Int} (d : MD h0 h b S f) (hi : 0 ≤ i ∧ i < sNp S) : hA h 4 i = sE S i := by rw [d.2.2.1.1.1 4 (by decide) (by decide) (by decide)]; exact (d.1.2.2.2.1 i hi.1 hi.2).2.1
theorem MD_a {h0 h : HP} {b i : Int} {S : HS} {f : Int → Int} (d : MD h0 h b S f) (hi : 0 ≤ i ∧ i < sNp S) : hA h 5 i = sAw S i := by rw [d.2.2.1.1.1 5 (by decide) (by decide) (by decide)]; exact (d.1.2.2.2.1 i hi.1 hi.2).2.2
theorem MD_up {h0 h g : HP} {b i j x : Int} {S : HS} {f : Int → Int} (d : MD h0 h b S f) (h1 : 0 ≤ j) (h2 : j < 77) (hi : i = b + pm j) (e : g = sA h 18 i x) : MD h0 g b S (upI f j x) := by
  obtain ⟨d1, d2, ⟨d3, d5⟩, d4⟩ := d
  have pb := pm_b h1 h2
  obtain ⟨a1, f1, i1, r1⟩ := sA_fx e
  refine ⟨d1, d2, ⟨MFr_tr d3 ⟨fun a p q r => f1 a p, fun k hk => ?_, fun a k _ => by rw [i1], r1⟩, fun k => by rw [f1 20 (by decide)]; exact d5 k⟩, RV_up d4 h1 h2 hi e⟩
  rw [a1, upI_n (by omega)]
theorem MD_20 {h0 h g : HP} {b i x : Int} {S : HS} {f : Int → Int} (d : MD h0 h b S f) (hx : i32 x) (e : g = sA h 20 i x) : MD h0 g b S f := by
  obtain ⟨d1, d2, ⟨d3, d5⟩, d4⟩ := d
  obtain ⟨a1, f1, i1, r1⟩ := sA_fx e
  exact ⟨d1, d2, ⟨MFr_tr d3 ⟨fun c p q r => f1 c (by omega), fun k hk => by rw [f1 18 (by omega)], fun a k _ => by rw [i1], r1⟩, fun k => by rw [a1]; unfold upI; exact i32_if hx (d5 k)⟩, fun j j0 j1 => by rw [f1 18 (by omega)]; exact d4 j j0 j1⟩
theorem MD_21 {h0 h g : HP} {b i x : Int} {S : HS} {f : Int → Int} (d : MD h0 h b S f) (e : g = sA h 21 i x) : MD h0 g b S f := by
  obtain ⟨d1, d2, ⟨d3, d5⟩, d4⟩ := d
  obtain ⟨a1, f1, i1, r1⟩ := sA_fx e
  exact ⟨d1, d2, ⟨MFr_tr d3 ⟨fun c p q r => f1 c (by omega), fun k hk => by rw [f1 18 (by omega)], fun a k _ => by rw [i1], r1⟩, fun k => by rw [f1 20 (by decide)]; exact d5 k⟩, fun j j0 j1 => by rw [f1 18 (by omega)]; exact d4 j j0 j1⟩
theorem MD_47 {h0 h g : HP} {b x : Int} {k : Nat} {S : HS} {f : Int → Int} (d : MD h0 h b S f) (hk : k = 47 ∨ k = 48) (e : g = sI h 0 k x) : MD h0 g b S f := by
  obtain ⟨d1, d2, ⟨d3, d5⟩, d4⟩ := d
  obtain ⟨a1, f1, i1, r1⟩ := sI_fx e
  exact ⟨d1, d2, ⟨MFr_tr d3 ⟨fun c p q r => by rw [i1], fun k hk => by rw [i1], fun a j hj => f1 a j (by omega), r1⟩, fun k => by rw [i1]; exact d5 k⟩, fun j j0 j1 => by rw [i1]; exact d4 j j0 j1⟩
theorem pm_0 : pm 0 = 0 := rfl
theorem pm_o {p : Int} (h : 0 ≤ p ∧ p < 7) : pm (1 + p) = 1 + p := pm_lo (by omega)
theorem pm_c {p : Int} (h : 0 ≤ p ∧ p < 7) : pm (8 + p) = 8 + p := pm_lo (by omega)
