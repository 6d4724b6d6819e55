/-! what a draft tells, once it is read -/
theorem i32_hd {st : List Int} (h : ∀ x ∈ st, i32 x) : i32 (hdL st) := by
  cases st with
  | nil => exact ⟨by decide, by decide⟩
  | cons x r => exact h x (List.mem_cons_self ..)
theorem evL_32 {v : Int → Int} (hv : ∀ i, i32 (v i)) : ∀ (R : List Int) (st : List Int), (∀ s ∈ R, -17 ≤ s ∧ s ≤ 9999) → (∀ x ∈ st, i32 x) → ∀ x ∈ evL v R st, i32 x
  | [], _, _, h => h
  | s :: r, st, hR, h => by
    have hr : ∀ s ∈ r, -17 ≤ s ∧ s ≤ 9999 := fun x hx => hR x (List.mem_cons_of_mem _ hx)
    have hs := hR s (List.mem_cons_self ..)
    unfold evL
    by_cases c0 : 0 ≤ s
    · rw [if_pos c0]
      refine evL_32 hv r _ hr (fun x hx => ?_)
      rcases List.mem_cons.mp hx with z | z
      · rw [z]; exact ⟨by omega, by omega⟩
      · exact h x z
    · rw [if_neg c0]
      by_cases c8 : -8 ≤ s
      · rw [if_pos c8]
        refine evL_32 hv r _ hr (fun x hx => ?_)
        rcases List.mem_cons.mp hx with z | z
        · rw [z]; exact hv _
        · exact h x z
      · rw [if_neg c8]
        by_cases c9 : s = -9
        · rw [if_pos c9]
          match st, h with
          | [], h => exact evL_32 hv r [] hr h
          | a :: q, h =>
            refine evL_32 hv r _ hr (fun x hx => ?_)
            rcases List.mem_cons.mp hx with z | z
            · rw [z]; exact i32_01
            · exact h x (List.mem_cons_of_mem _ z)
        · rw [if_neg c9]
          match st, h with
          | [], h => exact evL_32 hv r [] hr h
          | [a], h => exact evL_32 hv r [a] hr h
          | b :: a :: q, h =>
            refine evL_32 hv r _ hr (fun x hx => ?_)
            rcases List.mem_cons.mp hx with z | z
            · rw [z]; exact joinF32 _ _ _
            · exact h x (List.mem_cons_of_mem _ (List.mem_cons_of_mem _ z))
theorem wfL_rng : ∀ (x : Nat) (L : List Int), wfL x L → ∀ s ∈ L, -17 ≤ s ∧ s ≤ 9999
  | _, [], _, s, hs => absurd hs (List.not_mem_nil)
  | x, t :: r, h, s, hs => by
    obtain ⟨h1, h2⟩ : (-17 ≤ t ∧ t ≤ 9999) ∧ (if -8 ≤ t then x < 64 ∧ wfL (x + 1) r else if t = -9 then 1 ≤ x ∧ wfL x r else 2 ≤ x ∧ wfL (x - 1) r) := h
    rcases List.mem_cons.mp hs with z | z
    · rw [z]; exact h1
    · by_cases c : -8 ≤ t
      · rw [if_pos c] at h2; exact wfL_rng _ r h2.2 s z
      · rw [if_neg c] at h2
        by_cases d : t = -9
        · rw [if_pos d] at h2; exact wfL_rng _ r h2.2 s z
        · rw [if_neg d] at h2; exact wfL_rng _ r h2.2 s z
theorem wr_id {x : Int} (h : i32 x) : wr x = x := oI_to h
/-- a rule, as the house has it -/
def rF (L : List Int) : (Int → Int) → Int := fun v => wr (ruF L v)
theorem rF_is {L : List Int} {v : Int → Int} (hw : wfL 0 L) (hv : ∀ i, i32 (v i)) : rF L v = ruF L v := by
  unfold rF
  exact wr_id (i32_hd (evL_32 hv L [] (wfL_rng 0 L hw) (fun x hx => absurd hx (List.not_mem_nil))))
theorem rF_P {L : List Int} {v : Int → Int} (hw : wfL 0 L) (ha : vaL inPu L) (hv : ∀ i, i32 (v i)) : rF L (mkP v) = ruF L v := by
  have e : ruF L (mkP v) = ruF L v := ruF_cg ha (fun i hi => by unfold mkP; exact if_pos hi)
  rw [← e]
  refine rF_is hw (fun i => ?_)
  unfold mkP
  exact i32_if (hv i) ⟨by decide, by decide⟩
theorem rF_F {L : List Int} {v : Int → Int} (hw : wfL 0 L) (ha : vaL inFe L) (hv : ∀ i, i32 (v i)) : rF L (mkF v) = ruF L v := by
  have e : ruF L (mkF v) = ruF L v := ruF_cg ha (fun i hi => by unfold mkF; exact if_pos hi)
  rw [← e]
  refine rF_is hw (fun i => ?_)
  unfold mkF
  exact i32_if (hv i) ⟨by decide, by decide⟩
def DOK (D : DR) : Prop := (D.1.1 ≤ 6 ∧ D.1.2 ≤ 7) ∧ (∀ i : Int, 0 ≤ i → i < D.1.1 → (1 ≤ D.2.1.1 i ∧ D.2.1.1 i ≤ 20) ∧ (0 ≤ D.2.1.2.1 i ∧ D.2.1.2.1 i ≤ 9) ∧ (0 ≤ D.2.1.2.2 i ∧ D.2.1.2.2 i ≤ 9)) ∧ (∀ i : Int, 0 ≤ i → i < D.1.2 → (0 ≤ D.2.2.1.1 i ∧ D.2.2.1.1 i ≤ 60) ∧ (2 ≤ D.2.2.1.2.1 i ∧ D.2.2.1.2.1 i ≤ 9) ∧ (1 ≤ D.2.2.1.2.2.1 i ∧ D.2.2.1.2.2.1 i ≤ 8) ∧ (0 ≤ D.2.2.1.2.2.2.1 i ∧ D.2.2.1.2.2.2.1 i ≤ 9) ∧ (-1 ≤ D.2.2.1.2.2.2.2 i ∧ D.2.2.1.2.2.2.2 i ≤ 6) ∧ D.2.2.1.2.2.2.2 i ≠ i) ∧ (∀ L, D.2.2.2.1 = some L → wfL 0 L ∧ vaL inPu L) ∧ (∀ L, D.2.2.2.2 = some L → wfL 0 L ∧ vaL inFe L)
theorem thN_b {tp : Int → Int} {n p q : Nat} {w x s : Int} (h : thN tp n p = .inr (w, x, s, q)) : (1 ≤ w ∧ w ≤ 20) ∧ (0 ≤ x ∧ x ≤ 9) ∧ (0 ≤ s ∧ s ≤ 9) := by
  unfold thN at h
  rcases u1 : nuP tp n 1 20 p with e | ⟨v1, p1⟩
  · rw [u1] at h; cases h
  · rw [u1] at h
    have b1 := nuP_b u1
    rcases u2 : nuP tp n 0 9 p1 with e | ⟨v2, p2⟩
    · simp only [u2] at h; cases h
    · simp only [u2] at h
      have b2 := nuP_b u2
      rcases u3 : nuP tp n 0 9 p2 with e | ⟨v3, p3⟩
      · simp only [u3] at h; cases h
      · simp only [u3] at h
        have b3 := nuP_b u3
        cases h
        omega
theorem byP_b {tp : Int → Int} {n p q : Nat} {me y : Int} (hm : 0 ≤ me) (h : byP tp n me p = .inr (y, q)) : (-1 ≤ y ∧ y ≤ 6) ∧ y ≠ me := by
  unfold byP at h
  by_cases c : isWb tp (tk tp n p) 2 = true
  · rw [if_pos c] at h
    unfold pakP at h
    split at h
    · cases h
    · rename_i z
      have b := nuP_b h
      refine ⟨by omega, fun e => ?_⟩
      unfold nuP at h
      rw [if_pos b.2.2.1] at h
      split at h
      · cases h
      · rename_i w
        have e2 := (Prod.mk.inj (Sum.inr.inj h)).1
        exact z ⟨b.2.2.1, by omega, by omega⟩
  · rw [if_neg c] at h
    cases h
    exact ⟨by decide, by omega⟩
theorem peN_b {tp : Int → Int} {n p q : Nat} {me a b c f y : Int} (hm : 0 ≤ me) (h : peN tp n me p = .inr (a, b, c, f, y, q)) : (0 ≤ a ∧ a ≤ 60) ∧ (2 ≤ b ∧ b ≤ 9) ∧ (1 ≤ c ∧ c ≤ 8) ∧ (0 ≤ f ∧ f ≤ 9) ∧ (-1 ≤ y ∧ y ≤ 6) ∧ y ≠ me := by
  unfold peN at h
  rcases u1 : nuP tp n 0 60 p with e | ⟨v1, p1⟩
  · rw [u1] at h; cases h
  · rw [u1] at h
    have b1 := nuP_b u1
    rcases u2 : nuP tp n 2 9 p1 with e | ⟨v2, p2⟩
    · simp only [u2] at h; cases h
    · simp only [u2] at h
      have b2 := nuP_b u2
      rcases u3 : nuP tp n 1 (v2 - 1) p2 with e | ⟨v3, p3⟩
      · simp only [u3] at h; cases h
      · simp only [u3] at h
        have b3 := nuP_b u3
        rcases u4 : nuP tp n 0 9 p3 with e | ⟨v4, p4⟩
        · simp only [u4] at h; cases h
        · simp only [u4] at h
          have b4 := nuP_b u4
          rcases u5 : byP tp n me p4 with e | ⟨v5, p5⟩
          · simp only [u5] at h; cases h
          · simp only [u5] at h
            have b5 := byP_b hm u5
            cases h
            exact ⟨by omega, by omega, by omega, by omega, b5.1, b5.2⟩
theorem thN_n {tp : Int → Int} {n p q : Nat} {w x s : Int} (hp : p ≤ n) (h : thN tp n p = .inr (w, x, s, q)) : q ≤ n := by
  unfold thN at h
  rcases u1 : nuP tp n 1 20 p with e | ⟨v1, p1⟩
  · rw [u1] at h; cases h
  · rw [u1] at h
    have b1 := nuP_q hp u1
    rcases u2 : nuP tp n 0 9 p1 with e | ⟨v2, p2⟩
    · simp only [u2] at h; cases h
    · simp only [u2] at h
      have b2 := nuP_q b1.2 u2
      rcases u3 : nuP tp n 0 9 p2 with e | ⟨v3, p3⟩
      · simp only [u3] at h; cases h
      · simp only [u3] at h
        have b3 := nuP_q b2.2 u3
        cases h
        omega
theorem byP_n {tp : Int → Int} {n p q : Nat} {me y : Int} (hp : p ≤ n) (h : byP tp n me p = .inr (y, q)) : q ≤ n := by
  unfold byP at h
  by_cases c : isWb tp (tk tp n p) 2 = true
  · rw [if_pos c] at h
    unfold pakP at h
    have h2 := tk_is (tp := tp) hp
    split at h
    · cases h
    · exact (nuP_q h2.2.2.1 h).2
  · rw [if_neg c] at h
    cases h
    exact hp
theorem peN_n {tp : Int → Int} {n p q : Nat} {me a b c f y : Int} (hp : p ≤ n) (h : peN tp n me p = .inr (a, b, c, f, y, q)) : q ≤ n := by
  unfold peN at h
  rcases u1 : nuP tp n 0 60 p with e | ⟨v1, p1⟩
  · rw [u1] at h; cases h
  · rw [u1] at h
    have b1 := nuP_q hp u1
    rcases u2 : nuP tp n 2 9 p1 with e | ⟨v2, p2⟩
    · simp only [u2] at h; cases h
    · simp only [u2] at h
      have b2 := nuP_q b1.2 u2
      rcases u3 : nuP tp n 1 (v2 - 1) p2 with e | ⟨v3, p3⟩
      · simp only [u3] at h; cases h
      · simp only [u3] at h
        have b3 := nuP_q b2.2 u3
        rcases u4 : nuP tp n 0 9 p3 with e | ⟨v4, p4⟩
        · simp only [u4] at h; cases h
        · simp only [u4] at h
          have b4 := nuP_q b3.2 u4
          rcases u5 : byP tp n me p4 with e | ⟨v5, p5⟩
          · simp only [u5] at h; cases h
          · simp only [u5] at h
            have b5 := byP_n b4.2 u5
            cases h
            exact b5
theorem DOK_ln {tp : Int → Int} {n p q : Nat} {D D' : DR} (hD : DOK D) (hp : p ≤ n) (h : lnP tp n D p = .inr (D', q)) : DOK D' ∧ p < q ∧ q ≤ n := by
  have hB : ∃ q0, lnB tp n D p = .inr (D', q0) ∧ q = (tk tp n q0).2.2 ∧ (tk tp n q0).1 ≠ 0 := by
    unfold lnP at h
    rcases u : lnB tp n D p with e | ⟨D1, q1⟩
    · rw [u] at h; cases h
    · rw [u] at h
      by_cases c : Sg tp (tk tp n q1) 59
      · rw [siP_t c] at h
        cases h
        exact ⟨q1, rfl, rfl, by have := c.1; omega⟩
      · rw [siP_f c] at h; cases h
  obtain ⟨q0, hB, hq, hnz⟩ := hB
  have hn := tk_e (tp := tp) hp
  have hle : p ≤ (tk tp n p).2.2 := Nat.le_trans (tk_is (tp := tp) hp).1 (tk_is (tp := tp) hp).2.1
  have key : DOK D' ∧ p ≤ q0 ∧ q0 ≤ n := by
    obtain ⟨⟨h1, h2⟩, h3, h4, h5, h6⟩ := id hD
    by_cases w0 : isWb tp (tk tp n p) 0 = true
    · rw [lnW_0 w0] at hB
      unfold thB at hB
      by_cases c : D.1.1 = 6
      · rw [if_pos c] at hB; cases hB
      · rw [if_neg c] at hB
        rcases u : thN tp n (tk tp n p).2.2 with e | ⟨w, x, s, q1⟩
        · rw [u] at hB; cases hB
        · rw [u] at hB
          have b := thN_b u
          have bq := thN_q hn u
          have bn := thN_n hn u
          cases hB
          refine ⟨⟨⟨by show D.1.1 + 1 ≤ 6; omega, h2⟩, fun i i0 i1 => ?_, h4, h5, h6⟩, by omega, bn⟩
          have i1 : i < ((D.1.1 + 1 : Nat) : Int) := i1
          show (1 ≤ upI D.2.1.1 (D.1.1 : Int) w i ∧ upI D.2.1.1 (D.1.1 : Int) w i ≤ 20) ∧ (0 ≤ upI D.2.1.2.1 (D.1.1 : Int) x i ∧ upI D.2.1.2.1 (D.1.1 : Int) x i ≤ 9) ∧ (0 ≤ upI D.2.1.2.2 (D.1.1 : Int) s i ∧ upI D.2.1.2.2 (D.1.1 : Int) s i ≤ 9)
          by_cases z : i = (D.1.1 : Int)
          · rw [z, upI_s, upI_s, upI_s]; exact b
          · rw [upI_n z, upI_n z, upI_n z]; exact h3 i i0 (by omega)
    · by_cases w1 : isWb tp (tk tp n p) 1 = true
      · rw [lnW_1 w1] at hB
        unfold peB at hB
        by_cases c : D.1.2 = 7
        · rw [if_pos c] at hB; cases hB
        · rw [if_neg c] at hB
          rcases u : peN tp n (D.1.2 : Int) (tk tp n p).2.2 with e | ⟨a, b, cc, f, y, q1⟩
          · rw [u] at hB; cases hB
          · rw [u] at hB
            have bb := peN_b (by omega) u
            have bq := peN_q hn u
            have bn := peN_n hn u
            cases hB
            refine ⟨⟨⟨h1, by show D.1.2 + 1 ≤ 7; omega⟩, h3, fun i i0 i1 => ?_, h5, h6⟩, by omega, bn⟩
            have i1 : i < ((D.1.2 + 1 : Nat) : Int) := i1
            show (0 ≤ upI D.2.2.1.1 (D.1.2 : Int) a i ∧ upI D.2.2.1.1 (D.1.2 : Int) a i ≤ 60) ∧ (2 ≤ upI D.2.2.1.2.1 (D.1.2 : Int) b i ∧ upI D.2.2.1.2.1 (D.1.2 : Int) b i ≤ 9) ∧ (1 ≤ upI D.2.2.1.2.2.1 (D.1.2 : Int) cc i ∧ upI D.2.2.1.2.2.1 (D.1.2 : Int) cc i ≤ 8) ∧ (0 ≤ upI D.2.2.1.2.2.2.1 (D.1.2 : Int) f i ∧ upI D.2.2.1.2.2.2.1 (D.1.2 : Int) f i ≤ 9) ∧ (-1 ≤ upI D.2.2.1.2.2.2.2 (D.1.2 : Int) y i ∧ upI D.2.2.1.2.2.2.2 (D.1.2 : Int) y i ≤ 6) ∧ upI D.2.2.1.2.2.2.2 (D.1.2 : Int) y i ≠ i
            by_cases z : i = (D.1.2 : Int)
            · rw [z, upI_s, upI_s, upI_s, upI_s, upI_s]; exact bb
            · rw [upI_n z, upI_n z, upI_n z, upI_n z, upI_n z]; exact h4 i i0 (by omega)
      · by_cases w3 : isWb tp (tk tp n p) 3 = true
        · rw [lnW_3 w3] at hB
          unfold puB at hB
          split at hB
          · cases hB
          · rcases u : exP tp n 1 6 (tk tp n p).2.2 with e | ⟨q1, L⟩
            · rw [u] at hB; cases hB
            · rw [u] at hB
              have b := ex6 (Or.inr ⟨rfl, rfl⟩) hn u
              have bq := PO_ex 6 _ _ _ hn u
              cases hB
              exact ⟨⟨⟨h1, h2⟩, h3, h4, fun L2 e2 => by rw [← Option.some.inj e2]; exact b, h6⟩, by omega, bq.2.1⟩
        · by_cases w5 : isWb tp (tk tp n p) 15 = true
          · rw [lnW_15 w5] at hB
            unfold feB at hB
            split at hB
            · cases hB
            · rcases u : exP tp n 0 6 (tk tp n p).2.2 with e | ⟨q1, L⟩
              · rw [u] at hB; cases hB
              · rw [u] at hB
                have b := ex6 (Or.inl ⟨rfl, rfl⟩) hn u
                have bq := PO_ex 6 _ _ _ hn u
                cases hB
                exact ⟨⟨⟨h1, h2⟩, h3, h4, h5, fun L2 e2 => by rw [← Option.some.inj e2]; exact b⟩, by omega, bq.2.1⟩
          · rw [lnW_n w0 w1 w3 w5] at hB; cases hB
  have := tk_lt (tp := tp) key.2.2 hnz
  exact ⟨key.1, by omega, by rw [hq]; exact tk_e key.2.2⟩
theorem DOK_hs {tp : Int → Int} {n : Nat} : ∀ (f p q : Nat) (D D' : DR), DOK D → p ≤ n → hsP tp n f D p = .inr (D', q) → DOK D'
  | 0, p, q, D, D', hD, hp, h => by cases h; exact hD
  | f + 1, p, q, D, D', hD, hp, h => by
    by_cases c : (tk tp n p).1 = 0
    · rw [hsP_0 c] at h; cases h; exact hD
    · rcases u : lnP tp n D p with e | ⟨D1, q1⟩
      · rw [hsP_e c u] at h; cases h
      · rw [hsP_g c u] at h
        have b := DOK_ln hD hp u
        exact DOK_hs f q1 q D1 D' b.1 b.2.2 h
/-- the house of a draft, its first row -/
def HSd (D : DR) : HS := (D.2.1.1, D.2.1.2.1, D.2.2.1.1, D.2.2.1.2.1, D.2.2.1.2.2.1, D.1.1, D.1.2, D.2.2.2.1.map rF, D.2.2.2.2.map rF)
def rwD (D : DR) (j : Int) : Int := if 22 ≤ j ∧ j < 22 + (D.1.2 : Int) then (if D.2.2.1.2.2.2.2 (j - 22) < (D.1.2 : Int) then D.2.2.1.2.2.2.2 (j - 22) else -1) else drR D.1.1 D.1.2 D.2.1.2.2 D.2.2.1.2.2.2.1 D.2.2.1.2.2.2.2 j
def D0 (w u s a b c f y : Int → Int) : DR := ((0, 0), (w, u, s), (a, b, c, f, y), none, none)
theorem DOK_0 {w u s a b c f y : Int → Int} : DOK (D0 w u s a b c f y) := ⟨⟨Nat.zero_le _, Nat.zero_le _⟩, fun i i0 i1 => absurd (show i < ((0 : Nat) : Int) from i1) (by omega), fun i i0 i1 => absurd (show i < ((0 : Nat) : Int) from i1) (by omega), (fun L e => by have e : (none : Option (List Int)) = some L := e; cases e), (fun L e => by have e : (none : Option (List Int)) = some L := e; cases e)⟩
theorem HSd_W {D : DR} (h : DOK D) : hsW (HSd D) := by
  obtain ⟨⟨h1, h2⟩, h3, h4, h5, h6⟩ := h
  refine ⟨h1, h2, fun t t0 t1 => ⟨(h3 t t0 t1).1, (h3 t t0 t1).2.1⟩, fun p p0 p1 => ⟨(h4 p p0 p1).1, (h4 p p0 p1).2.1, (h4 p p0 p1).2.2.1⟩, fun F e v => ?_, fun F e v => ?_⟩
  · have e : D.2.2.2.1.map rF = some F := e
    obtain ⟨L, -, e2⟩ := Option.map_eq_some_iff.mp e
    rw [← e2]; exact wr32 _
  · have e : D.2.2.2.2.map rF = some F := e
    obtain ⟨L, -, e2⟩ := Option.map_eq_some_iff.mp e
    rw [← e2]; exact wr32 _
theorem drR_lo {nt np : Nat} {st fo bw : Int → Int} {j : Int} (h : j < 8) : drR nt np st fo bw j = 0 := by unfold drR; rw [if_pos h]
theorem drR_c {nt np : Nat} {st fo bw : Int → Int} {p : Int} (h : 0 ≤ p ∧ p < 7) : drR nt np st fo bw (8 + p) = if p < np then p else 0 := by
  unfold drR; rw [if_neg (by omega), if_pos (by omega), show 8 + p - 8 = p by omega]
theorem drR_f {nt np : Nat} {st fo bw : Int → Int} {p : Int} (h : 0 ≤ p ∧ p < 7) : drR nt np st fo bw (15 + p) = if p < np then fo p else 0 := by
  unfold drR; rw [if_neg (by omega), if_neg (by omega), if_pos (by omega), show 15 + p - 15 = p by omega]
theorem drR_k {nt np : Nat} {st fo bw : Int → Int} {p : Int} (h : 0 ≤ p ∧ p < 7) : drR nt np st fo bw (22 + p) = if p < np then bw p else 0 := by
  unfold drR; rw [if_neg (by omega), if_neg (by omega), if_neg (by omega), if_pos (by omega), show 22 + p - 22 = p by omega]
theorem drR_s {nt np : Nat} {st fo bw : Int → Int} {t : Int} (h : 0 ≤ t ∧ t < 6) : drR nt np st fo bw (29 + t) = if t < nt then st t else 0 := by
  unfold drR; rw [if_neg (by omega), if_neg (by omega), if_neg (by omega), if_neg (by omega), if_pos (by omega), show 29 + t - 29 = t by omega]
theorem drR_hi {nt np : Nat} {st fo bw : Int → Int} {j : Int} (h : 35 ≤ j) : drR nt np st fo bw j = 0 := by
  unfold drR; rw [if_neg (by omega), if_neg (by omega), if_neg (by omega), if_neg (by omega), if_neg (by omega)]
section RWD
variable {D : DR}
theorem rwD_n (hD : DOK D) {j : Int} (h : j < 22 ∨ 29 ≤ j) : rwD D j = drR D.1.1 D.1.2 D.2.1.2.2 D.2.2.1.2.2.2.1 D.2.2.1.2.2.2.2 j := by
  have h7 := hD.1.2
  unfold rwD
  rw [if_neg (by omega)]
theorem rwD_k (hD : DOK D) {p : Int} (h : 0 ≤ p ∧ p < 7) : rwD D (22 + p) = if p < D.1.2 then (if D.2.2.1.2.2.2.2 p < (D.1.2 : Int) then D.2.2.1.2.2.2.2 p else -1) else 0 := by
  unfold rwD
  by_cases c : p < (D.1.2 : Int)
  · rw [if_pos c, if_pos (by omega), show 22 + p - 22 = p by omega]
  · rw [if_neg c, if_neg (by omega), drR_k h, if_neg c]
theorem rwD_kb (hD : DOK D) {p : Int} (h : 0 ≤ p ∧ p < 7) : (-1 ≤ rwD D (22 + p) ∧ rwD D (22 + p) < 7) ∧ (p < D.1.2 → rwD D (22 + p) < D.1.2 ∧ rwD D (22 + p) ≠ p) := by
  rw [rwD_k hD h]
  by_cases c : p < (D.1.2 : Int)
  · have b := (hD.2.2.1 p h.1 c).2.2.2.2
    rw [if_pos c]
    by_cases d : D.2.2.1.2.2.2.2 p < (D.1.2 : Int)
    · rw [if_pos d]; exact ⟨by omega, fun _ => ⟨d, b.2⟩⟩
    · rw [if_neg d]; exact ⟨by omega, fun _ => ⟨by omega, by omega⟩⟩
  · rw [if_neg c]; exact ⟨by omega, fun z => absurd z c⟩
theorem rwD_OK (hD : DOK D) {f : Int → Int} (hf : ∀ j : Int, 0 ≤ j → j < 77 → f j = rwD D j) : rowOK (HSd D) f := by
  obtain ⟨⟨h1, h2⟩, h3, h4, h5, h6⟩ := id hD
  have e0 : ∀ j : Int, 0 ≤ j → j < 8 → f j = 0 := fun j a b => by rw [hf j a (by omega), rwD_n hD (by omega), drR_lo b]
  have ec : ∀ p : Int, 0 ≤ p → p < 7 → f (8 + p) = if p < D.1.2 then p else 0 := fun p a b => by rw [hf _ (by omega) (by omega), rwD_n hD (by omega), drR_c ⟨a, b⟩]
  have ef : ∀ p : Int, 0 ≤ p → p < 7 → f (15 + p) = if p < D.1.2 then D.2.2.1.2.2.2.1 p else 0 := fun p a b => by rw [hf _ (by omega) (by omega), rwD_n hD (by omega), drR_f ⟨a, b⟩]
  have ek : ∀ p : Int, 0 ≤ p → p < 7 → f (22 + p) = rwD D (22 + p) := fun p a b => hf _ (by omega) (by omega)
  have es : ∀ t : Int, 0 ≤ t → t < 6 → f (29 + t) = if t < D.1.1 then D.2.1.2.2 t else 0 := fun t a b => by rw [hf _ (by omega) (by omega), rwD_n hD (by omega), drR_s ⟨a, b⟩]
  have eh : ∀ j : Int, 35 ≤ j → j < 77 → f j = 0 := fun j a b => by rw [hf j (by omega) b, rwD_n hD (by omega), drR_hi a]
  have bc : ∀ p : Int, 0 ≤ p → p < 7 → 0 ≤ f (8 + p) ∧ f (8 + p) < 7 := fun p a b => by
    rw [ec p a b]; split <;> omega
  have bf : ∀ p : Int, 0 ≤ p → p < 7 → 0 ≤ f (15 + p) ∧ f (15 + p) ≤ 9 := fun p a b => by
    rw [ef p a b]
    split
    · rename_i z; have := (h4 p a z).2.2.2.1; omega
    · omega
  have bk : ∀ p : Int, 0 ≤ p → p < 7 → -1 ≤ f (22 + p) ∧ f (22 + p) < 7 := fun p a b => by rw [ek p a b]; exact (rwD_kb hD ⟨a, b⟩).1
  have bs : ∀ t : Int, 0 ≤ t → t < 6 → 0 ≤ f (29 + t) ∧ f (29 + t) ≤ 9 := fun t a b => by
    rw [es t a b]
    split
    · rename_i z; have := (h3 t a z).2.2; omega
    · omega
  have all : ∀ i : Int, 0 ≤ i → i < 77 → -1 ≤ f i ∧ f i ≤ 100000000 := fun i a b => by
    by_cases c1 : i < 8
    · rw [e0 i a c1]; omega
    · by_cases c2 : i < 15
      · have := bc (i - 8) (by omega) (by omega); rw [show 8 + (i - 8) = i by omega] at this; omega
      · by_cases c3 : i < 22
        · have := bf (i - 15) (by omega) (by omega); rw [show 15 + (i - 15) = i by omega] at this; omega
        · by_cases c4 : i < 29
          · have := bk (i - 22) (by omega) (by omega); rw [show 22 + (i - 22) = i by omega] at this; omega
          · by_cases c5 : i < 35
            · have := bs (i - 29) (by omega) (by omega); rw [show 29 + (i - 29) = i by omega] at this; omega
            · rw [eh i (by omega) b]; omega
  have wz : ∀ (c : Int) (n : Nat), 0 ≤ c → c < 7 → n ≤ 6 → wgF (sW (HSd D)) f c n = 0 := by
    intro c n c0 c1
    induction n with
    | zero => intro _; rfl
    | succ n ih =>
      intro hn
      show wgF (sW (HSd D)) f c n + sW (HSd D) (n : Int) * f (35 + c * 6 + (n : Int)) = 0
      rw [ih (by omega), eh (35 + c * 6 + (n : Int)) (by omega) (by omega)]
      omega
  refine ⟨⟨⟨all, fun p a b => ⟨by rw [e0 (1 + p) (by omega) (by omega)]; omega, bc p a b, bf p a b, bk p a b⟩⟩, fun i a b => ?_, fun t a b => ?_, by rw [e0 0 (by omega) (by omega)]; omega, by rw [e0 0 (by omega) (by omega)]; omega, by omega⟩, fun p a b => ?_, by rw [e0 0 (by omega) (by omega)]; omega, ⟨fun c a b => ?_, fun c t a b c0 c1 _ => eh _ (by omega) (by omega)⟩, fun p q a b c d e => ?_, fun p a b => ?_⟩
  · by_cases c5 : i < 35
    · have := bs (i - 29) (by omega) (by omega); rw [show 29 + (i - 29) = i by omega] at this; omega
    · rw [eh i (by omega) b]; omega
  · have := bs t a b
    rw [eh (35 + t) (by omega) (by omega), eh (41 + t) (by omega) (by omega), eh (47 + t) (by omega) (by omega), eh (53 + t) (by omega) (by omega), eh (59 + t) (by omega) (by omega), eh (65 + t) (by omega) (by omega), eh (71 + t) (by omega) (by omega)]
    omega
  · have b : p < (D.1.2 : Int) := b
    show f (8 + p) < (D.1.2 : Int)
    rw [ec p a (by omega), if_pos b]; exact b
  · have b : c < (D.1.2 : Int) := b
    show wgF (sW (HSd D)) f c D.1.1 ≤ _
    rw [wz c _ a (by omega) h1]
    exact (h4 c a b).1.1
  · have b : p < (D.1.2 : Int) := b
    have d : q < (D.1.2 : Int) := d
    rw [ec p a (by omega), ec q c (by omega), if_pos b, if_pos d] at e
    exact e
  · have b : p < (D.1.2 : Int) := b
    rw [ek p a (by omega)]
    exact (rwD_kb hD ⟨a, by omega⟩).2 b
end RWD
