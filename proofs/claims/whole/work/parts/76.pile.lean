/-! the class's pile runs a list of steps as the pure run does -/
/-- the pile holds st, uppermost first -/
def pil (x : Int × (Int → Int)) (st : List Int) : Prop := x.1 = (st.length : Int) ∧ ∀ j : Nat, j < st.length → x.2 ((st.length : Int) - 1 - (j : Int)) = st.getD j 0
theorem pil_push {x : Int × (Int → Int)} {st : List Int} {v : Int} (h : pil x st) : pil (x.1 + 1, upI x.2 x.1 v) (v :: st) := by
  obtain ⟨h1, h2⟩ := h
  refine ⟨by rw [h1]; rfl, fun j hj => ?_⟩
  have hj : j < st.length + 1 := hj
  show upI x.2 x.1 v (((st.length + 1 : Nat) : Int) - 1 - (j : Int)) = (v :: st).getD j 0
  cases j with
  | zero =>
    have e : ((st.length + 1 : Nat) : Int) - 1 - ((0 : Nat) : Int) = x.1 := by rw [h1]; omega
    rw [e, upI_s]
    rfl
  | succ j =>
    have e : ((st.length + 1 : Nat) : Int) - 1 - ((j + 1 : Nat) : Int) = (st.length : Int) - 1 - (j : Int) := by omega
    rw [e, upI_n (by omega), h2 j (by omega)]
    rfl
theorem pil_top {x : Int × (Int → Int)} {st : List Int} {a v : Int} (h : pil x (a :: st)) : x.2 (x.1 - 1) = a ∧ pil (x.1, upI x.2 (x.1 - 1) v) (v :: st) := by
  obtain ⟨h1, h2⟩ := h
  have h1 : x.1 = ((st.length + 1 : Nat) : Int) := h1
  have e0 : x.1 - 1 = ((st.length + 1 : Nat) : Int) - 1 - ((0 : Nat) : Int) := by rw [h1]; omega
  refine ⟨by rw [e0]; exact h2 0 (by show 0 < st.length + 1; omega), h1, fun j hj => ?_⟩
  have hj : j < st.length + 1 := hj
  show upI x.2 (x.1 - 1) v (((st.length + 1 : Nat) : Int) - 1 - (j : Int)) = (v :: st).getD j 0
  cases j with
  | zero =>
    rw [← e0, upI_s]
    rfl
  | succ j =>
    rw [upI_n (by omega)]
    exact h2 (j + 1) hj
theorem pil_pop {x : Int × (Int → Int)} {st : List Int} {a b v : Int} (h : pil x (b :: a :: st)) : x.2 (x.1 - 1) = b ∧ x.2 (x.1 - 1 - 1) = a ∧ pil (x.1 - 1, upI x.2 (x.1 - 1 - 1) v) (v :: st) := by
  obtain ⟨h1, h2⟩ := h
  have h1 : x.1 = ((st.length + 1 + 1 : Nat) : Int) := h1
  have e0 : x.1 - 1 = ((st.length + 1 + 1 : Nat) : Int) - 1 - ((0 : Nat) : Int) := by rw [h1]; omega
  have e1 : x.1 - 1 - 1 = ((st.length + 1 + 1 : Nat) : Int) - 1 - ((1 : Nat) : Int) := by rw [h1]; omega
  refine ⟨by rw [e0]; exact h2 0 (by show 0 < st.length + 1 + 1; omega), by rw [e1]; exact h2 1 (by show 1 < st.length + 1 + 1; omega), by show x.1 - 1 = ((st.length + 1 : Nat) : Int); omega, fun j hj => ?_⟩
  have hj : j < st.length + 1 := hj
  show upI x.2 (x.1 - 1 - 1) v (((st.length + 1 : Nat) : Int) - 1 - (j : Int)) = (v :: st).getD j 0
  cases j with
  | zero =>
    have e2 : ((st.length + 1 : Nat) : Int) - 1 - ((0 : Nat) : Int) = x.1 - 1 - 1 := by rw [h1]; omega
    rw [e2, upI_s]
    rfl
  | succ j =>
    have e2 : ((st.length + 1 : Nat) : Int) - 1 - ((j + 1 : Nat) : Int) = ((st.length + 1 + 1 : Nat) : Int) - 1 - ((j + 1 + 1 : Nat) : Int) := by omega
    rw [e2, upI_n (by omega)]
    exact h2 (j + 1 + 1) (by show j + 1 + 1 < st.length + 1 + 1; omega)
/-- one step, as evL takes it -/
theorem pil_run (S v g : Int → Int) : ∀ (R : List Int) (k : Nat) (st : List Int), (∀ j : Nat, j < R.length → S ((k + j : Nat) : Int) = R.getD j 0) → pil (itR S v g k) st → wfL st.length R → pil (itR S v g (k + R.length)) (evL v R st)
  | [], k, st, _, hp, _ => hp
  | s :: r, k, st, hS, hp, hw => by
    have e0 : S (k : Int) = s := hS 0 (Nat.succ_pos _)
    have hS' : ∀ j : Nat, j < r.length → S ((k + 1 + j : Nat) : Int) = r.getD j 0 := fun j hj => by
      have := hS (j + 1) (by show j + 1 < r.length + 1; omega)
      rw [show k + 1 + j = k + (j + 1) by omega]
      exact this
    have el : k + (s :: r).length = k + 1 + r.length := by show k + (r.length + 1) = _; omega
    rw [el]
    have hk : itR S v g (k + 1) = stR S v (k : Int) (itR S v g k) := rfl
    have hx : (itR S v g k).1 = (st.length : Int) := hp.1
    obtain ⟨hb, hw⟩ : (-17 ≤ s ∧ s ≤ 9999) ∧ (if -8 ≤ s then st.length < 64 ∧ wfL (st.length + 1) r else if s = -9 then 1 ≤ st.length ∧ wfL st.length r else 2 ≤ st.length ∧ wfL (st.length - 1) r) := hw
    by_cases c : -8 ≤ s
    · rw [if_pos c] at hw
      have hst : itR S v g (k + 1) = ((itR S v g k).1 + 1, upI (itR S v g k).2 (itR S v g k).1 (if s < 0 then v (-1 - s) else s)) := by
        rw [hk]
        unfold stR
        rw [e0, if_neg (by omega), if_pos (by rw [hx]; omega)]
      have hp1 : pil (itR S v g (k + 1)) ((if s < 0 then v (-1 - s) else s) :: st) := by rw [hst]; exact pil_push hp
      have := pil_run S v g r (k + 1) _ hS' hp1 hw.2
      unfold evL
      by_cases c0 : 0 ≤ s
      · rw [if_pos c0]
        rw [if_neg (by omega)] at this
        exact this
      · rw [if_neg c0, if_pos c]
        rw [if_pos (by omega)] at this
        exact this
    · rw [if_neg c] at hw
      unfold evL
      rw [if_neg (by omega), if_neg c]
      by_cases c9 : s = -9
      · rw [if_pos c9] at hw ⊢
        match st, hp, hw, hx with
        | [], _, hw, _ => exact absurd hw.1 (by decide)
        | a :: q, hp, hw, hx =>
          have ht := pil_top (v := (if a = 0 then 1 else 0)) hp
          have hst : itR S v g (k + 1) = ((itR S v g k).1, upI (itR S v g k).2 ((itR S v g k).1 - 1) (if a = 0 then 1 else 0)) := by
            rw [hk]
            unfold stR
            rw [e0, if_pos (by omega), if_pos c9, if_pos (by rw [hx]; show (0 : Int) < ((q.length + 1 : Nat) : Int); omega), ht.1]
          have hp1 : pil (itR S v g (k + 1)) ((if a = 0 then 1 else 0) :: q) := by rw [hst]; exact ht.2
          exact pil_run S v g r (k + 1) _ hS' hp1 hw.2
      · rw [if_neg c9] at hw ⊢
        match st, hp, hw, hx with
        | [], _, hw, _ => exact absurd hw.1 (by decide)
        | [a], _, hw, _ => exact absurd hw.1 (by show ¬ 2 ≤ 1; decide)
        | b :: a :: q, hp, hw, hx =>
          have ht := pil_pop (v := joinF s a b) hp
          have hst : itR S v g (k + 1) = ((itR S v g k).1 - 1, upI (itR S v g k).2 ((itR S v g k).1 - 1 - 1) (joinF s a b)) := by
            rw [hk]
            unfold stR
            rw [e0, if_pos (by omega), if_neg c9, if_pos (by rw [hx]; show (1 : Int) < ((q.length + 1 + 1 : Nat) : Int); omega), ht.1, ht.2.1]
          have hp1 : pil (itR S v g (k + 1)) (joinF s a b :: q) := by rw [hst]; exact ht.2.2
          exact pil_run S v g r (k + 1) _ hS' hp1 hw.2
theorem evL_1 (v : Int → Int) : ∀ (R st : List Int), wfL st.length R → (evL v R st).length = 1
  | [], st, hw => hw
  | s :: r, st, hw => by
    obtain ⟨hb, hw⟩ : (-17 ≤ s ∧ s ≤ 9999) ∧ (if -8 ≤ s then st.length < 64 ∧ wfL (st.length + 1) r else if s = -9 then 1 ≤ st.length ∧ wfL st.length r else 2 ≤ st.length ∧ wfL (st.length - 1) r) := hw
    unfold evL
    by_cases c : -8 ≤ s
    · rw [if_pos c] at hw
      by_cases c0 : 0 ≤ s
      · rw [if_pos c0]
        exact evL_1 v r _ hw.2
      · rw [if_neg c0, if_pos c]
        exact evL_1 v r _ hw.2
    · rw [if_neg c] at hw
      rw [if_neg (by omega), if_neg c]
      by_cases c9 : s = -9
      · rw [if_pos c9] at hw ⊢
        match st, hw with
        | [], hw => exact absurd hw.1 (by decide)
        | a :: q, hw => exact evL_1 v r _ hw.2
      · rw [if_neg c9] at hw ⊢
        match st, hw with
        | [], hw => exact absurd hw.1 (by decide)
        | [a], hw => exact absurd hw.1 (by show ¬ 2 ≤ 1; decide)
        | b :: a :: q, hw => exact evL_1 v r _ hw.2
theorem evR_ruF {S v g : Int → Int} {L : List Int} (hS : ∀ j : Nat, j < L.length → S (j : Int) = L.getD j 0) (hw : wfL 0 L) : evR S v g L.length = ruF L v := by
  have hp := pil_run S v g L 0 [] (fun j hj => by rw [Nat.zero_add]; exact hS j hj) ⟨rfl, fun j hj => absurd hj (Nat.not_lt_zero j)⟩ hw
  rw [Nat.zero_add] at hp
  have h1 := evL_1 v L [] hw
  unfold evR ruF hdL
  obtain ⟨p1, p2⟩ := hp
  rw [h1] at p1 p2
  have p3 := p2 0 (by decide)
  have e : ((1 : Nat) : Int) - 1 - ((0 : Nat) : Int) = 0 := by decide
  rw [e] at p3
  rw [if_pos (by rw [p1]; decide), p3]
  cases evL v L [] <;> rfl
theorem evL_cg {v v' : Int → Int} {P : Int → Prop} (hv : ∀ i, P i → v i = v' i) : ∀ (R st : List Int), vaL P R → evL v R st = evL v' R st
  | [], _, _ => rfl
  | s :: r, st, ha => by
    have hr : vaL P r := fun x hx => ha x (List.mem_cons_of_mem _ hx)
    unfold evL
    by_cases c0 : 0 ≤ s
    · rw [if_pos c0, if_pos c0]
      exact evL_cg hv r _ hr
    · rw [if_neg c0, if_neg c0]
      by_cases c : -8 ≤ s
      · rw [if_pos c, if_pos c, hv _ (ha s (List.mem_cons_self ..) (by omega) c)]
        exact evL_cg hv r _ hr
      · rw [if_neg c, if_neg c]
        by_cases c9 : s = -9
        · rw [if_pos c9, if_pos c9]
          match st with
          | [] => exact evL_cg hv r _ hr
          | a :: q => exact evL_cg hv r _ hr
        · rw [if_neg c9, if_neg c9]
          match st with
          | [] => exact evL_cg hv r _ hr
          | [a] => exact evL_cg hv r _ hr
          | b :: a :: q => exact evL_cg hv r _ hr
theorem ruF_cg {v v' : Int → Int} {P : Int → Prop} {L : List Int} (ha : vaL P L) (hv : ∀ i, P i → v i = v' i) : ruF L v = ruF L v' := by
  unfold ruF
  rw [evL_cg hv L [] ha]
