/-! rounds and rings -/
theorem or_P {P : Nat → Bool} {u : Int} (h : 0 ≤ u ∧ u < 7) : bOr (bitN P 7) (bShl 1 u) = bitN (fun j => P j || decide (j = u.toNat)) 7 := by
  have k := (B7_11 (P 0) (P 1) (P 2) (P 3) (P 4) (P 5) (P 6) ⟨u.toNat, by omega⟩).2.2
  rw [show ((⟨u.toNat, by omega⟩ : Fin 7).val : Int) = u by show ((u.toNat : Nat) : Int) = u; omega] at k
  exact k
theorem at_P {P : Nat → Bool} {u : Int} (h : 0 ≤ u ∧ u < 7) : bAnd (bShr (bitN P 7) u) 1 ≠ 0 ↔ P u.toNat = true := by
  have k := bit_at1 (p := P) (n := 7) (q := u) (by omega) h.1 (by omega)
  rw [k]
  cases P u.toNat <;> simp
theorem at_1 {P : Nat → Bool} {u : Int} (h : 0 ≤ u ∧ u < 7) : bAnd (bShr (bitN P 7) u) 1 = 1 ↔ P u.toNat = true := by
  have k := bit_at1 (p := P) (n := 7) (q := u) (by omega) h.1 (by omega)
  rw [k]
  cases P u.toNat <;> simp
theorem cntN_le (P : Nat → Bool) : ∀ n : Nat, 0 ≤ cntN P n ∧ cntN P n ≤ n
  | 0 => ⟨Int.le_refl 0, Int.le_refl 0⟩
  | n + 1 => by
    have ih := cntN_le P n
    cases e : P n
    · rw [cntN_f e]; omega
    · rw [cntN_t e]; omega
theorem cntN_all {P : Nat → Bool} : ∀ n : Nat, cntN P n = n → ∀ j, j < n → P j = true
  | 0, _, _, h => by omega
  | n + 1, h, j, hj => by
    have ih := cntN_le P n
    cases e : P n
    · rw [cntN_f e] at h; omega
    · rw [cntN_t e] at h
      by_cases z : j = n
      · rw [z]; exact e
      · exact cntN_all n (by omega) j (by omega)
theorem cntN_add {P Q : Nat → Bool} : ∀ n : Nat, (∀ j, j < n → P j = true → Q j = false) → cntN (fun j => P j || Q j) n = cntN P n + cntN Q n
  | 0, _ => rfl
  | n + 1, h => by
    have ih := cntN_add n (fun j hj => h j (by omega))
    cases e : P n
    · cases e2 : Q n
      · rw [cntN_f e, cntN_f e2, cntN_f (by rw [e, e2]; rfl)]; exact ih
      · rw [cntN_f e, cntN_t e2, cntN_t (by rw [e, e2]; rfl)]; omega
    · have e2 := h n (by omega) e
      rw [cntN_t e, cntN_f e2, cntN_t (by rw [e, e2]; rfl)]; omega
theorem cntN_one {u : Nat} : ∀ n : Nat, cntN (fun j => decide (j = u)) n = if u < n then 1 else 0
  | 0 => by rw [if_neg (by omega)]; rfl
  | n + 1 => by
    have ih := cntN_one (u := u) n
    by_cases e : n = u
    · rw [cntN_t (by simp [e]), ih, if_neg (by omega), if_pos (by omega)]; rfl
    · rw [cntN_f (by simp [e]), ih]
      by_cases z : u < n
      · rw [if_pos z, if_pos (by omega)]
      · rw [if_neg z, if_neg (by omega)]
theorem cnt_one {P : Nat → Bool} {n u : Nat} (hu : u < n) (h : P u = false) : cntN (fun j => P j || decide (j = u)) n = cntN P n + 1 := by
  rw [cntN_add n (fun j _ hj => by
    by_cases e : j = u
    · rw [e, h] at hj; cases hj
    · simp [e]), cntN_one, if_pos hu]
theorem rd_closed {f : Int → Int} {n : Nat} {P : Nat → Bool} (hn : n ≤ 7) (hf : ∀ u : Int, 0 ≤ u → u < n → 0 ≤ f (8 + u) ∧ f (8 + u) < n) (hc : ∀ j : Nat, P j = true → P (f (8 + (j : Int))).toNat = true) : ∀ (d : Nat) (u : Int), 0 ≤ u → u < n → P u.toNat = true → roundF f d u (bitN P 7) = bitN P 7
  | 0, _, _, _, _ => rfl
  | d + 1, u, h0, h1, hu => by
    have w := hf u h0 h1
    have c := hc u.toNat hu
    rw [show ((u.toNat : Nat) : Int) = u by omega] at c
    show roundF f d (f (8 + u)) (bOr (bitN P 7) (bShl 1 u)) = bitN P 7
    rw [or_P ⟨h0, by omega⟩, show bitN (fun j => P j || decide (j = u.toNat)) 7 = bitN P 7 from bitN_cg 7 (fun k _ => by
      by_cases e : k = u.toNat
      · rw [e, hu]; rfl
      · simp [e])]
    exact rd_closed hn hf hc d (f (8 + u)) w.1 w.2 c
theorem ws_stop {g : Int → Int} {e : Bool} {b u : Int} (h : (e = true ∧ u = -1) ∨ bAnd (bShr b u) 1 ≠ 0) : ∀ d : Nat, wsN g e b d u b
  | 0 => ⟨h, rfl⟩
  | d + 1 => by
    show (if (e = true ∧ u = -1) ∨ bAnd (bShr b u) 1 ≠ 0 then b = b else _)
    rw [if_pos h]
theorem ws_go {g : Int → Int} {e : Bool} {A b u : Int} {d : Nat} (h : ¬ ((e = true ∧ u = -1) ∨ bAnd (bShr b u) 1 ≠ 0)) (k : wsN g e A d (g u) (bOr b (bShl 1 u))) : wsN g e A (d + 1) u b := by
  show (if (e = true ∧ u = -1) ∨ bAnd (bShr b u) 1 ≠ 0 then A = b else wsN g e A d (g u) (bOr b (bShl 1 u)))
  rw [if_neg h]; exact k
theorem rd_main {f : Int → Int} {n : Nat} (hn : n ≤ 7) (hf : ∀ u : Int, 0 ≤ u → u < n → 0 ≤ f (8 + u) ∧ f (8 + u) < n) : ∀ (m : Nat) (u : Int) (P : Nat → Bool), 0 ≤ u → u < n → (∀ j, P j = true → j < n) → cntN P n + m = n → (∀ j : Nat, P j = true → P (f (8 + (j : Int))).toNat = true ∨ f (8 + (j : Int)) = u) →
    ∃ Q : Nat → Bool, roundF f m u (bitN P 7) = bitN Q 7 ∧ wsN (fun u => f (8 + u)) false (bitN Q 7) m u (bitN P 7) ∧ (∀ j, P j = true → Q j = true) ∧ Q u.toNat = true ∧ (∀ j, Q j = true → j < n) ∧ (∀ j : Nat, Q j = true → Q (f (8 + (j : Int))).toNat = true) ∧ ∀ Z : Nat → Prop, (∀ j : Nat, j < n → Z j → Z (f (8 + (j : Int))).toNat) → (∀ j, P j = true → Z j) → Z u.toNat → ∀ j, Q j = true → Z j := by
  intro m
  have stop : ∀ (m : Nat) (u : Int) (P : Nat → Bool), 0 ≤ u → u < n → (∀ j, P j = true → j < n) → P u.toNat = true → (∀ j : Nat, P j = true → P (f (8 + (j : Int))).toNat = true ∨ f (8 + (j : Int)) = u) →
    ∃ Q : Nat → Bool, roundF f m u (bitN P 7) = bitN Q 7 ∧ wsN (fun u => f (8 + u)) false (bitN Q 7) m u (bitN P 7) ∧ (∀ j, P j = true → Q j = true) ∧ Q u.toNat = true ∧ (∀ j, Q j = true → j < n) ∧ (∀ j : Nat, Q j = true → Q (f (8 + (j : Int))).toNat = true) ∧ ∀ Z : Nat → Prop, (∀ j : Nat, j < n → Z j → Z (f (8 + (j : Int))).toNat) → (∀ j, P j = true → Z j) → Z u.toNat → ∀ j, Q j = true → Z j := by
    intro m u P h0 h1 hb hu hc
    have hc2 : ∀ j : Nat, P j = true → P (f (8 + (j : Int))).toNat = true := fun j hj => by
      rcases hc j hj with z | z
      · exact z
      · rw [z]; exact hu
    exact ⟨P, rd_closed hn hf hc2 m u h0 h1 hu, ws_stop (Or.inr ((at_P ⟨h0, by omega⟩).mpr hu)) m, fun _ h => h, hu, hb, hc2, fun Z _ z2 _ j hj => z2 j hj⟩
  induction m with
  | zero =>
    intro u P h0 h1 hb hk hc
    exact stop 0 u P h0 h1 hb (cntN_all n (by omega) u.toNat (by omega)) hc
  | succ m ih =>
    intro u P h0 h1 hb hk hc
    cases hu : P u.toNat
    · have w := hf u h0 h1
      have et : ((u.toNat : Nat) : Int) = u := by omega
      obtain ⟨Q, q1, q2, q3, q4, q5, q6, q7⟩ := ih (f (8 + u)) (fun j => P j || decide (j = u.toNat)) w.1 w.2 (fun j hj => by
        rw [Bool.or_eq_true, decide_eq_true_eq] at hj
        rcases hj with z | z
        · exact hb j z
        · omega) (by rw [cnt_one (by omega) hu]; omega) (fun j hj => by
        rw [Bool.or_eq_true, decide_eq_true_eq] at hj
        rcases hj with z | z
        · refine Or.inl ?_
          rcases hc j z with y | y
          · simp [y]
          · simp [y]
        · right; rw [z, et])
      rw [← or_P ⟨h0, by omega⟩] at q1 q2
      refine ⟨Q, q1, ws_go (by rw [at_P ⟨h0, by omega⟩, hu]; simp) q2, fun j hj => q3 j (by simp [hj]), q3 _ (by simp), q5, q6, fun Z z1 z2 z3 j hj => q7 Z z1 (fun i hi => ?_) ?_ j hj⟩
      · rw [Bool.or_eq_true, decide_eq_true_eq] at hi
        rcases hi with z | z
        · exact z2 i z
        · rw [z]; exact z3
      · have := z1 u.toNat (by omega) z3
        rw [et] at this; exact this
    · exact stop (m + 1) u P h0 h1 hb hu hc
theorem bitN_0 (n : Nat) : bitN (fun _ => false) n = 0 := by
  induction n with
  | zero => rfl
  | succ n ih => rw [bitN_f rfl]; exact ih
theorem cntN_0 (n : Nat) : cntN (fun _ => false) n = 0 := by
  induction n with
  | zero => rfl
  | succ n ih => rw [cntN_f rfl]; exact ih
/-- a round's members -/
theorem rd_of {f : Int → Int} {n : Nat} (hn : n ≤ 7) (hf : ∀ u : Int, 0 ≤ u → u < n → 0 ≤ f (8 + u) ∧ f (8 + u) < n) {p : Int} (hp : 0 ≤ p ∧ p < n) : ∃ Q : Nat → Bool, roundF f n p 0 = bitN Q 7 ∧ wsN (fun u => f (8 + u)) false (roundF f n p 0) n p 0 ∧ Q p.toNat = true ∧ (∀ j, Q j = true → j < n) ∧ (∀ j : Nat, Q j = true → Q (f (8 + (j : Int))).toNat = true) ∧ ∀ Z : Nat → Prop, (∀ j : Nat, j < n → Z j → Z (f (8 + (j : Int))).toNat) → Z p.toNat → ∀ j, Q j = true → Z j := by
  obtain ⟨Q, q1, q2, -, q4, q5, q6, q7⟩ := rd_main hn hf n p (fun _ => false) hp.1 hp.2 (fun _ h => by cases h) (by rw [cntN_0]; omega) (fun _ h => by cases h)
  rw [bitN_0] at q1 q2
  exact ⟨Q, q1, by rw [q1]; exact q2, q4, q5, q6, fun Z z1 z2 => q7 Z z1 (fun _ h => by cases h) z2⟩
theorem rd_ws {S : HS} {f : Int → Int} (hB : hsW S) (hW : rW f) (hC : rC S f) {p : Int} (hp : 0 ≤ p ∧ p < sNp S) : wsN (fun u => f (8 + u)) false (roundF f (sNp S) p 0) (sNp S) p 0 := by
  have hNp := hB.2.1
  obtain ⟨Q, -, q2, -⟩ := rd_of hNp (fun u h0 h1 => ⟨(hW.2 u h0 (by omega)).2.1.1, hC u h0 h1⟩) hp
  exact q2
/-- what a round holds is closed backwards, too -/
theorem inv_closed {n : Nat} {q : Nat → Nat} (hb : ∀ k, k < n → q k < n) (hj : ∀ k l, k < n → l < n → q k = q l → k = l) {X : Nat → Bool} (hX : ∀ k, k < n → X k = true → X (q k) = true) : ∀ k, k < n → X (q k) = true → X k = true := by
  have e := sm_perm n q (fun i => if X i then 1 else 0) hb hj
  have key : ∀ m : Nat, m ≤ n → 0 ≤ sm (fun k => if X (q k) then (1 : Int) else 0) m - sm (fun k => if X k then (1 : Int) else 0) m ∧ (sm (fun k => if X (q k) then (1 : Int) else 0) m - sm (fun k => if X k then (1 : Int) else 0) m = 0 → ∀ k, k < m → X (q k) = true → X k = true) := by
    intro m
    induction m with
    | zero => intro _; exact ⟨by show (0 : Int) ≤ 0 - 0; omega, fun _ k hk => by omega⟩
    | succ m ih =>
      intro hm
      obtain ⟨i1, i2⟩ := ih (by omega)
      rw [sm_s, sm_s]
      have hx := hX m (by omega)
      cases e1 : X m
      · cases e2 : X (q m)
        · simp only [Bool.false_eq_true, if_false]
          refine ⟨by omega, fun z k hk hq => ?_⟩
          by_cases w : k = m
          · rw [w, e2] at hq; cases hq
          · exact i2 (by omega) k (by omega) hq
        · simp only [Bool.false_eq_true, if_false, if_true]
          exact ⟨by omega, fun z => by omega⟩
      · rw [hx e1]
        simp only [if_true]
        refine ⟨by omega, fun z k hk hq => ?_⟩
        by_cases w : k = m
        · rw [w]; exact e1
        · exact i2 (by omega) k (by omega) hq
  exact (key n (Nat.le_refl n)).2 (by rw [e]; omega)
theorem bOr_as (x y z : Int) : bOr x (bOr y z) = bOr (bOr x y) z := by
  unfold bOr
  rw [Int32.ofInt_toInt, Int32.ofInt_toInt, Int32.or_assoc]
theorem or_bits {D Q : Nat → Bool} : ∀ m : Nat, m ≤ 7 → bOr (bitN D 7) (bitN Q m) = bitN (fun j => D j || (decide (j < m) && Q j)) 7
  | 0, _ => by
    show bOr (bitN D 7) 0 = _
    rw [bOr_0 (bitN32 _ _)]
    exact bitN_cg 7 (fun k _ => by simp)
  | m + 1, hm => by
    have ih := or_bits (D := D) (Q := Q) m (by omega)
    cases e : Q m
    · rw [bitN_f e, ih]
      exact bitN_cg 7 (fun k _ => by
        by_cases z : k = m
        · rw [z, e]; simp
        · rw [show decide (k < m + 1) = decide (k < m) from decide_eq_decide.mpr (by omega)])
    · rw [bitN_t e, bOr_as, ih, or_P ⟨by omega, by omega⟩]
      exact bitN_cg 7 (fun k _ => by
        rw [show (((m : Nat) : Int)).toNat = m by omega]
        by_cases z : k = m
        · rw [z, e]; simp
        · rw [show decide (k < m + 1) = decide (k < m) from decide_eq_decide.mpr (by omega)]; simp [z])
theorem B7_lo : ∀ a b c d e f g : Bool, ∀ j : Fin 7, decide (bAnd (B7 a b c d e f g) (bShl 1 (j.val : Int) - 1) = 0) = !((a && decide (0 < j.val)) || (b && decide (1 < j.val)) || (c && decide (2 < j.val)) || (d && decide (3 < j.val)) || (e && decide (4 < j.val)) || (f && decide (5 < j.val)) || (g && decide (6 < j.val))) := by decide +kernel
theorem lo_P {P : Nat → Bool} {j : Nat} (hj : j < 7) : bAnd (bitN P 7) (bShl 1 (j : Int) - 1) ≠ 0 ↔ ∃ i, i < j ∧ P i = true := by
  have k := B7_lo (P 0) (P 1) (P 2) (P 3) (P 4) (P 5) (P 6) ⟨j, hj⟩
  have k2 : bAnd (bitN P 7) (bShl 1 (j : Int) - 1) = 0 ↔ ¬ ∃ i, i < j ∧ P i = true := by
    rw [← decide_eq_true_iff (p := bAnd (bitN P 7) (bShl 1 (j : Int) - 1) = 0), show decide (bAnd (bitN P 7) (bShl 1 (j : Int) - 1) = 0) = _ from k, Bool.not_eq_true', Bool.eq_false_iff]
    refine not_congr ?_
    simp only [Bool.or_eq_true, Bool.and_eq_true, decide_eq_true_eq]
    constructor
    · rintro ((((((⟨h, z⟩ | ⟨h, z⟩) | ⟨h, z⟩) | ⟨h, z⟩) | ⟨h, z⟩) | ⟨h, z⟩) | ⟨h, z⟩)
      · exact ⟨0, z, h⟩
      · exact ⟨1, z, h⟩
      · exact ⟨2, z, h⟩
      · exact ⟨3, z, h⟩
      · exact ⟨4, z, h⟩
      · exact ⟨5, z, h⟩
      · exact ⟨6, z, h⟩
    · rintro ⟨i, hi, h⟩
      rcases (show i = 0 ∨ i = 1 ∨ i = 2 ∨ i = 3 ∨ i = 4 ∨ i = 5 ∨ i = 6 by omega) with rfl | rfl | rfl | rfl | rfl | rfl | rfl
      · exact Or.inl (Or.inl (Or.inl (Or.inl (Or.inl (Or.inl ⟨h, hi⟩)))))
      · exact Or.inl (Or.inl (Or.inl (Or.inl (Or.inl (Or.inr ⟨h, hi⟩)))))
      · exact Or.inl (Or.inl (Or.inl (Or.inl (Or.inr ⟨h, hi⟩))))
      · exact Or.inl (Or.inl (Or.inl (Or.inr ⟨h, hi⟩)))
      · exact Or.inl (Or.inl (Or.inr ⟨h, hi⟩))
      · exact Or.inl (Or.inr ⟨h, hi⟩)
      · exact Or.inr ⟨h, hi⟩
  rw [Ne, k2, Classical.not_not]
/-- swaps, round by round -/
def trI (Rd : Nat → Int) : Nat → Int × Int
  | 0 => (0, 0)
  | k + 1 => if bAnd (bShr (trI Rd k).2 (k : Int)) 1 = 1 then trI Rd k else ((trI Rd k).1 + (bitC (Rd k) - 1), bOr (trI Rd k).2 (Rd k))
theorem tr_eq {n : Nat} (hn : n ≤ 7) {Rd : Nat → Int} {Q : Nat → Nat → Bool} (hR : ∀ k, k < n → Rd k = bitN (Q k) 7) (hb : ∀ k, k < n → ∀ j, Q k j = true → j < n) (hr : ∀ k, k < n → Q k k = true) (hs : ∀ k j, k < n → Q k j = true → Q j k = true) (ht : ∀ k j i, k < n → Q k j = true → Q j i = true → Q k i = true) : (trI Rd n).1 = cntN (fun j => decide (bAnd (Rd j) (bShl 1 (j : Int) - 1) ≠ 0)) n := by
  have key : ∀ k : Nat, k ≤ n → ∃ D : Nat → Bool, (trI Rd k).2 = bitN D 7 ∧ (∀ x, D x = true ↔ ∃ j, j < k ∧ Q j x = true) ∧ (trI Rd k).1 = cntN D 7 - (k - cntN (fun j => decide (bAnd (Rd j) (bShl 1 (j : Int) - 1) ≠ 0)) k) := by
    intro k
    induction k with
    | zero => intro _; exact ⟨fun _ => false, (bitN_0 7).symm, fun x => ⟨fun h => (by cases h), fun ⟨j, hj, _⟩ => (by omega)⟩, by rw [cntN_0]; rfl⟩
    | succ k ih =>
      intro hk
      obtain ⟨D, d1, d2, d3⟩ := ih (by omega)
      have e0 : trI Rd (k + 1) = if bAnd (bShr (trI Rd k).2 (k : Int)) 1 = 1 then trI Rd k else ((trI Rd k).1 + (bitC (Rd k) - 1), bOr (trI Rd k).2 (Rd k)) := rfl
      have cd : bAnd (bShr (trI Rd k).2 (k : Int)) 1 = 1 ↔ D k = true := by rw [d1, at_1 (P := D) (u := (k : Int)) ⟨by omega, by omega⟩, show ((k : Nat) : Int).toNat = k by omega]
      have lo := lo_P (P := Q k) (j := k) (by omega)
      rw [← hR k (by omega)] at lo
      cases eD : D k
      · rw [if_neg (fun z => by have := cd.mp z; rw [eD] at this; cases this)] at e0
        have nf : ¬ bAnd (Rd k) (bShl 1 (k : Int) - 1) ≠ 0 := by
          rw [lo]
          rintro ⟨i, hi, hq⟩
          have := (d2 k).mpr ⟨i, hi, hs k i (by omega) hq⟩
          rw [eD] at this; cases this
        have ob := or_bits (D := D) (Q := Q k) 7 (by omega)
        refine ⟨fun j => D j || (decide (j < 7) && Q k j), by rw [e0]; show bOr (trI Rd k).2 (Rd k) = _; rw [d1, hR k (by omega)]; exact ob, fun x => ?_, ?_⟩
        · rw [Bool.or_eq_true, Bool.and_eq_true, decide_eq_true_eq, d2 x]
          constructor
          · rintro (⟨j, hj, hq⟩ | ⟨_, hq⟩)
            · exact ⟨j, by omega, hq⟩
            · exact ⟨k, by omega, hq⟩
          · rintro ⟨j, hj, hq⟩
            by_cases z : j = k
            · rw [z] at hq
              have := hb k (by omega) x hq
              exact Or.inr ⟨by omega, hq⟩
            · exact Or.inl ⟨j, by omega, hq⟩
        · rw [cntN_f (p := fun j => decide (bAnd (Rd j) (bShl 1 (j : Int) - 1) ≠ 0)) (decide_eq_false nf), e0]
          show (trI Rd k).1 + (bitC (Rd k) - 1) = _
          rw [d3, hR k (by omega), (bits_c (p := Q k) (n := 7) (by omega)).1, cntN_add 7 (fun j hj hd => by
            obtain ⟨i, hi, hq⟩ := (d2 j).mp hd
            cases e : (decide (j < 7) && Q k j)
            · rfl
            · rw [Bool.and_eq_true] at e
              have s1 := hs k j (by omega) e.2
              have s2 := ht i j k (by omega) hq s1
              have := (d2 k).mpr ⟨i, hi, s2⟩
              rw [eD] at this; cases this), cntN_cg (p := fun j => decide (j < 7) && Q k j) (q := Q k) 7 (fun j hj => by simp [hj])]
          omega
      · rw [if_pos (cd.mpr eD)] at e0
        obtain ⟨i, hi, hq⟩ := (d2 k).mp eD
        have f1 : bAnd (Rd k) (bShl 1 (k : Int) - 1) ≠ 0 := lo.mpr ⟨i, hi, hs i k (by omega) hq⟩
        refine ⟨D, by rw [e0]; exact d1, fun x => ?_, ?_⟩
        · rw [d2 x]
          constructor
          · rintro ⟨j, hj, h⟩
            exact ⟨j, by omega, h⟩
          · rintro ⟨j, hj, h⟩
            by_cases z : j = k
            · rw [z] at h
              exact ⟨i, hi, ht i k x (by omega) hq h⟩
            · exact ⟨j, by omega, h⟩
        · rw [cntN_t (p := fun j => decide (bAnd (Rd j) (bShl 1 (j : Int) - 1) ≠ 0)) (decide_eq_true f1), e0, d3]
          omega
  obtain ⟨D, d1, d2, d3⟩ := key n (Nat.le_refl n)
  have eD : cntN D 7 = n := by
    rw [← cntN_7 (p := fun _ => true) (n := n) 7 hn |> fun _ => show cntN (fun j => decide (j < n) && true) 7 = cntN D 7 from cntN_cg 7 (fun j _ => by
      rw [Bool.and_true]
      cases e : D j
      · rw [decide_eq_false_iff_not]
        intro hj
        have := (d2 j).mpr ⟨j, hj, hr j hj⟩
        rw [e] at this; cases this
      · obtain ⟨i, hi, hq⟩ := (d2 j).mp e
        exact decide_eq_true (hb i hi j hq)), cntN_7 7 hn]
    have : ∀ m : Nat, cntN (fun _ => true) m = m := by
      intro m
      induction m with
      | zero => rfl
      | succ m ih => rw [cntN_t rfl, ih]; omega
    exact this n
  rw [d3, eD]; omega
theorem toRight_eq {S : HS} {f : Int → Int} (hB : hsW S) (hW : rW f) (hC : rC S f) (hc : cP S f) : (trI (fun k => roundF f (sNp S) (k : Int) 0) (sNp S)).1 = cntN (fun j => decide (bAnd (roundF f (sNp S) (j : Int) 0) (bShl 1 (j : Int) - 1) ≠ 0)) (sNp S) := by
  have hNp := hB.2.1
  have hf : ∀ u : Int, 0 ≤ u → u < sNp S → 0 ≤ f (8 + u) ∧ f (8 + u) < sNp S := fun u h0 h1 => ⟨(hW.2 u h0 (by omega)).2.1.1, hC u h0 h1⟩
  have ex : ∀ k : Nat, ∃ Q : Nat → Bool, k < sNp S → roundF f (sNp S) (k : Int) 0 = bitN Q 7 ∧ Q k = true ∧ (∀ j, Q j = true → j < sNp S) ∧ (∀ j : Nat, Q j = true → Q (f (8 + (j : Int))).toNat = true) ∧ ∀ Z : Nat → Prop, (∀ j : Nat, j < sNp S → Z j → Z (f (8 + (j : Int))).toNat) → Z k → ∀ j, Q j = true → Z j := by
    intro k
    by_cases hk : k < sNp S
    · obtain ⟨Q, q1, -, q3, q4, q5, q6⟩ := rd_of hNp hf (p := (k : Int)) ⟨by omega, by omega⟩
      rw [show ((k : Nat) : Int).toNat = k by omega] at q3 q6
      exact ⟨Q, fun _ => ⟨q1, q3, q4, q5, q6⟩⟩
    · exact ⟨fun _ => false, fun h => absurd h hk⟩
  have hQ := fun k => Classical.choose_spec (ex k)
  have tr : ∀ k j i, k < sNp S → Classical.choose (ex k) j = true → Classical.choose (ex j) i = true → Classical.choose (ex k) i = true := fun k j i hk hj hi => by
    obtain ⟨q1, q2, q3, q4, q5⟩ := hQ k hk
    obtain ⟨-, -, -, -, r5⟩ := hQ j (q3 j hj)
    exact r5 (fun x => Classical.choose (ex k) x = true) (fun x _ hx => q4 x hx) hj i hi
  refine tr_eq hNp (Q := fun k => Classical.choose (ex k)) (fun k hk => (hQ k hk).1) (fun k hk => (hQ k hk).2.2.1) (fun k hk => (hQ k hk).2.1) (fun k j hk hj => ?_) tr
  obtain ⟨q1, q2, q3, q4, q5⟩ := hQ k hk
  have hjn := q3 j hj
  obtain ⟨r1, r2, r3, r4, r5⟩ := hQ j hjn
  have inv := inv_closed (n := sNp S) (q := fun i => (f (8 + (i : Int))).toNat) (fun i hi => by have := hf (i : Int) (by omega) (by omega); omega) (fun a b ha hb e => by
    have h1 := hf (a : Int) (by omega) (by omega)
    have h2 := hf (b : Int) (by omega) (by omega)
    have := hc (a : Int) (b : Int) (by omega) (by omega) (by omega) (by omega) (by omega)
    omega) (X := Classical.choose (ex j)) (fun i _ hi => r4 i hi)
  cases e : Classical.choose (ex j) k
  · have := q5 (fun x => Classical.choose (ex j) x = false) (fun x hx hz => by
      cases e2 : Classical.choose (ex j) (f (8 + (x : Int))).toNat
      · rfl
      · have := inv x hx e2
        rw [hz] at this; cases this) e j hj
    rw [r2] at this; cases this
  · rfl
/-- a ring -/
theorem rg_closed {f : Int → Int} {n : Nat} {p : Int} {P : Nat → Bool} (hb : ∀ j, P j = true → j < n) (hp : P p.toNat = false) (hc : ∀ j : Nat, P j = true → 0 ≤ f (22 + (j : Int)) ∧ P (f (22 + (j : Int))).toNat = true) : ∀ (d : Nat) (u b : Int), 0 ≤ u → P u.toNat = true → ringF f p d u b = 0
  | 0, _, _, _, _ => rfl
  | d + 1, u, b, h0, hu => by
    have c := hc u.toNat hu
    rw [show ((u.toNat : Nat) : Int) = u by omega] at c
    show (if u = -1 then 0 else if u = p then bOr b (bShl 1 u) else ringF f p d (f (22 + u)) (bOr b (bShl 1 u))) = 0
    rw [if_neg (by omega), if_neg (fun e => by rw [e, hp] at hu; cases hu)]
    exact rg_closed hb hp hc d _ _ c.1 c.2
theorem rg_main {f : Int → Int} {n : Nat} {p : Int} (hn : n ≤ 7) (hp : 0 ≤ p ∧ p < n) (hf : ∀ u : Int, 0 ≤ u → u < n → -1 ≤ f (22 + u) ∧ f (22 + u) < n) : ∀ (m : Nat) (u : Int) (P : Nat → Bool), -1 ≤ u → u < n → P p.toNat = false → (∀ j, P j = true → j < n) → cntN P n + m = n → (∀ j : Nat, P j = true → (0 ≤ f (22 + (j : Int)) ∧ P (f (22 + (j : Int))).toNat = true) ∨ f (22 + (j : Int)) = u) → (u = f (22 + p) ∨ (0 ≤ f (22 + p) ∧ P (f (22 + p)).toNat = true)) →
    ∃ A, wsN (fun u => f (22 + u)) true A m u (bitN P 7) ∧ (if bAnd (bShr A p) 1 = 1 then A else 0) = ringF f p m u (bitN P 7) := by
  intro m
  induction m with
  | zero =>
    intro u P h0 h1 hP hb hk
    have := cntN_all (P := P) n (by omega) p.toNat (by omega)
    rw [hP] at this; cases this
  | succ m ih =>
    intro u P h0 h1 hP hb hk hc hz
    have np : ¬ bAnd (bShr (bitN P 7) p) 1 = 1 := by rw [at_1 ⟨hp.1, by omega⟩, hP]; decide
    have e0 : ringF f p (m + 1) u (bitN P 7) = if u = -1 then 0 else if u = p then bOr (bitN P 7) (bShl 1 u) else ringF f p m (f (22 + u)) (bOr (bitN P 7) (bShl 1 u)) := rfl
    by_cases c1 : u = -1
    · exact ⟨bitN P 7, ws_stop (Or.inl ⟨rfl, c1⟩) _, by rw [if_neg np, e0, if_pos c1]⟩
    · have u0 : 0 ≤ u := by omega
      have et : ((u.toNat : Nat) : Int) = u := by omega
      cases hu : P u.toNat
      · have nst : ¬ ((true = true ∧ u = -1) ∨ bAnd (bShr (bitN P 7) u) 1 ≠ 0) := by
          rw [at_P ⟨u0, by omega⟩, hu]; simp [c1]
        by_cases c2 : u = p
        · refine ⟨bOr (bitN P 7) (bShl 1 u), ws_go nst (ws_stop ?_ m), ?_⟩
          · show (true = true ∧ f (22 + u) = -1) ∨ _
            by_cases c3 : f (22 + u) = -1
            · exact Or.inl ⟨rfl, c3⟩
            · have w := hf u u0 h1
              rw [or_P ⟨u0, by omega⟩, at_P ⟨by omega, by omega⟩, Bool.or_eq_true, decide_eq_true_eq]
              rcases hz with z | z
              · rw [c2] at z ⊢; rw [← z]; exact Or.inr (Or.inr rfl)
              · rw [c2]; exact Or.inr (Or.inl z.2)
          · rw [e0, if_neg c1, if_pos c2, if_pos]
            rw [or_P ⟨u0, by omega⟩, at_1 ⟨hp.1, by omega⟩, c2]; simp
        · have w := hf u u0 h1
          obtain ⟨A, a1, a2⟩ := ih (f (22 + u)) (fun j => P j || decide (j = u.toNat)) w.1 w.2 (by rw [hP]; simp; omega) (fun j hj => by
            rw [Bool.or_eq_true, decide_eq_true_eq] at hj
            rcases hj with z | z
            · exact hb j z
            · omega) (by rw [cnt_one (by omega) hu]; omega) (fun j hj => by
            rw [Bool.or_eq_true, decide_eq_true_eq] at hj
            rcases hj with z | z
            · refine Or.inl ?_
              rcases hc j z with y | y
              · exact ⟨y.1, by simp [y.2]⟩
              · rw [y]; exact ⟨u0, by simp⟩
            · right; rw [z, et]) (by
            right
            rcases hz with z | z
            · rw [← z]; exact ⟨u0, by simp⟩
            · exact ⟨z.1, by simp [z.2]⟩)
          rw [← or_P ⟨u0, by omega⟩] at a1 a2
          exact ⟨A, ws_go nst a1, by rw [e0, if_neg c1, if_neg c2]; exact a2⟩
      · have hc2 : ∀ j : Nat, P j = true → 0 ≤ f (22 + (j : Int)) ∧ P (f (22 + (j : Int))).toNat = true := fun j hj => by
          rcases hc j hj with z | z
          · exact z
          · rw [z]; exact ⟨u0, hu⟩
        exact ⟨bitN P 7, ws_stop (Or.inr ((at_P ⟨u0, by omega⟩).mpr hu)) _, by rw [if_neg np]; exact (rg_closed hb hP hc2 (m + 1) u _ u0 hu).symm⟩
theorem rg_of {S : HS} {f : Int → Int} (hB : hsW S) (hW : rW f) (hk : pkP S f) {p : Int} (hp : 0 ≤ p ∧ p < sNp S) : ∃ A, wsN (fun u => f (22 + u)) true A (sNp S) (f (22 + p)) 0 ∧ (if bAnd (bShr A p) 1 = 1 then A else 0) = ringF f p (sNp S) (f (22 + p)) 0 := by
  have hNp := hB.2.1
  have hf : ∀ u : Int, 0 ≤ u → u < sNp S → -1 ≤ f (22 + u) ∧ f (22 + u) < sNp S := fun u h0 h1 => ⟨(hW.2 u h0 (by omega)).2.2.2.1, (hk u h0 h1).1⟩
  have w := hf p hp.1 hp.2
  have k := rg_main hNp hp hf (sNp S) (f (22 + p)) (fun _ => false) w.1 w.2 rfl (fun _ h => by cases h) (by rw [cntN_0]; omega) (fun _ h => by cases h) (Or.inl rfl)
  rw [bitN_0] at k
  exact k
