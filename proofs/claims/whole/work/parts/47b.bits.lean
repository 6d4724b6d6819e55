/-! sums -/
def sm (g : Nat → Int) (n : Nat) : Int := itN (fun k v => v + g k) 0 n
theorem itN_cg {F G : Nat → Int → Int} {x : Int} : ∀ n : Nat, (∀ k v, k < n → F k v = G k v) → itN F x n = itN G x n
  | 0, _ => rfl
  | n + 1, h => by
    show F n (itN F x n) = G n (itN G x n)
    rw [itN_cg n (fun k v hk => h k v (by omega)), h n _ (by omega)]
theorem sm_s (g : Nat → Int) (n : Nat) : sm g (n + 1) = sm g n + g n := rfl
theorem sm_cg {g h : Nat → Int} {n : Nat} (e : ∀ k, k < n → g k = h k) : sm g n = sm h n := itN_cg n (fun k v hk => by rw [e k hk])
theorem itN_st (g : Nat → Int) (x : Int) : ∀ n : Nat, itN (fun k v => v + g k) x n = x + sm g n
  | 0 => by show x = x + 0; omega
  | n + 1 => by
    show itN (fun k v => v + g k) x n + g n = x + (sm g n + g n)
    rw [itN_st g x n]; omega
theorem sm_0 {g : Nat → Int} : ∀ n : Nat, (∀ k, k < n → g k = 0) → sm g n = 0
  | 0, _ => rfl
  | n + 1, h => by rw [sm_s, sm_0 n (fun k hk => h k (by omega)), h n (by omega)]; rfl
theorem sm_up {g : Nat → Int} {j : Nat} {x : Int} : ∀ n : Nat, j < n → sm (fun k => if k = j then x else g k) n = sm g n - g j + x
  | 0, h => by omega
  | n + 1, h => by
    rw [sm_s, sm_s]
    by_cases e : n = j
    · rw [if_pos e, sm_cg (h := g) (fun k hk => if_neg (by omega)), e]; omega
    · rw [if_neg e, sm_up n (by omega)]; omega
theorem sm_add (g h : Nat → Int) : ∀ n : Nat, sm (fun k => g k + h k) n = sm g n + sm h n
  | 0 => rfl
  | n + 1 => by rw [sm_s, sm_s, sm_s, sm_add g h n]; omega
theorem sm_mul (c : Int) (g : Nat → Int) : ∀ n : Nat, sm (fun k => c * g k) n = c * sm g n
  | 0 => by show (0 : Int) = c * 0; omega
  | n + 1 => by rw [sm_s, sm_s, sm_mul c g n, Int.mul_add]
theorem sm_swap (a : Nat → Nat → Int) (m : Nat) : ∀ n : Nat, sm (fun k => sm (fun j => a k j) m) n = sm (fun j => sm (fun k => a k j) n) m
  | 0 => (sm_0 m (fun _ _ => rfl)).symm
  | n + 1 => by rw [sm_s, sm_swap a m n, ← sm_add]; rfl
theorem sm_perm : ∀ (n : Nat) (q : Nat → Nat) (g : Nat → Int), (∀ k, k < n → q k < n) → (∀ k l, k < n → l < n → q k = q l → k = l) → sm (fun k => g (q k)) n = sm g n
  | 0, _, _, _, _ => rfl
  | n + 1, q, g, hb, hj => by
    have hn := hb n (by omega)
    by_cases hc : q n = n
    · rw [sm_s, sm_s, hc]
      rw [sm_perm n q g (fun k hk => by
        have h1 := hb k (by omega)
        by_cases e : q k = n
        · have := hj k n (by omega) (by omega) (by rw [e, hc]); omega
        · omega) (fun k l hk hl e => hj k l (by omega) (by omega) e)]
    · by_cases ex : ∃ j, j < n ∧ q j = n
      · obtain ⟨j, j1, j2⟩ := ex
        have ih := sm_perm n (fun k => if k = j then q n else q k) g (fun k hk => by
          by_cases e : k = j
          · rw [if_pos e]; omega
          · rw [if_neg e]
            have h1 := hb k (by omega)
            by_cases e2 : q k = n
            · exact absurd (hj k j (by omega) (by omega) (by rw [e2, j2])) e
            · omega) (fun k l hk hl e => by
          by_cases e1 : k = j
          · by_cases e2 : l = j
            · omega
            · rw [if_pos e1, if_neg e2] at e
              have := hj n l (by omega) (by omega) e; omega
          · by_cases e2 : l = j
            · rw [if_neg e1, if_pos e2] at e
              have := hj k n (by omega) (by omega) e; omega
            · rw [if_neg e1, if_neg e2] at e
              exact hj k l (by omega) (by omega) e)
        have e3 : sm (fun k => g (if k = j then q n else q k)) n = sm (fun k => if k = j then g (q n) else g (q k)) n := sm_cg (fun k hk => by
          by_cases e : k = j
          · rw [if_pos e, if_pos e]
          · rw [if_neg e, if_neg e])
        rw [e3, sm_up n j1, j2] at ih
        rw [sm_s, sm_s]
        omega
      · exfalso
        have hq : ∀ k, k < n → q k < n := fun k hk => by
          have h1 := hb k (by omega)
          by_cases e : q k = n
          · exact absurd ⟨k, hk, e⟩ ex
          · omega
        have ih := sm_perm n q (fun i => if i = q n then 1 else 0) hq (fun k l hk hl e => hj k l (by omega) (by omega) e)
        have e1 : sm (fun i => if i = q n then (1 : Int) else 0) n = 1 := by
          have := sm_up (g := fun _ => 0) (x := 1) n (show q n < n by omega)
          rw [sm_0 n (fun _ _ => rfl)] at this
          simpa using this
        have e2 : sm (fun k => if q k = q n then (1 : Int) else 0) n = 0 := sm_0 n (fun k hk => if_neg (fun e => by
          have := hj k n (by omega) (by omega) e; omega))
        rw [e1] at ih
        rw [e2] at ih
        omega
/-- pieces by cases -/
def poF (f : Int → Int) (t : Int) (n : Nat) : Int := itN (fun k v => v + f (35 + (k : Int) * 6 + t)) 0 n
theorem po_pc {S : HS} {f : Int → Int} {t : Int} (hB : hsW S) (hW : rW f) (hC : rC S f) (hc : cP S f) : poF f t (sNp S) = pcF f t (sNp S) := by
  have hNp := hB.2.1
  have w : ∀ k : Nat, k < sNp S → 0 ≤ f (8 + (k : Int)) ∧ f (8 + (k : Int)) < sNp S := fun k hk => ⟨(hW.2 (k : Int) (by omega) (by omega)).2.1.1, hC (k : Int) (by omega) (by omega)⟩
  have := sm_perm (sNp S) (fun k => (f (8 + (k : Int))).toNat) (fun c => f (35 + (c : Int) * 6 + t)) (fun k hk => by have := w k hk; omega) (fun k l hk hl e => by
    have h1 := w k hk
    have h2 := w l hl
    have := hc (k : Int) (l : Int) (by omega) (by omega) (by omega) (by omega) (by omega)
    omega)
  show sm (fun c => f (35 + (c : Int) * 6 + t)) (sNp S) = sm (fun k => f (35 + f (8 + (k : Int)) * 6 + t)) (sNp S)
  rw [← this]
  exact sm_cg (fun k hk => by
    have h1 := w k hk
    show f (35 + (((f (8 + (k : Int))).toNat : Nat) : Int) * 6 + t) = _
    rw [show (((f (8 + (k : Int))).toNat : Nat) : Int) = f (8 + (k : Int)) by omega])
theorem inAll_eq {S : HS} {f : Int → Int} (hB : hsW S) (hW : rW f) (hC : rC S f) (hc : cP S f) : itN (fun j v => v + sW S (j : Int) * (f (29 + (j : Int)) + poF f (j : Int) (sNp S))) 0 (sNt S) = itN (fun j v => v + sumF (sW S) f (j : Int) (sNt S)) (itN (fun j v => v + (sW S (j : Int)) * (f (29 + (j : Int)))) 0 (sNt S)) (sNp S) := by
  rw [itN_st (fun j => sumF (sW S) f (j : Int) (sNt S))]
  show sm (fun j => sW S (j : Int) * (f (29 + (j : Int)) + poF f (j : Int) (sNp S))) (sNt S) = sm (fun j => (sW S (j : Int)) * (f (29 + (j : Int)))) (sNt S) + sm (fun j => sm (fun k => sW S (k : Int) * f (35 + f (8 + (j : Int)) * 6 + (k : Int))) (sNt S)) (sNp S)
  rw [sm_swap, ← sm_add]
  refine sm_cg (fun k hk => ?_)
  rw [sm_mul, po_pc hB hW hC hc, Int.mul_add]
  rfl
theorem fm_mx {u : Nat → Int} : ∀ n : Nat, (fmN 0 0 (-1) u n = -1 ∧ mxN 0 u n = 0) ∨ (∃ j : Nat, j < n ∧ fmN 0 0 (-1) u n = (j : Int) ∧ mxN 0 u n = u j)
  | 0 => Or.inl ⟨rfl, rfl⟩
  | n + 1 => by
    by_cases e : mxN 0 u n < u n
    · rw [fmN_t e, mxN_t e]
      exact Or.inr ⟨n, by omega, by omega, rfl⟩
    · rw [fmN_f e, mxN_f e]
      rcases fm_mx (u := u) n with h | ⟨j, h1, h2, h3⟩
      · exact Or.inl h
      · exact Or.inr ⟨j, by omega, h2, h3⟩
/-! bits -/
def B7 (a b c d e f g : Bool) : Int := bitN (fun j => [a, b, c, d, e, f, g].getD j false) 7
theorem bitN_cg {p q : Nat → Bool} : ∀ n : Nat, (∀ k, k < n → p k = q k) → bitN p n = bitN q n := fun n h => itN_cg n (fun k v hk => by rw [h k hk])
theorem bitN_7 {p : Nat → Bool} : ∀ n : Nat, n ≤ 7 → bitN p n = bitN (fun j => decide (j < n) && p j) 7 := by
  intro n hn
  have key : ∀ m : Nat, n ≤ m → bitN (fun j => decide (j < n) && p j) m = bitN p n := by
    intro m
    induction m with
    | zero => intro h; have : n = 0 := by omega
              subst this; rfl
    | succ m ih =>
      intro h
      by_cases e : n = m + 1
      · subst e
        exact bitN_cg _ (fun k hk => by simp [hk])
      · rw [bitN_f (by simp; intro z; omega)]
        exact ih (by omega)
  exact (key 7 hn).symm
theorem bitN_B {p : Nat → Bool} (n : Nat) (hn : n ≤ 7) : ∃ a b c d e f g : Bool, bitN p n = B7 a b c d e f g ∧ ∀ j, j < 7 → [a, b, c, d, e, f, g].getD j false = (decide (j < n) && p j) := by
  refine ⟨decide (0 < n) && p 0, decide (1 < n) && p 1, decide (2 < n) && p 2, decide (3 < n) && p 3, decide (4 < n) && p 4, decide (5 < n) && p 5, decide (6 < n) && p 6, ?_, ?_⟩
  · rw [bitN_7 n hn]
    rfl
  · intro j hj
    rcases (show j = 0 ∨ j = 1 ∨ j = 2 ∨ j = 3 ∨ j = 4 ∨ j = 5 ∨ j = 6 by omega) with rfl | rfl | rfl | rfl | rfl | rfl | rfl <;> rfl
theorem B7_bit : ∀ a b c d e f g : Bool, ∀ j : Fin 7, bAnd (bShr (B7 a b c d e f g) (j.val : Int)) 1 = if [a, b, c, d, e, f, g].getD j.val false then 1 else 0 := by decide +kernel
theorem B7_in : ∀ a b c d e f g : Bool, ∀ n : Fin 8, bAnd (bXor (B7 a b c d e f g) (-1)) (bShl 1 (n.val : Int) - 1) = B7 (!a && decide (0 < n.val)) (!b && decide (1 < n.val)) (!c && decide (2 < n.val)) (!d && decide (3 < n.val)) (!e && decide (4 < n.val)) (!f && decide (5 < n.val)) (!g && decide (6 < n.val)) := by decide +kernel
theorem bit_at {p : Nat → Bool} {n j : Nat} (hn : n ≤ 7) (hj : j < 7) : bAnd (bShr (bitN p n) (j : Int)) 1 = if (decide (j < n) && p j) then 1 else 0 := by
  obtain ⟨a, b, c, d, e, f, g, h1, h2⟩ := bitN_B (p := p) n hn
  rw [h1, ← h2 j hj]
  exact B7_bit a b c d e f g ⟨j, hj⟩
theorem bit_at1 {p : Nat → Bool} {n : Nat} {q : Int} (hn : n ≤ 7) (h0 : 0 ≤ q) (h1 : q < n) : bAnd (bShr (bitN p n) q) 1 = if p q.toNat then 1 else 0 := by
  have := bit_at (p := p) (n := n) (j := q.toNat) hn (by omega)
  rw [show ((q.toNat : Nat) : Int) = q by omega] at this
  rw [this]
  have : decide (q.toNat < n) = true := by simp; omega
  rw [this, Bool.true_and]
def C7 (a b c d e f g : Bool) : Int := cntN (fun j => [a, b, c, d, e, f, g].getD j false) 7
theorem B7_c : ∀ a b c d e f g : Bool, bitC (B7 a b c d e f g) = C7 a b c d e f g ∧ bcI (B7 a b c d e f g) = C7 a b c d e f g := by decide +kernel
theorem cntN_cg {p q : Nat → Bool} : ∀ n : Nat, (∀ k, k < n → p k = q k) → cntN p n = cntN q n
  | 0, _ => rfl
  | n + 1, h => by
    show (if p n then cntN p n + 1 else cntN p n) = (if q n then cntN q n + 1 else cntN q n)
    rw [cntN_cg n (fun k hk => h k (by omega)), h n (by omega)]
theorem cntN_7 {p : Nat → Bool} {n : Nat} : ∀ m : Nat, n ≤ m → cntN (fun j => decide (j < n) && p j) m = cntN p n := by
  intro m
  induction m with
  | zero => intro h; have : n = 0 := by omega
            subst this; rfl
  | succ m ih =>
    intro h
    by_cases e : n = m + 1
    · subst e
      exact cntN_cg _ (fun k hk => by simp [hk])
    · rw [cntN_f (by simp; intro z; omega)]
      exact ih (by omega)
theorem bits_c {p : Nat → Bool} {n : Nat} (hn : n ≤ 7) : bitC (bitN p n) = cntN p n ∧ bcI (bitN p n) = cntN p n := by
  obtain ⟨a, b, c, d, e, f, g, h1, h2⟩ := bitN_B (p := p) n hn
  rw [h1]
  have h3 : C7 a b c d e f g = cntN p n := by
    rw [← cntN_7 7 hn]
    exact cntN_cg 7 h2
  rw [← h3]
  exact B7_c a b c d e f g
theorem shl_n : ∀ n : Fin 8, bShl 1 (n.val : Int) - 1 = B7 (decide (0 < n.val)) (decide (1 < n.val)) (decide (2 < n.val)) (decide (3 < n.val)) (decide (4 < n.val)) (decide (5 < n.val)) (decide (6 < n.val)) := by decide +kernel
theorem shl_b {n : Nat} (hn : n ≤ 7) : bShl 1 (n : Int) - 1 = bitN (fun _ => true) n := by
  rw [shl_n ⟨n, by omega⟩, bitN_7 n hn]
  simp only [Bool.and_true]
  rfl
/-- not those: the others -/
theorem bit_not {p q : Nat → Bool} {n : Nat} (hn : n ≤ 7) (h : ∀ k, k < n → q k = !p k) : bAnd (bXor (bitN p n) (-1)) (bShl 1 (n : Int) - 1) = bitN q n := by
  obtain ⟨a, b, c, d, e, f, g, h1, h2⟩ := bitN_B (p := p) n hn
  rw [h1, B7_in a b c d e f g ⟨n, by omega⟩, bitN_7 n hn]
  have k : ∀ j, j < 7 → ((![a, b, c, d, e, f, g].getD j false) && decide (j < n)) = (decide (j < n) && q j) := by
    intro j hj
    rw [h2 j hj]
    by_cases z : j < n
    · rw [h j z]; simp [z]
    · simp [z]
  have k0 := k 0 (by decide); have k1 := k 1 (by decide); have k2 := k 2 (by decide); have k3 := k 3 (by decide); have k4 := k 4 (by decide); have k5 := k 5 (by decide); have k6 := k 6 (by decide)
  change (!a && decide (0 < n)) = _ at k0; change (!b && decide (1 < n)) = _ at k1; change (!c && decide (2 < n)) = _ at k2; change (!d && decide (3 < n)) = _ at k3; change (!e && decide (4 < n)) = _ at k4; change (!f && decide (5 < n)) = _ at k5; change (!g && decide (6 < n)) = _ at k6
  show B7 (!a && decide (0 < n)) (!b && decide (1 < n)) (!c && decide (2 < n)) (!d && decide (3 < n)) (!e && decide (4 < n)) (!f && decide (5 < n)) (!g && decide (6 < n)) = _
  rw [k0, k1, k2, k3, k4, k5, k6]
  rfl
set_option maxRecDepth 100000 in
theorem B7_pq : ∀ a b c d e f g : Bool, ∀ p q : Fin 7, decide (bAnd (B7 a b c d e f g) (bOr (bShl 1 (p.val : Int)) (bShl 1 (q.val : Int))) = 0) = (!([a, b, c, d, e, f, g].getD p.val false) && !([a, b, c, d, e, f, g].getD q.val false)) ∧ decide (bAnd (B7 a b c d e f g) (bOr (bShl 1 (p.val : Int)) (bShl 1 (q.val : Int))) = bOr (bShl 1 (p.val : Int)) (bShl 1 (q.val : Int))) = (([a, b, c, d, e, f, g].getD p.val false) && ([a, b, c, d, e, f, g].getD q.val false)) ∧ decide (bAnd (bXor (B7 a b c d e f g) (-1)) (bOr (bShl 1 (p.val : Int)) (bShl 1 (q.val : Int))) = bOr (bShl 1 (p.val : Int)) (bShl 1 (q.val : Int))) = (!([a, b, c, d, e, f, g].getD p.val false) && !([a, b, c, d, e, f, g].getD q.val false)) := by decide +kernel
theorem bit_pq {P : Nat → Bool} {n : Nat} {p q : Int} (hn : n ≤ 7) (hp : 0 ≤ p ∧ p < n) (hq : 0 ≤ q ∧ q < n) : decide (bAnd (bitN P n) (bOr (bShl 1 p) (bShl 1 q)) = 0) = (!P p.toNat && !P q.toNat) ∧ decide (bAnd (bitN P n) (bOr (bShl 1 p) (bShl 1 q)) = bOr (bShl 1 p) (bShl 1 q)) = (P p.toNat && P q.toNat) ∧ decide (bAnd (bXor (bitN P n) (-1)) (bOr (bShl 1 p) (bShl 1 q)) = bOr (bShl 1 p) (bShl 1 q)) = (!P p.toNat && !P q.toNat) := by
  obtain ⟨a, b, c, d, e, f, g, h1, h2⟩ := bitN_B (p := P) n hn
  have k := B7_pq a b c d e f g ⟨p.toNat, by omega⟩ ⟨q.toNat, by omega⟩
  rw [← h1] at k
  have e1 := h2 p.toNat (by omega)
  have e2 := h2 q.toNat (by omega)
  have d1 : decide (p.toNat < n) = true := by simp; omega
  have d2 : decide (q.toNat < n) = true := by simp; omega
  rw [d1, Bool.true_and] at e1
  rw [d2, Bool.true_and] at e2
  rw [show (⟨p.toNat, by omega⟩ : Fin 7).val = p.toNat from rfl, show (⟨q.toNat, by omega⟩ : Fin 7).val = q.toNat from rfl, e1, e2, show ((p.toNat : Nat) : Int) = p by omega, show ((q.toNat : Nat) : Int) = q by omega] at k
  exact k
theorem B7_al : ∀ a b c d e f g : Bool, ∀ n : Fin 8, decide (bAnd (B7 a b c d e f g) (bShl 1 (n.val : Int) - 1) = 0) = decide (bAnd (bXor (B7 a b c d e f g) (-1)) (bShl 1 (n.val : Int) - 1) = bShl 1 (n.val : Int) - 1) := by decide +kernel
theorem bit_al {P : Nat → Bool} {n : Nat} (hn : n ≤ 7) : decide (bAnd (bitN P n) (bShl 1 (n : Int) - 1) = 0) = decide (bAnd (bXor (bitN P n) (-1)) (bShl 1 (n : Int) - 1) = bShl 1 (n : Int) - 1) := by
  obtain ⟨a, b, c, d, e, f, g, h1, h2⟩ := bitN_B (p := P) n hn
  rw [h1]
  exact B7_al a b c d e f g ⟨n, by omega⟩
theorem B7_11 : ∀ a b c d e f g : Bool, ∀ j : Fin 7, decide (bAnd (bShr (B7 a b c d e f g) (j.val : Int)) 1 = 1) = [a, b, c, d, e, f, g].getD j.val false ∧ decide (bAnd (B7 a b c d e f g) (bShl 1 (j.val : Int)) = 0) = ![a, b, c, d, e, f, g].getD j.val false ∧ bOr (B7 a b c d e f g) (bShl 1 (j.val : Int)) = B7 (a || decide (0 = j.val)) (b || decide (1 = j.val)) (c || decide (2 = j.val)) (d || decide (3 = j.val)) (e || decide (4 = j.val)) (f || decide (5 = j.val)) (g || decide (6 = j.val)) := by decide +kernel
