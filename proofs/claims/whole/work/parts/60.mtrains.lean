/-! trains: way by way -/
def bW (y k : Nat) : Bool := decide (bAnd (bShr (y : Int) (k : Int)) 1 = 1)
theorem bW_all : ∀ y : Fin 32, ∀ k : Fin 5, decide (bAnd (bShr (y.val : Int) (k.val : Int)) 1 = 1) = decide (y.val / 2 ^ k.val % 2 = 1) := by decide +kernel
theorem bW_at {y k : Nat} (hy : y < 32) (hk : k < 5) : bW y k = decide (y / 2 ^ k % 2 = 1) := bW_all ⟨y, hy⟩ ⟨k, hk⟩
theorem way_all : ∀ k : Fin 5, ∀ y : Fin 16, y.val < 2 ^ k.val → (decide (y.val / 2 ^ k.val % 2 = 1) = false ∧ decide ((y.val + 2 ^ k.val) / 2 ^ k.val % 2 = 1) = true) ∧ ∀ j : Fin 5, j.val < k.val → decide ((y.val + 2 ^ k.val) / 2 ^ j.val % 2 = 1) = decide (y.val / 2 ^ j.val % 2 = 1) := by decide +kernel
theorem way_at {k y : Nat} (hk : k < 5) (hy : y < 2 ^ k) : bW y k = false ∧ bW (y + 2 ^ k) k = true ∧ ∀ j, j < k → bW (y + 2 ^ k) j = bW y j := by
  have h16 : 2 ^ k ≤ 16 := by
    rcases (show k = 0 ∨ k = 1 ∨ k = 2 ∨ k = 3 ∨ k = 4 by omega) with rfl | rfl | rfl | rfl | rfl <;> decide
  obtain ⟨⟨a, b⟩, c⟩ := way_all ⟨k, hk⟩ ⟨y, by omega⟩ hy
  refine ⟨by rw [bW_at (by omega) hk]; exact a, by rw [bW_at (by omega) hk]; exact b, fun j hj => ?_⟩
  rw [bW_at (by omega) (by omega), bW_at (by omega) (by omega)]
  exact c ⟨j, by omega⟩ hj
def rwW (S : HS) (f : Int → Int) (y : Nat) : Nat → Int → Int
  | 0 => f
  | k + 1 => if bW y k then upI (rwW S f y k) 0 (rwW S f y k 0 + 1) else dayF S (rwW S f y k)
def vwW (T : Int) (y : Nat) : Nat → Int
  | 0 => 1
  | k + 1 => vwW T y k * (if bW y k then T else 10 - T)
def owW (S : HS) (f : Int → Int) (p : Int) (y : Nat) : Nat → Int
  | 0 => f (1 + p)
  | k + 1 => if bW y k then owW S f p y k else bhF S p (f 0 + (k : Int)) (owW S f p y k)
theorem still_ok {S : HS} {B : Int} {r : Int → Int} (h : rT B r) (hC : rC S r) (hw : wH S r) (hk : pkP S r) (hB : hsW S) (h0 : r 0 < 20000) : rT B (upI r 0 (r 0 + 1)) ∧ rC S (upI r 0 (r 0 + 1)) ∧ wH S (upI r 0 (r 0 + 1)) ∧ pkP S (upI r 0 (r 0 + 1)) := by
  have w0 := h.2.2.2.1
  have hNp := hB.2.1
  refine ⟨upI_rT h (by omega) (upI_rW h.1 (by omega) (by omega) (by omega) (by omega) (by omega)) (by omega), fun p a b => ?_, wH_lo hw (by omega), fun p a b => ?_⟩
  · rw [upI_n (by omega)]; exact hC p a b
  · rw [upI_n (by omega)]; exact hk p a b
theorem pkP_day {S : HS} {B : Int} {r : Int → Int} (hB : hsW S) (h : rT B r) (hC : rC S r) (hk : pkP S r) (h0 : r 0 < 20000) : pkP S (dayF S r) := fun p a b => by
  have hNp := hB.2.1
  rw [(dayF_ok hB h hC h0).2.2.2 (22 + p) (by omega)]
  exact hk p a b
theorem rwW_ok {S : HS} {f : Int → Int} (hB : hsW S) (R : rowOK S f) (y : Nat) : ∀ k : Nat, k ≤ 100 → rT 600 (rwW S f y k) ∧ rC S (rwW S f y k) ∧ wH S (rwW S f y k) ∧ pkP S (rwW S f y k) ∧ rwW S f y k 0 = f 0 + k
  | 0, _ => ⟨R.1, R.2.1, R.2.2.2.1, R.2.2.2.2.2, by show f 0 = f 0 + ((0 : Nat) : Int); omega⟩
  | k + 1, hk => by
    obtain ⟨a1, a2, a3, a4, a5⟩ := rwW_ok hB R y k (by omega)
    have d := R.2.2.1
    cases e : bW y k
    · rw [show rwW S f y (k + 1) = dayF S (rwW S f y k) from if_neg (by rw [e]; decide)]
      obtain ⟨b1, b2, b3, -⟩ := dayF_ok hB a1 a2 (by omega)
      exact ⟨b1, b2, day_wH hB a1 a2 a3, pkP_day hB a1 a2 a4 (by omega), by rw [b3, a5]; omega⟩
    · rw [show rwW S f y (k + 1) = upI (rwW S f y k) 0 (rwW S f y k 0 + 1) from if_pos e]
      obtain ⟨b1, b2, b3, b4⟩ := still_ok a1 a2 a3 a4 hB (by omega)
      exact ⟨b1, b2, b3, b4, by rw [upI_s, a5]; omega⟩
/-- one's own days along a day -/
theorem day_out {S : HS} {B : Int} {r : Int → Int} {p : Nat} (hB : hsW S) (h : rT B r) (hC : rC S r) (hp : p < sNp S) : dayF S r (1 + (p : Int)) = bhF S (p : Int) (r 0) (r (1 + (p : Int))) := by
  have hNp := hB.2.1
  obtain ⟨a1, a2, a3⟩ := rowAt_ok hB h hC p (by omega)
  have e0 := a2 0 (Or.inl rfl)
  have e1 := (a3 (p : Int) (Int.le_refl _) (by omega)).1
  have hck := rowAt_C hB h hC (k := p) (by omega) (p : Int) (by omega) (by omega)
  have st : rowAt S r (p + 1) (1 + (p : Int)) = bhF S (p : Int) (r 0) (r (1 + (p : Int))) := by
    have w := (h.1.2 (p : Int) (by omega) (by omega)).1
    show psF S (rowAt S r p) (p : Int) (1 + (p : Int)) = _
    unfold psF bhF
    rw [e1, e0]
    by_cases z : r (1 + (p : Int)) = 0
    · rw [if_pos z, if_neg (show ¬ 0 < r (1 + (p : Int)) by omega)]
      by_cases z2 : (r 0).tmod (sE S (p : Int)) = 0
      · rw [if_pos z2, if_pos z2, upI_s]
      · rw [if_neg z2, if_neg z2, e1, z]
    · rw [if_neg z, if_pos (by omega)]
      unfold soF
      rw [e1]
      by_cases z3 : r (1 + (p : Int)) - 1 = 0
      · rw [if_pos z3]
        have o := (cbF_ok (S := S) (p := (p : Int)) hB (out_rT a1 (p := (p : Int)) (x := r (1 + (p : Int)) - 1) ⟨by omega, by omega⟩ (by omega)) ⟨by omega, by omega⟩).2 (1 + (p : Int)) (by omega) (by omega)
        rw [o, upI_s]
      · rw [if_neg z3, upI_s]
  have keep : ∀ m : Nat, p + 1 + m ≤ sNp S → rowAt S r (p + 1 + m) (1 + (p : Int)) = rowAt S r (p + 1) (1 + (p : Int)) := by
    intro m
    induction m with
    | zero => intro _; rfl
    | succ m ih =>
      intro hm
      obtain ⟨b1, -, -⟩ := rowAt_ok hB h hC (p + 1 + m) (by omega)
      have c := rowAt_C hB h hC (k := p + 1 + m) (by omega) ((p + 1 + m : Nat) : Int) (by omega) (by omega)
      show psF S (rowAt S r (p + 1 + m)) ((p + 1 + m : Nat) : Int) (1 + (p : Int)) = _
      rw [(psF_ok hB b1 ⟨by omega, by omega⟩ c).2 (1 + (p : Int)) (by omega) (by omega) (by omega)]
      exact ih (by omega)
  have := keep (sNp S - (p + 1)) (by omega)
  rw [show p + 1 + (sNp S - (p + 1)) = sNp S by omega] at this
  unfold dayF
  rw [upI_n (by omega), this, st]
theorem rw_ow {S : HS} {f : Int → Int} {p : Nat} (hB : hsW S) (R : rowOK S f) (hp : p < sNp S) (y : Nat) : ∀ k : Nat, k ≤ 100 → rwW S f y k (1 + (p : Int)) = owW S f (p : Int) y k
  | 0, _ => rfl
  | k + 1, hk => by
    obtain ⟨a1, a2, a3, a4, a5⟩ := rwW_ok hB R y k (by omega)
    have ih := rw_ow hB R hp y k (by omega)
    cases e : bW y k
    · rw [show rwW S f y (k + 1) = dayF S (rwW S f y k) from if_neg (by rw [e]; decide), show owW S f (p : Int) y (k + 1) = bhF S (p : Int) (f 0 + (k : Int)) (owW S f (p : Int) y k) from if_neg (by rw [e]; decide), day_out hB a1 a2 hp, ih, a5]
    · rw [show rwW S f y (k + 1) = upI (rwW S f y k) 0 (rwW S f y k 0 + 1) from if_pos e, show owW S f (p : Int) y (k + 1) = owW S f (p : Int) y k from if_pos e, upI_n (by omega)]
      exact ih
theorem way_cg {S : HS} {f : Int → Int} {p T : Int} {y z : Nat} : ∀ k : Nat, (∀ j, j < k → bW y j = bW z j) → owW S f p y k = owW S f p z k ∧ vwW T y k = vwW T z k
  | 0, _ => ⟨rfl, rfl⟩
  | k + 1, h => by
    obtain ⟨a, b⟩ := way_cg (S := S) (f := f) (p := p) (T := T) k (fun j hj => h j (by omega))
    refine ⟨?_, ?_⟩
    · show (if bW y k then owW S f p y k else bhF S p (f 0 + (k : Int)) (owW S f p y k)) = (if bW z k then owW S f p z k else bhF S p (f 0 + (k : Int)) (owW S f p z k))
      rw [h k (by omega), a]
    · show vwW T y k * _ = vwW T z k * _
      rw [h k (by omega), b]
theorem sm_split (g : Nat → Int) (a : Nat) : ∀ b : Nat, sm g (a + b) = sm g a + sm (fun k => g (k + a)) b
  | 0 => by show sm g a = sm g a + 0; omega
  | b + 1 => by
    show sm g (a + b) + g (a + b) = sm g a + (sm (fun k => g (k + a)) b + g (b + a))
    rw [sm_split g a b, show a + b = b + a by omega]; omega
theorem sm_at {F : Nat → Int} {x : Int} : ∀ n : Nat, 0 ≤ x → x < n → sm (fun k => if (k : Int) = x then F k else 0) n = F x.toNat
  | 0, h0, h1 => by omega
  | n + 1, h0, h1 => by
    rw [sm_s]
    by_cases e : (n : Int) = x
    · rw [if_pos e, sm_0 n (fun k hk => if_neg (by omega)), show x.toNat = n by omega]; omega
    · rw [if_neg e, sm_at n h0 (by omega)]; omega
theorem upI_sm (g : Int → Int) (i x : Int) (F : Int → Int) (n : Nat) (h0 : 0 ≤ i) (h1 : i < n) : sm (fun k => upI g i x (k : Int) * F (k : Int)) n = sm (fun k => g (k : Int) * F (k : Int)) n + (x - g i) * F i := by
  have e : sm (fun k => upI g i x (k : Int) * F (k : Int)) n = sm (fun k => g (k : Int) * F (k : Int) + (if (k : Int) = i then (x - g i) * F i else 0)) n := sm_cg (fun k hk => by
    unfold upI
    by_cases z : (k : Int) = i
    · rw [if_pos z, if_pos z, z, ← Int.add_mul]; congr 1; omega
    · rw [if_neg z, if_neg z]; omega)
  rw [e, sm_add, sm_at (F := fun _ => (x - g i) * F i) n h0 h1]
theorem wsO_sm {w b : Int → Int} {T : Int} (F : Int → Int) (hb : ∀ x : Int, 0 ≤ x → x < 9 → 0 ≤ b x ∧ b x < 9) : ∀ k : Nat, k ≤ 9 → sm (fun j => wsO w b T k (j : Int) * F (j : Int)) 9 = sm (fun j => w (j : Int) * (T * F (j : Int) + (10 - T) * F (b (j : Int)))) k
  | 0, _ => sm_0 9 (fun j _ => by show (0 : Int) * _ = 0; omega)
  | k + 1, hk => by
    have bk := hb (k : Int) (by omega) (by omega)
    have e := wsO_sm (w := w) (T := T) F hb k (by omega)
    show sm (fun j => upI (upI (wsO w b T k) (k : Int) (wsO w b T k (k : Int) + w (k : Int) * T)) (b (k : Int)) (upI (wsO w b T k) (k : Int) (wsO w b T k (k : Int) + w (k : Int) * T) (b (k : Int)) + w (k : Int) * (10 - T)) (j : Int) * F (j : Int)) 9 = _
    rw [upI_sm _ _ _ F 9 bk.1 bk.2, upI_sm _ _ _ F 9 (by omega) (by omega), e, sm_s]
    have e1 : wsO w b T k (k : Int) + w (k : Int) * T - wsO w b T k (k : Int) = w (k : Int) * T := by omega
    have e2 : upI (wsO w b T k) (k : Int) (wsO w b T k (k : Int) + w (k : Int) * T) (b (k : Int)) + w (k : Int) * (10 - T) - upI (wsO w b T k) (k : Int) (wsO w b T k (k : Int) + w (k : Int) * T) (b (k : Int)) = w (k : Int) * (10 - T) := by omega
    rw [e1, e2, Int.mul_add, Int.mul_assoc, Int.mul_assoc]
    omega
theorem ow_b {S : HS} {f : Int → Int} {p : Int} (hB : hsW S) (hp : 0 ≤ p ∧ p < sNp S) (h0 : 0 ≤ f (1 + p) ∧ f (1 + p) < 9) (y : Nat) : ∀ k : Nat, 0 ≤ owW S f p y k ∧ owW S f p y k < 9
  | 0 => h0
  | k + 1 => by
    have ih := ow_b hB hp h0 y k
    show 0 ≤ (if bW y k then owW S f p y k else bhF S p (f 0 + (k : Int)) (owW S f p y k)) ∧ (if bW y k then owW S f p y k else bhF S p (f 0 + (k : Int)) (owW S f p y k)) < 9
    cases bW y k
    · rw [if_neg (by decide)]; exact bhF_b hB hp ih
    · rw [if_pos rfl]; exact ih
theorem ways_eq {S : HS} {f : Int → Int} {p T : Int} (hB : hsW S) (hp : 0 ≤ p ∧ p < sNp S) (h0 : 0 ≤ f (1 + p) ∧ f (1 + p) < 9) : ∀ (k : Nat), k ≤ 5 → ∀ F : Int → Int, sm (fun y => vwW T y k * F (owW S f p y k)) (2 ^ k) = sm (fun x => wyN S f p T k (x : Int) * F (x : Int)) 9
  | 0, _, F => by
    show (0 : Int) + 1 * F (f (1 + p)) = sm (fun x => upI (fun _ => 0) (f (1 + p)) 1 (x : Int) * F (x : Int)) 9
    rw [upI_sm _ _ _ F 9 h0.1 (by omega), sm_0 9 (fun j _ => by show (0 : Int) * _ = 0; omega)]
    omega
  | k + 1, hk, F => by
    have ih := ways_eq (T := T) hB hp h0 k (by omega) (fun x => T * F x + (10 - T) * F (bhF S p (f 0 + (k : Int)) x))
    rw [Nat.pow_succ, show 2 ^ k * 2 = 2 ^ k + 2 ^ k by omega, sm_split]
    have e1 : sm (fun y => vwW T y (k + 1) * F (owW S f p y (k + 1))) (2 ^ k) = sm (fun y => vwW T y k * ((10 - T) * F (bhF S p (f 0 + (k : Int)) (owW S f p y k)))) (2 ^ k) := sm_cg (fun y hy => by
      obtain ⟨a, -, -⟩ := way_at (k := k) (by omega) hy
      show vwW T y k * (if bW y k then T else 10 - T) * F (if bW y k then owW S f p y k else bhF S p (f 0 + (k : Int)) (owW S f p y k)) = _
      rw [a, if_neg (by decide), if_neg (by decide), Int.mul_assoc])
    have e2 : sm (fun y => vwW T (y + 2 ^ k) (k + 1) * F (owW S f p (y + 2 ^ k) (k + 1))) (2 ^ k) = sm (fun y => vwW T y k * (T * F (owW S f p y k))) (2 ^ k) := sm_cg (fun y hy => by
      obtain ⟨-, b, c⟩ := way_at (k := k) (by omega) hy
      obtain ⟨c1, c2⟩ := way_cg (S := S) (f := f) (p := p) (T := T) k c
      show vwW T (y + 2 ^ k) k * (if bW (y + 2 ^ k) k then T else 10 - T) * F (if bW (y + 2 ^ k) k then owW S f p (y + 2 ^ k) k else _) = _
      rw [b, if_pos rfl, if_pos rfl, c1, c2, Int.mul_assoc])
    rw [e1, e2, ← sm_add]
    have e3 : sm (fun x => wyN S f p T (k + 1) (x : Int) * F (x : Int)) 9 = sm (fun j => wyN S f p T k (j : Int) * (T * F (j : Int) + (10 - T) * F (bhF S p (f 0 + (k : Int)) (j : Int)))) 9 := wsO_sm F (fun x x0 x1 => bhF_b hB hp ⟨x0, x1⟩) 9 (Nat.le_refl 9)
    rw [e3, ← ih]
    exact sm_cg (fun y _ => by rw [← Int.mul_add]; congr 1; omega)
theorem trains_eq {S : HS} {f : Int → Int} {p : Nat} {T : Int} {n : Nat} (hB : hsW S) (R : rowOK S f) (hp : p < sNp S) (hn : n ≤ 5) : itN (fun y v => v + (if rwW S f y n (1 + (p : Int)) = 0 then vwW T y n else 0)) 0 (2 ^ n) = wyN S f (p : Int) T n 0 := by
  have hNp := hB.2.1
  have w := (R.1.1.2 (p : Int) (by omega) (by omega)).1
  have e := ways_eq (S := S) (f := f) (p := (p : Int)) (T := T) hB ⟨by omega, by omega⟩ ⟨by omega, by omega⟩ n hn (fun x => if x = 0 then 1 else 0)
  show sm (fun y => if rwW S f y n (1 + (p : Int)) = 0 then vwW T y n else 0) (2 ^ n) = _
  have e1 : sm (fun y => if rwW S f y n (1 + (p : Int)) = 0 then vwW T y n else 0) (2 ^ n) = sm (fun y => vwW T y n * (if owW S f (p : Int) y n = 0 then 1 else 0)) (2 ^ n) := sm_cg (fun y _ => by
    rw [rw_ow hB R hp y n (by omega)]
    by_cases z : owW S f (p : Int) y n = 0
    · rw [if_pos z, if_pos z]; omega
    · rw [if_neg z, if_neg z]; omega)
  rw [e1, e]
  have e2 : sm (fun x => wyN S f (p : Int) T n (x : Int) * (if (x : Int) = 0 then 1 else 0)) 9 = sm (fun x => if (x : Int) = 0 then wyN S f (p : Int) T n (x : Int) else 0) 9 := sm_cg (fun x _ => by
    by_cases z : (x : Int) = 0
    · rw [if_pos z, if_pos z]; omega
    · rw [if_neg z, if_neg z]; omega)
  rw [e2]
  exact sm_at (F := fun x => wyN S f (p : Int) T n (x : Int)) (x := 0) 9 (by omega) (by omega)
theorem vw_b {T : Int} (hT : 0 ≤ T ∧ T ≤ 10) (y : Nat) : ∀ k : Nat, 0 ≤ vwW T y k ∧ vwW T y k ≤ 10 ^ k
  | 0 => ⟨(by decide : (0 : Int) ≤ 1), by show (1 : Int) ≤ 10 ^ 0; decide⟩
  | k + 1 => by
    obtain ⟨a, b⟩ := vw_b hT y k
    have c : ∀ c : Int, 0 ≤ c → c ≤ 10 → 0 ≤ vwW T y k * c ∧ vwW T y k * c ≤ 10 ^ (k + 1) := fun c c0 c1 => by
      refine ⟨Int.mul_nonneg a c0, ?_⟩
      rw [Int.pow_succ]
      exact Int.le_trans (Int.mul_le_mul_of_nonneg_right b c0) (Int.mul_le_mul_of_nonneg_left c1 (Int.le_trans a b))
    show 0 ≤ vwW T y k * (if bW y k then T else 10 - T) ∧ vwW T y k * (if bW y k then T else 10 - T) ≤ 10 ^ (k + 1)
    cases bW y k
    · rw [if_neg (by decide)]; exact c _ (by omega) (by omega)
    · rw [if_pos rfl]; exact c _ hT.1 hT.2
theorem vw_b5 {T : Int} (hT : 0 ≤ T ∧ T ≤ 10) (y : Nat) {k : Nat} (hk : k ≤ 5) : 0 ≤ vwW T y k ∧ vwW T y k ≤ 100000 := by
  obtain ⟨a, b⟩ := vw_b hT y k
  refine ⟨a, Int.le_trans b ?_⟩
  rcases (show k = 0 ∨ k = 1 ∨ k = 2 ∨ k = 3 ∨ k = 4 ∨ k = 5 by omega) with rfl | rfl | rfl | rfl | rfl | rfl <;> decide
/-! the heap while trains may stand -/
def FT (h h' : HP) : Prop := (∀ a, mqA a = false → hA h' a = hA h a) ∧ (∀ i, i < 77 → hA h' 18 i = hA h 18 i) ∧ (∀ a k, mqI a k = false → (a ≠ 0 ∨ k ≠ 49) → hI h' a k = hI h a k) ∧ hR h' = hR h ∧ ∀ i, i32 (hA h' 20 i)
def MT (h0 h : HP) (S : HS) (f g : Int → Int) : Prop := MAsk h0 S f ∧ FT h0 h ∧ RV h 77 g ∧ hI h 0 0 = 0
theorem FT_Q {h h1 h2 : HP} (a : FT h h1) (b : FQ h1 h2) : FT h h2 := ⟨fun x hx => (b.1 x hx).trans (a.1 x hx), fun i hi => (b.2.1 i hi).trans (a.2.1 i hi), fun x k hx hy => (b.2.2.1 x k hx).trans (a.2.2.1 x k hx hy), b.2.2.2.1.trans a.2.2.2.1, b.2.2.2.2⟩
theorem MT_G {h0 h : HP} {S : HS} {f g : Int → Int} (G : MG h0 h S f g) : MT h0 h S f g := ⟨G.1, ⟨G.2.1.1, G.2.1.2.1, fun a k ha _ => G.2.1.2.2.1 a k ha, G.2.1.2.2.2.1, G.2.1.2.2.2.2⟩, G.2.2.1, G.2.2.2⟩
theorem MT_MS {h0 h : HP} {S : HS} {f g : Int → Int} (G : MT h0 h S f g) : MS h S := MS_fr G.1.1 (G.2.1.2.2.1 0 1 rfl (by decide)) (G.2.1.2.2.1 0 2 rfl (by decide)) (G.2.1.2.2.1 0 3 rfl (by decide)) (G.2.1.2.2.1 0 4 rfl (by decide)) (G.2.1.1 1 rfl) (G.2.1.1 2 rfl) (G.2.1.1 3 rfl) (G.2.1.1 4 rfl) (G.2.1.1 5 rfl) (G.2.1.1 6 rfl)
theorem MT_D7 {h0 h : HP} {S : HS} {f g : Int → Int} (G : MT h0 h S f g) : MD h h 77 S g := ⟨MT_MS G, Or.inr rfl, ⟨MFr_rf, G.2.1.2.2.2.2⟩, G.2.2.1⟩
theorem MT_D0 {h0 h : HP} {S : HS} {f g : Int → Int} (G : MT h0 h S f g) : MD h h 0 S f := ⟨MT_MS G, Or.inl rfl, ⟨MFr_rf, G.2.1.2.2.2.2⟩, RV0_fr G.1.2.1 G.2.1.2.1⟩
theorem MT_day {h0 h h' : HP} {S : HS} {f g g' : Int → Int} (G : MT h0 h S f g) (d : MD h h' 77 S g') : MT h0 h' S f g' :=
  ⟨G.1, FT_Q G.2.1 (FQ_MFr d.2.2.1.1 d.2.2.1.2), d.2.2.2, by rw [d.2.2.1.1.2.2.1 0 0 (Or.inr (by decide))]; exact G.2.2.2⟩
theorem MT_try {h0 h h' : HP} {S : HS} {f g : Int → Int} (G : MT h0 h S f g) (e : hA h' 18 = tryF (hA h 18) 77) (fa : ∀ b, b ≠ 18 → hA h' b = hA h b) (fi : hI h' = hI h) (fr : hR h' = hR h) : MT h0 h' S f f := by
  refine ⟨G.1, FT_Q G.2.1 ⟨fun a ha => fa a (mqA_n ha).1, fun i hi => by rw [e]; exact if_neg (by omega), fun _ _ _ => by rw [fi], fr, by rw [fa 20 (by decide)]; exact G.2.1.2.2.2.2⟩, fun j j0 j1 => ?_, by rw [fi]; exact G.2.2.2⟩
  have := pm_b j0 j1
  rw [e]
  show (if 77 ≤ 77 + pm j ∧ 77 + pm j < 77 + 77 then hA h 18 (77 + pm j - 77) else _) = f j
  rw [if_pos (by omega), show 77 + pm j - 77 = 0 + pm j by omega]
  exact RV0_fr G.1.2.1 G.2.1.2.1 j j0 j1
theorem MT_49 {h0 h h' : HP} {S : HS} {f g : Int → Int} {x : Int} (G : MT h0 h S f g) (e : h' = sI h 0 49 x) : MT h0 h' S f g := by
  obtain ⟨i1, f1, a1, r1⟩ := sI_fx e
  exact ⟨G.1, ⟨fun a ha => by rw [a1]; exact G.2.1.1 a ha, fun i hi => by rw [a1]; exact G.2.1.2.1 i hi, fun a k ha hb => by rw [f1 a k (by omega)]; exact G.2.1.2.2.1 a k ha hb, r1.trans G.2.1.2.2.2.1, by rw [a1]; exact G.2.1.2.2.2.2⟩, fun j j0 j1 => by rw [a1]; exact G.2.2.1 j j0 j1, by rw [f1 0 0 (by decide)]; exact G.2.2.2⟩
theorem MT_end {h0 h h' : HP} {S : HS} {f g : Int → Int} (G : MT h0 h S f g) (e : h' = sI h 0 49 0) : FQ h0 h' ∧ hI h' 0 0 = 0 := by
  obtain ⟨i1, f1, a1, r1⟩ := sI_fx e
  refine ⟨⟨fun a ha => by rw [a1]; exact G.2.1.1 a ha, fun i hi => by rw [a1]; exact G.2.1.2.1 i hi, fun a k ha => ?_, r1.trans G.2.1.2.2.2.1, by rw [a1]; exact G.2.1.2.2.2.2⟩, by rw [f1 0 0 (by decide)]; exact G.2.2.2⟩
  by_cases z : a = 0 ∧ k = 49
  · rw [z.1, z.2, i1]; exact G.1.2.2.2.1.symm
  · rw [f1 a k (by omega)]; exact G.2.1.2.2.1 a k ha (by omega)
def mX12_trains : MI := (yX12_trains, cX12_trains, 8, (some .int), rmK 7 0)
def tX12_trains : List (Nat × Instr × Nat) := [(0, .aload_n 0, 1), (1, .iconst 0, 1), (2, .putfield 105, 3), (5, .aload_n 0, 1), (6, .iload_n 1, 1), (7, .invokevirtual 375, 3), (10, .ifCond .eq 35, 3), (13, .aload_n 0, 1), (14, .iload_n 2, 1), (15, .iconst 1, 1), (16, .iconst 5, 1), (17, .invokestatic 346, 3), (20, .ifCond .eq 17, 3), (23, .iload_n 3, 1), (24, .iconst 0, 1), (25, .bipush 10, 2), (27, .invokestatic 346, 3), (30, .ifCond .eq 7, 3), (33, .iconst 1, 1), (34, .goto 4, 3), (37, .iconst 0, 1), (38, .iconst 2, 1), (39, .invokevirtual 260, 3), (42, .ifCond .ne 5, 3), (45, .iconst 0, 1), (46, .ireturn, 1), (47, .iconst 0, 1), (48, .istore 4, 2), (50, .iconst 0, 1), (51, .istore 5, 2), (53, .iload 5, 2), (55, .iconst 1, 1), (56, .iload_n 2, 1), (57, .ishl, 1), (58, .if_icmp .ge 102, 3), (61, .iconst 1, 1), (62, .istore 6, 2), (64, .aload_n 0, 1), (65, .invokevirtual 397, 3), (68, .iconst 0, 1), (69, .istore 7, 2), (71, .iload 7, 2), (73, .iload_n 2, 1), (74, .if_icmp .ge 55, 3), (77, .aload_n 0, 1), (78, .iload 5, 2), (80, .iload 7, 2), (82, .ishr, 1), (83, .iconst 1, 1), (84, .iand, 1), (85, .iconst 1, 1), (86, .if_icmp .ne 7, 3), (89, .iconst 1, 1), (90, .goto 4, 3), (93, .iconst 0, 1), (94, .putfield 325, 3), (97, .iload 6, 2), (99, .aload_n 0, 1), (100, .getfield 325, 3), (103, .ifCond .eq 7, 3), (106, .iload_n 3, 1), (107, .goto 7, 3), (110, .bipush 10, 2), (112, .iload_n 3, 1), (113, .isub, 1), (114, .imul, 1), (115, .istore 6, 2), (117, .aload_n 0, 1), (118, .bipush 77, 2), (120, .invokevirtual 334, 3), (123, .iinc 7 1, 3), (126, .goto (-55), 3), (129, .iload 4, 2), (131, .aload_n 0, 1), (132, .bipush 77, 2), (134, .invokevirtual 350, 3), (137, .iload_n 1, 1), (138, .ishr, 1), (139, .iconst 1, 1), (140, .iand, 1), (141, .iconst 1, 1), (142, .if_icmp .ne 8, 3), (145, .iload 6, 2), (147, .goto 4, 3), (150, .iconst 0, 1), (151, .iadd, 1), (152, .istore 4, 2), (154, .iinc 5 1, 3), (157, .goto (-104), 3), (160, .aload_n 0, 1), (161, .iconst 0, 1), (162, .putfield 325, 3), (165, .iload 4, 2), (167, .ireturn, 1)]
theorem dtX12_trains : tX12_trains.all (fun q => decide (decode cX12_trains q.1 = .ok (q.2.1, q.2.2))) = true := by decide +kernel
theorem npX12_trains : (parseMethodDescriptor (mY mX12_trains).desc).map (fun d => d.parameters.length) = some 3 := by decide +kernel
theorem vX12_trains : mV mX12_trains := ⟨wI_X12_trains, wS_X12_trains, wN_X12, wC_X12_trains, by decide +kernel, by decide +kernel⟩
set_option maxHeartbeats 4000000 in
set_option maxRecDepth 100000 in
theorem sX12_trains_x1 {h : HP} {S : HS} {f : Int → Int} {p d x : Int} (Q0 : MAsk h S f) (hp_ : i32 p) (hd_ : i32 d) (hx_ : i32 x) (kn : ¬ (0 ≤ p ∧ p < sNp S)) : SpecK mX12_trains [vr 0, vi p, vi d, vi x] h (fun o h' => o = .inl (some (vi 0)) ∧ FQ h h' ∧ hI h' 0 0 = 1) := by
  refine Spec_of (by decide +kernel) (Nat.le_of_ble_eq_true rfl) ?_
  have hB := Q0.1.1
  have hNt := hB.1
  have hNp := hB.2.1
  have R := Q0.2.2.2.2
  have hT := R.1
  have hW := hT.1
  refine K_aload_n (dt_at dtX12_trains 0 rfl) rfl rfl ?_
  refine K_iconst (dt_at dtX12_trains 1 rfl) ?_
  refine K_putI (a := 0) (ci := 12) (k := 0) (dt_at dtX12_trains 2 rfl) (show TT 0 = (0, 12) from rfl) rfl (by decide) wF_X12_105 rfl (Or.inl rfl) rfl rfl ?_
  obtain ⟨hu1, eu1⟩ : ∃ z, z = sI h 0 0 0 := ⟨_, rfl⟩
  rw [← eu1]
  obtain ⟨iu1, fu1, au1, ru1⟩ := sI_fx eu1
  have Gu1 := MG_0 Q0 eu1
  refine K_aload_n (dt_at dtX12_trains 3 rfl) rfl rfl ?_
  refine K_iload_n (dt_at dtX12_trains 4 rfl) rfl rfl ?_
  refine K_callV (M' := mX12_isPerson) (a := 0) (ci := 12) (As := [vi p]) (st := []) (dt_at dtX12_trains 5 rfl) (sX12_isPerson_f (MD_np (MG_D0 Gu1)) hNp Gu1.2.2.2 (by assumption) (by omega)) (show TT 0 = (0, 12) from rfl) rfl wL_X12_375 vX12_isPerson rfl npX12_isPerson (by decide) (by decide) (Nat.le_of_ble_eq_true rfl) (by decide) (by decide) GK_E (fun v9 hc2 hq => ?_) (fun E h9 hq => by cases hq.1)
  have hqq3 := hq
  obtain ⟨e9q3, e8q3⟩ := hqq3
  obtain ⟨iq3, fq3, aq3, rq3⟩ := sI_fx e8q3
  have Bq3 : FQ h hc2 := FQ_tr Gu1.2.1 (FQ_I e8q3 rfl Gu1.2.1.2.2.2.2)
  cases e9q3
  show K mX12_trains _ _ 0 0 10 [(0, vr 0), (1, vi p), (2, vi d), (3, vi x)] [vi 0] hc2
  refine K_if_eq (tgt := 45) (dt_at dtX12_trains 6 rfl) (by decide) (by first | assumption | exact ⟨by omega, by omega⟩) (fun c1 => ?_) (fun c1 => absurd c1 (by omega))
  refine K_iconst (dt_at dtX12_trains 24 rfl) ?_
  exact K_iret (dt_at dtX12_trains 25 rfl) rfl rfl (by decide) (by decide) ⟨rfl, Bq3, iq3⟩
set_option maxHeartbeats 4000000 in
set_option maxRecDepth 100000 in
theorem sX12_trains_x2 {h : HP} {S : HS} {f : Int → Int} {p d x : Int} (Q0 : MAsk h S f) (hp_ : i32 p) (hd_ : i32 d) (hx_ : i32 x) (k0 : 0 ≤ p ∧ p < sNp S) (kn : ¬ ((1 ≤ d ∧ d ≤ 5) ∧ (0 ≤ x ∧ x ≤ 10))) : SpecK mX12_trains [vr 0, vi p, vi d, vi x] h (fun o h' => o = .inl (some (vi 0)) ∧ FQ h h' ∧ hI h' 0 0 = 2) := by
  refine Spec_of (by decide +kernel) (Nat.le_of_ble_eq_true rfl) ?_
  have hB := Q0.1.1
  have hNt := hB.1
  have hNp := hB.2.1
  have R := Q0.2.2.2.2
  have hT := R.1
  have hW := hT.1
  refine K_aload_n (dt_at dtX12_trains 0 rfl) rfl rfl ?_
  refine K_iconst (dt_at dtX12_trains 1 rfl) ?_
  refine K_putI (a := 0) (ci := 12) (k := 0) (dt_at dtX12_trains 2 rfl) (show TT 0 = (0, 12) from rfl) rfl (by decide) wF_X12_105 rfl (Or.inl rfl) rfl rfl ?_
  obtain ⟨hu1, eu1⟩ : ∃ z, z = sI h 0 0 0 := ⟨_, rfl⟩
  rw [← eu1]
  obtain ⟨iu1, fu1, au1, ru1⟩ := sI_fx eu1
  have Gu1 := MG_0 Q0 eu1
  refine K_aload_n (dt_at dtX12_trains 3 rfl) rfl rfl ?_
  refine K_iload_n (dt_at dtX12_trains 4 rfl) rfl rfl ?_
  refine K_callV (M' := mX12_isPerson) (a := 0) (ci := 12) (As := [vi p]) (st := []) (dt_at dtX12_trains 5 rfl) (sX12_isPerson_t (MD_np (MG_D0 Gu1)) hNp Gu1.2.2.2 (by omega)) (show TT 0 = (0, 12) from rfl) rfl wL_X12_375 vX12_isPerson rfl npX12_isPerson (by decide) (by decide) (Nat.le_of_ble_eq_true rfl) (by decide) (by decide) GK_E (fun v9 h9 hq => ?_) (fun E h9 hq => by cases hq.1)
  obtain ⟨e9, e8⟩ := hq
  cases e9
  rw [e8]
  show K mX12_trains _ _ 0 0 10 [(0, vr 0), (1, vi p), (2, vi d), (3, vi x)] [vi 1] hu1
  refine K_if_eq (tgt := 45) (dt_at dtX12_trains 6 rfl) (by decide) (by first | assumption | exact ⟨by omega, by omega⟩) (fun c1 => absurd c1 (by omega)) (fun c1 => ?_)
  refine K_aload_n (dt_at dtX12_trains 7 rfl) rfl rfl ?_
  refine K_iload_n (dt_at dtX12_trains 8 rfl) rfl rfl ?_
  refine K_iconst (dt_at dtX12_trains 9 rfl) ?_
  refine K_iconst (dt_at dtX12_trains 10 rfl) ?_
  refine K_callS (M' := mX12_within) (As := [vi d, vi 1, vi 5]) (st := [vr 0]) (dt_at dtX12_trains 11 rfl) (sX12_within (by first | assumption | exact ⟨by omega, by omega⟩) ⟨by omega, by omega⟩ ⟨by omega, by omega⟩) wL_X12_346 vX12_within rfl npX12_within (by decide) (by decide) (Nat.le_of_ble_eq_true rfl) (by decide) (by decide) GK_E (fun v9 h9 hq => ?_) (fun E h9 hq => by cases hq.1)
  obtain ⟨e9, e8⟩ := hq
  cases e9
  rw [e8]
  show K mX12_trains _ _ 0 0 20 [(0, vr 0), (1, vi p), (2, vi d), (3, vi x)] [vi (if 1 ≤ d ∧ d ≤ 5 then 1 else 0), vr 0] hu1
  by_cases z2 : 1 ≤ d ∧ d ≤ 5
  · rw [if_pos z2]
    refine K_if_eq (tgt := 37) (dt_at dtX12_trains 12 rfl) (by decide) (by first | assumption | exact ⟨by omega, by omega⟩) (fun c3 => absurd c3 (by omega)) (fun c3 => ?_)
    refine K_iload_n (dt_at dtX12_trains 13 rfl) rfl rfl ?_
    refine K_iconst (dt_at dtX12_trains 14 rfl) ?_
    refine K_bipush (dt_at dtX12_trains 15 rfl) (by decide) ?_
    refine K_callS (M' := mX12_within) (As := [vi x, vi 0, vi 10]) (st := [vr 0]) (dt_at dtX12_trains 16 rfl) (sX12_within (by first | assumption | exact ⟨by omega, by omega⟩) ⟨by omega, by omega⟩ ⟨by omega, by omega⟩) wL_X12_346 vX12_within rfl npX12_within (by decide) (by decide) (Nat.le_of_ble_eq_true rfl) (by decide) (by decide) GK_E (fun v9 h9 hq => ?_) (fun E h9 hq => by cases hq.1)
    obtain ⟨e9, e8⟩ := hq
    cases e9
    rw [e8]
    show K mX12_trains _ _ 0 0 30 [(0, vr 0), (1, vi p), (2, vi d), (3, vi x)] [vi (if 0 ≤ x ∧ x ≤ 10 then 1 else 0), vr 0] hu1
    by_cases z4 : 0 ≤ x ∧ x ≤ 10
    · rw [if_pos z4]
      refine K_if_eq (tgt := 37) (dt_at dtX12_trains 17 rfl) (by decide) (by first | assumption | exact ⟨by omega, by omega⟩) (fun c5 => absurd c5 (by omega)) (fun c5 => ?_)
      refine K_iconst (dt_at dtX12_trains 18 rfl) ?_
      refine K_goto (tgt := 38) (dt_at dtX12_trains 19 rfl) (by decide) ?_
      refine K_iconst (dt_at dtX12_trains 21 rfl) ?_
      exact (by omega : False).elim
    · rw [if_neg z4]
      refine K_if_eq (tgt := 37) (dt_at dtX12_trains 17 rfl) (by decide) (by first | assumption | exact ⟨by omega, by omega⟩) (fun c6 => ?_) (fun c6 => absurd c6 (by omega))
      refine K_iconst (dt_at dtX12_trains 20 rfl) ?_
      refine K_iconst (dt_at dtX12_trains 21 rfl) ?_
      refine K_callV (M' := mX12_right) (a := 0) (ci := 12) (As := [vi 0, vi 2]) (st := []) (dt_at dtX12_trains 22 rfl) (sX12_right_f Gu1.2.2.2 (by decide)) (show TT 0 = (0, 12) from rfl) rfl wL_X12_260 vX12_right rfl npX12_right (by decide) (by decide) (Nat.le_of_ble_eq_true rfl) (by decide) (by decide) GK_E (fun v9 hc2 hq => ?_) (fun E h9 hq => by cases hq.1)
      have hqq3 := hq
      obtain ⟨e9q3, e8q3⟩ := hqq3
      obtain ⟨iq3, fq3, aq3, rq3⟩ := sI_fx e8q3
      have Bq3 : FQ h hc2 := FQ_tr Gu1.2.1 (FQ_I e8q3 rfl Gu1.2.1.2.2.2.2)
      cases e9q3
      show K mX12_trains _ _ 0 0 42 [(0, vr 0), (1, vi p), (2, vi d), (3, vi x)] [vi 0] hc2
      refine K_if_ne (tgt := 47) (dt_at dtX12_trains 23 rfl) (by decide) (by first | assumption | exact ⟨by omega, by omega⟩) (fun c7 => absurd c7 (by omega)) (fun c7 => ?_)
      refine K_iconst (dt_at dtX12_trains 24 rfl) ?_
      exact K_iret (dt_at dtX12_trains 25 rfl) rfl rfl (by decide) (by decide) ⟨rfl, Bq3, iq3⟩
  · rw [if_neg z2]
    refine K_if_eq (tgt := 37) (dt_at dtX12_trains 12 rfl) (by decide) (by first | assumption | exact ⟨by omega, by omega⟩) (fun c8 => ?_) (fun c8 => absurd c8 (by omega))
    refine K_iconst (dt_at dtX12_trains 20 rfl) ?_
    refine K_iconst (dt_at dtX12_trains 21 rfl) ?_
    refine K_callV (M' := mX12_right) (a := 0) (ci := 12) (As := [vi 0, vi 2]) (st := []) (dt_at dtX12_trains 22 rfl) (sX12_right_f Gu1.2.2.2 (by decide)) (show TT 0 = (0, 12) from rfl) rfl wL_X12_260 vX12_right rfl npX12_right (by decide) (by decide) (Nat.le_of_ble_eq_true rfl) (by decide) (by decide) GK_E (fun v9 hc4 hq => ?_) (fun E h9 hq => by cases hq.1)
    have hqq5 := hq
    obtain ⟨e9q5, e8q5⟩ := hqq5
    obtain ⟨iq5, fq5, aq5, rq5⟩ := sI_fx e8q5
    have Bq5 : FQ h hc4 := FQ_tr Gu1.2.1 (FQ_I e8q5 rfl Gu1.2.1.2.2.2.2)
    cases e9q5
    show K mX12_trains _ _ 0 0 42 [(0, vr 0), (1, vi p), (2, vi d), (3, vi x)] [vi 0] hc4
    refine K_if_ne (tgt := 47) (dt_at dtX12_trains 23 rfl) (by decide) (by first | assumption | exact ⟨by omega, by omega⟩) (fun c9 => absurd c9 (by omega)) (fun c9 => ?_)
    refine K_iconst (dt_at dtX12_trains 24 rfl) ?_
    exact K_iret (dt_at dtX12_trains 25 rfl) rfl rfl (by decide) (by decide) ⟨rfl, Bq5, iq5⟩
set_option maxHeartbeats 4000000 in
set_option maxRecDepth 100000 in
theorem l2_X12_trains {Z : CT → State → Prop} {h : HP} {S : HS} {f : Int → Int} {x p al : Int} {n y : Nat} (Q0 : MAsk h S f) (hn : 1 ≤ n ∧ n ≤ 5) (hx : 0 ≤ x ∧ x ≤ 10) (hy : y < 32) (kx : ∀ h2, MT h h2 S f (rwW S f y n) → K mX12_trains GK Z 0 0 129 [(6, vi (vwW x y n)), (5, vi (y : Int)), (4, vi al), (0, vr 0), (1, vi p), (2, vi (n : Int)), (3, vi x)] [] h2) : ∀ (dd k : Nat) (hh : HP), k + dd = n → MT h hh S f (rwW S f y k) → K mX12_trains GK Z 0 0 71 [(7, vi (k : Int)), (6, vi (vwW x y k)), (5, vi (y : Int)), (4, vi al), (0, vr 0), (1, vi p), (2, vi (n : Int)), (3, vi x)] [] hh := by
  intro dd
  induction dd with
  | zero =>
    intro k hh hk G
    have hB := Q0.1.1
    have hNt := hB.1
    have hNp := hB.2.1
    have R := Q0.2.2.2.2
    have hT := R.1
    have hW := hT.1
    have ek : k = n := by omega
    rw [← ek] at kx
    refine K_iload (dt_at dtX12_trains 41 rfl) rfl ?_
    refine K_iload_n (dt_at dtX12_trains 42 rfl) rfl rfl ?_
    refine K_icmp_ge (tgt := 129) (dt_at dtX12_trains 43 rfl) (by decide) (by first | assumption | exact ⟨by omega, by omega⟩) (by first | assumption | exact ⟨by omega, by omega⟩) (fun c1 => ?_) (fun c1 => absurd c1 (by omega))
    exact K_pk [1, 2, 3, 4, 5, 6, 7] rfl (by rw [← ek]; exact kx hh G)
  | succ dd ih =>
    intro k hh hk G
    have hB := Q0.1.1
    have hNt := hB.1
    have hNp := hB.2.1
    have R := Q0.2.2.2.2
    have hT := R.1
    have hW := hT.1
    obtain ⟨a1, a2, a3, a4, a5⟩ := rwW_ok hB R y k (by omega)
    have vb := vw_b5 hx y (k := k) (by omega)
    refine K_iload (dt_at dtX12_trains 41 rfl) rfl ?_
    refine K_iload_n (dt_at dtX12_trains 42 rfl) rfl rfl ?_
    refine K_icmp_ge (tgt := 129) (dt_at dtX12_trains 43 rfl) (by decide) (by first | assumption | exact ⟨by omega, by omega⟩) (by first | assumption | exact ⟨by omega, by omega⟩) (fun c1 => absurd c1 (by omega)) (fun c1 => ?_)
    refine K_aload_n (dt_at dtX12_trains 44 rfl) rfl rfl ?_
    refine K_iload (dt_at dtX12_trains 45 rfl) rfl ?_
    refine K_iload (dt_at dtX12_trains 46 rfl) rfl ?_
    refine K_ishr (dt_at dtX12_trains 47 rfl) ?_
    refine K_iconst (dt_at dtX12_trains 48 rfl) ?_
    refine K_iand (dt_at dtX12_trains 49 rfl) ?_
    refine K_iconst (dt_at dtX12_trains 50 rfl) ?_
    refine K_icmp_ne (tgt := 93) (dt_at dtX12_trains 51 rfl) (by decide) (bAnd32 _ _) (by first | assumption | exact ⟨by omega, by omega⟩) (fun c2 => ?_) (fun c2 => ?_)
    · refine K_iconst (dt_at dtX12_trains 54 rfl) ?_
      have hb : bW y k = false := decide_eq_false (by assumption)
      refine K_putI (a := 0) (ci := 12) (k := 49) (dt_at dtX12_trains 55 rfl) (show TT 0 = (0, 12) from rfl) rfl (by decide) wF_X12_325 rfl (Or.inr rfl) (by decide) (by decide) ?_
      obtain ⟨hu1, eu1⟩ : ∃ z, z = sI hh 0 49 0 := ⟨_, rfl⟩
      rw [← eu1]
      have i49u1 := (sI_fx eu1).1
      have Gu1 : MT h hu1 S f (rwW S f y k) := MT_49 G eu1
      refine K_iload (dt_at dtX12_trains 56 rfl) rfl ?_
      refine K_aload_n (dt_at dtX12_trains 57 rfl) rfl rfl ?_
      refine K_get (a := 0) (ci := 12) (k := 49) (v := vi 0) (dt_at dtX12_trains 58 rfl) (show TT 0 = (0, 12) from rfl) rfl (by decide) wF_X12_325 (by show vi (hI hu1 0 49) = vi 0; rw [i49u1]) ?_
      refine K_if_eq (tgt := 110) (dt_at dtX12_trains 59 rfl) (by decide) (by first | assumption | exact ⟨by omega, by omega⟩) (fun c3 => ?_) (fun c3 => absurd c3 (by omega))
      refine K_bipush (dt_at dtX12_trains 62 rfl) (by decide) ?_
      refine K_iload_n (dt_at dtX12_trains 63 rfl) rfl rfl ?_
      refine K_isub (dt_at dtX12_trains 64 rfl) ?_
      refine K_imul (dt_at dtX12_trains 65 rfl) ?_
      refine K_istore (ls' := [(6, vi ((vwW x y k) * (10 - x))), (7, vi (k : Int)), (5, vi (y : Int)), (4, vi al), (0, vr 0), (1, vi p), (2, vi (n : Int)), (3, vi x)]) (dt_at dtX12_trains 66 rfl) (by decide) rfl ?_
      refine K_aload_n (dt_at dtX12_trains 67 rfl) rfl rfl ?_
      refine K_bipush (dt_at dtX12_trains 68 rfl) (by decide) ?_
      refine K_callV (M' := mX12_dayGoes) (a := 0) (ci := 12) (As := [vi 77]) (st := []) (dt_at dtX12_trains 69 rfl) (sX12_dayGoes (MT_D7 Gu1) a1 a2 a3 a4 i49u1) (show TT 0 = (0, 12) from rfl) rfl wL_X12_334 vX12_dayGoes rfl npX12_dayGoes (by decide) (by decide) (Nat.le_of_ble_eq_true rfl) (by decide) (by decide) GK_E (fun v9 hc2 hq => ?_) (fun E h9 hq => by cases hq.1)
      have hqq3 := hq
      obtain ⟨e9q3, dq3, -, iq3⟩ := hqq3
      have Gq3 : MT h hc2 S f (rwW S f y (k + 1)) := by rw [show rwW S f y (k + 1) = dayF S (rwW S f y k) from if_neg (by rw [hb]; decide)]; exact MT_day Gu1 dq3
      cases e9q3
      show K mX12_trains _ _ 0 0 123 [(6, vi ((vwW x y k) * (10 - x))), (7, vi (k : Int)), (5, vi (y : Int)), (4, vi al), (0, vr 0), (1, vi p), (2, vi (n : Int)), (3, vi x)] [] hc2
      refine K_iinc (ls' := [(7, vi ((k : Int) + 1)), (6, vi ((vwW x y k) * (10 - x))), (5, vi (y : Int)), (4, vi al), (0, vr 0), (1, vi p), (2, vi (n : Int)), (3, vi x)]) (dt_at dtX12_trains 70 rfl) rfl (by decide) rfl ?_
      refine K_goto (tgt := 71) (dt_at dtX12_trains 71 rfl) (by decide) ?_
      refine K_pk [0, 1, 2, 3, 4, 5, 6, 7] (ls' := [(7, vi ((k : Int) + 1)), (6, vi ((vwW x y k) * (10 - x))), (5, vi (y : Int)), (4, vi al), (0, vr 0), (1, vi p), (2, vi (n : Int)), (3, vi x)]) rfl ?_
      exact K_cg (ls' := [(7, vi ((k + 1 : Nat) : Int)), (6, vi (vwW x y (k + 1))), (5, vi (y : Int)), (4, vi al), (0, vr 0), (1, vi p), (2, vi (n : Int)), (3, vi x)]) (h' := hc2) (by rw [show vwW x y (k + 1) = vwW x y k * (if bW y k then x else 10 - x) from rfl, hb, if_neg (by decide)]; rfl) rfl (ih (k + 1) hc2 (by omega) Gq3)
    · refine K_iconst (dt_at dtX12_trains 52 rfl) ?_
      refine K_goto (tgt := 94) (dt_at dtX12_trains 53 rfl) (by decide) ?_
      have hb : bW y k = true := decide_eq_true (by assumption)
      refine K_putI (a := 0) (ci := 12) (k := 49) (dt_at dtX12_trains 55 rfl) (show TT 0 = (0, 12) from rfl) rfl (by decide) wF_X12_325 rfl (Or.inr rfl) (by decide) (by decide) ?_
      obtain ⟨hu4, eu4⟩ : ∃ z, z = sI hh 0 49 1 := ⟨_, rfl⟩
      rw [← eu4]
      have i49u4 := (sI_fx eu4).1
      have Gu4 : MT h hu4 S f (rwW S f y k) := MT_49 G eu4
      refine K_iload (dt_at dtX12_trains 56 rfl) rfl ?_
      refine K_aload_n (dt_at dtX12_trains 57 rfl) rfl rfl ?_
      refine K_get (a := 0) (ci := 12) (k := 49) (v := vi 1) (dt_at dtX12_trains 58 rfl) (show TT 0 = (0, 12) from rfl) rfl (by decide) wF_X12_325 (by show vi (hI hu4 0 49) = vi 1; rw [i49u4]) ?_
      refine K_if_eq (tgt := 110) (dt_at dtX12_trains 59 rfl) (by decide) (by first | assumption | exact ⟨by omega, by omega⟩) (fun c4 => absurd c4 (by omega)) (fun c4 => ?_)
      refine K_iload_n (dt_at dtX12_trains 60 rfl) rfl rfl ?_
      refine K_goto (tgt := 114) (dt_at dtX12_trains 61 rfl) (by decide) ?_
      refine K_imul (dt_at dtX12_trains 65 rfl) ?_
      refine K_istore (ls' := [(6, vi ((vwW x y k) * x)), (7, vi (k : Int)), (5, vi (y : Int)), (4, vi al), (0, vr 0), (1, vi p), (2, vi (n : Int)), (3, vi x)]) (dt_at dtX12_trains 66 rfl) (by decide) rfl ?_
      refine K_aload_n (dt_at dtX12_trains 67 rfl) rfl rfl ?_
      refine K_bipush (dt_at dtX12_trains 68 rfl) (by decide) ?_
      refine K_callV (M' := mX12_dayGoes) (a := 0) (ci := 12) (As := [vi 77]) (st := []) (dt_at dtX12_trains 69 rfl) (sX12_dayGoes_s (MT_D7 Gu4) a1 i49u4) (show TT 0 = (0, 12) from rfl) rfl wL_X12_334 vX12_dayGoes rfl npX12_dayGoes (by decide) (by decide) (Nat.le_of_ble_eq_true rfl) (by decide) (by decide) GK_E (fun v9 hc5 hq => ?_) (fun E h9 hq => by cases hq.1)
      have hqq6 := hq
      obtain ⟨e9q6, dq6, iq6⟩ := hqq6
      have Gq6 : MT h hc5 S f (rwW S f y (k + 1)) := by rw [show rwW S f y (k + 1) = upI (rwW S f y k) 0 (rwW S f y k 0 + 1) from if_pos hb]; exact MT_day Gu4 dq6
      cases e9q6
      show K mX12_trains _ _ 0 0 123 [(6, vi ((vwW x y k) * x)), (7, vi (k : Int)), (5, vi (y : Int)), (4, vi al), (0, vr 0), (1, vi p), (2, vi (n : Int)), (3, vi x)] [] hc5
      refine K_iinc (ls' := [(7, vi ((k : Int) + 1)), (6, vi ((vwW x y k) * x)), (5, vi (y : Int)), (4, vi al), (0, vr 0), (1, vi p), (2, vi (n : Int)), (3, vi x)]) (dt_at dtX12_trains 70 rfl) rfl (by decide) rfl ?_
      refine K_goto (tgt := 71) (dt_at dtX12_trains 71 rfl) (by decide) ?_
      refine K_pk [0, 1, 2, 3, 4, 5, 6, 7] (ls' := [(7, vi ((k : Int) + 1)), (6, vi ((vwW x y k) * x)), (5, vi (y : Int)), (4, vi al), (0, vr 0), (1, vi p), (2, vi (n : Int)), (3, vi x)]) rfl ?_
      exact K_cg (ls' := [(7, vi ((k + 1 : Nat) : Int)), (6, vi (vwW x y (k + 1))), (5, vi (y : Int)), (4, vi al), (0, vr 0), (1, vi p), (2, vi (n : Int)), (3, vi x)]) (h' := hc5) (by rw [show vwW x y (k + 1) = vwW x y k * (if bW y k then x else 10 - x) from rfl, hb, if_pos rfl]; rfl) rfl (ih (k + 1) hc5 (by omega) Gq6)
set_option maxHeartbeats 4000000 in
set_option maxRecDepth 100000 in
theorem l1_X12_trains {h : HP} {S : HS} {f : Int → Int} {x : Int} {n p : Nat} (Q0 : MAsk h S f) (hp : p < sNp S) (hn : 1 ≤ n ∧ n ≤ 5) (hx : 0 ≤ x ∧ x ≤ 10) : ∀ (dd k : Nat) (hh : HP), k + dd = 2 ^ n → (∃ g, MT h hh S f g) → K mX12_trains GK (ZK (fun o h' => o = .inl (some (vi (wyN S f (p : Int) x n 0))) ∧ FQ h h' ∧ hI h' 0 0 = 0) 0 0) 0 0 53 [(5, vi (k : Int)), (4, vi (itN (fun y v => v + (if rwW S f y n (1 + (p : Int)) = 0 then vwW x y n else 0)) 0 k)), (0, vr 0), (1, vi (p : Int)), (2, vi (n : Int)), (3, vi x)] [] hh := by
  intro dd
  induction dd with
  | zero =>
    intro k hh hk ge
    have hB := Q0.1.1
    have hNt := hB.1
    have hNp := hB.2.1
    have R := Q0.2.2.2.2
    have hT := R.1
    have hW := hT.1
    obtain ⟨g, G⟩ := ge
    have ek : k = 2 ^ n := by omega
    have sh : bShl 1 (n : Int) = ((2 ^ n : Nat) : Int) := by rcases (show n = 1 ∨ n = 2 ∨ n = 3 ∨ n = 4 ∨ n = 5 by omega) with rfl | rfl | rfl | rfl | rfl <;> decide
    have p5 : 2 ^ n ≤ 32 := by rcases (show n = 1 ∨ n = 2 ∨ n = 3 ∨ n = 4 ∨ n = 5 by omega) with rfl | rfl | rfl | rfl | rfl <;> decide
    refine K_iload (dt_at dtX12_trains 30 rfl) rfl ?_
    refine K_iconst (dt_at dtX12_trains 31 rfl) ?_
    refine K_iload_n (dt_at dtX12_trains 32 rfl) rfl rfl ?_
    refine K_ishl (dt_at dtX12_trains 33 rfl) ?_
    rw [sh]
    refine K_icmp_ge (tgt := 160) (dt_at dtX12_trains 34 rfl) (by decide) (by first | assumption | exact ⟨by omega, by omega⟩) (by first | assumption | exact ⟨by omega, by omega⟩) (fun c1 => ?_) (fun c1 => absurd c1 (by omega))
    refine K_aload_n (dt_at dtX12_trains 89 rfl) rfl rfl ?_
    refine K_iconst (dt_at dtX12_trains 90 rfl) ?_
    refine K_putI (a := 0) (ci := 12) (k := 49) (dt_at dtX12_trains 91 rfl) (show TT 0 = (0, 12) from rfl) rfl (by decide) wF_X12_325 rfl (Or.inr rfl) (by decide) (by decide) ?_
    obtain ⟨hu1, eu1⟩ : ∃ z, z = sI hh 0 49 0 := ⟨_, rfl⟩
    rw [← eu1]
    have i49u1 := (sI_fx eu1).1
    have Gu1 : MT h hu1 S f g := MT_49 G eu1
    refine K_iload (dt_at dtX12_trains 92 rfl) rfl ?_
    obtain ⟨F9, t9⟩ := MT_end G eu1
    exact K_iret (dt_at dtX12_trains 93 rfl) rfl rfl (by decide) (by decide) ⟨by rw [ek, trains_eq hB R hp (by omega)], F9, t9⟩
  | succ dd ih =>
    intro k hh hk ge
    have hB := Q0.1.1
    have hNt := hB.1
    have hNp := hB.2.1
    have R := Q0.2.2.2.2
    have hT := R.1
    have hW := hT.1
    obtain ⟨g, G⟩ := ge
    have sh : bShl 1 (n : Int) = ((2 ^ n : Nat) : Int) := by rcases (show n = 1 ∨ n = 2 ∨ n = 3 ∨ n = 4 ∨ n = 5 by omega) with rfl | rfl | rfl | rfl | rfl <;> decide
    have p5 : 2 ^ n ≤ 32 := by rcases (show n = 1 ∨ n = 2 ∨ n = 3 ∨ n = 4 ∨ n = 5 by omega) with rfl | rfl | rfl | rfl | rfl <;> decide
    refine K_iload (dt_at dtX12_trains 30 rfl) rfl ?_
    refine K_iconst (dt_at dtX12_trains 31 rfl) ?_
    refine K_iload_n (dt_at dtX12_trains 32 rfl) rfl rfl ?_
    refine K_ishl (dt_at dtX12_trains 33 rfl) ?_
    rw [sh]
    refine K_icmp_ge (tgt := 160) (dt_at dtX12_trains 34 rfl) (by decide) (by first | assumption | exact ⟨by omega, by omega⟩) (by first | assumption | exact ⟨by omega, by omega⟩) (fun c1 => absurd c1 (by omega)) (fun c1 => ?_)
    refine K_iconst (dt_at dtX12_trains 35 rfl) ?_
    refine K_istore (ls' := [(6, vi 1), (5, vi (k : Int)), (4, vi (itN (fun y v => v + (if rwW S f y n (1 + (p : Int)) = 0 then vwW x y n else 0)) 0 k)), (0, vr 0), (1, vi (p : Int)), (2, vi (n : Int)), (3, vi x)]) (dt_at dtX12_trains 36 rfl) (by decide) rfl ?_
    refine K_aload_n (dt_at dtX12_trains 37 rfl) rfl rfl ?_
    refine K_callV (M' := mX12_tries) (a := 0) (ci := 12) (As := []) (st := []) (dt_at dtX12_trains 38 rfl) (sX12_tries) (show TT 0 = (0, 12) from rfl) rfl wL_X12_397 vX12_tries rfl npX12_tries (by decide) (by decide) (Nat.le_of_ble_eq_true rfl) (by decide) (by decide) GK_E (fun v9 hc1 hq => ?_) (fun E h9 hq => by cases hq.1)
    have hqq2 := hq
    obtain ⟨e9q2, t1q2, t2q2, t3q2, t4q2⟩ := hqq2
    have Gq2 := MT_try G t1q2 t2q2 t3q2 t4q2
    cases e9q2
    show K mX12_trains _ _ 0 0 68 [(6, vi 1), (5, vi (k : Int)), (4, vi (itN (fun y v => v + (if rwW S f y n (1 + (p : Int)) = 0 then vwW x y n else 0)) 0 k)), (0, vr 0), (1, vi (p : Int)), (2, vi (n : Int)), (3, vi x)] [] hc1
    refine K_iconst (dt_at dtX12_trains 39 rfl) ?_
    refine K_istore (ls' := [(7, vi 0), (6, vi 1), (5, vi (k : Int)), (4, vi (itN (fun y v => v + (if rwW S f y n (1 + (p : Int)) = 0 then vwW x y n else 0)) 0 k)), (0, vr 0), (1, vi (p : Int)), (2, vi (n : Int)), (3, vi x)]) (dt_at dtX12_trains 40 rfl) (by decide) rfl ?_
    refine K_pk [0, 1, 2, 3, 4, 5, 6, 7] rfl (l2_X12_trains (y := k) Q0 hn hx (by omega) (fun h2 G2 => ?_) n 0 hc1 (by omega) Gq2)
    obtain ⟨a1, a2, a3, a4, a5⟩ := rwW_ok hB R k n (by omega)
    have ia := in_at (g := rwW S f k n) (p := (p : Int)) hB ⟨by omega, by omega⟩
    refine K_iload (dt_at dtX12_trains 72 rfl) rfl ?_
    refine K_aload_n (dt_at dtX12_trains 73 rfl) rfl rfl ?_
    refine K_bipush (dt_at dtX12_trains 74 rfl) (by decide) ?_
    refine K_callV (M' := mX12_inOnes) (a := 0) (ci := 12) (As := [vi 77]) (st := [vi (itN (fun y v => v + (if rwW S f y n (1 + (p : Int)) = 0 then vwW x y n else 0)) 0 k)]) (dt_at dtX12_trains 75 rfl) (sX12_inOnes (MT_D7 G2) a1.1) (show TT 0 = (0, 12) from rfl) rfl wL_X12_350 vX12_inOnes rfl npX12_inOnes (by decide) (by decide) (Nat.le_of_ble_eq_true rfl) (by decide) (by decide) GK_E (fun v9 h9 hq => ?_) (fun E h9 hq => by cases hq.1)
    obtain ⟨e9, e8⟩ := hq
    cases e9
    rw [e8]
    show K mX12_trains _ _ 0 0 137 [(6, vi (vwW x k n)), (5, vi (k : Int)), (4, vi (itN (fun y v => v + (if rwW S f y n (1 + (p : Int)) = 0 then vwW x y n else 0)) 0 k)), (0, vr 0), (1, vi (p : Int)), (2, vi (n : Int)), (3, vi x)] [vi (bitN (fun j => decide ((rwW S f k n) (1 + (j : Int)) = 0)) (sNp S)), vi (itN (fun y v => v + (if rwW S f y n (1 + (p : Int)) = 0 then vwW x y n else 0)) 0 k)] h2
    refine K_iload_n (dt_at dtX12_trains 76 rfl) rfl rfl ?_
    refine K_ishr (dt_at dtX12_trains 77 rfl) ?_
    refine K_iconst (dt_at dtX12_trains 78 rfl) ?_
    refine K_iand (dt_at dtX12_trains 79 rfl) ?_
    refine K_iconst (dt_at dtX12_trains 80 rfl) ?_
    refine K_icmp_ne (tgt := 150) (dt_at dtX12_trains 81 rfl) (by decide) (bAnd32 _ _) (by first | assumption | exact ⟨by omega, by omega⟩) (fun c2 => ?_) (fun c2 => ?_)
    · refine K_iconst (dt_at dtX12_trains 84 rfl) ?_
      refine K_iadd (dt_at dtX12_trains 85 rfl) ?_
      refine K_istore (ls' := [(4, vi ((itN (fun y v => v + (if rwW S f y n (1 + (p : Int)) = 0 then vwW x y n else 0)) 0 k) + 0)), (6, vi (vwW x k n)), (5, vi (k : Int)), (0, vr 0), (1, vi (p : Int)), (2, vi (n : Int)), (3, vi x)]) (dt_at dtX12_trains 86 rfl) (by decide) rfl ?_
      refine K_iinc (ls' := [(5, vi ((k : Int) + 1)), (4, vi ((itN (fun y v => v + (if rwW S f y n (1 + (p : Int)) = 0 then vwW x y n else 0)) 0 k) + 0)), (6, vi (vwW x k n)), (0, vr 0), (1, vi (p : Int)), (2, vi (n : Int)), (3, vi x)]) (dt_at dtX12_trains 87 rfl) rfl (by decide) rfl ?_
      refine K_goto (tgt := 53) (dt_at dtX12_trains 88 rfl) (by decide) ?_
      refine K_pk [0, 1, 3, 4, 5, 6] (ls' := [(5, vi ((k : Int) + 1)), (4, vi ((itN (fun y v => v + (if rwW S f y n (1 + (p : Int)) = 0 then vwW x y n else 0)) 0 k) + 0)), (0, vr 0), (1, vi (p : Int)), (2, vi (n : Int)), (3, vi x)]) rfl ?_
      have hz : ¬ rwW S f k n (1 + (p : Int)) = 0 := by intro w; rw [if_pos w] at ia; contradiction
      exact K_cg (ls' := [(5, vi ((k + 1 : Nat) : Int)), (4, vi (itN (fun y v => v + (if rwW S f y n (1 + (p : Int)) = 0 then vwW x y n else 0)) 0 (k + 1))), (0, vr 0), (1, vi (p : Int)), (2, vi (n : Int)), (3, vi x)]) (h' := h2) (by rw [show (itN (fun y v => v + (if rwW S f y n (1 + (p : Int)) = 0 then vwW x y n else 0)) 0 (k + 1)) = (itN (fun y v => v + (if rwW S f y n (1 + (p : Int)) = 0 then vwW x y n else 0)) 0 k) + (if rwW S f k n (1 + (p : Int)) = 0 then vwW x k n else 0) from rfl, if_neg hz]; rfl) rfl (ih (k + 1) h2 (by omega) ⟨_, G2⟩)
    · refine K_iload (dt_at dtX12_trains 82 rfl) rfl ?_
      refine K_goto (tgt := 151) (dt_at dtX12_trains 83 rfl) (by decide) ?_
      refine K_iadd (dt_at dtX12_trains 85 rfl) ?_
      refine K_istore (ls' := [(4, vi ((itN (fun y v => v + (if rwW S f y n (1 + (p : Int)) = 0 then vwW x y n else 0)) 0 k) + (vwW x k n))), (6, vi (vwW x k n)), (5, vi (k : Int)), (0, vr 0), (1, vi (p : Int)), (2, vi (n : Int)), (3, vi x)]) (dt_at dtX12_trains 86 rfl) (by decide) rfl ?_
      refine K_iinc (ls' := [(5, vi ((k : Int) + 1)), (4, vi ((itN (fun y v => v + (if rwW S f y n (1 + (p : Int)) = 0 then vwW x y n else 0)) 0 k) + (vwW x k n))), (6, vi (vwW x k n)), (0, vr 0), (1, vi (p : Int)), (2, vi (n : Int)), (3, vi x)]) (dt_at dtX12_trains 87 rfl) rfl (by decide) rfl ?_
      refine K_goto (tgt := 53) (dt_at dtX12_trains 88 rfl) (by decide) ?_
      refine K_pk [0, 1, 3, 4, 5, 6] (ls' := [(5, vi ((k : Int) + 1)), (4, vi ((itN (fun y v => v + (if rwW S f y n (1 + (p : Int)) = 0 then vwW x y n else 0)) 0 k) + (vwW x k n))), (0, vr 0), (1, vi (p : Int)), (2, vi (n : Int)), (3, vi x)]) rfl ?_
      have hz : rwW S f k n (1 + (p : Int)) = 0 := by by_cases w : rwW S f k n (1 + (p : Int)) = 0; exact w; rw [if_neg w] at ia; omega
      exact K_cg (ls' := [(5, vi ((k + 1 : Nat) : Int)), (4, vi (itN (fun y v => v + (if rwW S f y n (1 + (p : Int)) = 0 then vwW x y n else 0)) 0 (k + 1))), (0, vr 0), (1, vi (p : Int)), (2, vi (n : Int)), (3, vi x)]) (h' := h2) (by rw [show (itN (fun y v => v + (if rwW S f y n (1 + (p : Int)) = 0 then vwW x y n else 0)) 0 (k + 1)) = (itN (fun y v => v + (if rwW S f y n (1 + (p : Int)) = 0 then vwW x y n else 0)) 0 k) + (if rwW S f k n (1 + (p : Int)) = 0 then vwW x k n else 0) from rfl, if_pos hz]; rfl) rfl (ih (k + 1) h2 (by omega) ⟨_, G2⟩)
set_option maxHeartbeats 4000000 in
set_option maxRecDepth 100000 in
theorem sX12_trains {h : HP} {S : HS} {f : Int → Int} {x : Int} {n p : Nat} (Q0 : MAsk h S f) (hp : p < sNp S) (hn : 1 ≤ n ∧ n ≤ 5) (hx : 0 ≤ x ∧ x ≤ 10) : SpecK mX12_trains [vr 0, vi (p : Int), vi (n : Int), vi x] h (fun o h' => o = .inl (some (vi (wyN S f (p : Int) x n 0))) ∧ FQ h h' ∧ hI h' 0 0 = 0) := by
  refine Spec_of (by decide +kernel) (Nat.le_of_ble_eq_true rfl) ?_
  have hB := Q0.1.1
  have hNt := hB.1
  have hNp := hB.2.1
  have R := Q0.2.2.2.2
  have hT := R.1
  have hW := hT.1
  refine K_aload_n (dt_at dtX12_trains 0 rfl) rfl rfl ?_
  refine K_iconst (dt_at dtX12_trains 1 rfl) ?_
  refine K_putI (a := 0) (ci := 12) (k := 0) (dt_at dtX12_trains 2 rfl) (show TT 0 = (0, 12) from rfl) rfl (by decide) wF_X12_105 rfl (Or.inl rfl) rfl rfl ?_
  obtain ⟨hu1, eu1⟩ : ∃ z, z = sI h 0 0 0 := ⟨_, rfl⟩
  rw [← eu1]
  obtain ⟨iu1, fu1, au1, ru1⟩ := sI_fx eu1
  have Gu1 := MG_0 Q0 eu1
  refine K_aload_n (dt_at dtX12_trains 3 rfl) rfl rfl ?_
  refine K_iload_n (dt_at dtX12_trains 4 rfl) rfl rfl ?_
  refine K_callV (M' := mX12_isPerson) (a := 0) (ci := 12) (As := [vi (p : Int)]) (st := []) (dt_at dtX12_trains 5 rfl) (sX12_isPerson_t (MD_np (MG_D0 Gu1)) hNp Gu1.2.2.2 (by omega)) (show TT 0 = (0, 12) from rfl) rfl wL_X12_375 vX12_isPerson rfl npX12_isPerson (by decide) (by decide) (Nat.le_of_ble_eq_true rfl) (by decide) (by decide) GK_E (fun v9 h9 hq => ?_) (fun E h9 hq => by cases hq.1)
  obtain ⟨e9, e8⟩ := hq
  cases e9
  rw [e8]
  show K mX12_trains _ _ 0 0 10 [(0, vr 0), (1, vi (p : Int)), (2, vi (n : Int)), (3, vi x)] [vi 1] hu1
  refine K_if_eq (tgt := 45) (dt_at dtX12_trains 6 rfl) (by decide) (by first | assumption | exact ⟨by omega, by omega⟩) (fun c1 => absurd c1 (by omega)) (fun c1 => ?_)
  refine K_aload_n (dt_at dtX12_trains 7 rfl) rfl rfl ?_
  refine K_iload_n (dt_at dtX12_trains 8 rfl) rfl rfl ?_
  refine K_iconst (dt_at dtX12_trains 9 rfl) ?_
  refine K_iconst (dt_at dtX12_trains 10 rfl) ?_
  refine K_callS (M' := mX12_within) (As := [vi (n : Int), vi 1, vi 5]) (st := [vr 0]) (dt_at dtX12_trains 11 rfl) (sX12_within (by first | assumption | exact ⟨by omega, by omega⟩) ⟨by omega, by omega⟩ ⟨by omega, by omega⟩) wL_X12_346 vX12_within rfl npX12_within (by decide) (by decide) (Nat.le_of_ble_eq_true rfl) (by decide) (by decide) GK_E (fun v9 h9 hq => ?_) (fun E h9 hq => by cases hq.1)
  obtain ⟨e9, e8⟩ := hq
  cases e9
  rw [e8]
  show K mX12_trains _ _ 0 0 20 [(0, vr 0), (1, vi (p : Int)), (2, vi (n : Int)), (3, vi x)] [vi (if 1 ≤ (n : Int) ∧ (n : Int) ≤ 5 then 1 else 0), vr 0] hu1
  by_cases z2 : 1 ≤ (n : Int) ∧ (n : Int) ≤ 5
  · rw [if_pos z2]
    refine K_if_eq (tgt := 37) (dt_at dtX12_trains 12 rfl) (by decide) (by first | assumption | exact ⟨by omega, by omega⟩) (fun c3 => absurd c3 (by omega)) (fun c3 => ?_)
    refine K_iload_n (dt_at dtX12_trains 13 rfl) rfl rfl ?_
    refine K_iconst (dt_at dtX12_trains 14 rfl) ?_
    refine K_bipush (dt_at dtX12_trains 15 rfl) (by decide) ?_
    refine K_callS (M' := mX12_within) (As := [vi x, vi 0, vi 10]) (st := [vr 0]) (dt_at dtX12_trains 16 rfl) (sX12_within (by first | assumption | exact ⟨by omega, by omega⟩) ⟨by omega, by omega⟩ ⟨by omega, by omega⟩) wL_X12_346 vX12_within rfl npX12_within (by decide) (by decide) (Nat.le_of_ble_eq_true rfl) (by decide) (by decide) GK_E (fun v9 h9 hq => ?_) (fun E h9 hq => by cases hq.1)
    obtain ⟨e9, e8⟩ := hq
    cases e9
    rw [e8]
    show K mX12_trains _ _ 0 0 30 [(0, vr 0), (1, vi (p : Int)), (2, vi (n : Int)), (3, vi x)] [vi (if 0 ≤ x ∧ x ≤ 10 then 1 else 0), vr 0] hu1
    by_cases z4 : 0 ≤ x ∧ x ≤ 10
    · rw [if_pos z4]
      refine K_if_eq (tgt := 37) (dt_at dtX12_trains 17 rfl) (by decide) (by first | assumption | exact ⟨by omega, by omega⟩) (fun c5 => absurd c5 (by omega)) (fun c5 => ?_)
      refine K_iconst (dt_at dtX12_trains 18 rfl) ?_
      refine K_goto (tgt := 38) (dt_at dtX12_trains 19 rfl) (by decide) ?_
      refine K_iconst (dt_at dtX12_trains 21 rfl) ?_
      refine K_callV (M' := mX12_right) (a := 0) (ci := 12) (As := [vi 1, vi 2]) (st := []) (dt_at dtX12_trains 22 rfl) (sX12_right_t Gu1.2.2.2) (show TT 0 = (0, 12) from rfl) rfl wL_X12_260 vX12_right rfl npX12_right (by decide) (by decide) (Nat.le_of_ble_eq_true rfl) (by decide) (by decide) GK_E (fun v9 h9 hq => ?_) (fun E h9 hq => by cases hq.1)
      obtain ⟨e9, e8⟩ := hq
      cases e9
      rw [e8]
      show K mX12_trains _ _ 0 0 42 [(0, vr 0), (1, vi (p : Int)), (2, vi (n : Int)), (3, vi x)] [vi 1] hu1
      refine K_if_ne (tgt := 47) (dt_at dtX12_trains 23 rfl) (by decide) (by first | assumption | exact ⟨by omega, by omega⟩) (fun c6 => ?_) (fun c6 => absurd c6 (by omega))
      refine K_iconst (dt_at dtX12_trains 26 rfl) ?_
      refine K_istore (ls' := [(4, vi 0), (0, vr 0), (1, vi (p : Int)), (2, vi (n : Int)), (3, vi x)]) (dt_at dtX12_trains 27 rfl) (by decide) rfl ?_
      refine K_iconst (dt_at dtX12_trains 28 rfl) ?_
      refine K_istore (ls' := [(5, vi 0), (4, vi 0), (0, vr 0), (1, vi (p : Int)), (2, vi (n : Int)), (3, vi x)]) (dt_at dtX12_trains 29 rfl) (by decide) rfl ?_
      exact K_pk [0, 1, 2, 3, 4, 5] rfl (l1_X12_trains Q0 hp hn hx (2 ^ n) 0 hu1 (by omega) ⟨_, MT_G Gu1⟩)
    · rw [if_neg z4]
      refine K_if_eq (tgt := 37) (dt_at dtX12_trains 17 rfl) (by decide) (by first | assumption | exact ⟨by omega, by omega⟩) (fun c7 => ?_) (fun c7 => absurd c7 (by omega))
      refine K_iconst (dt_at dtX12_trains 20 rfl) ?_
      refine K_iconst (dt_at dtX12_trains 21 rfl) ?_
      exact (by omega : False).elim
  · rw [if_neg z2]
    refine K_if_eq (tgt := 37) (dt_at dtX12_trains 12 rfl) (by decide) (by first | assumption | exact ⟨by omega, by omega⟩) (fun c8 => ?_) (fun c8 => absurd c8 (by omega))
    refine K_iconst (dt_at dtX12_trains 20 rfl) ?_
    refine K_iconst (dt_at dtX12_trains 21 rfl) ?_
    exact (by omega : False).elim
