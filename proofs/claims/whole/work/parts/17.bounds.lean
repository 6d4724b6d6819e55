/-! bounds along a day -/
theorem unI_ok {B : Int} {f : Int → Int} {c : Int} (h : rT B f) (hc : 0 ≤ c ∧ c < 7) : ∀ k : Nat, k ≤ 6 → rT B (unI f c k) ∧ ∀ i, i < 29 → unI f c k i = f i
  | 0, _ => ⟨h, fun _ _ => rfl⟩
  | k + 1, hk => by
    obtain ⟨h1, h2⟩ := unI_ok h hc k (by omega)
    have hin := rT_in h1 hc (t := (k : Int)) ⟨by omega, by omega⟩
    refine ⟨?_, fun i hi => ?_⟩
    · exact mvC_rT h1 hc ⟨by omega, by omega⟩ (by omega) (by omega)
    · show mvC (unI f c k) c k _ i = f i
      rw [mvC_lo hc ⟨by omega, by omega⟩ hi]
      exact h2 i hi
theorem wantF32 {S : HS} (hB : hsW S) (f : Int → Int) (p t room : Int) : -2147483648 ≤ wantF S f p t room ∧ wantF S f p t room ≤ 9 := by
  unfold wantF
  cases hpu : sPu S with
  | none =>
    dsimp only
    by_cases e : f (15 + p) < sU S t
    · rw [if_pos e]; constructor <;> omega
    · rw [if_neg e]; constructor <;> omega
  | some F =>
    dsimp only
    have := hB.2.2.2.2.1 F hpu (vP S f p t room)
    have h1 := this.1
    have h2 := this.2
    constructor <;> omega
theorem tdiv_b {x y : Int} (hy : 1 ≤ y) (hx : -120000000 ≤ x ∧ x ≤ 60) : -120000000 ≤ x.tdiv y ∧ x.tdiv y ≤ 60 ∧ (0 < x.tdiv y → x.tdiv y * y ≤ x) := by
  rcases (show 0 ≤ x ∨ x < 0 by omega) with q | q
  · rw [Int.tdiv_eq_ediv_of_nonneg q]
    have h1 := Int.ediv_mul_le x (show y ≠ 0 by omega)
    have h2 := Int.ediv_nonneg q (show 0 ≤ y by omega)
    have h3 := Int.ediv_le_self y q
    exact ⟨by omega, by omega, fun _ => h1⟩
  · have e : x.tdiv y = -((-x).tdiv y) := by rw [Int.neg_tdiv, Int.neg_neg]
    rw [e, Int.tdiv_eq_ediv_of_nonneg (show 0 ≤ -x by omega)]
    have h2 := Int.ediv_nonneg (show 0 ≤ -x by omega) (show 0 ≤ y by omega)
    have h3 := Int.ediv_le_self y (show 0 ≤ -x by omega)
    exact ⟨by omega, by omega, fun z => by omega⟩
theorem pkI_ok {S : HS} {B : Int} {f : Int → Int} {p : Int} (hB : hsW S) (h : rT B f) (hp : 0 ≤ p ∧ p < sNp S) (hC : f (8 + p) < sNp S) : ∀ k : Nat, k ≤ sNt S → rT B (pkI S p f k).1 ∧ (∀ i, i < 29 → (pkI S p f k).1 i = f i) ∧ -120000000 ≤ (pkI S p f k).2 ∧ (pkI S p f k).2 ≤ 60
  | 0, _ => by
    have hc := (h.1.2 p hp.1 (by have := hB.2.1; omega)).2.1
    have h1 := (hB.2.2.2.1 (f (8 + p)) hc.1 hC).1
    have h2 := sumF_rT (us := sW S) (n := sNt S) h ⟨hp.1, by have := hB.2.1; omega⟩ hB.1 (fun i a b => by have := (hB.2.2.1 i a b).1; constructor <;> omega)
    refine ⟨h, fun _ _ => rfl, ?_, ?_⟩
    · show _ ≤ sH S (f (8 + p)) - sumF (sW S) f p (sNt S); omega
    · show sH S (f (8 + p)) - sumF (sW S) f p (sNt S) ≤ _; omega
  | k + 1, hk => by
    obtain ⟨h1, h2, h3, h4⟩ := pkI_ok hB h hp hC k (by omega)
    have hNt := hB.1
    have hNp := hB.2.1
    have hc := (h.1.2 p hp.1 (by omega)).2.1
    have hin := rT_in h1 hc (t := (k : Int)) ⟨by omega, by omega⟩
    have hwt := (hB.2.2.1 (k : Int) (by omega) (by omega)).1
    have hd := tdiv_b hwt.1 ⟨h3, h4⟩
    show rT B (if 0 < putF S (pkI S p f k).1 p k (pkI S p f k).2 then _ else pkI S p f k : (Int → Int) × Int).1 ∧ _
    by_cases e : 0 < putF S (pkI S p f k).1 p k (pkI S p f k).2
    · have e2 : pkI S p f (k + 1) = (mvC (pkI S p f k).1 (f (8 + p)) k (putF S (pkI S p f k).1 p k (pkI S p f k).2), (pkI S p f k).2 - putF S (pkI S p f k).1 p k (pkI S p f k).2 * sW S k) := if_pos e
      rw [if_pos e, e2]
      have u1 : putF S (pkI S p f k).1 p k (pkI S p f k).2 ≤ (pkI S p f k).1 (29 + (k : Int)) := by unfold putF; omega
      have u2 : putF S (pkI S p f k).1 p k (pkI S p f k).2 ≤ (pkI S p f k).2.tdiv (sW S k) := by unfold putF; omega
      have u3 : putF S (pkI S p f k).1 p k (pkI S p f k).2 * sW S k ≤ (pkI S p f k).2.tdiv (sW S k) * sW S k := Int.mul_le_mul_of_nonneg_right u2 (by omega)
      have u4 := hd.2.2 (by omega)
      have u5 : 0 ≤ putF S (pkI S p f k).1 p k (pkI S p f k).2 * sW S k := Int.mul_nonneg (by omega) (by omega)
      refine ⟨mvC_rT h1 hc ⟨by omega, by omega⟩ (by omega) (by omega), fun i hi => ?_, ?_, ?_⟩
      · show mvC _ _ _ _ i = _
        rw [mvC_lo hc ⟨by omega, by omega⟩ hi]
        exact h2 i hi
      · show _ ≤ (pkI S p f k).2 - _; omega
      · show (pkI S p f k).2 - _ ≤ _; omega
    · have e2 : pkI S p f (k + 1) = pkI S p f k := if_neg e
      rw [if_neg e, e2]
      exact ⟨h1, h2, h3, h4⟩
theorem fond_rT {B : Int} {f : Int → Int} {p x : Int} (h : rT B f) (hp : 0 ≤ p ∧ p < 7) (hx : 0 ≤ x ∧ x ≤ 9) : rT B (upI f (15 + p) x) :=
  upI_rT h (by omega) (upI_rW h.1 (by omega) (by omega) (by omega) (by omega) (by omega)) (by omega)
theorem out_rT {B : Int} {f : Int → Int} {p x : Int} (h : rT B f) (hp : 0 ≤ p ∧ p < 7) (hx : 0 ≤ x ∧ x ≤ 8) : rT B (upI f (1 + p) x) :=
  upI_rT h (by omega) (upI_rW h.1 (by omega) (by omega) (by omega) (by omega) (by omega)) (by omega)
theorem cbF_ok {S : HS} {B : Int} {f : Int → Int} {p : Int} (hB : hsW S) (h : rT B f) (hp : 0 ≤ p ∧ p < 7) : rT B (cbF S f p) ∧ ∀ i, i < 29 → i ≠ 15 + p → cbF S f p i = f i := by
  have h1 := fond_rT (x := max 0 (min 9 (fondB S f p))) h hp (by omega)
  obtain ⟨h2, h3⟩ := unI_ok h1 (h.1.2 p hp.1 hp.2).2.1 (sNt S) hB.1
  exact ⟨h2, fun i hi hn => by show unI _ _ _ i = _; rw [h3 i hi, upI_n hn]⟩
theorem soF_ok {S : HS} {B : Int} {f : Int → Int} {p : Int} (hB : hsW S) (h : rT B f) (hp : 0 ≤ p ∧ p < 7) (ho : f (1 + p) ≠ 0) : rT B (soF S f p) ∧ ∀ i, i < 29 → i ≠ 15 + p → i ≠ 1 + p → soF S f p i = f i := by
  have hb := (h.1.2 p hp.1 hp.2).1
  have h1 := out_rT (x := f (1 + p) - 1) h hp (by omega)
  unfold soF
  by_cases e : f (1 + p) - 1 = 0
  · rw [if_pos e]
    obtain ⟨h2, h3⟩ := cbF_ok hB h1 hp
    exact ⟨h2, fun i a b c => by rw [h3 i a b, upI_n c]⟩
  · rw [if_neg e]
    exact ⟨h1, fun i a b c => upI_n c⟩
theorem pkW_ok {S : HS} {B : Int} {f : Int → Int} {p : Int} (hB : hsW S) (h : rT B f) (hp : 0 ≤ p ∧ p < sNp S) (hC : f (8 + p) < sNp S) : rT B (pkW S f p) ∧ ∀ i, i < 29 → pkW S f p i = f i := by
  unfold pkW
  cases inP f p
  · exact ⟨h, fun _ _ => rfl⟩
  · obtain ⟨h1, h2, -⟩ := pkI_ok hB h hp hC (sNt S) (Nat.le_refl _)
    exact ⟨h1, h2⟩
theorem psF_ok {S : HS} {B : Int} {f : Int → Int} {p : Int} (hB : hsW S) (h : rT B f) (hp : 0 ≤ p ∧ p < sNp S) (hC : f (8 + p) < sNp S) : rT B (psF S f p) ∧ ∀ i, i < 29 → i ≠ 15 + p → i ≠ 1 + p → psF S f p i = f i := by
  have hNp := hB.2.1
  unfold psF
  by_cases e : f (1 + p) = 0
  · rw [if_pos e]
    by_cases e2 : (f 0).tmod (sE S p) = 0
    · rw [if_pos e2]
      obtain ⟨h1, h2⟩ := pkW_ok hB h hp hC
      have h3 := (hB.2.2.2.1 p hp.1 hp.2).2.2
      exact ⟨out_rT h1 ⟨hp.1, by omega⟩ (by omega), fun i a b c => by rw [upI_n c]; exact h2 i a⟩
    · rw [if_neg e2]
      exact ⟨h, fun _ _ _ _ => rfl⟩
  · rw [if_neg e]
    exact soF_ok hB h ⟨hp.1, by omega⟩ e
theorem rowAt_ok {S : HS} {B : Int} {f : Int → Int} (hB : hsW S) (h : rT B f) (hC : rC S f) : ∀ k : Nat, k ≤ sNp S → rT B (rowAt S f k) ∧ (∀ i, (i = 0 ∨ (8 ≤ i ∧ i < 15) ∨ (22 ≤ i ∧ i < 29)) → rowAt S f k i = f i) ∧ ∀ p : Int, (k : Int) ≤ p → p < 7 → rowAt S f k (1 + p) = f (1 + p) ∧ rowAt S f k (15 + p) = f (15 + p)
  | 0, _ => ⟨h, fun _ _ => rfl, fun _ _ _ => ⟨rfl, rfl⟩⟩
  | k + 1, hk => by
    obtain ⟨h1, h2, h3⟩ := rowAt_ok hB h hC k (by omega)
    have hNp := hB.2.1
    have h4 : rowAt S f k (8 + (k : Int)) < sNp S := by rw [h2 _ (by omega)]; exact hC k (by omega) (by omega)
    obtain ⟨h5, h6⟩ := psF_ok (p := (k : Int)) hB h1 ⟨by omega, by omega⟩ h4
    refine ⟨h5, fun i hi => ?_, fun p a b => ⟨?_, ?_⟩⟩
    · show psF S (rowAt S f k) k i = _
      rw [h6 i (by omega) (by omega) (by omega), h2 i hi]
    · show psF S (rowAt S f k) k _ = _
      rw [h6 _ (by omega) (by omega) (by omega)]; exact (h3 p (by omega) b).1
    · show psF S (rowAt S f k) k _ = _
      rw [h6 _ (by omega) (by omega) (by omega)]; exact (h3 p (by omega) b).2
theorem rowAt_C {S : HS} {B : Int} {f : Int → Int} (hB : hsW S) (h : rT B f) (hC : rC S f) {k : Nat} (hk : k ≤ sNp S) : rC S (rowAt S f k) := by
  intro p a b
  have hNp := hB.2.1
  rw [(rowAt_ok hB h hC k hk).2.1 _ (by omega)]
  exact hC p a b
theorem dayF_ok {S : HS} {B : Int} {f : Int → Int} (hB : hsW S) (h : rT B f) (hC : rC S f) (h0 : f 0 < 20000) : rT B (dayF S f) ∧ rC S (dayF S f) ∧ dayF S f 0 = f 0 + 1 ∧ ∀ i, (8 ≤ i ∧ i < 15) ∨ (22 ≤ i ∧ i < 29) → dayF S f i = f i := by
  obtain ⟨h1, h2, h3⟩ := rowAt_ok hB h hC (sNp S) (Nat.le_refl _)
  have hNp := hB.2.1
  have e0 : rowAt S f (sNp S) 0 = f 0 := h2 0 (Or.inl rfl)
  have hf0 := h.2.2.2.1
  refine ⟨?_, fun p a b => ?_, ?_, fun i hi => ?_⟩
  · unfold dayF
    rw [e0]
    exact upI_rT h1 (by omega) (upI_rW h1.1 (by omega) (by omega) (by omega) (by omega) (by omega)) (by omega)
  · unfold dayF
    rw [upI_n (by omega), h2 _ (by omega)]
    exact hC p a b
  · unfold dayF
    rw [upI_s, e0]
  · unfold dayF
    rw [upI_n (by omega), h2 i (Or.inr hi)]
/-- so many days -/
def dysF (S : HS) (f : Int → Int) : Nat → Int → Int
  | 0 => f
  | n + 1 => dayF S (dysF S f n)
theorem dysF_ok {S : HS} {B : Int} {f : Int → Int} (hB : hsW S) (h : rT B f) (hC : rC S f) : ∀ n : Nat, f 0 + n ≤ 20000 → rT B (dysF S f n) ∧ rC S (dysF S f n) ∧ dysF S f n 0 = f 0 + n
  | 0, _ => ⟨h, hC, by show f 0 = f 0 + ((0 : Nat) : Int); omega⟩
  | n + 1, hn => by
    obtain ⟨h1, h2, h3⟩ := dysF_ok hB h hC n (by omega)
    obtain ⟨h4, h5, h6, -⟩ := dayF_ok hB h1 h2 (by rw [h3]; omega)
    refine ⟨h4, h5, ?_⟩
    show dayF S (dysF S f n) 0 = _
    rw [h6, h3]
    omega
/-- trips and empty cases, person by person -/
def trN (S : HS) (f tr : Int → Int) : Nat → Int → Int
  | 0 => tr
  | k + 1 => if lvA S f k then upI (trN S f tr k) (k : Int) (trN S f tr k (k : Int) + 1) else trN S f tr k
def emN (S : HS) (f : Int → Int) (em : Int) : Nat → Int
  | 0 => em
  | k + 1 => if emA S f k then emN S f em k + 1 else emN S f em k
