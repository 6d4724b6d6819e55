/-! tokens of a text: tp its bytes (0 .. 255), n how many -/
def kd (c : Int) : Int := if 97 ≤ c ∧ c ≤ 122 then 1 else if 48 ≤ c ∧ c ≤ 57 then 2 else if c = 59 ∨ c = 40 ∨ c = 41 ∨ c = 43 ∨ c = 45 ∨ c = 42 ∨ c = 47 ∨ c = 60 ∨ c = 61 then 3 else 4
theorem kd_b (c : Int) : 1 ≤ kd c ∧ kd c ≤ 4 := by
  unfold kd
  split
  · omega
  · split
    · omega
    · split <;> omega
theorem kd_i (c : Int) : i32 (kd c) := ⟨by have := kd_b c; omega, by have := kd_b c; omega⟩
theorem kd_1 {c : Int} (h : 97 ≤ c ∧ c ≤ 122) : kd c = 1 := by unfold kd; rw [if_pos h]
theorem kd_2 {c : Int} (h : 48 ≤ c ∧ c ≤ 57) : kd c = 2 := by unfold kd; rw [if_neg (by omega), if_pos h]
theorem kd_3 {c : Int} (h : c = 59 ∨ c = 40 ∨ c = 41 ∨ c = 43 ∨ c = 45 ∨ c = 42 ∨ c = 47 ∨ c = 60 ∨ c = 61) : kd c = 3 := by unfold kd; rw [if_neg (by omega), if_neg (by omega), if_pos h]
theorem kd_4 {c : Int} (h1 : ¬ (97 ≤ c ∧ c ≤ 122)) (h2 : ¬ (48 ≤ c ∧ c ≤ 57)) (h : ¬ (c = 59 ∨ c = 40 ∨ c = 41 ∨ c = 43 ∨ c = 45 ∨ c = 42 ∨ c = 47 ∨ c = 60 ∨ c = 61)) : kd c = 4 := by unfold kd; rw [if_neg h1, if_neg h2, if_neg h]
theorem kd_1i {c : Int} : kd c = 1 ↔ (97 ≤ c ∧ c ≤ 122) := by
  refine ⟨fun h => ?_, kd_1⟩
  unfold kd at h
  split at h
  · assumption
  · split at h
    · omega
    · split at h <;> omega
theorem kd_2i {c : Int} : kd c = 2 ↔ (48 ≤ c ∧ c ≤ 57) := by
  refine ⟨fun h => ?_, kd_2⟩
  unfold kd at h
  split at h
  · omega
  · split at h
    · assumption
    · split at h <;> omega
theorem kd_3i {c : Int} : kd c = 3 ↔ (c = 59 ∨ c = 40 ∨ c = 41 ∨ c = 43 ∨ c = 45 ∨ c = 42 ∨ c = 47 ∨ c = 60 ∨ c = 61) := by
  refine ⟨fun h => ?_, kd_3⟩
  unfold kd at h
  split at h
  · omega
  · split at h
    · omega
    · split at h
      · assumption
      · omega
theorem sb_or {x : Int} (_h : 0 ≤ x ∧ x < 256) : (x < 128 ∧ sb x = x) ∨ (128 ≤ x ∧ sb x = x - 256) := by
  unfold sb
  by_cases c : x < 128
  · rw [if_pos c]; exact Or.inl ⟨c, rfl⟩
  · rw [if_neg c]; exact Or.inr ⟨by omega, rfl⟩
theorem kd_sb {x : Int} (h : 0 ≤ x ∧ x < 256) : kd (sb x) = kd x := by
  rcases sb_or h with ⟨a, b⟩ | ⟨a, b⟩
  · rw [b]
  · rw [b, kd_4 (by omega) (by omega) (by omega), kd_4 (by omega) (by omega) (by omega)]
def skF (tp : Int → Int) : Nat → Nat → Nat
  | 0, p => p
  | d + 1, p => if tp (p : Int) = 32 ∨ tp (p : Int) = 10 then skF tp d (p + 1) else p
def rnF (tp : Int → Int) (c : Int) : Nat → Nat → Nat
  | 0, p => p
  | d + 1, p => if c ≤ 2 ∧ kd (tp (p : Int)) = c then rnF tp c d (p + 1) else p
theorem skF_t {tp : Int → Int} {d p : Nat} (h : tp (p : Int) = 32 ∨ tp (p : Int) = 10) : skF tp (d + 1) p = skF tp d (p + 1) := if_pos h
theorem skF_f {tp : Int → Int} {d p : Nat} (h : ¬ (tp (p : Int) = 32 ∨ tp (p : Int) = 10)) : skF tp (d + 1) p = p := if_neg h
theorem rnF_t {tp : Int → Int} {c : Int} {d p : Nat} (h : c ≤ 2 ∧ kd (tp (p : Int)) = c) : rnF tp c (d + 1) p = rnF tp c d (p + 1) := if_pos h
theorem rnF_f {tp : Int → Int} {c : Int} {d p : Nat} (h : ¬ (c ≤ 2 ∧ kd (tp (p : Int)) = c)) : rnF tp c (d + 1) p = p := if_neg h
theorem skF_b (tp : Int → Int) : ∀ d p : Nat, p ≤ skF tp d p ∧ skF tp d p ≤ p + d
  | 0, p => ⟨Nat.le_refl _, Nat.le_refl _⟩
  | d + 1, p => by
    have h := skF_b tp d (p + 1)
    by_cases c : tp (p : Int) = 32 ∨ tp (p : Int) = 10
    · rw [skF_t c]; omega
    · rw [skF_f c]; omega
theorem rnF_b (tp : Int → Int) (c : Int) : ∀ d p : Nat, p ≤ rnF tp c d p ∧ rnF tp c d p ≤ p + d
  | 0, p => ⟨Nat.le_refl _, Nat.le_refl _⟩
  | d + 1, p => by
    have h := rnF_b tp c d (p + 1)
    by_cases e : c ≤ 2 ∧ kd (tp (p : Int)) = c
    · rw [rnF_t e]; omega
    · rw [rnF_f e]; omega
theorem rnF_k (tp : Int → Int) (c : Int) : ∀ d p j : Nat, p ≤ j → j < rnF tp c d p → kd (tp (j : Int)) = c
  | 0, p, j, h1, h2 => by have h2 : j < p := h2; omega
  | d + 1, p, j, h1, h2 => by
    by_cases e : c ≤ 2 ∧ kd (tp (p : Int)) = c
    · rw [rnF_t e] at h2
      by_cases q : j = p
      · rw [q]; exact e.2
      · exact rnF_k tp c d (p + 1) j (by omega) h2
    · rw [rnF_f e] at h2; omega
/-- a token: kind, start, end -/
abbrev TK : Type := Int × Nat × Nat
def tkE (tp : Int → Int) (n s : Nat) : TK := if n ≤ s then (0, s, s) else (kd (tp (s : Int)), s, rnF tp (kd (tp (s : Int))) (n - (s + 1)) (s + 1))
def tk (tp : Int → Int) (n p : Nat) : TK := tkE tp n (skF tp (n - p) p)
theorem tkE_e {tp : Int → Int} {n s : Nat} (h : n ≤ s) : tkE tp n s = (0, s, s) := if_pos h
theorem tkE_n {tp : Int → Int} {n s : Nat} (h : s < n) : tkE tp n s = (kd (tp (s : Int)), s, rnF tp (kd (tp (s : Int))) (n - (s + 1)) (s + 1)) := if_neg (by omega)
/-- what a token is -/
theorem tk_is {tp : Int → Int} {n p : Nat} (hp : p ≤ n) : p ≤ (tk tp n p).2.1 ∧ (tk tp n p).2.1 ≤ (tk tp n p).2.2 ∧ (tk tp n p).2.2 ≤ n ∧ (((tk tp n p).1 = 0 ∧ (tk tp n p).2.1 = n ∧ (tk tp n p).2.2 = n) ∨ ((tk tp n p).1 = kd (tp ((tk tp n p).2.1 : Int)) ∧ (tk tp n p).2.1 < (tk tp n p).2.2)) ∧ ∀ j : Nat, (tk tp n p).2.1 ≤ j → j < (tk tp n p).2.2 → kd (tp (j : Int)) = (tk tp n p).1 := by
  unfold tk
  have h1 := skF_b tp (n - p) p
  generalize skF tp (n - p) p = s at h1 ⊢
  by_cases c : n ≤ s
  · rw [tkE_e c]
    exact ⟨h1.1, Nat.le_refl _, by dsimp only; omega, Or.inl ⟨rfl, by dsimp only; omega, by dsimp only; omega⟩, fun j a b => by dsimp only at a b; omega⟩
  · rw [tkE_n (by omega)]
    have h2 := rnF_b tp (kd (tp (s : Int))) (n - (s + 1)) (s + 1)
    refine ⟨h1.1, by dsimp only; omega, by dsimp only; omega, Or.inr ⟨rfl, by dsimp only; omega⟩, fun j a b => ?_⟩
    dsimp only at a b ⊢
    by_cases e : j = s
    · rw [e]
    · exact rnF_k tp _ _ _ j (by omega) b
def isWb (tp : Int → Int) (t : TK) (i : Nat) : Bool := decide (t.1 = 1) && decide (t.2.2 = t.2.1 + (wdL i).length) && (List.range (wdL i).length).all (fun j => decide (tp ((t.2.1 + j : Nat) : Int) = wdA i (j : Int)))
theorem isWb_t {tp : Int → Int} {t : TK} {i : Nat} (h1 : t.1 = 1) (h2 : t.2.2 = t.2.1 + (wdL i).length) (h3 : ∀ j : Nat, j < (wdL i).length → tp ((t.2.1 + j : Nat) : Int) = wdA i (j : Int)) : isWb tp t i = true := by
  unfold isWb
  rw [decide_eq_true h1, decide_eq_true h2, Bool.true_and, Bool.true_and]
  exact List.all_eq_true.mpr (fun j hj => decide_eq_true (h3 j (List.mem_range.mp hj)))
theorem isWb_e {tp : Int → Int} {t : TK} {i : Nat} (h : isWb tp t i = true) : t.1 = 1 ∧ t.2.2 = t.2.1 + (wdL i).length ∧ ∀ j : Nat, j < (wdL i).length → tp ((t.2.1 + j : Nat) : Int) = wdA i (j : Int) := by
  unfold isWb at h
  rw [Bool.and_eq_true, Bool.and_eq_true] at h
  exact ⟨of_decide_eq_true h.1.1, of_decide_eq_true h.1.2, fun j hj => of_decide_eq_true (List.all_eq_true.mp h.2 j (List.mem_range.mpr hj))⟩
/-- the class's tokens: the text, the token -/
def TxR (h : HP) (tp : Int → Int) (n : Nat) : Prop := hR h 64 0 = 31 ∧ hI h 64 1 = (n : Int) ∧ n ≤ 700 ∧ ∀ i : Int, 0 ≤ i → i < n → (0 ≤ tp i ∧ tp i < 256) ∧ hA h 31 i = sb (tp i)
def TkR (h : HP) (t : TK) : Prop := hI h 64 4 = t.1 ∧ hI h 64 2 = (t.2.1 : Int) ∧ hI h 64 3 = (t.2.2 : Int)
theorem FL_eI {h g : HP} {a k : Nat} {x : Int} {la : List Nat} {li lr : List (Nat × Nat)} (e : g = sI h a k x) (ha : li.contains (a, k) = true) : FL la li lr h g := by rw [e]; exact FL_sI ha
theorem FL_eR {h g : HP} {a k x : Nat} {la : List Nat} {li lr : List (Nat × Nat)} (e : g = sR h a k x) (ha : lr.contains (a, k) = true) : FL la li lr h g := by rw [e]; exact FL_sR ha
theorem FL_eA {h g : HP} {a : Nat} {i x : Int} {la : List Nat} {li lr : List (Nat × Nat)} (e : g = sA h a i x) (ha : la.contains a = true) : FL la li lr h g := by rw [e]; exact FL_sA ha
theorem lt_all {P : Nat → Prop} {k : Nat} (h : ∀ j, j < k → P j) (hk : P k) : ∀ j, j < k + 1 → P j := fun j hj => by
  by_cases q : j = k
  · rw [q]; exact hk
  · exact h j (by omega)
abbrev TL : List (Nat × Nat) := [(64, 2), (64, 3), (64, 4)]
theorem TxR_FL {h h' : HP} {tp : Int → Int} {n : Nat} {la : List Nat} {li lr : List (Nat × Nat)} (T : TxR h tp n) (F : FL la li lr h h') (h1 : la.contains 31 = false) (h2 : li.contains (64, 1) = false) (h3 : lr.contains (64, 0) = false) : TxR h' tp n :=
  ⟨by rw [F.2.2 64 0 h3]; exact T.1, by rw [F.2.1 64 1 h2]; exact T.2.1, T.2.2.1, fun i a b => by rw [F.1 31 h1]; exact T.2.2.2 i a b⟩
theorem TkR_FL {h h' : HP} {t : TK} {la : List Nat} {li lr : List (Nat × Nat)} (T : TkR h t) (F : FL la li lr h h') (h2 : li.contains (64, 2) = false) (h3 : li.contains (64, 3) = false) (h4 : li.contains (64, 4) = false) : TkR h' t :=
  ⟨by rw [F.2.1 64 4 h4]; exact T.1, by rw [F.2.1 64 2 h2]; exact T.2.1, by rw [F.2.1 64 3 h3]; exact T.2.2⟩
def TkG (tp : Int → Int) (n : Nat) (t : TK) : Prop := (0 ≤ t.1 ∧ t.1 ≤ 4) ∧ t.2.1 ≤ t.2.2 ∧ t.2.2 ≤ n ∧ (t.1 ≠ 0 → t.2.1 < t.2.2) ∧ ∀ j : Nat, t.2.1 ≤ j → j < t.2.2 → kd (tp (j : Int)) = t.1
theorem tk_G {tp : Int → Int} {n p : Nat} (hp : p ≤ n) : TkG tp n (tk tp n p) := by
  obtain ⟨h1, h2, h3, h4, h5⟩ := tk_is (tp := tp) hp
  rcases h4 with ⟨a, b, c⟩ | ⟨a, b⟩
  · exact ⟨by omega, h2, h3, fun z => absurd a z, h5⟩
  · have hk := kd_b (tp ((tk tp n p).2.1 : Int))
    exact ⟨by omega, h2, h3, fun _ => b, h5⟩
def nm (tp : Int → Int) (s : Nat) : Nat → Int
  | 0 => 0
  | k + 1 => nm tp s k * 10 + (tp ((s + k : Nat) : Int) - 48)
theorem nm_b (tp : Int → Int) (s : Nat) : ∀ k : Nat, (∀ j : Nat, j < k → 48 ≤ tp ((s + j : Nat) : Int) ∧ tp ((s + j : Nat) : Int) ≤ 57) → 0 ≤ nm tp s k ∧ nm tp s k < (10 ^ k : Nat)
  | 0, _ => by
    show (0 : Int) ≤ 0 ∧ (0 : Int) < ((10 ^ 0 : Nat) : Int)
    decide
  | k + 1, h => by
    have h1 := nm_b tp s k (fun j hj => h j (by omega))
    have h2 := h k (by omega)
    have e : (10 ^ (k + 1) : Nat) = 10 ^ k * 10 := Nat.pow_succ ..
    have e2 : nm tp s (k + 1) = nm tp s k * 10 + (tp ((s + k : Nat) : Int) - 48) := rfl
    rw [e2, e]
    omega
/-- a number token's number -/
def nmT (tp : Int → Int) (t : TK) : Int := nm tp t.2.1 (min (t.2.2 - t.2.1) 4)
theorem nmT_b {tp : Int → Int} {n : Nat} {t : TK} (g : TkG tp n t) (h : t.1 = 2) : 0 ≤ nmT tp t ∧ nmT tp t < 10000 := by
  have h1 := nm_b tp t.2.1 (min (t.2.2 - t.2.1) 4) (fun j hj => kd_2i.mp (by rw [g.2.2.2.2 (t.2.1 + j) (by omega) (by omega)]; exact h))
  have h2 : (10 ^ (min (t.2.2 - t.2.1) 4) : Nat) ≤ 10 ^ 4 := Nat.pow_le_pow_right (by decide) (by omega)
  have e : (10 ^ 4 : Nat) = 10000 := by decide
  unfold nmT
  omega
def mX9_kindOf : MI := (yX9_kindOf, cX9_kindOf, 1, (some .int), rmK 1 0)
def tX9_kindOf : List (Nat × Instr × Nat) := [(0, .iload_n 0, 1), (1, .bipush 97, 2), (3, .if_icmp .lt 11, 3), (6, .iload_n 0, 1), (7, .bipush 122, 2), (9, .if_icmp .gt 5, 3), (12, .iconst 1, 1), (13, .ireturn, 1), (14, .iload_n 0, 1), (15, .bipush 48, 2), (17, .if_icmp .lt 11, 3), (20, .iload_n 0, 1), (21, .bipush 57, 2), (23, .if_icmp .gt 5, 3), (26, .iconst 2, 1), (27, .ireturn, 1), (28, .iload_n 0, 1), (29, .tableswitch 105 40 61 #[103, 103, 103, 103, 105, 103, 105, 103, 105, 105, 105, 105, 105, 105, 105, 105, 105, 105, 105, 103, 103, 103], 103), (132, .iconst 3, 1), (133, .ireturn, 1), (134, .iconst 4, 1), (135, .ireturn, 1)]
theorem dtX9_kindOf : tX9_kindOf.all (fun q => decide (decode cX9_kindOf q.1 = .ok (q.2.1, q.2.2))) = true := by decide +kernel
theorem npX9_kindOf : (parseMethodDescriptor (mY mX9_kindOf).desc).map (fun d => d.parameters.length) = some 1 := by decide +kernel
theorem vX9_kindOf : mS mX9_kindOf := ⟨wT_X9_kindOf, wN_X9, wC_X9_kindOf, by decide +kernel, by decide +kernel⟩
set_option maxHeartbeats 4000000 in
set_option maxRecDepth 100000 in
theorem sX9_kindOf {h : HP} {y : Int} (hy : -128 ≤ y ∧ y < 128) : SpecK mX9_kindOf [vi y] h (fun o h' => o = .inl (some (vi (kd y))) ∧ h' = h) := by
  refine Spec_of (by decide +kernel) (Nat.le_of_ble_eq_true rfl) ?_
  refine K_iload_n (dt_at dtX9_kindOf 0 rfl) rfl rfl ?_
  refine K_bipush (dt_at dtX9_kindOf 1 rfl) (by decide) ?_
  refine K_icmp_lt (tgt := 14) (dt_at dtX9_kindOf 2 rfl) (by decide) ⟨by omega, by omega⟩ (by first | assumption | exact ⟨by omega, by omega⟩) (fun c1 => ?_) (fun c1 => ?_)
  · refine K_iload_n (dt_at dtX9_kindOf 8 rfl) rfl rfl ?_
    refine K_bipush (dt_at dtX9_kindOf 9 rfl) (by decide) ?_
    refine K_icmp_lt (tgt := 28) (dt_at dtX9_kindOf 10 rfl) (by decide) ⟨by omega, by omega⟩ (by first | assumption | exact ⟨by omega, by omega⟩) (fun c2 => ?_) (fun c2 => ?_)
    · refine K_iload_n (dt_at dtX9_kindOf 16 rfl) rfl rfl ?_
      by_cases sw3 : y < 40 ∨ 61 < y
      · refine K_tableOut (tgt := 134) (dt_at dtX9_kindOf 17 rfl) ⟨by omega, by omega⟩ sw3 (by decide) ?_
        refine K_iconst (dt_at dtX9_kindOf 20 rfl) ?_
        exact K_iret (dt_at dtX9_kindOf 21 rfl) rfl rfl (by decide) (by decide) ⟨by rw [kd_4 (by omega) (by omega) (by omega)], rfl⟩
      · have sx : y = 40 ∨ y = 41 ∨ y = 42 ∨ y = 43 ∨ y = 44 ∨ y = 45 ∨ y = 46 ∨ y = 47 ∨ y = 48 ∨ y = 49 ∨ y = 50 ∨ y = 51 ∨ y = 52 ∨ y = 53 ∨ y = 54 ∨ y = 55 ∨ y = 56 ∨ y = 57 ∨ y = 58 ∨ y = 59 ∨ y = 60 ∨ y = 61 := by omega
        rcases sx with rfl | rfl | rfl | rfl | rfl | rfl | rfl | rfl | rfl | rfl | rfl | rfl | rfl | rfl | rfl | rfl | rfl | rfl | rfl | rfl | rfl | rfl
        · refine K_tableIn (tgt := 132) (dt_at dtX9_kindOf 17 rfl) ⟨by decide, by decide⟩ (by decide) (by decide) rfl (by decide) ?_
          refine K_iconst (dt_at dtX9_kindOf 18 rfl) ?_
          exact K_iret (dt_at dtX9_kindOf 19 rfl) rfl rfl (by decide) (by decide) ⟨by rw [kd_3 (by omega)], rfl⟩
        · refine K_tableIn (tgt := 132) (dt_at dtX9_kindOf 17 rfl) ⟨by decide, by decide⟩ (by decide) (by decide) rfl (by decide) ?_
          refine K_iconst (dt_at dtX9_kindOf 18 rfl) ?_
          exact K_iret (dt_at dtX9_kindOf 19 rfl) rfl rfl (by decide) (by decide) ⟨by rw [kd_3 (by omega)], rfl⟩
        · refine K_tableIn (tgt := 132) (dt_at dtX9_kindOf 17 rfl) ⟨by decide, by decide⟩ (by decide) (by decide) rfl (by decide) ?_
          refine K_iconst (dt_at dtX9_kindOf 18 rfl) ?_
          exact K_iret (dt_at dtX9_kindOf 19 rfl) rfl rfl (by decide) (by decide) ⟨by rw [kd_3 (by omega)], rfl⟩
        · refine K_tableIn (tgt := 132) (dt_at dtX9_kindOf 17 rfl) ⟨by decide, by decide⟩ (by decide) (by decide) rfl (by decide) ?_
          refine K_iconst (dt_at dtX9_kindOf 18 rfl) ?_
          exact K_iret (dt_at dtX9_kindOf 19 rfl) rfl rfl (by decide) (by decide) ⟨by rw [kd_3 (by omega)], rfl⟩
        · refine K_tableIn (tgt := 134) (dt_at dtX9_kindOf 17 rfl) ⟨by decide, by decide⟩ (by decide) (by decide) rfl (by decide) ?_
          refine K_iconst (dt_at dtX9_kindOf 20 rfl) ?_
          exact K_iret (dt_at dtX9_kindOf 21 rfl) rfl rfl (by decide) (by decide) ⟨by rw [kd_4 (by omega) (by omega) (by omega)], rfl⟩
        · refine K_tableIn (tgt := 132) (dt_at dtX9_kindOf 17 rfl) ⟨by decide, by decide⟩ (by decide) (by decide) rfl (by decide) ?_
          refine K_iconst (dt_at dtX9_kindOf 18 rfl) ?_
          exact K_iret (dt_at dtX9_kindOf 19 rfl) rfl rfl (by decide) (by decide) ⟨by rw [kd_3 (by omega)], rfl⟩
        · refine K_tableIn (tgt := 134) (dt_at dtX9_kindOf 17 rfl) ⟨by decide, by decide⟩ (by decide) (by decide) rfl (by decide) ?_
          refine K_iconst (dt_at dtX9_kindOf 20 rfl) ?_
          exact K_iret (dt_at dtX9_kindOf 21 rfl) rfl rfl (by decide) (by decide) ⟨by rw [kd_4 (by omega) (by omega) (by omega)], rfl⟩
        · refine K_tableIn (tgt := 132) (dt_at dtX9_kindOf 17 rfl) ⟨by decide, by decide⟩ (by decide) (by decide) rfl (by decide) ?_
          refine K_iconst (dt_at dtX9_kindOf 18 rfl) ?_
          exact K_iret (dt_at dtX9_kindOf 19 rfl) rfl rfl (by decide) (by decide) ⟨by rw [kd_3 (by omega)], rfl⟩
        · refine K_tableIn (tgt := 134) (dt_at dtX9_kindOf 17 rfl) ⟨by decide, by decide⟩ (by decide) (by decide) rfl (by decide) ?_
          refine K_iconst (dt_at dtX9_kindOf 20 rfl) ?_
          exact K_iret (dt_at dtX9_kindOf 21 rfl) rfl rfl (by decide) (by decide) ⟨by rw [kd_4 (by omega) (by omega) (by omega)], rfl⟩
        · refine K_tableIn (tgt := 134) (dt_at dtX9_kindOf 17 rfl) ⟨by decide, by decide⟩ (by decide) (by decide) rfl (by decide) ?_
          refine K_iconst (dt_at dtX9_kindOf 20 rfl) ?_
          exact K_iret (dt_at dtX9_kindOf 21 rfl) rfl rfl (by decide) (by decide) ⟨by rw [kd_4 (by omega) (by omega) (by omega)], rfl⟩
        · refine K_tableIn (tgt := 134) (dt_at dtX9_kindOf 17 rfl) ⟨by decide, by decide⟩ (by decide) (by decide) rfl (by decide) ?_
          refine K_iconst (dt_at dtX9_kindOf 20 rfl) ?_
          exact K_iret (dt_at dtX9_kindOf 21 rfl) rfl rfl (by decide) (by decide) ⟨by rw [kd_4 (by omega) (by omega) (by omega)], rfl⟩
        · refine K_tableIn (tgt := 134) (dt_at dtX9_kindOf 17 rfl) ⟨by decide, by decide⟩ (by decide) (by decide) rfl (by decide) ?_
          refine K_iconst (dt_at dtX9_kindOf 20 rfl) ?_
          exact K_iret (dt_at dtX9_kindOf 21 rfl) rfl rfl (by decide) (by decide) ⟨by rw [kd_4 (by omega) (by omega) (by omega)], rfl⟩
        · refine K_tableIn (tgt := 134) (dt_at dtX9_kindOf 17 rfl) ⟨by decide, by decide⟩ (by decide) (by decide) rfl (by decide) ?_
          refine K_iconst (dt_at dtX9_kindOf 20 rfl) ?_
          exact K_iret (dt_at dtX9_kindOf 21 rfl) rfl rfl (by decide) (by decide) ⟨by rw [kd_4 (by omega) (by omega) (by omega)], rfl⟩
        · refine K_tableIn (tgt := 134) (dt_at dtX9_kindOf 17 rfl) ⟨by decide, by decide⟩ (by decide) (by decide) rfl (by decide) ?_
          refine K_iconst (dt_at dtX9_kindOf 20 rfl) ?_
          exact K_iret (dt_at dtX9_kindOf 21 rfl) rfl rfl (by decide) (by decide) ⟨by rw [kd_4 (by omega) (by omega) (by omega)], rfl⟩
        · refine K_tableIn (tgt := 134) (dt_at dtX9_kindOf 17 rfl) ⟨by decide, by decide⟩ (by decide) (by decide) rfl (by decide) ?_
          refine K_iconst (dt_at dtX9_kindOf 20 rfl) ?_
          exact K_iret (dt_at dtX9_kindOf 21 rfl) rfl rfl (by decide) (by decide) ⟨by rw [kd_4 (by omega) (by omega) (by omega)], rfl⟩
        · refine K_tableIn (tgt := 134) (dt_at dtX9_kindOf 17 rfl) ⟨by decide, by decide⟩ (by decide) (by decide) rfl (by decide) ?_
          refine K_iconst (dt_at dtX9_kindOf 20 rfl) ?_
          exact K_iret (dt_at dtX9_kindOf 21 rfl) rfl rfl (by decide) (by decide) ⟨by rw [kd_4 (by omega) (by omega) (by omega)], rfl⟩
        · refine K_tableIn (tgt := 134) (dt_at dtX9_kindOf 17 rfl) ⟨by decide, by decide⟩ (by decide) (by decide) rfl (by decide) ?_
          refine K_iconst (dt_at dtX9_kindOf 20 rfl) ?_
          exact K_iret (dt_at dtX9_kindOf 21 rfl) rfl rfl (by decide) (by decide) ⟨by rw [kd_4 (by omega) (by omega) (by omega)], rfl⟩
        · refine K_tableIn (tgt := 134) (dt_at dtX9_kindOf 17 rfl) ⟨by decide, by decide⟩ (by decide) (by decide) rfl (by decide) ?_
          refine K_iconst (dt_at dtX9_kindOf 20 rfl) ?_
          exact K_iret (dt_at dtX9_kindOf 21 rfl) rfl rfl (by decide) (by decide) ⟨by rw [kd_4 (by omega) (by omega) (by omega)], rfl⟩
        · refine K_tableIn (tgt := 134) (dt_at dtX9_kindOf 17 rfl) ⟨by decide, by decide⟩ (by decide) (by decide) rfl (by decide) ?_
          refine K_iconst (dt_at dtX9_kindOf 20 rfl) ?_
          exact K_iret (dt_at dtX9_kindOf 21 rfl) rfl rfl (by decide) (by decide) ⟨by rw [kd_4 (by omega) (by omega) (by omega)], rfl⟩
        · refine K_tableIn (tgt := 132) (dt_at dtX9_kindOf 17 rfl) ⟨by decide, by decide⟩ (by decide) (by decide) rfl (by decide) ?_
          refine K_iconst (dt_at dtX9_kindOf 18 rfl) ?_
          exact K_iret (dt_at dtX9_kindOf 19 rfl) rfl rfl (by decide) (by decide) ⟨by rw [kd_3 (by omega)], rfl⟩
        · refine K_tableIn (tgt := 132) (dt_at dtX9_kindOf 17 rfl) ⟨by decide, by decide⟩ (by decide) (by decide) rfl (by decide) ?_
          refine K_iconst (dt_at dtX9_kindOf 18 rfl) ?_
          exact K_iret (dt_at dtX9_kindOf 19 rfl) rfl rfl (by decide) (by decide) ⟨by rw [kd_3 (by omega)], rfl⟩
        · refine K_tableIn (tgt := 132) (dt_at dtX9_kindOf 17 rfl) ⟨by decide, by decide⟩ (by decide) (by decide) rfl (by decide) ?_
          refine K_iconst (dt_at dtX9_kindOf 18 rfl) ?_
          exact K_iret (dt_at dtX9_kindOf 19 rfl) rfl rfl (by decide) (by decide) ⟨by rw [kd_3 (by omega)], rfl⟩
    · refine K_iload_n (dt_at dtX9_kindOf 11 rfl) rfl rfl ?_
      refine K_bipush (dt_at dtX9_kindOf 12 rfl) (by decide) ?_
      refine K_icmp_gt (tgt := 28) (dt_at dtX9_kindOf 13 rfl) (by decide) ⟨by omega, by omega⟩ (by first | assumption | exact ⟨by omega, by omega⟩) (fun c4 => ?_) (fun c4 => ?_)
      · refine K_iload_n (dt_at dtX9_kindOf 16 rfl) rfl rfl ?_
        by_cases sw5 : y < 40 ∨ 61 < y
        · refine K_tableOut (tgt := 134) (dt_at dtX9_kindOf 17 rfl) ⟨by omega, by omega⟩ sw5 (by decide) ?_
          refine K_iconst (dt_at dtX9_kindOf 20 rfl) ?_
          exact K_iret (dt_at dtX9_kindOf 21 rfl) rfl rfl (by decide) (by decide) ⟨by rw [kd_4 (by omega) (by omega) (by omega)], rfl⟩
        · have sx : y = 40 ∨ y = 41 ∨ y = 42 ∨ y = 43 ∨ y = 44 ∨ y = 45 ∨ y = 46 ∨ y = 47 ∨ y = 48 ∨ y = 49 ∨ y = 50 ∨ y = 51 ∨ y = 52 ∨ y = 53 ∨ y = 54 ∨ y = 55 ∨ y = 56 ∨ y = 57 ∨ y = 58 ∨ y = 59 ∨ y = 60 ∨ y = 61 := by omega
          rcases sx with rfl | rfl | rfl | rfl | rfl | rfl | rfl | rfl | rfl | rfl | rfl | rfl | rfl | rfl | rfl | rfl | rfl | rfl | rfl | rfl | rfl | rfl
          · refine K_tableIn (tgt := 132) (dt_at dtX9_kindOf 17 rfl) ⟨by decide, by decide⟩ (by decide) (by decide) rfl (by decide) ?_
            refine K_iconst (dt_at dtX9_kindOf 18 rfl) ?_
            exact K_iret (dt_at dtX9_kindOf 19 rfl) rfl rfl (by decide) (by decide) ⟨by rw [kd_3 (by omega)], rfl⟩
          · refine K_tableIn (tgt := 132) (dt_at dtX9_kindOf 17 rfl) ⟨by decide, by decide⟩ (by decide) (by decide) rfl (by decide) ?_
            refine K_iconst (dt_at dtX9_kindOf 18 rfl) ?_
            exact K_iret (dt_at dtX9_kindOf 19 rfl) rfl rfl (by decide) (by decide) ⟨by rw [kd_3 (by omega)], rfl⟩
          · refine K_tableIn (tgt := 132) (dt_at dtX9_kindOf 17 rfl) ⟨by decide, by decide⟩ (by decide) (by decide) rfl (by decide) ?_
            refine K_iconst (dt_at dtX9_kindOf 18 rfl) ?_
            exact K_iret (dt_at dtX9_kindOf 19 rfl) rfl rfl (by decide) (by decide) ⟨by rw [kd_3 (by omega)], rfl⟩
          · refine K_tableIn (tgt := 132) (dt_at dtX9_kindOf 17 rfl) ⟨by decide, by decide⟩ (by decide) (by decide) rfl (by decide) ?_
            refine K_iconst (dt_at dtX9_kindOf 18 rfl) ?_
            exact K_iret (dt_at dtX9_kindOf 19 rfl) rfl rfl (by decide) (by decide) ⟨by rw [kd_3 (by omega)], rfl⟩
          · refine K_tableIn (tgt := 134) (dt_at dtX9_kindOf 17 rfl) ⟨by decide, by decide⟩ (by decide) (by decide) rfl (by decide) ?_
            refine K_iconst (dt_at dtX9_kindOf 20 rfl) ?_
            exact K_iret (dt_at dtX9_kindOf 21 rfl) rfl rfl (by decide) (by decide) ⟨by rw [kd_4 (by omega) (by omega) (by omega)], rfl⟩
          · refine K_tableIn (tgt := 132) (dt_at dtX9_kindOf 17 rfl) ⟨by decide, by decide⟩ (by decide) (by decide) rfl (by decide) ?_
            refine K_iconst (dt_at dtX9_kindOf 18 rfl) ?_
            exact K_iret (dt_at dtX9_kindOf 19 rfl) rfl rfl (by decide) (by decide) ⟨by rw [kd_3 (by omega)], rfl⟩
          · refine K_tableIn (tgt := 134) (dt_at dtX9_kindOf 17 rfl) ⟨by decide, by decide⟩ (by decide) (by decide) rfl (by decide) ?_
            refine K_iconst (dt_at dtX9_kindOf 20 rfl) ?_
            exact K_iret (dt_at dtX9_kindOf 21 rfl) rfl rfl (by decide) (by decide) ⟨by rw [kd_4 (by omega) (by omega) (by omega)], rfl⟩
          · refine K_tableIn (tgt := 132) (dt_at dtX9_kindOf 17 rfl) ⟨by decide, by decide⟩ (by decide) (by decide) rfl (by decide) ?_
            refine K_iconst (dt_at dtX9_kindOf 18 rfl) ?_
            exact K_iret (dt_at dtX9_kindOf 19 rfl) rfl rfl (by decide) (by decide) ⟨by rw [kd_3 (by omega)], rfl⟩
          · refine K_tableIn (tgt := 134) (dt_at dtX9_kindOf 17 rfl) ⟨by decide, by decide⟩ (by decide) (by decide) rfl (by decide) ?_
            refine K_iconst (dt_at dtX9_kindOf 20 rfl) ?_
            exact K_iret (dt_at dtX9_kindOf 21 rfl) rfl rfl (by decide) (by decide) ⟨by rw [kd_4 (by omega) (by omega) (by omega)], rfl⟩
          · refine K_tableIn (tgt := 134) (dt_at dtX9_kindOf 17 rfl) ⟨by decide, by decide⟩ (by decide) (by decide) rfl (by decide) ?_
            refine K_iconst (dt_at dtX9_kindOf 20 rfl) ?_
            exact K_iret (dt_at dtX9_kindOf 21 rfl) rfl rfl (by decide) (by decide) ⟨by rw [kd_4 (by omega) (by omega) (by omega)], rfl⟩
          · refine K_tableIn (tgt := 134) (dt_at dtX9_kindOf 17 rfl) ⟨by decide, by decide⟩ (by decide) (by decide) rfl (by decide) ?_
            refine K_iconst (dt_at dtX9_kindOf 20 rfl) ?_
            exact K_iret (dt_at dtX9_kindOf 21 rfl) rfl rfl (by decide) (by decide) ⟨by rw [kd_4 (by omega) (by omega) (by omega)], rfl⟩
          · refine K_tableIn (tgt := 134) (dt_at dtX9_kindOf 17 rfl) ⟨by decide, by decide⟩ (by decide) (by decide) rfl (by decide) ?_
            refine K_iconst (dt_at dtX9_kindOf 20 rfl) ?_
            exact K_iret (dt_at dtX9_kindOf 21 rfl) rfl rfl (by decide) (by decide) ⟨by rw [kd_4 (by omega) (by omega) (by omega)], rfl⟩
          · refine K_tableIn (tgt := 134) (dt_at dtX9_kindOf 17 rfl) ⟨by decide, by decide⟩ (by decide) (by decide) rfl (by decide) ?_
            refine K_iconst (dt_at dtX9_kindOf 20 rfl) ?_
            exact K_iret (dt_at dtX9_kindOf 21 rfl) rfl rfl (by decide) (by decide) ⟨by rw [kd_4 (by omega) (by omega) (by omega)], rfl⟩
          · refine K_tableIn (tgt := 134) (dt_at dtX9_kindOf 17 rfl) ⟨by decide, by decide⟩ (by decide) (by decide) rfl (by decide) ?_
            refine K_iconst (dt_at dtX9_kindOf 20 rfl) ?_
            exact K_iret (dt_at dtX9_kindOf 21 rfl) rfl rfl (by decide) (by decide) ⟨by rw [kd_4 (by omega) (by omega) (by omega)], rfl⟩
          · refine K_tableIn (tgt := 134) (dt_at dtX9_kindOf 17 rfl) ⟨by decide, by decide⟩ (by decide) (by decide) rfl (by decide) ?_
            refine K_iconst (dt_at dtX9_kindOf 20 rfl) ?_
            exact K_iret (dt_at dtX9_kindOf 21 rfl) rfl rfl (by decide) (by decide) ⟨by rw [kd_4 (by omega) (by omega) (by omega)], rfl⟩
          · refine K_tableIn (tgt := 134) (dt_at dtX9_kindOf 17 rfl) ⟨by decide, by decide⟩ (by decide) (by decide) rfl (by decide) ?_
            refine K_iconst (dt_at dtX9_kindOf 20 rfl) ?_
            exact K_iret (dt_at dtX9_kindOf 21 rfl) rfl rfl (by decide) (by decide) ⟨by rw [kd_4 (by omega) (by omega) (by omega)], rfl⟩
          · refine K_tableIn (tgt := 134) (dt_at dtX9_kindOf 17 rfl) ⟨by decide, by decide⟩ (by decide) (by decide) rfl (by decide) ?_
            refine K_iconst (dt_at dtX9_kindOf 20 rfl) ?_
            exact K_iret (dt_at dtX9_kindOf 21 rfl) rfl rfl (by decide) (by decide) ⟨by rw [kd_4 (by omega) (by omega) (by omega)], rfl⟩
          · refine K_tableIn (tgt := 134) (dt_at dtX9_kindOf 17 rfl) ⟨by decide, by decide⟩ (by decide) (by decide) rfl (by decide) ?_
            refine K_iconst (dt_at dtX9_kindOf 20 rfl) ?_
            exact K_iret (dt_at dtX9_kindOf 21 rfl) rfl rfl (by decide) (by decide) ⟨by rw [kd_4 (by omega) (by omega) (by omega)], rfl⟩
          · refine K_tableIn (tgt := 134) (dt_at dtX9_kindOf 17 rfl) ⟨by decide, by decide⟩ (by decide) (by decide) rfl (by decide) ?_
            refine K_iconst (dt_at dtX9_kindOf 20 rfl) ?_
            exact K_iret (dt_at dtX9_kindOf 21 rfl) rfl rfl (by decide) (by decide) ⟨by rw [kd_4 (by omega) (by omega) (by omega)], rfl⟩
          · refine K_tableIn (tgt := 132) (dt_at dtX9_kindOf 17 rfl) ⟨by decide, by decide⟩ (by decide) (by decide) rfl (by decide) ?_
            refine K_iconst (dt_at dtX9_kindOf 18 rfl) ?_
            exact K_iret (dt_at dtX9_kindOf 19 rfl) rfl rfl (by decide) (by decide) ⟨by rw [kd_3 (by omega)], rfl⟩
          · refine K_tableIn (tgt := 132) (dt_at dtX9_kindOf 17 rfl) ⟨by decide, by decide⟩ (by decide) (by decide) rfl (by decide) ?_
            refine K_iconst (dt_at dtX9_kindOf 18 rfl) ?_
            exact K_iret (dt_at dtX9_kindOf 19 rfl) rfl rfl (by decide) (by decide) ⟨by rw [kd_3 (by omega)], rfl⟩
          · refine K_tableIn (tgt := 132) (dt_at dtX9_kindOf 17 rfl) ⟨by decide, by decide⟩ (by decide) (by decide) rfl (by decide) ?_
            refine K_iconst (dt_at dtX9_kindOf 18 rfl) ?_
            exact K_iret (dt_at dtX9_kindOf 19 rfl) rfl rfl (by decide) (by decide) ⟨by rw [kd_3 (by omega)], rfl⟩
      · refine K_iconst (dt_at dtX9_kindOf 14 rfl) ?_
        exact K_iret (dt_at dtX9_kindOf 15 rfl) rfl rfl (by decide) (by decide) ⟨by rw [kd_2 (by omega)], rfl⟩
  · refine K_iload_n (dt_at dtX9_kindOf 3 rfl) rfl rfl ?_
    refine K_bipush (dt_at dtX9_kindOf 4 rfl) (by decide) ?_
    refine K_icmp_gt (tgt := 14) (dt_at dtX9_kindOf 5 rfl) (by decide) ⟨by omega, by omega⟩ (by first | assumption | exact ⟨by omega, by omega⟩) (fun c6 => ?_) (fun c6 => ?_)
    · refine K_iload_n (dt_at dtX9_kindOf 8 rfl) rfl rfl ?_
      refine K_bipush (dt_at dtX9_kindOf 9 rfl) (by decide) ?_
      refine K_icmp_lt (tgt := 28) (dt_at dtX9_kindOf 10 rfl) (by decide) ⟨by omega, by omega⟩ (by first | assumption | exact ⟨by omega, by omega⟩) (fun c7 => ?_) (fun c7 => ?_)
      · refine K_iload_n (dt_at dtX9_kindOf 16 rfl) rfl rfl ?_
        by_cases sw8 : y < 40 ∨ 61 < y
        · refine K_tableOut (tgt := 134) (dt_at dtX9_kindOf 17 rfl) ⟨by omega, by omega⟩ sw8 (by decide) ?_
          refine K_iconst (dt_at dtX9_kindOf 20 rfl) ?_
          exact K_iret (dt_at dtX9_kindOf 21 rfl) rfl rfl (by decide) (by decide) ⟨by rw [kd_4 (by omega) (by omega) (by omega)], rfl⟩
        · have sx : y = 40 ∨ y = 41 ∨ y = 42 ∨ y = 43 ∨ y = 44 ∨ y = 45 ∨ y = 46 ∨ y = 47 ∨ y = 48 ∨ y = 49 ∨ y = 50 ∨ y = 51 ∨ y = 52 ∨ y = 53 ∨ y = 54 ∨ y = 55 ∨ y = 56 ∨ y = 57 ∨ y = 58 ∨ y = 59 ∨ y = 60 ∨ y = 61 := by omega
          rcases sx with rfl | rfl | rfl | rfl | rfl | rfl | rfl | rfl | rfl | rfl | rfl | rfl | rfl | rfl | rfl | rfl | rfl | rfl | rfl | rfl | rfl | rfl
          · refine K_tableIn (tgt := 132) (dt_at dtX9_kindOf 17 rfl) ⟨by decide, by decide⟩ (by decide) (by decide) rfl (by decide) ?_
            refine K_iconst (dt_at dtX9_kindOf 18 rfl) ?_
            exact K_iret (dt_at dtX9_kindOf 19 rfl) rfl rfl (by decide) (by decide) ⟨by rw [kd_3 (by omega)], rfl⟩
          · refine K_tableIn (tgt := 132) (dt_at dtX9_kindOf 17 rfl) ⟨by decide, by decide⟩ (by decide) (by decide) rfl (by decide) ?_
            refine K_iconst (dt_at dtX9_kindOf 18 rfl) ?_
            exact K_iret (dt_at dtX9_kindOf 19 rfl) rfl rfl (by decide) (by decide) ⟨by rw [kd_3 (by omega)], rfl⟩
          · refine K_tableIn (tgt := 132) (dt_at dtX9_kindOf 17 rfl) ⟨by decide, by decide⟩ (by decide) (by decide) rfl (by decide) ?_
            refine K_iconst (dt_at dtX9_kindOf 18 rfl) ?_
            exact K_iret (dt_at dtX9_kindOf 19 rfl) rfl rfl (by decide) (by decide) ⟨by rw [kd_3 (by omega)], rfl⟩
          · refine K_tableIn (tgt := 132) (dt_at dtX9_kindOf 17 rfl) ⟨by decide, by decide⟩ (by decide) (by decide) rfl (by decide) ?_
            refine K_iconst (dt_at dtX9_kindOf 18 rfl) ?_
            exact K_iret (dt_at dtX9_kindOf 19 rfl) rfl rfl (by decide) (by decide) ⟨by rw [kd_3 (by omega)], rfl⟩
          · refine K_tableIn (tgt := 134) (dt_at dtX9_kindOf 17 rfl) ⟨by decide, by decide⟩ (by decide) (by decide) rfl (by decide) ?_
            refine K_iconst (dt_at dtX9_kindOf 20 rfl) ?_
            exact K_iret (dt_at dtX9_kindOf 21 rfl) rfl rfl (by decide) (by decide) ⟨by rw [kd_4 (by omega) (by omega) (by omega)], rfl⟩
          · refine K_tableIn (tgt := 132) (dt_at dtX9_kindOf 17 rfl) ⟨by decide, by decide⟩ (by decide) (by decide) rfl (by decide) ?_
            refine K_iconst (dt_at dtX9_kindOf 18 rfl) ?_
            exact K_iret (dt_at dtX9_kindOf 19 rfl) rfl rfl (by decide) (by decide) ⟨by rw [kd_3 (by omega)], rfl⟩
          · refine K_tableIn (tgt := 134) (dt_at dtX9_kindOf 17 rfl) ⟨by decide, by decide⟩ (by decide) (by decide) rfl (by decide) ?_
            refine K_iconst (dt_at dtX9_kindOf 20 rfl) ?_
            exact K_iret (dt_at dtX9_kindOf 21 rfl) rfl rfl (by decide) (by decide) ⟨by rw [kd_4 (by omega) (by omega) (by omega)], rfl⟩
          · refine K_tableIn (tgt := 132) (dt_at dtX9_kindOf 17 rfl) ⟨by decide, by decide⟩ (by decide) (by decide) rfl (by decide) ?_
            refine K_iconst (dt_at dtX9_kindOf 18 rfl) ?_
            exact K_iret (dt_at dtX9_kindOf 19 rfl) rfl rfl (by decide) (by decide) ⟨by rw [kd_3 (by omega)], rfl⟩
          · refine K_tableIn (tgt := 134) (dt_at dtX9_kindOf 17 rfl) ⟨by decide, by decide⟩ (by decide) (by decide) rfl (by decide) ?_
            refine K_iconst (dt_at dtX9_kindOf 20 rfl) ?_
            exact K_iret (dt_at dtX9_kindOf 21 rfl) rfl rfl (by decide) (by decide) ⟨by rw [kd_4 (by omega) (by omega) (by omega)], rfl⟩
          · refine K_tableIn (tgt := 134) (dt_at dtX9_kindOf 17 rfl) ⟨by decide, by decide⟩ (by decide) (by decide) rfl (by decide) ?_
            refine K_iconst (dt_at dtX9_kindOf 20 rfl) ?_
            exact K_iret (dt_at dtX9_kindOf 21 rfl) rfl rfl (by decide) (by decide) ⟨by rw [kd_4 (by omega) (by omega) (by omega)], rfl⟩
          · refine K_tableIn (tgt := 134) (dt_at dtX9_kindOf 17 rfl) ⟨by decide, by decide⟩ (by decide) (by decide) rfl (by decide) ?_
            refine K_iconst (dt_at dtX9_kindOf 20 rfl) ?_
            exact K_iret (dt_at dtX9_kindOf 21 rfl) rfl rfl (by decide) (by decide) ⟨by rw [kd_4 (by omega) (by omega) (by omega)], rfl⟩
          · refine K_tableIn (tgt := 134) (dt_at dtX9_kindOf 17 rfl) ⟨by decide, by decide⟩ (by decide) (by decide) rfl (by decide) ?_
            refine K_iconst (dt_at dtX9_kindOf 20 rfl) ?_
            exact K_iret (dt_at dtX9_kindOf 21 rfl) rfl rfl (by decide) (by decide) ⟨by rw [kd_4 (by omega) (by omega) (by omega)], rfl⟩
          · refine K_tableIn (tgt := 134) (dt_at dtX9_kindOf 17 rfl) ⟨by decide, by decide⟩ (by decide) (by decide) rfl (by decide) ?_
            refine K_iconst (dt_at dtX9_kindOf 20 rfl) ?_
            exact K_iret (dt_at dtX9_kindOf 21 rfl) rfl rfl (by decide) (by decide) ⟨by rw [kd_4 (by omega) (by omega) (by omega)], rfl⟩
          · refine K_tableIn (tgt := 134) (dt_at dtX9_kindOf 17 rfl) ⟨by decide, by decide⟩ (by decide) (by decide) rfl (by decide) ?_
            refine K_iconst (dt_at dtX9_kindOf 20 rfl) ?_
            exact K_iret (dt_at dtX9_kindOf 21 rfl) rfl rfl (by decide) (by decide) ⟨by rw [kd_4 (by omega) (by omega) (by omega)], rfl⟩
          · refine K_tableIn (tgt := 134) (dt_at dtX9_kindOf 17 rfl) ⟨by decide, by decide⟩ (by decide) (by decide) rfl (by decide) ?_
            refine K_iconst (dt_at dtX9_kindOf 20 rfl) ?_
            exact K_iret (dt_at dtX9_kindOf 21 rfl) rfl rfl (by decide) (by decide) ⟨by rw [kd_4 (by omega) (by omega) (by omega)], rfl⟩
          · refine K_tableIn (tgt := 134) (dt_at dtX9_kindOf 17 rfl) ⟨by decide, by decide⟩ (by decide) (by decide) rfl (by decide) ?_
            refine K_iconst (dt_at dtX9_kindOf 20 rfl) ?_
            exact K_iret (dt_at dtX9_kindOf 21 rfl) rfl rfl (by decide) (by decide) ⟨by rw [kd_4 (by omega) (by omega) (by omega)], rfl⟩
          · refine K_tableIn (tgt := 134) (dt_at dtX9_kindOf 17 rfl) ⟨by decide, by decide⟩ (by decide) (by decide) rfl (by decide) ?_
            refine K_iconst (dt_at dtX9_kindOf 20 rfl) ?_
            exact K_iret (dt_at dtX9_kindOf 21 rfl) rfl rfl (by decide) (by decide) ⟨by rw [kd_4 (by omega) (by omega) (by omega)], rfl⟩
          · refine K_tableIn (tgt := 134) (dt_at dtX9_kindOf 17 rfl) ⟨by decide, by decide⟩ (by decide) (by decide) rfl (by decide) ?_
            refine K_iconst (dt_at dtX9_kindOf 20 rfl) ?_
            exact K_iret (dt_at dtX9_kindOf 21 rfl) rfl rfl (by decide) (by decide) ⟨by rw [kd_4 (by omega) (by omega) (by omega)], rfl⟩
          · refine K_tableIn (tgt := 134) (dt_at dtX9_kindOf 17 rfl) ⟨by decide, by decide⟩ (by decide) (by decide) rfl (by decide) ?_
            refine K_iconst (dt_at dtX9_kindOf 20 rfl) ?_
            exact K_iret (dt_at dtX9_kindOf 21 rfl) rfl rfl (by decide) (by decide) ⟨by rw [kd_4 (by omega) (by omega) (by omega)], rfl⟩
          · refine K_tableIn (tgt := 132) (dt_at dtX9_kindOf 17 rfl) ⟨by decide, by decide⟩ (by decide) (by decide) rfl (by decide) ?_
            refine K_iconst (dt_at dtX9_kindOf 18 rfl) ?_
            exact K_iret (dt_at dtX9_kindOf 19 rfl) rfl rfl (by decide) (by decide) ⟨by rw [kd_3 (by omega)], rfl⟩
          · refine K_tableIn (tgt := 132) (dt_at dtX9_kindOf 17 rfl) ⟨by decide, by decide⟩ (by decide) (by decide) rfl (by decide) ?_
            refine K_iconst (dt_at dtX9_kindOf 18 rfl) ?_
            exact K_iret (dt_at dtX9_kindOf 19 rfl) rfl rfl (by decide) (by decide) ⟨by rw [kd_3 (by omega)], rfl⟩
          · refine K_tableIn (tgt := 132) (dt_at dtX9_kindOf 17 rfl) ⟨by decide, by decide⟩ (by decide) (by decide) rfl (by decide) ?_
            refine K_iconst (dt_at dtX9_kindOf 18 rfl) ?_
            exact K_iret (dt_at dtX9_kindOf 19 rfl) rfl rfl (by decide) (by decide) ⟨by rw [kd_3 (by omega)], rfl⟩
      · refine K_iload_n (dt_at dtX9_kindOf 11 rfl) rfl rfl ?_
        refine K_bipush (dt_at dtX9_kindOf 12 rfl) (by decide) ?_
        refine K_icmp_gt (tgt := 28) (dt_at dtX9_kindOf 13 rfl) (by decide) ⟨by omega, by omega⟩ (by first | assumption | exact ⟨by omega, by omega⟩) (fun c9 => ?_) (fun c9 => ?_)
        · refine K_iload_n (dt_at dtX9_kindOf 16 rfl) rfl rfl ?_
          by_cases sw10 : y < 40 ∨ 61 < y
          · refine K_tableOut (tgt := 134) (dt_at dtX9_kindOf 17 rfl) ⟨by omega, by omega⟩ sw10 (by decide) ?_
            refine K_iconst (dt_at dtX9_kindOf 20 rfl) ?_
            exact K_iret (dt_at dtX9_kindOf 21 rfl) rfl rfl (by decide) (by decide) ⟨by rw [kd_4 (by omega) (by omega) (by omega)], rfl⟩
          · have sx : y = 40 ∨ y = 41 ∨ y = 42 ∨ y = 43 ∨ y = 44 ∨ y = 45 ∨ y = 46 ∨ y = 47 ∨ y = 48 ∨ y = 49 ∨ y = 50 ∨ y = 51 ∨ y = 52 ∨ y = 53 ∨ y = 54 ∨ y = 55 ∨ y = 56 ∨ y = 57 ∨ y = 58 ∨ y = 59 ∨ y = 60 ∨ y = 61 := by omega
            rcases sx with rfl | rfl | rfl | rfl | rfl | rfl | rfl | rfl | rfl | rfl | rfl | rfl | rfl | rfl | rfl | rfl | rfl | rfl | rfl | rfl | rfl | rfl
            · refine K_tableIn (tgt := 132) (dt_at dtX9_kindOf 17 rfl) ⟨by decide, by decide⟩ (by decide) (by decide) rfl (by decide) ?_
              refine K_iconst (dt_at dtX9_kindOf 18 rfl) ?_
              exact K_iret (dt_at dtX9_kindOf 19 rfl) rfl rfl (by decide) (by decide) ⟨by rw [kd_3 (by omega)], rfl⟩
            · refine K_tableIn (tgt := 132) (dt_at dtX9_kindOf 17 rfl) ⟨by decide, by decide⟩ (by decide) (by decide) rfl (by decide) ?_
              refine K_iconst (dt_at dtX9_kindOf 18 rfl) ?_
              exact K_iret (dt_at dtX9_kindOf 19 rfl) rfl rfl (by decide) (by decide) ⟨by rw [kd_3 (by omega)], rfl⟩
            · refine K_tableIn (tgt := 132) (dt_at dtX9_kindOf 17 rfl) ⟨by decide, by decide⟩ (by decide) (by decide) rfl (by decide) ?_
              refine K_iconst (dt_at dtX9_kindOf 18 rfl) ?_
              exact K_iret (dt_at dtX9_kindOf 19 rfl) rfl rfl (by decide) (by decide) ⟨by rw [kd_3 (by omega)], rfl⟩
            · refine K_tableIn (tgt := 132) (dt_at dtX9_kindOf 17 rfl) ⟨by decide, by decide⟩ (by decide) (by decide) rfl (by decide) ?_
              refine K_iconst (dt_at dtX9_kindOf 18 rfl) ?_
              exact K_iret (dt_at dtX9_kindOf 19 rfl) rfl rfl (by decide) (by decide) ⟨by rw [kd_3 (by omega)], rfl⟩
            · refine K_tableIn (tgt := 134) (dt_at dtX9_kindOf 17 rfl) ⟨by decide, by decide⟩ (by decide) (by decide) rfl (by decide) ?_
              refine K_iconst (dt_at dtX9_kindOf 20 rfl) ?_
              exact K_iret (dt_at dtX9_kindOf 21 rfl) rfl rfl (by decide) (by decide) ⟨by rw [kd_4 (by omega) (by omega) (by omega)], rfl⟩
            · refine K_tableIn (tgt := 132) (dt_at dtX9_kindOf 17 rfl) ⟨by decide, by decide⟩ (by decide) (by decide) rfl (by decide) ?_
              refine K_iconst (dt_at dtX9_kindOf 18 rfl) ?_
              exact K_iret (dt_at dtX9_kindOf 19 rfl) rfl rfl (by decide) (by decide) ⟨by rw [kd_3 (by omega)], rfl⟩
            · refine K_tableIn (tgt := 134) (dt_at dtX9_kindOf 17 rfl) ⟨by decide, by decide⟩ (by decide) (by decide) rfl (by decide) ?_
              refine K_iconst (dt_at dtX9_kindOf 20 rfl) ?_
              exact K_iret (dt_at dtX9_kindOf 21 rfl) rfl rfl (by decide) (by decide) ⟨by rw [kd_4 (by omega) (by omega) (by omega)], rfl⟩
            · refine K_tableIn (tgt := 132) (dt_at dtX9_kindOf 17 rfl) ⟨by decide, by decide⟩ (by decide) (by decide) rfl (by decide) ?_
              refine K_iconst (dt_at dtX9_kindOf 18 rfl) ?_
              exact K_iret (dt_at dtX9_kindOf 19 rfl) rfl rfl (by decide) (by decide) ⟨by rw [kd_3 (by omega)], rfl⟩
            · refine K_tableIn (tgt := 134) (dt_at dtX9_kindOf 17 rfl) ⟨by decide, by decide⟩ (by decide) (by decide) rfl (by decide) ?_
              refine K_iconst (dt_at dtX9_kindOf 20 rfl) ?_
              exact K_iret (dt_at dtX9_kindOf 21 rfl) rfl rfl (by decide) (by decide) ⟨by rw [kd_4 (by omega) (by omega) (by omega)], rfl⟩
            · refine K_tableIn (tgt := 134) (dt_at dtX9_kindOf 17 rfl) ⟨by decide, by decide⟩ (by decide) (by decide) rfl (by decide) ?_
              refine K_iconst (dt_at dtX9_kindOf 20 rfl) ?_
              exact K_iret (dt_at dtX9_kindOf 21 rfl) rfl rfl (by decide) (by decide) ⟨by rw [kd_4 (by omega) (by omega) (by omega)], rfl⟩
            · refine K_tableIn (tgt := 134) (dt_at dtX9_kindOf 17 rfl) ⟨by decide, by decide⟩ (by decide) (by decide) rfl (by decide) ?_
              refine K_iconst (dt_at dtX9_kindOf 20 rfl) ?_
              exact K_iret (dt_at dtX9_kindOf 21 rfl) rfl rfl (by decide) (by decide) ⟨by rw [kd_4 (by omega) (by omega) (by omega)], rfl⟩
            · refine K_tableIn (tgt := 134) (dt_at dtX9_kindOf 17 rfl) ⟨by decide, by decide⟩ (by decide) (by decide) rfl (by decide) ?_
              refine K_iconst (dt_at dtX9_kindOf 20 rfl) ?_
              exact K_iret (dt_at dtX9_kindOf 21 rfl) rfl rfl (by decide) (by decide) ⟨by rw [kd_4 (by omega) (by omega) (by omega)], rfl⟩
            · refine K_tableIn (tgt := 134) (dt_at dtX9_kindOf 17 rfl) ⟨by decide, by decide⟩ (by decide) (by decide) rfl (by decide) ?_
              refine K_iconst (dt_at dtX9_kindOf 20 rfl) ?_
              exact K_iret (dt_at dtX9_kindOf 21 rfl) rfl rfl (by decide) (by decide) ⟨by rw [kd_4 (by omega) (by omega) (by omega)], rfl⟩
            · refine K_tableIn (tgt := 134) (dt_at dtX9_kindOf 17 rfl) ⟨by decide, by decide⟩ (by decide) (by decide) rfl (by decide) ?_
              refine K_iconst (dt_at dtX9_kindOf 20 rfl) ?_
              exact K_iret (dt_at dtX9_kindOf 21 rfl) rfl rfl (by decide) (by decide) ⟨by rw [kd_4 (by omega) (by omega) (by omega)], rfl⟩
            · refine K_tableIn (tgt := 134) (dt_at dtX9_kindOf 17 rfl) ⟨by decide, by decide⟩ (by decide) (by decide) rfl (by decide) ?_
              refine K_iconst (dt_at dtX9_kindOf 20 rfl) ?_
              exact K_iret (dt_at dtX9_kindOf 21 rfl) rfl rfl (by decide) (by decide) ⟨by rw [kd_4 (by omega) (by omega) (by omega)], rfl⟩
            · refine K_tableIn (tgt := 134) (dt_at dtX9_kindOf 17 rfl) ⟨by decide, by decide⟩ (by decide) (by decide) rfl (by decide) ?_
              refine K_iconst (dt_at dtX9_kindOf 20 rfl) ?_
              exact K_iret (dt_at dtX9_kindOf 21 rfl) rfl rfl (by decide) (by decide) ⟨by rw [kd_4 (by omega) (by omega) (by omega)], rfl⟩
            · refine K_tableIn (tgt := 134) (dt_at dtX9_kindOf 17 rfl) ⟨by decide, by decide⟩ (by decide) (by decide) rfl (by decide) ?_
              refine K_iconst (dt_at dtX9_kindOf 20 rfl) ?_
              exact K_iret (dt_at dtX9_kindOf 21 rfl) rfl rfl (by decide) (by decide) ⟨by rw [kd_4 (by omega) (by omega) (by omega)], rfl⟩
            · refine K_tableIn (tgt := 134) (dt_at dtX9_kindOf 17 rfl) ⟨by decide, by decide⟩ (by decide) (by decide) rfl (by decide) ?_
              refine K_iconst (dt_at dtX9_kindOf 20 rfl) ?_
              exact K_iret (dt_at dtX9_kindOf 21 rfl) rfl rfl (by decide) (by decide) ⟨by rw [kd_4 (by omega) (by omega) (by omega)], rfl⟩
            · refine K_tableIn (tgt := 134) (dt_at dtX9_kindOf 17 rfl) ⟨by decide, by decide⟩ (by decide) (by decide) rfl (by decide) ?_
              refine K_iconst (dt_at dtX9_kindOf 20 rfl) ?_
              exact K_iret (dt_at dtX9_kindOf 21 rfl) rfl rfl (by decide) (by decide) ⟨by rw [kd_4 (by omega) (by omega) (by omega)], rfl⟩
            · refine K_tableIn (tgt := 132) (dt_at dtX9_kindOf 17 rfl) ⟨by decide, by decide⟩ (by decide) (by decide) rfl (by decide) ?_
              refine K_iconst (dt_at dtX9_kindOf 18 rfl) ?_
              exact K_iret (dt_at dtX9_kindOf 19 rfl) rfl rfl (by decide) (by decide) ⟨by rw [kd_3 (by omega)], rfl⟩
            · refine K_tableIn (tgt := 132) (dt_at dtX9_kindOf 17 rfl) ⟨by decide, by decide⟩ (by decide) (by decide) rfl (by decide) ?_
              refine K_iconst (dt_at dtX9_kindOf 18 rfl) ?_
              exact K_iret (dt_at dtX9_kindOf 19 rfl) rfl rfl (by decide) (by decide) ⟨by rw [kd_3 (by omega)], rfl⟩
            · refine K_tableIn (tgt := 132) (dt_at dtX9_kindOf 17 rfl) ⟨by decide, by decide⟩ (by decide) (by decide) rfl (by decide) ?_
              refine K_iconst (dt_at dtX9_kindOf 18 rfl) ?_
              exact K_iret (dt_at dtX9_kindOf 19 rfl) rfl rfl (by decide) (by decide) ⟨by rw [kd_3 (by omega)], rfl⟩
        · refine K_iconst (dt_at dtX9_kindOf 14 rfl) ?_
          exact K_iret (dt_at dtX9_kindOf 15 rfl) rfl rfl (by decide) (by decide) ⟨by rw [kd_2 (by omega)], rfl⟩
    · refine K_iconst (dt_at dtX9_kindOf 6 rfl) ?_
      exact K_iret (dt_at dtX9_kindOf 7 rfl) rfl rfl (by decide) (by decide) ⟨by rw [kd_1 (by omega)], rfl⟩
def mX9_pass : MI := (yX9_pass, cX9_pass, 1, none, rmK 2 0)
def tX9_pass : List (Nat × Instr × Nat) := [(0, .aload_n 0, 1), (1, .aload_n 0, 1), (2, .getfield 20, 3), (5, .putfield 17, 3), (8, .aload_n 0, 1), (9, .getfield 17, 3), (12, .aload_n 0, 1), (13, .getfield 13, 3), (16, .if_icmp .ge 44, 3), (19, .aload_n 0, 1), (20, .getfield 7, 3), (23, .aload_n 0, 1), (24, .getfield 17, 3), (27, .baload, 1), (28, .bipush 32, 2), (30, .if_icmp .eq 17, 3), (33, .aload_n 0, 1), (34, .getfield 7, 3), (37, .aload_n 0, 1), (38, .getfield 17, 3), (41, .baload, 1), (42, .bipush 10, 2), (44, .if_icmp .ne 16, 3), (47, .aload_n 0, 1), (48, .dup, 1), (49, .getfield 17, 3), (52, .iconst 1, 1), (53, .iadd, 1), (54, .putfield 17, 3), (57, .goto (-49), 3), (60, .aload_n 0, 1), (61, .aload_n 0, 1), (62, .getfield 17, 3), (65, .putfield 20, 3), (68, .aload_n 0, 1), (69, .getfield 17, 3), (72, .aload_n 0, 1), (73, .getfield 13, 3), (76, .if_icmp .lt 9, 3), (79, .aload_n 0, 1), (80, .iconst 0, 1), (81, .putfield 23, 3), (84, .return_, 1), (85, .aload_n 0, 1), (86, .aload_n 0, 1), (87, .getfield 7, 3), (90, .aload_n 0, 1), (91, .getfield 17, 3), (94, .baload, 1), (95, .invokestatic 44, 3), (98, .putfield 23, 3), (101, .aload_n 0, 1), (102, .dup, 1), (103, .getfield 20, 3), (106, .iconst 1, 1), (107, .iadd, 1), (108, .putfield 20, 3), (111, .aload_n 0, 1), (112, .getfield 20, 3), (115, .aload_n 0, 1), (116, .getfield 13, 3), (119, .if_icmp .ge 43, 3), (122, .aload_n 0, 1), (123, .getfield 23, 3), (126, .iconst 2, 1), (127, .if_icmp .gt 35, 3), (130, .aload_n 0, 1), (131, .getfield 7, 3), (134, .aload_n 0, 1), (135, .getfield 20, 3), (138, .baload, 1), (139, .invokestatic 44, 3), (142, .aload_n 0, 1), (143, .getfield 23, 3), (146, .if_icmp .ne 16, 3), (149, .aload_n 0, 1), (150, .dup, 1), (151, .getfield 20, 3), (154, .iconst 1, 1), (155, .iadd, 1), (156, .putfield 20, 3), (159, .goto (-48), 3), (162, .return_, 1)]
theorem dtX9_pass : tX9_pass.all (fun q => decide (decode cX9_pass q.1 = .ok (q.2.1, q.2.2))) = true := by decide +kernel
theorem npX9_pass : (parseMethodDescriptor (mY mX9_pass).desc).map (fun d => d.parameters.length) = some 0 := by decide +kernel
theorem vX9_pass : mV mX9_pass := ⟨wI_X9_pass, wS_X9_pass, wN_X9, wC_X9_pass, by decide +kernel, by decide +kernel⟩
set_option maxHeartbeats 4000000 in
set_option maxRecDepth 100000 in
theorem lp_X9_pass1 {Z : CT → State → Prop} {h : HP} {tp : Int → Int} {n : Nat}  : ∀ (d k : Nat) (hh : HP), k + d = n → hI hh 64 2 = (k : Int) → TxR hh tp n → FL [] TL [] h hh → (∀ h2 : HP, hI h2 64 2 = (skF tp d k : Int) → TxR h2 tp n → FL [] TL [] h h2 → K mX9_pass GK Z 0 0 60 [(0, vr 64)] [] h2) → K mX9_pass GK Z 0 0 8 [(0, vr 64)] [] hh := by
  intro d
  induction d with
  | zero =>
    intro k hh hk e2 T F kx
    have hn7 := T.2.2.1
    refine K_aload_n (dt_at dtX9_pass 4 rfl) rfl rfl ?_
    refine K_get (a := 64) (ci := 9) (k := 2) (v := vi (k : Int)) (dt_at dtX9_pass 5 rfl) (show TT 64 = (0, 9) from rfl) rfl (by decide) wF_X9_17 (by show vi (hI hh 64 2) = vi (k : Int); rw [e2]) ?_
    refine K_aload_n (dt_at dtX9_pass 6 rfl) rfl rfl ?_
    refine K_get (a := 64) (ci := 9) (k := 1) (v := vi (n : Int)) (dt_at dtX9_pass 7 rfl) (show TT 64 = (0, 9) from rfl) rfl (by decide) wF_X9_13 (by show vi (hI hh 64 1) = vi (n : Int); rw [T.2.1]) ?_
    refine K_icmp_ge (tgt := 60) (dt_at dtX9_pass 8 rfl) (by decide) (by first | assumption | exact ⟨by omega, by omega⟩) (by first | assumption | exact ⟨by omega, by omega⟩) (fun c1 => ?_) (fun c1 => absurd c1 (by omega))
    exact kx hh e2 T F
  | succ d ih =>
    intro k hh hk e2 T F kx
    have bk := T.2.2.2 (k : Int) (by omega) (by omega)
    have bks := sb_or bk.1
    have hn7 := T.2.2.1
    refine K_aload_n (dt_at dtX9_pass 4 rfl) rfl rfl ?_
    refine K_get (a := 64) (ci := 9) (k := 2) (v := vi (k : Int)) (dt_at dtX9_pass 5 rfl) (show TT 64 = (0, 9) from rfl) rfl (by decide) wF_X9_17 (by show vi (hI hh 64 2) = vi (k : Int); rw [e2]) ?_
    refine K_aload_n (dt_at dtX9_pass 6 rfl) rfl rfl ?_
    refine K_get (a := 64) (ci := 9) (k := 1) (v := vi (n : Int)) (dt_at dtX9_pass 7 rfl) (show TT 64 = (0, 9) from rfl) rfl (by decide) wF_X9_13 (by show vi (hI hh 64 1) = vi (n : Int); rw [T.2.1]) ?_
    refine K_icmp_ge (tgt := 60) (dt_at dtX9_pass 8 rfl) (by decide) (by first | assumption | exact ⟨by omega, by omega⟩) (by first | assumption | exact ⟨by omega, by omega⟩) (fun c1 => absurd c1 (by omega)) (fun c1 => ?_)
    refine K_aload_n (dt_at dtX9_pass 9 rfl) rfl rfl ?_
    refine K_get (a := 64) (ci := 9) (k := 0) (v := vr 31) (dt_at dtX9_pass 10 rfl) (show TT 64 = (0, 9) from rfl) rfl (by decide) wF_X9_7 (by show vr (hR hh 64 0) = vr 31; rw [T.1]) ?_
    refine K_aload_n (dt_at dtX9_pass 11 rfl) rfl rfl ?_
    refine K_get (a := 64) (ci := 9) (k := 2) (v := vi (k : Int)) (dt_at dtX9_pass 12 rfl) (show TT 64 = (0, 9) from rfl) rfl (by decide) wF_X9_17 (by show vi (hI hh 64 2) = vi (k : Int); rw [e2]) ?_
    refine K_bald (dt_at dtX9_pass 13 rfl) (show TT 31 = (2, 700) from rfl) (by omega) (by omega) ?_
    rw [bk.2]
    refine K_bipush (dt_at dtX9_pass 14 rfl) (by decide) ?_
    refine K_icmp_eq (tgt := 47) (dt_at dtX9_pass 15 rfl) (by decide) (by first | assumption | exact ⟨by omega, by omega⟩) (by first | assumption | exact ⟨by omega, by omega⟩) (fun c2 => ?_) (fun c2 => ?_)
    · refine K_aload_n (dt_at dtX9_pass 23 rfl) rfl rfl ?_
      refine K_dup (dt_at dtX9_pass 24 rfl) rfl ?_
      refine K_get (a := 64) (ci := 9) (k := 2) (v := vi (k : Int)) (dt_at dtX9_pass 25 rfl) (show TT 64 = (0, 9) from rfl) rfl (by decide) wF_X9_17 (by show vi (hI hh 64 2) = vi (k : Int); rw [e2]) ?_
      refine K_iconst (dt_at dtX9_pass 26 rfl) ?_
      refine K_iadd (dt_at dtX9_pass 27 rfl) ?_
      refine K_putI (a := 64) (ci := 9) (k := 2) (dt_at dtX9_pass 28 rfl) (show TT 64 = (0, 9) from rfl) rfl (by decide) wF_X9_17 rfl (Or.inl rfl) rfl rfl ?_
      obtain ⟨hq1, eq1⟩ : ∃ z, z = sI hh 64 2 ((k : Int) + 1) := ⟨_, rfl⟩
      rw [← eq1]
      obtain ⟨iq1, fq1, aq1, rq1⟩ := sI_fx eq1
      refine K_goto (tgt := 8) (dt_at dtX9_pass 29 rfl) (by decide) ?_
      exact ih (k + 1) hq1 (by omega) (by rw [iq1]; rfl) (TxR_FL T ((by rw [eq1]; exact FL_sI rfl : FL [] TL [] hh hq1)) rfl rfl rfl) (FL_tr F (FL_eI eq1 rfl)) (fun h2 e9 => kx h2 (by rw [e9, skF_t (by omega)]))
    · refine K_aload_n (dt_at dtX9_pass 16 rfl) rfl rfl ?_
      refine K_get (a := 64) (ci := 9) (k := 0) (v := vr 31) (dt_at dtX9_pass 17 rfl) (show TT 64 = (0, 9) from rfl) rfl (by decide) wF_X9_7 (by show vr (hR hh 64 0) = vr 31; rw [T.1]) ?_
      refine K_aload_n (dt_at dtX9_pass 18 rfl) rfl rfl ?_
      refine K_get (a := 64) (ci := 9) (k := 2) (v := vi (k : Int)) (dt_at dtX9_pass 19 rfl) (show TT 64 = (0, 9) from rfl) rfl (by decide) wF_X9_17 (by show vi (hI hh 64 2) = vi (k : Int); rw [e2]) ?_
      refine K_bald (dt_at dtX9_pass 20 rfl) (show TT 31 = (2, 700) from rfl) (by omega) (by omega) ?_
      rw [bk.2]
      refine K_bipush (dt_at dtX9_pass 21 rfl) (by decide) ?_
      refine K_icmp_ne (tgt := 60) (dt_at dtX9_pass 22 rfl) (by decide) (by first | assumption | exact ⟨by omega, by omega⟩) (by first | assumption | exact ⟨by omega, by omega⟩) (fun c3 => ?_) (fun c3 => ?_)
      · exact kx hh (by rw [e2, skF_f (by omega)]) T F
      · refine K_aload_n (dt_at dtX9_pass 23 rfl) rfl rfl ?_
        refine K_dup (dt_at dtX9_pass 24 rfl) rfl ?_
        refine K_get (a := 64) (ci := 9) (k := 2) (v := vi (k : Int)) (dt_at dtX9_pass 25 rfl) (show TT 64 = (0, 9) from rfl) rfl (by decide) wF_X9_17 (by show vi (hI hh 64 2) = vi (k : Int); rw [e2]) ?_
        refine K_iconst (dt_at dtX9_pass 26 rfl) ?_
        refine K_iadd (dt_at dtX9_pass 27 rfl) ?_
        refine K_putI (a := 64) (ci := 9) (k := 2) (dt_at dtX9_pass 28 rfl) (show TT 64 = (0, 9) from rfl) rfl (by decide) wF_X9_17 rfl (Or.inl rfl) rfl rfl ?_
        obtain ⟨hq2, eq2⟩ : ∃ z, z = sI hh 64 2 ((k : Int) + 1) := ⟨_, rfl⟩
        rw [← eq2]
        obtain ⟨iq2, fq2, aq2, rq2⟩ := sI_fx eq2
        refine K_goto (tgt := 8) (dt_at dtX9_pass 29 rfl) (by decide) ?_
        exact ih (k + 1) hq2 (by omega) (by rw [iq2]; rfl) (TxR_FL T ((by rw [eq2]; exact FL_sI rfl : FL [] TL [] hh hq2)) rfl rfl rfl) (FL_tr F (FL_eI eq2 rfl)) (fun h2 e9 => kx h2 (by rw [e9, skF_t (by omega)]))
set_option maxHeartbeats 4000000 in
set_option maxRecDepth 100000 in
theorem lp_X9_pass2 {Z : CT → State → Prop} {h : HP} {tp : Int → Int} {n : Nat} {c : Int} {s : Nat} (hc : 1 ≤ c ∧ c ≤ 4) : ∀ (d k : Nat) (hh : HP), k + d = n → hI hh 64 3 = (k : Int) → hI hh 64 4 = c → hI hh 64 2 = (s : Int) → TxR hh tp n → FL [] TL [] h hh → (∀ h2 : HP, hI h2 64 3 = (rnF tp c d k : Int) → hI h2 64 4 = c → hI h2 64 2 = (s : Int) → FL [] TL [] h h2 → K mX9_pass GK Z 0 0 162 [(0, vr 64)] [] h2) → K mX9_pass GK Z 0 0 111 [(0, vr 64)] [] hh := by
  intro d
  induction d with
  | zero =>
    intro k hh hk e3 e4 e2 T F kx
    have hn7 := T.2.2.1
    refine K_aload_n (dt_at dtX9_pass 57 rfl) rfl rfl ?_
    refine K_get (a := 64) (ci := 9) (k := 3) (v := vi (k : Int)) (dt_at dtX9_pass 58 rfl) (show TT 64 = (0, 9) from rfl) rfl (by decide) wF_X9_20 (by show vi (hI hh 64 3) = vi (k : Int); rw [e3]) ?_
    refine K_aload_n (dt_at dtX9_pass 59 rfl) rfl rfl ?_
    refine K_get (a := 64) (ci := 9) (k := 1) (v := vi (n : Int)) (dt_at dtX9_pass 60 rfl) (show TT 64 = (0, 9) from rfl) rfl (by decide) wF_X9_13 (by show vi (hI hh 64 1) = vi (n : Int); rw [T.2.1]) ?_
    refine K_icmp_ge (tgt := 162) (dt_at dtX9_pass 61 rfl) (by decide) (by first | assumption | exact ⟨by omega, by omega⟩) (by first | assumption | exact ⟨by omega, by omega⟩) (fun c1 => ?_) (fun c1 => absurd c1 (by omega))
    exact kx hh e3 e4 e2 F
  | succ d ih =>
    intro k hh hk e3 e4 e2 T F kx
    have bk := T.2.2.2 (k : Int) (by omega) (by omega)
    have bks := sb_or bk.1
    have hn7 := T.2.2.1
    have hkd := kd_b (tp (k : Int))
    refine K_aload_n (dt_at dtX9_pass 57 rfl) rfl rfl ?_
    refine K_get (a := 64) (ci := 9) (k := 3) (v := vi (k : Int)) (dt_at dtX9_pass 58 rfl) (show TT 64 = (0, 9) from rfl) rfl (by decide) wF_X9_20 (by show vi (hI hh 64 3) = vi (k : Int); rw [e3]) ?_
    refine K_aload_n (dt_at dtX9_pass 59 rfl) rfl rfl ?_
    refine K_get (a := 64) (ci := 9) (k := 1) (v := vi (n : Int)) (dt_at dtX9_pass 60 rfl) (show TT 64 = (0, 9) from rfl) rfl (by decide) wF_X9_13 (by show vi (hI hh 64 1) = vi (n : Int); rw [T.2.1]) ?_
    refine K_icmp_ge (tgt := 162) (dt_at dtX9_pass 61 rfl) (by decide) (by first | assumption | exact ⟨by omega, by omega⟩) (by first | assumption | exact ⟨by omega, by omega⟩) (fun c1 => absurd c1 (by omega)) (fun c1 => ?_)
    refine K_aload_n (dt_at dtX9_pass 62 rfl) rfl rfl ?_
    refine K_get (a := 64) (ci := 9) (k := 4) (v := vi c) (dt_at dtX9_pass 63 rfl) (show TT 64 = (0, 9) from rfl) rfl (by decide) wF_X9_23 (by show vi (hI hh 64 4) = vi c; rw [e4]) ?_
    refine K_iconst (dt_at dtX9_pass 64 rfl) ?_
    refine K_icmp_gt (tgt := 162) (dt_at dtX9_pass 65 rfl) (by decide) (by first | assumption | exact ⟨by omega, by omega⟩) (by first | assumption | exact ⟨by omega, by omega⟩) (fun c2 => ?_) (fun c2 => ?_)
    · exact kx hh (by rw [e3, rnF_f (by omega)]) e4 e2 F
    · refine K_aload_n (dt_at dtX9_pass 66 rfl) rfl rfl ?_
      refine K_get (a := 64) (ci := 9) (k := 0) (v := vr 31) (dt_at dtX9_pass 67 rfl) (show TT 64 = (0, 9) from rfl) rfl (by decide) wF_X9_7 (by show vr (hR hh 64 0) = vr 31; rw [T.1]) ?_
      refine K_aload_n (dt_at dtX9_pass 68 rfl) rfl rfl ?_
      refine K_get (a := 64) (ci := 9) (k := 3) (v := vi (k : Int)) (dt_at dtX9_pass 69 rfl) (show TT 64 = (0, 9) from rfl) rfl (by decide) wF_X9_20 (by show vi (hI hh 64 3) = vi (k : Int); rw [e3]) ?_
      refine K_bald (dt_at dtX9_pass 70 rfl) (show TT 31 = (2, 700) from rfl) (by omega) (by omega) ?_
      rw [bk.2]
      refine K_callS (M' := mX9_kindOf) (As := [vi (sb (tp (k : Int)))]) (st := []) (dt_at dtX9_pass 71 rfl) (sX9_kindOf ⟨by omega, by omega⟩) wL_X9_44 vX9_kindOf rfl npX9_kindOf (by decide) (by decide) (Nat.le_of_ble_eq_true rfl) (by decide) (by decide) GK_E (fun v9 h9 hq => ?_) (fun E h9 hq => by cases hq.1)
      obtain ⟨e9, e8⟩ := hq
      cases e9
      rw [e8]
      show K mX9_pass _ _ 0 0 142 [(0, vr 64)] [vi (kd (sb (tp (k : Int))))] hh
      rw [kd_sb bk.1]
      refine K_aload_n (dt_at dtX9_pass 72 rfl) rfl rfl ?_
      refine K_get (a := 64) (ci := 9) (k := 4) (v := vi c) (dt_at dtX9_pass 73 rfl) (show TT 64 = (0, 9) from rfl) rfl (by decide) wF_X9_23 (by show vi (hI hh 64 4) = vi c; rw [e4]) ?_
      refine K_icmp_ne (tgt := 162) (dt_at dtX9_pass 74 rfl) (by decide) (by first | assumption | exact ⟨by omega, by omega⟩) (by first | assumption | exact ⟨by omega, by omega⟩) (fun c3 => ?_) (fun c3 => ?_)
      · exact kx hh (by rw [e3, rnF_f (by omega)]) e4 e2 F
      · refine K_aload_n (dt_at dtX9_pass 75 rfl) rfl rfl ?_
        refine K_dup (dt_at dtX9_pass 76 rfl) rfl ?_
        refine K_get (a := 64) (ci := 9) (k := 3) (v := vi (k : Int)) (dt_at dtX9_pass 77 rfl) (show TT 64 = (0, 9) from rfl) rfl (by decide) wF_X9_20 (by show vi (hI hh 64 3) = vi (k : Int); rw [e3]) ?_
        refine K_iconst (dt_at dtX9_pass 78 rfl) ?_
        refine K_iadd (dt_at dtX9_pass 79 rfl) ?_
        refine K_putI (a := 64) (ci := 9) (k := 3) (dt_at dtX9_pass 80 rfl) (show TT 64 = (0, 9) from rfl) rfl (by decide) wF_X9_20 rfl (Or.inl rfl) rfl rfl ?_
        obtain ⟨hq1, eq1⟩ : ∃ z, z = sI hh 64 3 ((k : Int) + 1) := ⟨_, rfl⟩
        rw [← eq1]
        obtain ⟨iq1, fq1, aq1, rq1⟩ := sI_fx eq1
        refine K_goto (tgt := 111) (dt_at dtX9_pass 81 rfl) (by decide) ?_
        exact ih (k + 1) hq1 (by omega) (by rw [iq1]; rfl) (by rw [fq1 64 4 (by omega)]; exact e4) (by rw [fq1 64 2 (by omega)]; exact e2) (TxR_FL T ((by rw [eq1]; exact FL_sI rfl : FL [] TL [] hh hq1)) rfl rfl rfl) (FL_tr F (FL_eI eq1 rfl)) (fun h2 e9 => kx h2 (by rw [e9, rnF_t ⟨by omega, by omega⟩]))
set_option maxHeartbeats 4000000 in
set_option maxRecDepth 100000 in
theorem sX9_pass {h : HP} {tp : Int → Int} {n p : Nat} (T : TxR h tp n) (e3 : hI h 64 3 = (p : Int)) (hp : p ≤ n) : SpecK mX9_pass [vr 64] h (fun o h' => o = .inl none ∧ TkR h' (tk tp n p) ∧ FL [] TL [] h h') := by
  refine Spec_of (by decide +kernel) (Nat.le_of_ble_eq_true rfl) ?_
  have hn7 := T.2.2.1
  refine K_aload_n (dt_at dtX9_pass 0 rfl) rfl rfl ?_
  refine K_aload_n (dt_at dtX9_pass 1 rfl) rfl rfl ?_
  refine K_get (a := 64) (ci := 9) (k := 3) (v := vi (p : Int)) (dt_at dtX9_pass 2 rfl) (show TT 64 = (0, 9) from rfl) rfl (by decide) wF_X9_20 (by show vi (hI h 64 3) = vi (p : Int); rw [e3]) ?_
  refine K_putI (a := 64) (ci := 9) (k := 2) (dt_at dtX9_pass 3 rfl) (show TT 64 = (0, 9) from rfl) rfl (by decide) wF_X9_17 rfl (Or.inl rfl) rfl rfl ?_
  obtain ⟨hq1, eq1⟩ : ∃ z, z = sI h 64 2 (p : Int) := ⟨_, rfl⟩
  rw [← eq1]
  obtain ⟨iq1, fq1, aq1, rq1⟩ := sI_fx eq1
  refine lp_X9_pass1 (h := h) (n - p) p hq1 (by omega) iq1 (TxR_FL T (by rw [eq1]; exact FL_sI rfl : FL [] TL [] h hq1) rfl rfl rfl) (by rw [eq1]; exact FL_sI rfl) (fun h2 e2 T2 F2 => ?_)
  have hs := skF_b tp (n - p) p
  have ht : tk tp n p = tkE tp n (skF tp (n - p) p) := rfl
  rw [ht]
  generalize skF tp (n - p) p = s at hs e2 ⊢
  refine K_aload_n (dt_at dtX9_pass 30 rfl) rfl rfl ?_
  refine K_aload_n (dt_at dtX9_pass 31 rfl) rfl rfl ?_
  refine K_get (a := 64) (ci := 9) (k := 2) (v := vi (s : Int)) (dt_at dtX9_pass 32 rfl) (show TT 64 = (0, 9) from rfl) rfl (by decide) wF_X9_17 (by show vi (hI h2 64 2) = vi (s : Int); rw [e2]) ?_
  refine K_putI (a := 64) (ci := 9) (k := 3) (dt_at dtX9_pass 33 rfl) (show TT 64 = (0, 9) from rfl) rfl (by decide) wF_X9_20 rfl (Or.inl rfl) rfl rfl ?_
  obtain ⟨hq2, eq2⟩ : ∃ z, z = sI h2 64 3 (s : Int) := ⟨_, rfl⟩
  rw [← eq2]
  obtain ⟨iq2, fq2, aq2, rq2⟩ := sI_fx eq2
  refine K_aload_n (dt_at dtX9_pass 34 rfl) rfl rfl ?_
  refine K_get (a := 64) (ci := 9) (k := 2) (v := vi (s : Int)) (dt_at dtX9_pass 35 rfl) (show TT 64 = (0, 9) from rfl) rfl (by decide) wF_X9_17 (by show vi (hI hq2 64 2) = vi (s : Int); rw [(fq2 64 2 (by omega)), e2]) ?_
  refine K_aload_n (dt_at dtX9_pass 36 rfl) rfl rfl ?_
  refine K_get (a := 64) (ci := 9) (k := 1) (v := vi (n : Int)) (dt_at dtX9_pass 37 rfl) (show TT 64 = (0, 9) from rfl) rfl (by decide) wF_X9_13 (by show vi (hI hq2 64 1) = vi (n : Int); rw [(fq2 64 1 (by omega)), T2.2.1]) ?_
  refine K_icmp_lt (tgt := 85) (dt_at dtX9_pass 38 rfl) (by decide) (by first | assumption | exact ⟨by omega, by omega⟩) (by first | assumption | exact ⟨by omega, by omega⟩) (fun c1 => ?_) (fun c1 => ?_)
  · have bk := T2.2.2.2 (s : Int) (by omega) (by omega)
    have bks := sb_or bk.1
    have hkd := kd_b (tp (s : Int))
    refine K_aload_n (dt_at dtX9_pass 43 rfl) rfl rfl ?_
    refine K_aload_n (dt_at dtX9_pass 44 rfl) rfl rfl ?_
    refine K_get (a := 64) (ci := 9) (k := 0) (v := vr 31) (dt_at dtX9_pass 45 rfl) (show TT 64 = (0, 9) from rfl) rfl (by decide) wF_X9_7 (by show vr (hR hq2 64 0) = vr 31; rw [rq2, T2.1]) ?_
    refine K_aload_n (dt_at dtX9_pass 46 rfl) rfl rfl ?_
    refine K_get (a := 64) (ci := 9) (k := 2) (v := vi (s : Int)) (dt_at dtX9_pass 47 rfl) (show TT 64 = (0, 9) from rfl) rfl (by decide) wF_X9_17 (by show vi (hI hq2 64 2) = vi (s : Int); rw [(fq2 64 2 (by omega)), e2]) ?_
    refine K_bald (dt_at dtX9_pass 48 rfl) (show TT 31 = (2, 700) from rfl) (by omega) (by omega) ?_
    rw [aq2, bk.2]
    refine K_callS (M' := mX9_kindOf) (As := [vi (sb (tp (s : Int)))]) (st := [vr 64]) (dt_at dtX9_pass 49 rfl) (sX9_kindOf ⟨by omega, by omega⟩) wL_X9_44 vX9_kindOf rfl npX9_kindOf (by decide) (by decide) (Nat.le_of_ble_eq_true rfl) (by decide) (by decide) GK_E (fun v9 h9 hq => ?_) (fun E h9 hq => by cases hq.1)
    obtain ⟨e9, e8⟩ := hq
    cases e9
    rw [e8]
    show K mX9_pass _ _ 0 0 98 [(0, vr 64)] [vi (kd (sb (tp (s : Int)))), vr 64] hq2
    rw [kd_sb bk.1]
    refine K_putI (a := 64) (ci := 9) (k := 4) (dt_at dtX9_pass 50 rfl) (show TT 64 = (0, 9) from rfl) rfl (by decide) wF_X9_23 rfl (Or.inl rfl) rfl rfl ?_
    obtain ⟨hq3, eq3⟩ : ∃ z, z = sI hq2 64 4 (kd (tp (s : Int))) := ⟨_, rfl⟩
    rw [← eq3]
    obtain ⟨iq3, fq3, aq3, rq3⟩ := sI_fx eq3
    refine K_aload_n (dt_at dtX9_pass 51 rfl) rfl rfl ?_
    refine K_dup (dt_at dtX9_pass 52 rfl) rfl ?_
    refine K_get (a := 64) (ci := 9) (k := 3) (v := vi (s : Int)) (dt_at dtX9_pass 53 rfl) (show TT 64 = (0, 9) from rfl) rfl (by decide) wF_X9_20 (by show vi (hI hq3 64 3) = vi (s : Int); rw [(fq3 64 3 (by omega)), iq2]) ?_
    refine K_iconst (dt_at dtX9_pass 54 rfl) ?_
    refine K_iadd (dt_at dtX9_pass 55 rfl) ?_
    refine K_putI (a := 64) (ci := 9) (k := 3) (dt_at dtX9_pass 56 rfl) (show TT 64 = (0, 9) from rfl) rfl (by decide) wF_X9_20 rfl (Or.inl rfl) rfl rfl ?_
    obtain ⟨hq4, eq4⟩ : ∃ z, z = sI hq3 64 3 ((s : Int) + 1) := ⟨_, rfl⟩
    rw [← eq4]
    obtain ⟨iq4, fq4, aq4, rq4⟩ := sI_fx eq4
    rw [tkE_n (by omega)]
    refine lp_X9_pass2 (h := h) (c := kd (tp (s : Int))) (s := s) hkd (n - (s + 1)) (s + 1) hq4 (by omega) (by rw [iq4]; rfl) (by rw [(fq4 64 4 (by omega)), iq3]) (by rw [(fq4 64 2 (by omega)), (fq3 64 2 (by omega)), (fq2 64 2 (by omega)), e2]) (TxR_FL T2 ((FL_tr (FL_tr (FL_tr (FL_rf : FL [] TL [] h2 h2) (FL_eI eq2 rfl)) (FL_eI eq3 rfl)) (FL_eI eq4 rfl))) rfl rfl rfl) (FL_tr (FL_tr (FL_tr F2 (FL_eI eq2 rfl)) (FL_eI eq3 rfl)) (FL_eI eq4 rfl)) (fun h4 e3 e4 e2' F4 => ?_)
    exact K_vret (dt_at dtX9_pass 82 rfl) rfl (by decide) (by decide) ⟨rfl, ⟨e4, e2', e3⟩, F4⟩
  · refine K_aload_n (dt_at dtX9_pass 39 rfl) rfl rfl ?_
    refine K_iconst (dt_at dtX9_pass 40 rfl) ?_
    refine K_putI (a := 64) (ci := 9) (k := 4) (dt_at dtX9_pass 41 rfl) (show TT 64 = (0, 9) from rfl) rfl (by decide) wF_X9_23 rfl (Or.inl rfl) rfl rfl ?_
    obtain ⟨hq5, eq5⟩ : ∃ z, z = sI hq2 64 4 0 := ⟨_, rfl⟩
    rw [← eq5]
    obtain ⟨iq5, fq5, aq5, rq5⟩ := sI_fx eq5
    rw [tkE_e (by omega)]
    exact K_vret (dt_at dtX9_pass 42 rfl) rfl (by decide) (by decide) ⟨rfl, ⟨by rw [iq5], by rw [(fq5 64 2 (by omega)), (fq2 64 2 (by omega)), e2], by rw [(fq5 64 3 (by omega)), iq2]⟩, (FL_tr (FL_tr F2 (FL_eI eq2 rfl)) (FL_eI eq5 rfl))⟩
def mX9_start : MI := (yX9_start, cX9_start, 1, (some .int), rmK 1 0)
def tX9_start : List (Nat × Instr × Nat) := [(0, .aload_n 0, 1), (1, .getfield 17, 3), (4, .ireturn, 1)]
theorem dtX9_start : tX9_start.all (fun q => decide (decode cX9_start q.1 = .ok (q.2.1, q.2.2))) = true := by decide +kernel
theorem npX9_start : (parseMethodDescriptor (mY mX9_start).desc).map (fun d => d.parameters.length) = some 0 := by decide +kernel
theorem vX9_start : mV mX9_start := ⟨wI_X9_start, wS_X9_start, wN_X9, wC_X9_start, by decide +kernel, by decide +kernel⟩
set_option maxHeartbeats 4000000 in
set_option maxRecDepth 100000 in
theorem sX9_start {h : HP} {tp : Int → Int} {n : Nat} {t : TK} (T : TxR h tp n) (E : TkR h t) (g : TkG tp n t) : SpecK mX9_start [vr 64] h (fun o h' => o = .inl (some (vi (t.2.1 : Int))) ∧ h' = h) := by
  refine Spec_of (by decide +kernel) (Nat.le_of_ble_eq_true rfl) ?_
  refine K_aload_n (dt_at dtX9_start 0 rfl) rfl rfl ?_
  refine K_get (a := 64) (ci := 9) (k := 2) (v := vi (t.2.1 : Int)) (dt_at dtX9_start 1 rfl) (show TT 64 = (0, 9) from rfl) rfl (by decide) wF_X9_17 (by show vi (hI h 64 2) = vi (t.2.1 : Int); rw [E.2.1]) ?_
  exact K_iret (dt_at dtX9_start 2 rfl) rfl rfl (by decide) (by decide) ⟨rfl, rfl⟩
def mX9_isAtEnd : MI := (yX9_isAtEnd, cX9_isAtEnd, 1, (some .boolean), rmK 1 0)
def tX9_isAtEnd : List (Nat × Instr × Nat) := [(0, .aload_n 0, 1), (1, .getfield 23, 3), (4, .ifCond .ne 7, 3), (7, .iconst 1, 1), (8, .goto 4, 3), (11, .iconst 0, 1), (12, .ireturn, 1)]
theorem dtX9_isAtEnd : tX9_isAtEnd.all (fun q => decide (decode cX9_isAtEnd q.1 = .ok (q.2.1, q.2.2))) = true := by decide +kernel
theorem npX9_isAtEnd : (parseMethodDescriptor (mY mX9_isAtEnd).desc).map (fun d => d.parameters.length) = some 0 := by decide +kernel
theorem vX9_isAtEnd : mV mX9_isAtEnd := ⟨wI_X9_isAtEnd, wS_X9_isAtEnd, wN_X9, wC_X9_isAtEnd, by decide +kernel, by decide +kernel⟩
set_option maxHeartbeats 4000000 in
set_option maxRecDepth 100000 in
theorem sX9_isAtEnd {h : HP} {tp : Int → Int} {n : Nat} {t : TK} (T : TxR h tp n) (E : TkR h t) (g : TkG tp n t) : SpecK mX9_isAtEnd [vr 64] h (fun o h' => o = .inl (some (vi (if t.1 = 0 then 1 else 0))) ∧ h' = h) := by
  refine Spec_of (by decide +kernel) (Nat.le_of_ble_eq_true rfl) ?_
  have hn7 := T.2.2.1
  obtain ⟨⟨g1, g2⟩, g3, g4, g5, g6⟩ := id g
  refine K_aload_n (dt_at dtX9_isAtEnd 0 rfl) rfl rfl ?_
  refine K_get (a := 64) (ci := 9) (k := 4) (v := vi (t.1)) (dt_at dtX9_isAtEnd 1 rfl) (show TT 64 = (0, 9) from rfl) rfl (by decide) wF_X9_23 (by show vi (hI h 64 4) = vi (t.1); rw [E.1]) ?_
  refine K_if_ne (tgt := 11) (dt_at dtX9_isAtEnd 2 rfl) (by decide) (by first | assumption | exact ⟨by omega, by omega⟩) (fun c1 => ?_) (fun c1 => ?_)
  · refine K_iconst (dt_at dtX9_isAtEnd 5 rfl) ?_
    exact K_iret (dt_at dtX9_isAtEnd 6 rfl) rfl (by decide) (by decide) (by decide) ⟨by rw [if_neg (by omega)], rfl⟩
  · refine K_iconst (dt_at dtX9_isAtEnd 3 rfl) ?_
    refine K_goto (tgt := 12) (dt_at dtX9_isAtEnd 4 rfl) (by decide) ?_
    exact K_iret (dt_at dtX9_isAtEnd 6 rfl) rfl (by decide) (by decide) (by decide) ⟨by rw [if_pos (by omega)], rfl⟩
def mX9_isNumber : MI := (yX9_isNumber, cX9_isNumber, 1, (some .boolean), rmK 1 0)
def tX9_isNumber : List (Nat × Instr × Nat) := [(0, .aload_n 0, 1), (1, .getfield 23, 3), (4, .iconst 2, 1), (5, .if_icmp .ne 7, 3), (8, .iconst 1, 1), (9, .goto 4, 3), (12, .iconst 0, 1), (13, .ireturn, 1)]
theorem dtX9_isNumber : tX9_isNumber.all (fun q => decide (decode cX9_isNumber q.1 = .ok (q.2.1, q.2.2))) = true := by decide +kernel
theorem npX9_isNumber : (parseMethodDescriptor (mY mX9_isNumber).desc).map (fun d => d.parameters.length) = some 0 := by decide +kernel
theorem vX9_isNumber : mV mX9_isNumber := ⟨wI_X9_isNumber, wS_X9_isNumber, wN_X9, wC_X9_isNumber, by decide +kernel, by decide +kernel⟩
set_option maxHeartbeats 4000000 in
set_option maxRecDepth 100000 in
theorem sX9_isNumber {h : HP} {tp : Int → Int} {n : Nat} {t : TK} (T : TxR h tp n) (E : TkR h t) (g : TkG tp n t) : SpecK mX9_isNumber [vr 64] h (fun o h' => o = .inl (some (vi (if t.1 = 2 then 1 else 0))) ∧ h' = h) := by
  refine Spec_of (by decide +kernel) (Nat.le_of_ble_eq_true rfl) ?_
  have hn7 := T.2.2.1
  obtain ⟨⟨g1, g2⟩, g3, g4, g5, g6⟩ := id g
  refine K_aload_n (dt_at dtX9_isNumber 0 rfl) rfl rfl ?_
  refine K_get (a := 64) (ci := 9) (k := 4) (v := vi (t.1)) (dt_at dtX9_isNumber 1 rfl) (show TT 64 = (0, 9) from rfl) rfl (by decide) wF_X9_23 (by show vi (hI h 64 4) = vi (t.1); rw [E.1]) ?_
  refine K_iconst (dt_at dtX9_isNumber 2 rfl) ?_
  refine K_icmp_ne (tgt := 12) (dt_at dtX9_isNumber 3 rfl) (by decide) (by first | assumption | exact ⟨by omega, by omega⟩) (by first | assumption | exact ⟨by omega, by omega⟩) (fun c1 => ?_) (fun c1 => ?_)
  · refine K_iconst (dt_at dtX9_isNumber 6 rfl) ?_
    exact K_iret (dt_at dtX9_isNumber 7 rfl) rfl (by decide) (by decide) (by decide) ⟨by rw [if_neg (by omega)], rfl⟩
  · refine K_iconst (dt_at dtX9_isNumber 4 rfl) ?_
    refine K_goto (tgt := 13) (dt_at dtX9_isNumber 5 rfl) (by decide) ?_
    exact K_iret (dt_at dtX9_isNumber 7 rfl) rfl (by decide) (by decide) (by decide) ⟨by rw [if_pos (by omega)], rfl⟩
def mX9_isAnyWord : MI := (yX9_isAnyWord, cX9_isAnyWord, 1, (some .boolean), rmK 1 0)
def tX9_isAnyWord : List (Nat × Instr × Nat) := [(0, .aload_n 0, 1), (1, .getfield 23, 3), (4, .iconst 1, 1), (5, .if_icmp .ne 7, 3), (8, .iconst 1, 1), (9, .goto 4, 3), (12, .iconst 0, 1), (13, .ireturn, 1)]
theorem dtX9_isAnyWord : tX9_isAnyWord.all (fun q => decide (decode cX9_isAnyWord q.1 = .ok (q.2.1, q.2.2))) = true := by decide +kernel
theorem npX9_isAnyWord : (parseMethodDescriptor (mY mX9_isAnyWord).desc).map (fun d => d.parameters.length) = some 0 := by decide +kernel
theorem vX9_isAnyWord : mV mX9_isAnyWord := ⟨wI_X9_isAnyWord, wS_X9_isAnyWord, wN_X9, wC_X9_isAnyWord, by decide +kernel, by decide +kernel⟩
set_option maxHeartbeats 4000000 in
set_option maxRecDepth 100000 in
theorem sX9_isAnyWord {h : HP} {tp : Int → Int} {n : Nat} {t : TK} (T : TxR h tp n) (E : TkR h t) (g : TkG tp n t) : SpecK mX9_isAnyWord [vr 64] h (fun o h' => o = .inl (some (vi (if t.1 = 1 then 1 else 0))) ∧ h' = h) := by
  refine Spec_of (by decide +kernel) (Nat.le_of_ble_eq_true rfl) ?_
  have hn7 := T.2.2.1
  obtain ⟨⟨g1, g2⟩, g3, g4, g5, g6⟩ := id g
  refine K_aload_n (dt_at dtX9_isAnyWord 0 rfl) rfl rfl ?_
  refine K_get (a := 64) (ci := 9) (k := 4) (v := vi (t.1)) (dt_at dtX9_isAnyWord 1 rfl) (show TT 64 = (0, 9) from rfl) rfl (by decide) wF_X9_23 (by show vi (hI h 64 4) = vi (t.1); rw [E.1]) ?_
  refine K_iconst (dt_at dtX9_isAnyWord 2 rfl) ?_
  refine K_icmp_ne (tgt := 12) (dt_at dtX9_isAnyWord 3 rfl) (by decide) (by first | assumption | exact ⟨by omega, by omega⟩) (by first | assumption | exact ⟨by omega, by omega⟩) (fun c1 => ?_) (fun c1 => ?_)
  · refine K_iconst (dt_at dtX9_isAnyWord 6 rfl) ?_
    exact K_iret (dt_at dtX9_isAnyWord 7 rfl) rfl (by decide) (by decide) (by decide) ⟨by rw [if_neg (by omega)], rfl⟩
  · refine K_iconst (dt_at dtX9_isAnyWord 4 rfl) ?_
    refine K_goto (tgt := 13) (dt_at dtX9_isAnyWord 5 rfl) (by decide) ?_
    exact K_iret (dt_at dtX9_isAnyWord 7 rfl) rfl (by decide) (by decide) (by decide) ⟨by rw [if_pos (by omega)], rfl⟩
def mX9_isTooLong : MI := (yX9_isTooLong, cX9_isTooLong, 1, (some .boolean), rmK 1 0)
def tX9_isTooLong : List (Nat × Instr × Nat) := [(0, .aload_n 0, 1), (1, .getfield 20, 3), (4, .aload_n 0, 1), (5, .getfield 17, 3), (8, .isub, 1), (9, .iconst 4, 1), (10, .if_icmp .le 7, 3), (13, .iconst 1, 1), (14, .goto 4, 3), (17, .iconst 0, 1), (18, .ireturn, 1)]
theorem dtX9_isTooLong : tX9_isTooLong.all (fun q => decide (decode cX9_isTooLong q.1 = .ok (q.2.1, q.2.2))) = true := by decide +kernel
theorem npX9_isTooLong : (parseMethodDescriptor (mY mX9_isTooLong).desc).map (fun d => d.parameters.length) = some 0 := by decide +kernel
theorem vX9_isTooLong : mV mX9_isTooLong := ⟨wI_X9_isTooLong, wS_X9_isTooLong, wN_X9, wC_X9_isTooLong, by decide +kernel, by decide +kernel⟩
set_option maxHeartbeats 4000000 in
set_option maxRecDepth 100000 in
theorem sX9_isTooLong {h : HP} {tp : Int → Int} {n : Nat} {t : TK} (T : TxR h tp n) (E : TkR h t) (g : TkG tp n t) : SpecK mX9_isTooLong [vr 64] h (fun o h' => o = .inl (some (vi (if t.2.1 + 4 < t.2.2 then 1 else 0))) ∧ h' = h) := by
  refine Spec_of (by decide +kernel) (Nat.le_of_ble_eq_true rfl) ?_
  have hn7 := T.2.2.1
  obtain ⟨⟨g1, g2⟩, g3, g4, g5, g6⟩ := id g
  refine K_aload_n (dt_at dtX9_isTooLong 0 rfl) rfl rfl ?_
  refine K_get (a := 64) (ci := 9) (k := 3) (v := vi (t.2.2 : Int)) (dt_at dtX9_isTooLong 1 rfl) (show TT 64 = (0, 9) from rfl) rfl (by decide) wF_X9_20 (by show vi (hI h 64 3) = vi (t.2.2 : Int); rw [E.2.2]) ?_
  refine K_aload_n (dt_at dtX9_isTooLong 2 rfl) rfl rfl ?_
  refine K_get (a := 64) (ci := 9) (k := 2) (v := vi (t.2.1 : Int)) (dt_at dtX9_isTooLong 3 rfl) (show TT 64 = (0, 9) from rfl) rfl (by decide) wF_X9_17 (by show vi (hI h 64 2) = vi (t.2.1 : Int); rw [E.2.1]) ?_
  refine K_isub (dt_at dtX9_isTooLong 4 rfl) ?_
  refine K_iconst (dt_at dtX9_isTooLong 5 rfl) ?_
  refine K_icmp_le (tgt := 17) (dt_at dtX9_isTooLong 6 rfl) (by decide) (by first | assumption | exact ⟨by omega, by omega⟩) (by first | assumption | exact ⟨by omega, by omega⟩) (fun c1 => ?_) (fun c1 => ?_)
  · refine K_iconst (dt_at dtX9_isTooLong 9 rfl) ?_
    exact K_iret (dt_at dtX9_isTooLong 10 rfl) rfl (by decide) (by decide) (by decide) ⟨by rw [if_neg (by omega)], rfl⟩
  · refine K_iconst (dt_at dtX9_isTooLong 7 rfl) ?_
    refine K_goto (tgt := 18) (dt_at dtX9_isTooLong 8 rfl) (by decide) ?_
    exact K_iret (dt_at dtX9_isTooLong 10 rfl) rfl (by decide) (by decide) (by decide) ⟨by rw [if_pos (by omega)], rfl⟩
def mX9_isSign : MI := (yX9_isSign, cX9_isSign, 2, (some .boolean), rmK 1 0)
def tX9_isSign : List (Nat × Instr × Nat) := [(0, .aload_n 0, 1), (1, .getfield 23, 3), (4, .iconst 3, 1), (5, .if_icmp .ne 20, 3), (8, .aload_n 0, 1), (9, .getfield 7, 3), (12, .aload_n 0, 1), (13, .getfield 17, 3), (16, .baload, 1), (17, .iload_n 1, 1), (18, .if_icmp .ne 7, 3), (21, .iconst 1, 1), (22, .goto 4, 3), (25, .iconst 0, 1), (26, .ireturn, 1)]
theorem dtX9_isSign : tX9_isSign.all (fun q => decide (decode cX9_isSign q.1 = .ok (q.2.1, q.2.2))) = true := by decide +kernel
theorem npX9_isSign : (parseMethodDescriptor (mY mX9_isSign).desc).map (fun d => d.parameters.length) = some 1 := by decide +kernel
theorem vX9_isSign : mV mX9_isSign := ⟨wI_X9_isSign, wS_X9_isSign, wN_X9, wC_X9_isSign, by decide +kernel, by decide +kernel⟩
set_option maxHeartbeats 4000000 in
set_option maxRecDepth 100000 in
theorem sX9_isSign {h : HP} {tp : Int → Int} {n : Nat} {t : TK} {c : Int} (T : TxR h tp n) (E : TkR h t) (g : TkG tp n t) (hc : 0 ≤ c ∧ c < 128) : SpecK mX9_isSign [vr 64, vi c] h (fun o h' => o = .inl (some (vi (if t.1 = 3 ∧ tp (t.2.1 : Int) = c then 1 else 0))) ∧ h' = h) := by
  refine Spec_of (by decide +kernel) (Nat.le_of_ble_eq_true rfl) ?_
  have hn7 := T.2.2.1
  obtain ⟨⟨g1, g2⟩, g3, g4, g5, g6⟩ := id g
  refine K_aload_n (dt_at dtX9_isSign 0 rfl) rfl rfl ?_
  refine K_get (a := 64) (ci := 9) (k := 4) (v := vi (t.1)) (dt_at dtX9_isSign 1 rfl) (show TT 64 = (0, 9) from rfl) rfl (by decide) wF_X9_23 (by show vi (hI h 64 4) = vi (t.1); rw [E.1]) ?_
  refine K_iconst (dt_at dtX9_isSign 2 rfl) ?_
  refine K_icmp_ne (tgt := 25) (dt_at dtX9_isSign 3 rfl) (by decide) (by first | assumption | exact ⟨by omega, by omega⟩) (by first | assumption | exact ⟨by omega, by omega⟩) (fun c1 => ?_) (fun c1 => ?_)
  · refine K_iconst (dt_at dtX9_isSign 13 rfl) ?_
    exact K_iret (dt_at dtX9_isSign 14 rfl) rfl (by decide) (by decide) (by decide) ⟨by rw [if_neg (by omega)], rfl⟩
  · have g7 := g5 (by omega)
    have bk := T.2.2.2 (t.2.1 : Int) (by omega) (by omega)
    have bks := sb_or bk.1
    refine K_aload_n (dt_at dtX9_isSign 4 rfl) rfl rfl ?_
    refine K_get (a := 64) (ci := 9) (k := 0) (v := vr 31) (dt_at dtX9_isSign 5 rfl) (show TT 64 = (0, 9) from rfl) rfl (by decide) wF_X9_7 (by show vr (hR h 64 0) = vr 31; rw [T.1]) ?_
    refine K_aload_n (dt_at dtX9_isSign 6 rfl) rfl rfl ?_
    refine K_get (a := 64) (ci := 9) (k := 2) (v := vi (t.2.1 : Int)) (dt_at dtX9_isSign 7 rfl) (show TT 64 = (0, 9) from rfl) rfl (by decide) wF_X9_17 (by show vi (hI h 64 2) = vi (t.2.1 : Int); rw [E.2.1]) ?_
    refine K_bald (dt_at dtX9_isSign 8 rfl) (show TT 31 = (2, 700) from rfl) (by omega) (by omega) ?_
    rw [bk.2]
    refine K_iload_n (dt_at dtX9_isSign 9 rfl) rfl rfl ?_
    refine K_icmp_ne (tgt := 25) (dt_at dtX9_isSign 10 rfl) (by decide) (by first | assumption | exact ⟨by omega, by omega⟩) (by first | assumption | exact ⟨by omega, by omega⟩) (fun c2 => ?_) (fun c2 => ?_)
    · refine K_iconst (dt_at dtX9_isSign 13 rfl) ?_
      exact K_iret (dt_at dtX9_isSign 14 rfl) rfl (by decide) (by decide) (by decide) ⟨by rw [if_neg (by omega)], rfl⟩
    · refine K_iconst (dt_at dtX9_isSign 11 rfl) ?_
      refine K_goto (tgt := 26) (dt_at dtX9_isSign 12 rfl) (by decide) ?_
      exact K_iret (dt_at dtX9_isSign 14 rfl) rfl (by decide) (by decide) (by decide) ⟨by rw [if_pos (by omega)], rfl⟩
def mX9_number : MI := (yX9_number, cX9_number, 3, (some .int), rmK 1 0)
def tX9_number : List (Nat × Instr × Nat) := [(0, .iconst 0, 1), (1, .istore_n 1, 1), (2, .aload_n 0, 1), (3, .getfield 17, 3), (6, .istore_n 2, 1), (7, .iload_n 2, 1), (8, .aload_n 0, 1), (9, .getfield 20, 3), (12, .if_icmp .ge 34, 3), (15, .iload_n 2, 1), (16, .aload_n 0, 1), (17, .getfield 17, 3), (20, .iconst 4, 1), (21, .iadd, 1), (22, .if_icmp .ge 24, 3), (25, .iload_n 1, 1), (26, .bipush 10, 2), (28, .imul, 1), (29, .aload_n 0, 1), (30, .getfield 7, 3), (33, .iload_n 2, 1), (34, .baload, 1), (35, .bipush 48, 2), (37, .isub, 1), (38, .iadd, 1), (39, .istore_n 1, 1), (40, .iinc 2 1, 3), (43, .goto (-36), 3), (46, .iload_n 1, 1), (47, .ireturn, 1)]
theorem dtX9_number : tX9_number.all (fun q => decide (decode cX9_number q.1 = .ok (q.2.1, q.2.2))) = true := by decide +kernel
theorem npX9_number : (parseMethodDescriptor (mY mX9_number).desc).map (fun d => d.parameters.length) = some 0 := by decide +kernel
theorem vX9_number : mV mX9_number := ⟨wI_X9_number, wS_X9_number, wN_X9, wC_X9_number, by decide +kernel, by decide +kernel⟩
set_option maxHeartbeats 4000000 in
set_option maxRecDepth 100000 in
theorem lp_X9_number {Z : CT → State → Prop} {h : HP} {tp : Int → Int} {n : Nat} {t : TK} (T : TxR h tp n) (E : TkR h t) (g : TkG tp n t) (hk2 : t.1 = 2) (kx : K mX9_number GK Z 0 0 46 [(2, vi ((t.2.1 + min (t.2.2 - t.2.1) 4 : Nat) : Int)), (1, vi (nmT tp t)), (0, vr 64)] [] h) : ∀ (d k : Nat), k + d = min (t.2.2 - t.2.1) 4 → K mX9_number GK Z 0 0 7 [(2, vi ((t.2.1 + k : Nat) : Int)), (1, vi (nm tp t.2.1 k)), (0, vr 64)] [] h := by
  intro d
  induction d with
  | zero =>
    intro k hk
    have hn7 := T.2.2.1
    obtain ⟨⟨g1, g2⟩, g3, g4, g5, g6⟩ := id g
    have hk9 : k = min (t.2.2 - t.2.1) 4 := by omega
    refine K_iload_n (dt_at dtX9_number 5 rfl) rfl rfl ?_
    refine K_aload_n (dt_at dtX9_number 6 rfl) rfl rfl ?_
    refine K_get (a := 64) (ci := 9) (k := 3) (v := vi (t.2.2 : Int)) (dt_at dtX9_number 7 rfl) (show TT 64 = (0, 9) from rfl) rfl (by decide) wF_X9_20 (by show vi (hI h 64 3) = vi (t.2.2 : Int); rw [E.2.2]) ?_
    refine K_icmp_ge (tgt := 46) (dt_at dtX9_number 8 rfl) (by decide) (by first | assumption | exact ⟨by omega, by omega⟩) (by first | assumption | exact ⟨by omega, by omega⟩) (fun c1 => ?_) (fun c1 => ?_)
    · rw [hk9]
      exact kx
    · refine K_iload_n (dt_at dtX9_number 9 rfl) rfl rfl ?_
      refine K_aload_n (dt_at dtX9_number 10 rfl) rfl rfl ?_
      refine K_get (a := 64) (ci := 9) (k := 2) (v := vi (t.2.1 : Int)) (dt_at dtX9_number 11 rfl) (show TT 64 = (0, 9) from rfl) rfl (by decide) wF_X9_17 (by show vi (hI h 64 2) = vi (t.2.1 : Int); rw [E.2.1]) ?_
      refine K_iconst (dt_at dtX9_number 12 rfl) ?_
      refine K_iadd (dt_at dtX9_number 13 rfl) ?_
      refine K_icmp_ge (tgt := 46) (dt_at dtX9_number 14 rfl) (by decide) (by first | assumption | exact ⟨by omega, by omega⟩) (by first | assumption | exact ⟨by omega, by omega⟩) (fun c2 => ?_) (fun c2 => absurd c2 (by omega))
      rw [hk9]
      exact kx
  | succ d ih =>
    intro k hk
    have hn7 := T.2.2.1
    obtain ⟨⟨g1, g2⟩, g3, g4, g5, g6⟩ := id g
    have bk := T.2.2.2 ((t.2.1 + k : Nat) : Int) (by omega) (by omega)
    have bks := sb_or bk.1
    have hdg := kd_2i.mp ((g6 (t.2.1 + k) (by omega) (by omega)).trans hk2)
    have sbk : sb (tp ((t.2.1 + k : Nat) : Int)) = tp ((t.2.1 + k : Nat) : Int) := by omega
    refine K_iload_n (dt_at dtX9_number 5 rfl) rfl rfl ?_
    refine K_aload_n (dt_at dtX9_number 6 rfl) rfl rfl ?_
    refine K_get (a := 64) (ci := 9) (k := 3) (v := vi (t.2.2 : Int)) (dt_at dtX9_number 7 rfl) (show TT 64 = (0, 9) from rfl) rfl (by decide) wF_X9_20 (by show vi (hI h 64 3) = vi (t.2.2 : Int); rw [E.2.2]) ?_
    refine K_icmp_ge (tgt := 46) (dt_at dtX9_number 8 rfl) (by decide) (by first | assumption | exact ⟨by omega, by omega⟩) (by first | assumption | exact ⟨by omega, by omega⟩) (fun c1 => absurd c1 (by omega)) (fun c1 => ?_)
    refine K_iload_n (dt_at dtX9_number 9 rfl) rfl rfl ?_
    refine K_aload_n (dt_at dtX9_number 10 rfl) rfl rfl ?_
    refine K_get (a := 64) (ci := 9) (k := 2) (v := vi (t.2.1 : Int)) (dt_at dtX9_number 11 rfl) (show TT 64 = (0, 9) from rfl) rfl (by decide) wF_X9_17 (by show vi (hI h 64 2) = vi (t.2.1 : Int); rw [E.2.1]) ?_
    refine K_iconst (dt_at dtX9_number 12 rfl) ?_
    refine K_iadd (dt_at dtX9_number 13 rfl) ?_
    refine K_icmp_ge (tgt := 46) (dt_at dtX9_number 14 rfl) (by decide) (by first | assumption | exact ⟨by omega, by omega⟩) (by first | assumption | exact ⟨by omega, by omega⟩) (fun c2 => absurd c2 (by omega)) (fun c2 => ?_)
    refine K_iload_n (dt_at dtX9_number 15 rfl) rfl rfl ?_
    refine K_bipush (dt_at dtX9_number 16 rfl) (by decide) ?_
    refine K_imul (dt_at dtX9_number 17 rfl) ?_
    refine K_aload_n (dt_at dtX9_number 18 rfl) rfl rfl ?_
    refine K_get (a := 64) (ci := 9) (k := 0) (v := vr 31) (dt_at dtX9_number 19 rfl) (show TT 64 = (0, 9) from rfl) rfl (by decide) wF_X9_7 (by show vr (hR h 64 0) = vr 31; rw [T.1]) ?_
    refine K_iload_n (dt_at dtX9_number 20 rfl) rfl rfl ?_
    refine K_bald (dt_at dtX9_number 21 rfl) (show TT 31 = (2, 700) from rfl) (by omega) (by omega) ?_
    rw [bk.2, sbk]
    refine K_bipush (dt_at dtX9_number 22 rfl) (by decide) ?_
    refine K_isub (dt_at dtX9_number 23 rfl) ?_
    refine K_iadd (dt_at dtX9_number 24 rfl) ?_
    refine K_istore_n (ls' := [(1, vi (((nm tp t.2.1 k) * 10) + ((tp ((t.2.1 + k : Nat) : Int)) - 48))), (2, vi ((t.2.1 + k : Nat) : Int)), (0, vr 64)]) (dt_at dtX9_number 25 rfl) rfl (by decide) rfl ?_
    refine K_iinc (ls' := [(2, vi (((t.2.1 + k : Nat) : Int) + 1)), (1, vi (((nm tp t.2.1 k) * 10) + ((tp ((t.2.1 + k : Nat) : Int)) - 48))), (0, vr 64)]) (dt_at dtX9_number 26 rfl) rfl (by decide) rfl ?_
    refine K_goto (tgt := 7) (dt_at dtX9_number 27 rfl) (by decide) ?_
    refine K_pk [0, 1, 2] (ls' := [(2, vi (((t.2.1 + k : Nat) : Int) + 1)), (1, vi (((nm tp t.2.1 k) * 10) + ((tp ((t.2.1 + k : Nat) : Int)) - 48))), (0, vr 64)]) rfl ?_
    exact K_cg (ls' := [(2, vi ((t.2.1 + (k + 1) : Nat) : Int)), (1, vi (nm tp t.2.1 (k + 1))), (0, vr 64)]) (h' := h) (by rfl) (by rfl) (ih (k + 1) (by omega))
set_option maxHeartbeats 4000000 in
set_option maxRecDepth 100000 in
theorem sX9_number {h : HP} {tp : Int → Int} {n : Nat} {t : TK} (T : TxR h tp n) (E : TkR h t) (g : TkG tp n t) (hk2 : t.1 = 2) : SpecK mX9_number [vr 64] h (fun o h' => o = .inl (some (vi (nmT tp t))) ∧ h' = h) := by
  refine Spec_of (by decide +kernel) (Nat.le_of_ble_eq_true rfl) ?_
  refine K_iconst (dt_at dtX9_number 0 rfl) ?_
  refine K_istore_n (ls' := [(1, vi 0), (0, vr 64)]) (dt_at dtX9_number 1 rfl) rfl (by decide) rfl ?_
  refine K_aload_n (dt_at dtX9_number 2 rfl) rfl rfl ?_
  refine K_get (a := 64) (ci := 9) (k := 2) (v := vi (t.2.1 : Int)) (dt_at dtX9_number 3 rfl) (show TT 64 = (0, 9) from rfl) rfl (by decide) wF_X9_17 (by show vi (hI h 64 2) = vi (t.2.1 : Int); rw [E.2.1]) ?_
  refine K_istore_n (ls' := [(2, vi (t.2.1 : Int)), (1, vi 0), (0, vr 64)]) (dt_at dtX9_number 4 rfl) rfl (by decide) rfl ?_
  refine K_pk [0, 1, 2] (ls' := [(2, vi ((t.2.1 + 0 : Nat) : Int)), (1, vi (nm tp t.2.1 0)), (0, vr 64)]) rfl (lp_X9_number T E g hk2 ?_ (min (t.2.2 - t.2.1) 4) 0 (by omega))
  refine K_iload_n (dt_at dtX9_number 28 rfl) rfl rfl ?_
  exact K_iret (dt_at dtX9_number 29 rfl) rfl rfl (by decide) (by decide) ⟨rfl, rfl⟩
def mX9_isWord : MI := (yX9_isWord, cX9_isWord, 3, (some .boolean), rmK 5 0)
def tX9_isWord : List (Nat × Instr × Nat) := [(0, .aload_n 0, 1), (1, .getfield 23, 3), (4, .iconst 1, 1), (5, .if_icmp .ne 19, 3), (8, .aload_n 0, 1), (9, .getfield 20, 3), (12, .aload_n 0, 1), (13, .getfield 17, 3), (16, .isub, 1), (17, .aload_n 1, 1), (18, .invokevirtual 35, 3), (21, .if_icmp .eq 5, 3), (24, .iconst 0, 1), (25, .ireturn, 1), (26, .iconst 0, 1), (27, .istore_n 2, 1), (28, .iload_n 2, 1), (29, .aload_n 1, 1), (30, .invokevirtual 35, 3), (33, .if_icmp .ge 30, 3), (36, .aload_n 0, 1), (37, .getfield 7, 3), (40, .aload_n 0, 1), (41, .getfield 17, 3), (44, .iload_n 2, 1), (45, .iadd, 1), (46, .baload, 1), (47, .aload_n 1, 1), (48, .iload_n 2, 1), (49, .invokevirtual 40, 3), (52, .if_icmp .eq 5, 3), (55, .iconst 0, 1), (56, .ireturn, 1), (57, .iinc 2 1, 3), (60, .goto (-32), 3), (63, .iconst 1, 1), (64, .ireturn, 1)]
theorem dtX9_isWord : tX9_isWord.all (fun q => decide (decode cX9_isWord q.1 = .ok (q.2.1, q.2.2))) = true := by decide +kernel
theorem npX9_isWord : (parseMethodDescriptor (mY mX9_isWord).desc).map (fun d => d.parameters.length) = some 1 := by decide +kernel
theorem vX9_isWord : mV mX9_isWord := ⟨wI_X9_isWord, wS_X9_isWord, wN_X9, wC_X9_isWord, by decide +kernel, by decide +kernel⟩
set_option maxHeartbeats 4000000 in
set_option maxRecDepth 100000 in
theorem lp_X9_isWord {h : HP} {tp : Int → Int} {n : Nat} {t : TK} {i : Nat} (T : TxR h tp n) (E : TkR h t) (g : TkG tp n t) (hi : i < 21) (hk1 : t.1 = 1) (hl : t.2.2 = t.2.1 + (wdL i).length) : ∀ (d k : Nat), k + d = (wdL i).length → (∀ j : Nat, j < k → tp ((t.2.1 + j : Nat) : Int) = wdA i (j : Int)) → K mX9_isWord GK (ZK (fun o h' => o = .inl (some (vi (if isWb tp t i = true then 1 else 0))) ∧ h' = h) 0 0) 0 0 28 [(2, vi (k : Int)), (0, vr 64), (1, vs (i + 1))] [] h := by
  intro d
  induction d with
  | zero =>
    intro k hk hj
    have hn7 := T.2.2.1
    obtain ⟨⟨g1, g2⟩, g3, g4, g5, g6⟩ := id g
    have hm := wd_max i hi
    refine K_iload_n (dt_at dtX9_isWord 16 rfl) rfl rfl ?_
    refine K_aload_nS (dt_at dtX9_isWord 17 rfl) rfl rfl ?_
    refine K_callVs (M' := mJ0_length_8abf5) (i := i) (As := []) (st := [vi (k : Int)]) (dt_at dtX9_isWord 18 rfl) (sJ0_length_8abf5 hi) hi rfl wL_X9_35 vJ0_length_8abf5 rfl npJ0_length_8abf5 (by decide) (by decide) (Nat.le_of_ble_eq_true rfl) (by decide) (by decide) GK_E (fun v9 h9 hq => ?_) (fun E h9 hq => by cases hq.1)
    obtain ⟨e9, e8⟩ := hq
    cases e9
    rw [e8]
    show K mX9_isWord _ _ 0 0 33 [(2, vi (k : Int)), (0, vr 64), (1, vs (i + 1))] [vi ((wdL i).length : Nat), vi (k : Int)] h
    refine K_icmp_ge (tgt := 63) (dt_at dtX9_isWord 19 rfl) (by decide) (by first | assumption | exact ⟨by omega, by omega⟩) (by first | assumption | exact ⟨by omega, by omega⟩) (fun c1 => ?_) (fun c1 => absurd c1 (by omega))
    refine K_iconst (dt_at dtX9_isWord 35 rfl) ?_
    exact K_iret (dt_at dtX9_isWord 36 rfl) rfl (by decide) (by decide) (by decide) ⟨by rw [if_pos (isWb_t hk1 hl (fun j hj9 => hj j (by omega)))], rfl⟩
  | succ d ih =>
    intro k hk hj
    have hn7 := T.2.2.1
    obtain ⟨⟨g1, g2⟩, g3, g4, g5, g6⟩ := id g
    have hm := wd_max i hi
    have bk := T.2.2.2 ((t.2.1 + k : Nat) : Int) (by omega) (by omega)
    have bks := sb_or bk.1
    have hw := wdA_b hi (j := (k : Int)) (by omega) (by omega)
    refine K_iload_n (dt_at dtX9_isWord 16 rfl) rfl rfl ?_
    refine K_aload_nS (dt_at dtX9_isWord 17 rfl) rfl rfl ?_
    refine K_callVs (M' := mJ0_length_8abf5) (i := i) (As := []) (st := [vi (k : Int)]) (dt_at dtX9_isWord 18 rfl) (sJ0_length_8abf5 hi) hi rfl wL_X9_35 vJ0_length_8abf5 rfl npJ0_length_8abf5 (by decide) (by decide) (Nat.le_of_ble_eq_true rfl) (by decide) (by decide) GK_E (fun v9 h9 hq => ?_) (fun E h9 hq => by cases hq.1)
    obtain ⟨e9, e8⟩ := hq
    cases e9
    rw [e8]
    show K mX9_isWord _ _ 0 0 33 [(2, vi (k : Int)), (0, vr 64), (1, vs (i + 1))] [vi ((wdL i).length : Nat), vi (k : Int)] h
    refine K_icmp_ge (tgt := 63) (dt_at dtX9_isWord 19 rfl) (by decide) (by first | assumption | exact ⟨by omega, by omega⟩) (by first | assumption | exact ⟨by omega, by omega⟩) (fun c1 => absurd c1 (by omega)) (fun c1 => ?_)
    refine K_aload_n (dt_at dtX9_isWord 20 rfl) rfl rfl ?_
    refine K_get (a := 64) (ci := 9) (k := 0) (v := vr 31) (dt_at dtX9_isWord 21 rfl) (show TT 64 = (0, 9) from rfl) rfl (by decide) wF_X9_7 (by show vr (hR h 64 0) = vr 31; rw [T.1]) ?_
    refine K_aload_n (dt_at dtX9_isWord 22 rfl) rfl rfl ?_
    refine K_get (a := 64) (ci := 9) (k := 2) (v := vi (t.2.1 : Int)) (dt_at dtX9_isWord 23 rfl) (show TT 64 = (0, 9) from rfl) rfl (by decide) wF_X9_17 (by show vi (hI h 64 2) = vi (t.2.1 : Int); rw [E.2.1]) ?_
    refine K_iload_n (dt_at dtX9_isWord 24 rfl) rfl rfl ?_
    refine K_iadd (dt_at dtX9_isWord 25 rfl) ?_
    refine K_bald (dt_at dtX9_isWord 26 rfl) (show TT 31 = (2, 700) from rfl) (by omega) (by omega) ?_
    rw [show (t.2.1 : Int) + (k : Int) = ((t.2.1 + k : Nat) : Int) from rfl, bk.2]
    refine K_aload_nS (dt_at dtX9_isWord 27 rfl) rfl rfl ?_
    refine K_iload_n (dt_at dtX9_isWord 28 rfl) rfl rfl ?_
    refine K_callVs (M' := mJ0_charAt_5068e) (i := i) (As := [vi (k : Int)]) (st := [vi (sb (tp ((t.2.1 + k : Nat) : Int)))]) (dt_at dtX9_isWord 29 rfl) (sJ0_charAt_5068e hi (by omega) (by omega)) hi rfl wL_X9_40 vJ0_charAt_5068e rfl npJ0_charAt_5068e (by decide) (by decide) (Nat.le_of_ble_eq_true rfl) (by decide) (by decide) GK_E (fun v9 h9 hq => ?_) (fun E h9 hq => by cases hq.1)
    obtain ⟨e9, e8⟩ := hq
    cases e9
    rw [e8]
    show K mX9_isWord _ _ 0 0 52 [(2, vi (k : Int)), (0, vr 64), (1, vs (i + 1))] [vi (wdA i (k : Int)), vi (sb (tp ((t.2.1 + k : Nat) : Int)))] h
    refine K_icmp_eq (tgt := 57) (dt_at dtX9_isWord 30 rfl) (by decide) (by first | assumption | exact ⟨by omega, by omega⟩) (by first | assumption | exact ⟨by omega, by omega⟩) (fun c2 => ?_) (fun c2 => ?_)
    · refine K_iinc (ls' := [(2, vi ((k : Int) + 1)), (0, vr 64), (1, vs (i + 1))]) (dt_at dtX9_isWord 33 rfl) rfl (by decide) rfl ?_
      refine K_goto (tgt := 28) (dt_at dtX9_isWord 34 rfl) (by decide) ?_
      exact K_pk [0, 1, 2] (ls' := [(2, vi ((k + 1 : Nat) : Int)), (0, vr 64), (1, vs (i + 1))]) rfl (ih (k + 1) (by omega) (lt_all hj (by omega)))
    · refine K_iconst (dt_at dtX9_isWord 31 rfl) ?_
      exact K_iret (dt_at dtX9_isWord 32 rfl) rfl (by decide) (by decide) (by decide) ⟨by rw [if_neg (fun z => absurd ((isWb_e z).2.2 k (by omega)) (by omega))], rfl⟩
set_option maxHeartbeats 4000000 in
set_option maxRecDepth 100000 in
theorem sX9_isWord {h : HP} {tp : Int → Int} {n : Nat} {t : TK} {i : Nat} (T : TxR h tp n) (E : TkR h t) (g : TkG tp n t) (hi : i < 21) : SpecK mX9_isWord [vr 64, vs (i + 1)] h (fun o h' => o = .inl (some (vi (if isWb tp t i = true then 1 else 0))) ∧ h' = h) := by
  refine Spec_of (by decide +kernel) (Nat.le_of_ble_eq_true rfl) ?_
  have hn7 := T.2.2.1
  obtain ⟨⟨g1, g2⟩, g3, g4, g5, g6⟩ := id g
  have hm := wd_max i hi
  refine K_aload_n (dt_at dtX9_isWord 0 rfl) rfl rfl ?_
  refine K_get (a := 64) (ci := 9) (k := 4) (v := vi (t.1)) (dt_at dtX9_isWord 1 rfl) (show TT 64 = (0, 9) from rfl) rfl (by decide) wF_X9_23 (by show vi (hI h 64 4) = vi (t.1); rw [E.1]) ?_
  refine K_iconst (dt_at dtX9_isWord 2 rfl) ?_
  refine K_icmp_ne (tgt := 24) (dt_at dtX9_isWord 3 rfl) (by decide) (by first | assumption | exact ⟨by omega, by omega⟩) (by first | assumption | exact ⟨by omega, by omega⟩) (fun c1 => ?_) (fun c1 => ?_)
  · refine K_iconst (dt_at dtX9_isWord 12 rfl) ?_
    exact K_iret (dt_at dtX9_isWord 13 rfl) rfl (by decide) (by decide) (by decide) ⟨by rw [if_neg (fun z => by have z1 := isWb_e z; omega)], rfl⟩
  · refine K_aload_n (dt_at dtX9_isWord 4 rfl) rfl rfl ?_
    refine K_get (a := 64) (ci := 9) (k := 3) (v := vi (t.2.2 : Int)) (dt_at dtX9_isWord 5 rfl) (show TT 64 = (0, 9) from rfl) rfl (by decide) wF_X9_20 (by show vi (hI h 64 3) = vi (t.2.2 : Int); rw [E.2.2]) ?_
    refine K_aload_n (dt_at dtX9_isWord 6 rfl) rfl rfl ?_
    refine K_get (a := 64) (ci := 9) (k := 2) (v := vi (t.2.1 : Int)) (dt_at dtX9_isWord 7 rfl) (show TT 64 = (0, 9) from rfl) rfl (by decide) wF_X9_17 (by show vi (hI h 64 2) = vi (t.2.1 : Int); rw [E.2.1]) ?_
    refine K_isub (dt_at dtX9_isWord 8 rfl) ?_
    refine K_aload_nS (dt_at dtX9_isWord 9 rfl) rfl rfl ?_
    refine K_callVs (M' := mJ0_length_8abf5) (i := i) (As := []) (st := [vi ((t.2.2 : Int) - (t.2.1 : Int))]) (dt_at dtX9_isWord 10 rfl) (sJ0_length_8abf5 hi) hi rfl wL_X9_35 vJ0_length_8abf5 rfl npJ0_length_8abf5 (by decide) (by decide) (Nat.le_of_ble_eq_true rfl) (by decide) (by decide) GK_E (fun v9 h9 hq => ?_) (fun E h9 hq => by cases hq.1)
    obtain ⟨e9, e8⟩ := hq
    cases e9
    rw [e8]
    show K mX9_isWord _ _ 0 0 21 [(0, vr 64), (1, vs (i + 1))] [vi ((wdL i).length : Nat), vi ((t.2.2 : Int) - (t.2.1 : Int))] h
    refine K_icmp_eq (tgt := 26) (dt_at dtX9_isWord 11 rfl) (by decide) (by first | assumption | exact ⟨by omega, by omega⟩) (by first | assumption | exact ⟨by omega, by omega⟩) (fun c2 => ?_) (fun c2 => ?_)
    · refine K_iconst (dt_at dtX9_isWord 14 rfl) ?_
      refine K_istore_n (ls' := [(2, vi 0), (0, vr 64), (1, vs (i + 1))]) (dt_at dtX9_isWord 15 rfl) rfl (by decide) rfl ?_
      exact K_pk [0, 1, 2] (ls' := [(2, vi ((0 : Nat) : Int)), (0, vr 64), (1, vs (i + 1))]) rfl (lp_X9_isWord T E g hi (by omega) (by omega) (wdL i).length 0 (by omega) (fun j hj9 => absurd hj9 (by omega)))
    · refine K_iconst (dt_at dtX9_isWord 12 rfl) ?_
      exact K_iret (dt_at dtX9_isWord 13 rfl) rfl (by decide) (by decide) (by decide) ⟨by rw [if_neg (fun z => by have z1 := isWb_e z; omega)], rfl⟩
def mX9_open : MI := (yX9_open, cX9_open, 3, none, rmK 3 0)
def tX9_open : List (Nat × Instr × Nat) := [(0, .aload_n 0, 1), (1, .aload_n 1, 1), (2, .putfield 7, 3), (5, .aload_n 0, 1), (6, .iload_n 2, 1), (7, .aload_n 1, 1), (8, .arraylength, 1), (9, .invokestatic 26, 3), (12, .putfield 13, 3), (15, .aload_n 0, 1), (16, .iconst 0, 1), (17, .putfield 20, 3), (20, .aload_n 0, 1), (21, .invokevirtual 32, 3), (24, .return_, 1)]
theorem dtX9_open : tX9_open.all (fun q => decide (decode cX9_open q.1 = .ok (q.2.1, q.2.2))) = true := by decide +kernel
theorem npX9_open : (parseMethodDescriptor (mY mX9_open).desc).map (fun d => d.parameters.length) = some 2 := by decide +kernel
theorem vX9_open : mV mX9_open := ⟨wI_X9_open, wS_X9_open, wN_X9, wC_X9_open, by decide +kernel, by decide +kernel⟩
set_option maxHeartbeats 4000000 in
set_option maxRecDepth 100000 in
theorem sX9_open {h : HP} {tp : Int → Int} {n : Nat} (hn : n ≤ 700) (hb : ∀ i : Int, 0 ≤ i → i < n → (0 ≤ tp i ∧ tp i < 256) ∧ hA h 31 i = sb (tp i)) : SpecK mX9_open [vr 64, vr 31, vi (n : Int)] h (fun o h' => o = .inl none ∧ TxR h' tp n ∧ TkR h' (tk tp n 0) ∧ FL [] ((64, 1) :: TL) [(64, 0)] h h') := by
  refine Spec_of (by decide +kernel) (Nat.le_of_ble_eq_true rfl) ?_
  refine K_aload_n (dt_at dtX9_open 0 rfl) rfl rfl ?_
  refine K_aload_n (dt_at dtX9_open 1 rfl) rfl rfl ?_
  refine K_putR (a := 64) (ci := 9) (k := 0) (dt_at dtX9_open 2 rfl) (show TT 64 = (0, 9) from rfl) rfl (by decide) wF_X9_7 rfl rfl (fun _ => rfl) (fun _ => rfl) ?_
  obtain ⟨hq1, eq1⟩ : ∃ z, z = sR h 64 0 31 := ⟨_, rfl⟩
  rw [← eq1]
  obtain ⟨rq1, fq1, aq1, iq1⟩ := sR_fx eq1
  refine K_aload_n (dt_at dtX9_open 3 rfl) rfl rfl ?_
  refine K_iload_n (dt_at dtX9_open 4 rfl) rfl rfl ?_
  refine K_aload_n (dt_at dtX9_open 5 rfl) rfl rfl ?_
  refine K_alenB (dt_at dtX9_open 6 rfl) (show TT 31 = (2, 700) from rfl) ?_
  show K mX9_open _ _ 0 0 9 [(0, vr 64), (1, vr 31), (2, vi (n : Int))] [vi 700, vi (n : Int), vr 64] hq1
  refine K_min (dt_at dtX9_open 7 rfl) wL_X9_26 ⟨by omega, by omega⟩ (by first | assumption | exact ⟨by omega, by omega⟩) (by decide) (Nat.le_of_ble_eq_true rfl) (by decide) (by decide) ?_
  refine K_putI (a := 64) (ci := 9) (k := 1) (dt_at dtX9_open 8 rfl) (show TT 64 = (0, 9) from rfl) rfl (by decide) wF_X9_13 rfl (Or.inl rfl) rfl rfl ?_
  obtain ⟨hq2, eq2⟩ : ∃ z, z = sI hq1 64 1 (min (n : Int) 700) := ⟨_, rfl⟩
  rw [← eq2]
  obtain ⟨iq2, fq2, aq2, rq2⟩ := sI_fx eq2
  refine K_aload_n (dt_at dtX9_open 9 rfl) rfl rfl ?_
  refine K_iconst (dt_at dtX9_open 10 rfl) ?_
  refine K_putI (a := 64) (ci := 9) (k := 3) (dt_at dtX9_open 11 rfl) (show TT 64 = (0, 9) from rfl) rfl (by decide) wF_X9_20 rfl (Or.inl rfl) rfl rfl ?_
  obtain ⟨hq3, eq3⟩ : ∃ z, z = sI hq2 64 3 0 := ⟨_, rfl⟩
  rw [← eq3]
  obtain ⟨iq3, fq3, aq3, rq3⟩ := sI_fx eq3
  refine K_aload_n (dt_at dtX9_open 12 rfl) rfl rfl ?_
  have FO : FL [] ((64, 1) :: TL) [(64, 0)] h hq3 := (FL_tr (FL_tr (FL_tr (FL_rf : FL [] ((64, 1) :: TL) [(64, 0)] h h) (FL_eR eq1 rfl)) (FL_eI eq2 rfl)) (FL_eI eq3 rfl))
  have TO : TxR hq3 tp n := ⟨by rw [rq3, rq2, rq1], by rw [(fq3 64 1 (by omega)), iq2]; omega, hn, fun i z0 z1 => by rw [FO.1 31 rfl]; exact hb i z0 z1⟩
  refine K_callV (M' := mX9_pass) (a := 64) (ci := 9) (As := []) (st := []) (dt_at dtX9_open 13 rfl) (sX9_pass (p := 0) TO (by rw [iq3]; rfl) (by omega)) (show TT 64 = (0, 9) from rfl) rfl wL_X9_32 vX9_pass rfl npX9_pass (by decide) (by decide) (Nat.le_of_ble_eq_true rfl) (by decide) (by decide) GK_E (fun v9 hc4 hq => ?_) (fun E h9 hq => by cases hq.1)
  have hqq5 := hq
  obtain ⟨e9q5, tkq5, flq5⟩ := hqq5
  cases e9q5
  show K mX9_open _ _ 0 0 24 [(0, vr 64), (1, vr 31), (2, vi (n : Int))] [] hc4
  exact K_vret (dt_at dtX9_open 14 rfl) rfl (by decide) (by decide) ⟨rfl, TxR_FL TO flq5 rfl rfl rfl, tkq5, FL_tr FO (FL_up flq5 rfl rfl rfl)⟩
