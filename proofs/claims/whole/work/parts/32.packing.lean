/-! how a case is packed best -/
def mxA (g : Nat → Int) : Nat → Int
  | 0 => 0
  | k + 1 => max (mxA g k) (g k)
def mpN (S : HS) (f : Int → Int) (q : Nat) (r : Int) : Nat := (min (r.tdiv (sW S (q : Int))) (f (29 + (q : Int)))).toNat
def gF (S : HS) (G : Int → Int) (q : Nat) (r : Int) (n : Nat) : Int := (n : Int) * sU S (q : Int) + G (r - (n : Int) * sW S (q : Int))
def bF (S : HS) (f : Int → Int) : Nat → Int → Int
  | 0, _ => 0
  | j + 1, r => mxA (gF S (bF S f j) (sNt S - (j + 1)) r) (mpN S f (sNt S - (j + 1)) r + 1)
def fmD (g : Nat → Int) (M : Int) : Nat → Nat
  | 0 => 0
  | k + 1 => if g (k + 1) = M then k + 1 else fmD g M k
def fmQ (S : HS) (f : Int → Int) (q : Nat) (r : Int) : Nat := fmD (gF S (bF S f (sNt S - (q + 1))) q r) (bF S f (sNt S - q) r) (mpN S f q r)
def rmF (S : HS) (f : Int → Int) (H : Int) : Nat → Int
  | 0 => H
  | k + 1 => rmF S f H k - (fmQ S f k (rmF S f H k) : Int) * sW S (k : Int)
theorem mxA_b {g : Nat → Int} {M : Int} (hM : 0 ≤ M) : ∀ n : Nat, (∀ k, k < n → g k ≤ M) → 0 ≤ mxA g n ∧ mxA g n ≤ M
  | 0, _ => ⟨Int.le_refl 0, hM⟩
  | k + 1, h => by
    obtain ⟨a, b⟩ := mxA_b hM k (fun j hj => h j (by omega))
    have e := h k (by omega)
    refine ⟨?_, ?_⟩
    · show 0 ≤ max (mxA g k) (g k); omega
    · show max (mxA g k) (g k) ≤ M; omega
theorem mpN_b {S : HS} {B : Int} {f : Int → Int} {q : Nat} {r : Int} (hB : hsW S) (hT : rT B f) (hq : q < sNt S) (h0 : 0 ≤ r) (h1 : r ≤ 60) : (mpN S f q r : Int) = min (r.tdiv (sW S (q : Int))) (f (29 + (q : Int))) ∧ mpN S f q r ≤ 60 ∧ ∀ n : Nat, n ≤ mpN S f q r → 0 ≤ (n : Int) * sW S (q : Int) ∧ (n : Int) * sW S (q : Int) ≤ r ∧ 0 ≤ (n : Int) * sU S (q : Int) ∧ (n : Int) * sU S (q : Int) ≤ 540 := by
  have hNt := hB.1
  have hw := (hB.2.2.1 (q : Int) (by omega) (by omega))
  have hs := hT.2.1 (29 + (q : Int)) (by omega) (by omega)
  have e : (mpN S f q r : Int) = min (r.tdiv (sW S (q : Int))) (f (29 + (q : Int))) := by
    unfold mpN
    rw [Int.tdiv_eq_ediv_of_nonneg h0]
    have := Int.ediv_nonneg h0 (show 0 ≤ sW S (q : Int) by omega)
    omega
  have d1 : r.tdiv (sW S (q : Int)) ≤ r := by
    rw [Int.tdiv_eq_ediv_of_nonneg h0]
    exact Int.ediv_le_self _ h0
  have d2 : r.tdiv (sW S (q : Int)) * sW S (q : Int) ≤ r := by
    rw [Int.tdiv_eq_ediv_of_nonneg h0]
    exact Int.ediv_mul_le r (by omega)
  refine ⟨e, by omega, fun n hn => ?_⟩
  have n1 : (n : Int) ≤ r.tdiv (sW S (q : Int)) := by omega
  have n2 : (n : Int) * sW S (q : Int) ≤ r.tdiv (sW S (q : Int)) * sW S (q : Int) := Int.mul_le_mul_of_nonneg_right n1 (by omega)
  have n3 : 0 ≤ (n : Int) * sW S (q : Int) := Int.mul_nonneg (by omega) (by omega)
  have n4 : 0 ≤ (n : Int) * sU S (q : Int) := Int.mul_nonneg (by omega) (by omega)
  have n5 : (n : Int) * sU S (q : Int) ≤ 60 * 9 := Int.mul_le_mul (by omega) (by omega) (by omega) (by omega)
  exact ⟨n3, by omega, n4, by omega⟩
theorem bF_b {S : HS} {B : Int} {f : Int → Int} (hB : hsW S) (hT : rT B f) : ∀ (j : Nat) (r : Int), j ≤ sNt S → 0 ≤ r → r ≤ 60 → 0 ≤ bF S f j r ∧ bF S f j r ≤ 540 * (j : Int)
  | 0, _, _, _, _ => ⟨Int.le_refl 0, by show (0 : Int) ≤ 540 * ((0 : Nat) : Int); omega⟩
  | j + 1, r, hj, h0, h1 => by
    obtain ⟨-, -, m3⟩ := mpN_b (q := sNt S - (j + 1)) hB hT (by omega) h0 h1
    refine mxA_b (by omega) _ (fun k hk => ?_)
    have m4 := m3 k (by omega)
    have := bF_b hB hT j (r - (k : Int) * sW S ((sNt S - (j + 1) : Nat) : Int)) (by omega) (by omega) (by omega)
    unfold gF
    omega
theorem gF_b {S : HS} {B : Int} {f : Int → Int} {q n : Nat} {r : Int} (hB : hsW S) (hT : rT B f) (hq : q < sNt S) (h0 : 0 ≤ r) (h1 : r ≤ 60) (hn : n ≤ mpN S f q r) : 0 ≤ gF S (bF S f (sNt S - (q + 1))) q r n ∧ gF S (bF S f (sNt S - (q + 1))) q r n ≤ 4000 := by
  have hNt := hB.1
  obtain ⟨-, -, m3⟩ := mpN_b hB hT hq h0 h1
  have m4 := m3 n hn
  have := bF_b hB hT (sNt S - (q + 1)) (r - (n : Int) * sW S (q : Int)) (by omega) (by omega) (by omega)
  unfold gF
  omega
theorem fmD_le (g : Nat → Int) (M : Int) : ∀ k, fmD g M k ≤ k
  | 0 => Nat.le_refl 0
  | k + 1 => by
    show (if g (k + 1) = M then k + 1 else fmD g M k) ≤ k + 1
    by_cases e : g (k + 1) = M
    · rw [if_pos e]; exact Nat.le_refl _
    · rw [if_neg e]; exact Nat.le_trans (fmD_le g M k) (Nat.le_succ k)
theorem rmF_b {S : HS} {B : Int} {f : Int → Int} {H : Int} (hB : hsW S) (hT : rT B f) (h0 : 0 ≤ H) (h1 : H ≤ 60) : ∀ k : Nat, k ≤ sNt S → 0 ≤ rmF S f H k ∧ rmF S f H k ≤ H
  | 0, _ => ⟨h0, Int.le_refl H⟩
  | k + 1, hk => by
    obtain ⟨a, b⟩ := rmF_b hB hT h0 h1 k (by omega)
    obtain ⟨-, -, m3⟩ := mpN_b (q := k) hB hT (by omega) a (by omega)
    have m4 := m3 (fmQ S f k (rmF S f H k)) (fmD_le _ _ _)
    refine ⟨?_, ?_⟩
    · show 0 ≤ rmF S f H k - _; omega
    · show rmF S f H k - _ ≤ H; omega
/-- the packing's own heap -/
def PK (h : HP) (t : Nat) (S : HS) (B : Int) (f : Int → Int) : Prop := CQ h t S B f ∧ hR h 91 1 = t ∧ hR h 91 2 = 66
/-- the rows of the grid that are laid out -/
def GR (h : HP) (S : HS) (f : Int → Int) (H : Int) (k : Nat) : Prop := ∀ j : Nat, j ≤ k → ∀ r : Int, 0 ≤ r → r ≤ H → hA h (93 + (sNt S - j)) r = bF S f j r
theorem FS_g {h g g' : HP} (F : FS h g) {a : Nat} {i x : Int} (ha : 93 ≤ a) (hb : a ≤ 99) (e : g' = sA g a i x) : FS h g' ∧ hR g' = hR g := by
  obtain ⟨a1, f1, i1, r1⟩ := sA_fx e
  obtain ⟨g1, g2, g3, g4, g5, g6, g7⟩ := F.2.2.2
  have sc : scA a = true := by
    rcases (show a = 93 ∨ a = 94 ∨ a = 95 ∨ a = 96 ∨ a = 97 ∨ a = 98 ∨ a = 99 by omega) with rfl | rfl | rfl | rfl | rfl | rfl | rfl <;> rfl
  refine ⟨⟨fun b hb2 => ?_, fun b k hb2 => by rw [i1]; exact F.2.1 b k hb2, fun b k hb2 => by rw [r1]; exact F.2.2.1 b k hb2, ?_⟩, r1⟩
  · rw [f1 b (fun z => by rw [z, sc] at hb2; cases hb2)]; exact F.1 b hb2
  · exact ⟨by rw [f1 44 (by omega)]; exact g1, by rw [f1 47 (by omega)]; exact g2, by rw [f1 59 (by omega)]; exact g3, by rw [f1 62 (by omega)]; exact g4, by rw [f1 87 (by omega)]; exact g5, by rw [f1 104 (by omega)]; exact g6, by rw [r1]; exact g7⟩
theorem FS_r {h g g' : HP} (F : FS h g) {k b : Nat} (hk : k = 1 ∨ k = 2) (e : g' = sR g 91 k b) : FS h g' := by
  obtain ⟨a1, f1, i1, r1⟩ := sR_fx e
  obtain ⟨g1, g2, g3, g4, g5, g6, g7⟩ := F.2.2.2
  refine ⟨fun a ha => by rw [i1]; exact F.1 a ha, fun a j ha => by rw [r1]; exact F.2.1 a j ha, fun a j ha => ?_, ?_⟩
  · rw [f1 a j (by
      by_cases z : a = 91
      · refine Or.inr (fun z2 => ?_)
        subst z; subst z2
        rcases hk with rfl | rfl <;> cases ha
      · exact Or.inl z)]
    exact F.2.2.1 a j ha
  · rw [show G32 g' = (_ : Prop) from rfl]
    refine ⟨?_, ?_, ?_, ?_, ?_, ?_, ?_⟩
    · rw [i1]; exact g1
    · rw [i1]; exact g2
    · rw [i1]; exact g3
    · rw [i1]; exact g4
    · rw [i1]; exact g5
    · rw [i1]; exact g6
    · rw [f1 84 3 (Or.inl (by decide)), f1 84 4 (Or.inl (by decide))]; exact g7

def mX4_mostPieces : MI := (yX4_mostPieces, cX4_mostPieces, 4, (some .int), rmK 2 0)
def tX4_mostPieces : List (Nat × Instr × Nat) := [(0, .aload_n 0, 1), (1, .getfield 16, 3), (4, .getfield 46, 3), (7, .iload_n 1, 1), (8, .iaload, 1), (9, .istore_n 3, 1), (10, .iload_n 3, 1), (11, .ifCond .le 20, 3), (14, .iload_n 2, 1), (15, .iload_n 3, 1), (16, .idiv, 1), (17, .aload_n 0, 1), (18, .getfield 20, 3), (21, .iload_n 1, 1), (22, .invokevirtual 50, 3), (25, .invokestatic 56, 3), (28, .goto 4, 3), (31, .iconst 0, 1), (32, .ireturn, 1)]
theorem dtX4_mostPieces : tX4_mostPieces.all (fun q => decide (decode cX4_mostPieces q.1 = .ok (q.2.1, q.2.2))) = true := by decide +kernel
theorem npX4_mostPieces : (parseMethodDescriptor (mY mX4_mostPieces).desc).map (fun d => d.parameters.length) = some 2 := by decide +kernel
theorem vX4_mostPieces : mV mX4_mostPieces := ⟨wI_X4_mostPieces, wS_X4_mostPieces, wN_X4, wC_X4_mostPieces, by decide +kernel, by decide +kernel⟩
set_option maxHeartbeats 4000000 in
set_option maxRecDepth 100000 in
theorem sX4_mostPieces {h : HP} {t : Nat} {S : HS} {B : Int} {f : Int → Int} {q : Nat} {r : Int} (pk : PK h t S B f) (hq0 : q < sNt S) (hr : 0 ≤ r ∧ r ≤ 60) : SpecK mX4_mostPieces [vr 91, vi (q : Int), vi r] h (fun o h' => o = .inl (some (vi (mpN S f q r : Int))) ∧ h' = h) := by
  refine Spec_of (by decide +kernel) (Nat.le_of_ble_eq_true rfl) ?_
  have c := pk.1
  have ht := c.1
  have hH := TTt ht
  have hB := c.2.2.2.1
  have hNt := hB.1
  have hNp := hB.2.1
  have hT := c.2.2.2.2.2.1
  have hC := c.2.2.2.2.2.2.1
  have h99 := c.2.2.2.2.2.2.2.1
  have G := c.2.2.2.2.2.2.2.2
  have hf0 := hT.2.2.2.1
  have hw := hB.2.2.1 (q : Int) (by omega) (by omega)
  have hs := hT.1.1 (29 + (q : Int)) (by omega) (by omega)
  have d1 := tdiv_b hw.1.1 ⟨by omega, hr.2⟩
  obtain ⟨m1, -⟩ := mpN_b hB hT hq0 hr.1 hr.2
  refine K_aload_n (dt_at dtX4_mostPieces 0 rfl) rfl rfl ?_
  refine K_get (a := 91) (ci := 4) (k := 1) (v := vr t) (dt_at dtX4_mostPieces 1 rfl) (show TT 91 = (0, 4) from rfl) rfl (by decide) wF_X4_16 (by show vr (hR h 91 1) = vr t; rw [pk.2.1]) ?_
  refine K_get (a := t) (ci := 3) (k := 0) (v := vr (t + 1)) (dt_at dtX4_mostPieces 2 rfl) hH rfl (by decide) wF_X4_46 rfl ?_
  refine K_iload_n (dt_at dtX4_mostPieces 3 rfl) rfl rfl ?_
  refine K_iald (dt_at dtX4_mostPieces 4 rfl) (lay_3_0 hH) (by omega) (by omega) ?_
  rw [pk.1.2.2.1.1.1]
  refine K_istore_n (ls' := [(3, vi ((sW S) (q : Int))), (0, vr 91), (1, vi (q : Int)), (2, vi r)]) (dt_at dtX4_mostPieces 5 rfl) rfl (by decide) rfl ?_
  refine K_iload_n (dt_at dtX4_mostPieces 6 rfl) rfl rfl ?_
  refine K_if_le (tgt := 31) (dt_at dtX4_mostPieces 7 rfl) (by decide) (by first | assumption | exact ⟨by omega, by omega⟩) (fun c1 => absurd c1 (by omega)) (fun c1 => ?_)
  refine K_iload_n (dt_at dtX4_mostPieces 8 rfl) rfl rfl ?_
  refine K_iload_n (dt_at dtX4_mostPieces 9 rfl) rfl rfl ?_
  refine K_idiv (dt_at dtX4_mostPieces 10 rfl) (by first | assumption | exact ⟨by omega, by omega⟩) (by first | assumption | exact ⟨by omega, by omega⟩) (by omega) ?_
  refine K_aload_n (dt_at dtX4_mostPieces 11 rfl) rfl rfl ?_
  refine K_get (a := 91) (ci := 4) (k := 2) (v := vr 66) (dt_at dtX4_mostPieces 12 rfl) (show TT 91 = (0, 4) from rfl) rfl (by decide) wF_X4_20 (by show vr (hR h 91 2) = vr 66; rw [pk.2.2]) ?_
  refine K_iload_n (dt_at dtX4_mostPieces 13 rfl) rfl rfl ?_
  refine K_callV (M' := mX8_stock) (a := 66) (ci := 8) (As := [vi (q : Int)]) (st := [vi (r.tdiv ((sW S) (q : Int)))]) (dt_at dtX4_mostPieces 14 rfl) (sX8_stock (a := 66) (by decide) ⟨by omega, by omega⟩) (show TT 66 = (0, 8) from rfl) rfl wL_X4_50 vX8_stock rfl npX8_stock (by decide) (by decide) (Nat.le_of_ble_eq_true rfl) (by decide) (by decide) GK_E (fun v9 h9 hq => ?_) (fun E h9 hq => by cases hq.1)
  obtain ⟨e9, e8⟩ := hq
  cases e9
  rw [e8]
  show K mX4_mostPieces _ _ 0 0 25 [(3, vi ((sW S) (q : Int))), (0, vr 91), (1, vi (q : Int)), (2, vi r)] [vi (hA h (66 + 1) (29 + (q : Int))), vi (r.tdiv ((sW S) (q : Int)))] h
  rw [show hA h (66 + 1) = f from pk.1.2.2.2.2.1]
  refine K_min (dt_at dtX4_mostPieces 15 rfl) wL_X4_56 (by first | assumption | exact ⟨by omega, by omega⟩) (by first | assumption | exact ⟨by omega, by omega⟩) (by decide) (Nat.le_of_ble_eq_true rfl) (by decide) (by decide) ?_
  refine K_goto (tgt := 32) (dt_at dtX4_mostPieces 16 rfl) (by decide) ?_
  exact K_iret (dt_at dtX4_mostPieces 18 rfl) rfl rfl (by decide) (by decide) ⟨by rw [m1], rfl⟩
def mX4_useBy : MI := (yX4_useBy, cX4_useBy, 4, (some .int), rmK 1 0)
def tX4_useBy : List (Nat × Instr × Nat) := [(0, .iload_n 2, 1), (1, .aload_n 0, 1), (2, .getfield 16, 3), (5, .getfield 59, 3), (8, .iload_n 1, 1), (9, .iaload, 1), (10, .imul, 1), (11, .aload_n 0, 1), (12, .getfield 11, 3), (15, .iload_n 1, 1), (16, .iconst 1, 1), (17, .iadd, 1), (18, .aaload, 1), (19, .iload_n 3, 1), (20, .iload_n 2, 1), (21, .aload_n 0, 1), (22, .getfield 16, 3), (25, .getfield 46, 3), (28, .iload_n 1, 1), (29, .iaload, 1), (30, .imul, 1), (31, .isub, 1), (32, .iaload, 1), (33, .iadd, 1), (34, .ireturn, 1)]
theorem dtX4_useBy : tX4_useBy.all (fun q => decide (decode cX4_useBy q.1 = .ok (q.2.1, q.2.2))) = true := by decide +kernel
theorem npX4_useBy : (parseMethodDescriptor (mY mX4_useBy).desc).map (fun d => d.parameters.length) = some 3 := by decide +kernel
theorem vX4_useBy : mV mX4_useBy := ⟨wI_X4_useBy, wS_X4_useBy, wN_X4, wC_X4_useBy, by decide +kernel, by decide +kernel⟩
set_option maxHeartbeats 4000000 in
set_option maxRecDepth 100000 in
theorem sX4_useBy {h : HP} {t : Nat} {S : HS} {B : Int} {f : Int → Int} {q : Nat} {r : Int} {n : Int} (pk : PK h t S B f) (hq0 : q < sNt S) (hr : 0 ≤ r ∧ r ≤ 60) (hn : 0 ≤ r - n * sW S (q : Int) ∧ r - n * sW S (q : Int) ≤ 60) : SpecK mX4_useBy [vr 91, vi (q : Int), vi n, vi r] h (fun o h' => o = .inl (some (vi (n * sU S (q : Int) + hA h (92 + 1 + ((q : Int) + 1).toNat) (r - n * sW S (q : Int))))) ∧ h' = h) := by
  refine Spec_of (by decide +kernel) (Nat.le_of_ble_eq_true rfl) ?_
  have c := pk.1
  have ht := c.1
  have hH := TTt ht
  have hB := c.2.2.2.1
  have hNt := hB.1
  have hNp := hB.2.1
  have hT := c.2.2.2.2.2.1
  have hC := c.2.2.2.2.2.2.1
  have h99 := c.2.2.2.2.2.2.2.1
  have G := c.2.2.2.2.2.2.2.2
  have hf0 := hT.2.2.2.1
  refine K_iload_n (dt_at dtX4_useBy 0 rfl) rfl rfl ?_
  refine K_aload_n (dt_at dtX4_useBy 1 rfl) rfl rfl ?_
  refine K_get (a := 91) (ci := 4) (k := 1) (v := vr t) (dt_at dtX4_useBy 2 rfl) (show TT 91 = (0, 4) from rfl) rfl (by decide) wF_X4_16 (by show vr (hR h 91 1) = vr t; rw [pk.2.1]) ?_
  refine K_get (a := t) (ci := 3) (k := 1) (v := vr (t + 2)) (dt_at dtX4_useBy 3 rfl) hH rfl (by decide) wF_X4_59 rfl ?_
  refine K_iload_n (dt_at dtX4_useBy 4 rfl) rfl rfl ?_
  refine K_iald (dt_at dtX4_useBy 5 rfl) (lay_3_1 hH) (by omega) (by omega) ?_
  rw [pk.1.2.2.1.1.2.1]
  refine K_imul (dt_at dtX4_useBy 6 rfl) ?_
  refine K_aload_n (dt_at dtX4_useBy 7 rfl) rfl rfl ?_
  refine K_get (a := 91) (ci := 4) (k := 0) (v := vr 92) (dt_at dtX4_useBy 8 rfl) (show TT 91 = (0, 4) from rfl) rfl (by decide) wF_X4_11 rfl ?_
  refine K_iload_n (dt_at dtX4_useBy 9 rfl) rfl rfl ?_
  refine K_iconst (dt_at dtX4_useBy 10 rfl) ?_
  refine K_iadd (dt_at dtX4_useBy 11 rfl) ?_
  refine K_aald (dt_at dtX4_useBy 12 rfl) (show TT 92 = (5, 7) from rfl) (by omega) (by omega) ?_
  refine K_iload_n (dt_at dtX4_useBy 13 rfl) rfl rfl ?_
  refine K_iload_n (dt_at dtX4_useBy 14 rfl) rfl rfl ?_
  refine K_aload_n (dt_at dtX4_useBy 15 rfl) rfl rfl ?_
  refine K_get (a := 91) (ci := 4) (k := 1) (v := vr t) (dt_at dtX4_useBy 16 rfl) (show TT 91 = (0, 4) from rfl) rfl (by decide) wF_X4_16 (by show vr (hR h 91 1) = vr t; rw [pk.2.1]) ?_
  refine K_get (a := t) (ci := 3) (k := 0) (v := vr (t + 1)) (dt_at dtX4_useBy 17 rfl) hH rfl (by decide) wF_X4_46 rfl ?_
  refine K_iload_n (dt_at dtX4_useBy 18 rfl) rfl rfl ?_
  refine K_iald (dt_at dtX4_useBy 19 rfl) (lay_3_0 hH) (by omega) (by omega) ?_
  rw [pk.1.2.2.1.1.1]
  refine K_imul (dt_at dtX4_useBy 20 rfl) ?_
  refine K_isub (dt_at dtX4_useBy 21 rfl) ?_
  refine K_iald (dt_at dtX4_useBy 22 rfl) (grid_7 (show TT 92 = (5, 7) from rfl) (by omega) (by omega)) (by omega) (by omega) ?_
  refine K_iadd (dt_at dtX4_useBy 23 rfl) ?_
  exact K_iret (dt_at dtX4_useBy 24 rfl) rfl rfl (by decide) (by decide) ⟨rfl, rfl⟩
def mX4_mostFrom : MI := (yX4_mostFrom, cX4_mostFrom, 5, (some .int), rmK 3 0)
def tX4_mostFrom : List (Nat × Instr × Nat) := [(0, .iconst 0, 1), (1, .istore_n 3, 1), (2, .aload_n 0, 1), (3, .iload_n 1, 1), (4, .iload_n 2, 1), (5, .invokevirtual 34, 3), (8, .istore 4, 2), (10, .iload 4, 2), (12, .ifCond .lt 22, 3), (15, .iload_n 3, 1), (16, .aload_n 0, 1), (17, .iload_n 1, 1), (18, .iload 4, 2), (20, .iload_n 2, 1), (21, .invokevirtual 37, 3), (24, .invokestatic 41, 3), (27, .istore_n 3, 1), (28, .iinc 4 (-1), 3), (31, .goto (-21), 3), (34, .iload_n 3, 1), (35, .ireturn, 1)]
theorem dtX4_mostFrom : tX4_mostFrom.all (fun q => decide (decode cX4_mostFrom q.1 = .ok (q.2.1, q.2.2))) = true := by decide +kernel
theorem npX4_mostFrom : (parseMethodDescriptor (mY mX4_mostFrom).desc).map (fun d => d.parameters.length) = some 2 := by decide +kernel
theorem vX4_mostFrom : mV mX4_mostFrom := ⟨wI_X4_mostFrom, wS_X4_mostFrom, wN_X4, wC_X4_mostFrom, by decide +kernel, by decide +kernel⟩
set_option maxHeartbeats 4000000 in
set_option maxRecDepth 100000 in
theorem lp_X4_mostFrom {Q : AO → HP → Prop} {h : HP} {t : Nat} {S : HS} {B : Int} {f : Int → Int} {q : Nat} {r : Int} (pk : PK h t S B f) (hq0 : q < sNt S) (hr : 0 ≤ r ∧ r ≤ 60) (hG : ∀ x : Int, 0 ≤ x → x ≤ r → hA h (92 + 1 + ((q : Int) + 1).toNat) x = bF S f (sNt S - (q + 1)) x) : ∀ (d k : Nat) (x u : Int), x + 1 = d → d ≤ mpN S f q r + 1 → (0 ≤ u ∧ u ≤ 4000) → Q (.inl (some (vi (max u (mxA (gF S (bF S f (sNt S - (q + 1))) q r) d))))) h → K mX4_mostFrom GK (ZK Q 0 0) 0 0 10 [(4, vi x), (3, vi u), (0, vr 91), (1, vi (q : Int)), (2, vi r)] [] h := by
  intro d
  induction d with
  | zero =>
    intro k x u hx hdm hu hq
    have c := pk.1
    have ht := c.1
    have hH := TTt ht
    have hB := c.2.2.2.1
    have hNt := hB.1
    have hNp := hB.2.1
    have hT := c.2.2.2.2.2.1
    have hC := c.2.2.2.2.2.2.1
    have h99 := c.2.2.2.2.2.2.2.1
    have G := c.2.2.2.2.2.2.2.2
    have hf0 := hT.2.2.2.1
    refine K_iload (dt_at dtX4_mostFrom 7 rfl) rfl ?_
    refine K_if_lt (tgt := 34) (dt_at dtX4_mostFrom 8 rfl) (by decide) (by first | assumption | exact ⟨by omega, by omega⟩) (fun c1 => ?_) (fun c1 => absurd c1 (by omega))
    refine K_iload_n (dt_at dtX4_mostFrom 19 rfl) rfl rfl ?_
    exact K_iret (dt_at dtX4_mostFrom 20 rfl) rfl rfl (by decide) (by decide) (by have h9 := hq; rw [show max u (mxA (gF S (bF S f (sNt S - (q + 1))) q r) 0) = u by show max u 0 = u; omega] at h9; exact h9)
  | succ d ih =>
    intro k x u hx hdm hu hq
    have c := pk.1
    have ht := c.1
    have hH := TTt ht
    have hB := c.2.2.2.1
    have hNt := hB.1
    have hNp := hB.2.1
    have hT := c.2.2.2.2.2.1
    have hC := c.2.2.2.2.2.2.1
    have h99 := c.2.2.2.2.2.2.2.1
    have G := c.2.2.2.2.2.2.2.2
    have hf0 := hT.2.2.2.1
    have ex : x = (d : Int) := by omega
    obtain ⟨-, m2, m3⟩ := mpN_b hB hT hq0 hr.1 hr.2
    have m4 := m3 d (by omega)
    rw [← ex] at m4
    have m5 := gF_b (n := d) hB hT hq0 hr.1 hr.2 (by omega)
    refine K_iload (dt_at dtX4_mostFrom 7 rfl) rfl ?_
    refine K_if_lt (tgt := 34) (dt_at dtX4_mostFrom 8 rfl) (by decide) (by first | assumption | exact ⟨by omega, by omega⟩) (fun c1 => absurd c1 (by omega)) (fun c1 => ?_)
    refine K_iload_n (dt_at dtX4_mostFrom 9 rfl) rfl rfl ?_
    refine K_aload_n (dt_at dtX4_mostFrom 10 rfl) rfl rfl ?_
    refine K_iload_n (dt_at dtX4_mostFrom 11 rfl) rfl rfl ?_
    refine K_iload (dt_at dtX4_mostFrom 12 rfl) rfl ?_
    refine K_iload_n (dt_at dtX4_mostFrom 13 rfl) rfl rfl ?_
    refine K_callV (M' := mX4_useBy) (a := 91) (ci := 4) (As := [vi (q : Int), vi x, vi r]) (st := [vi u]) (dt_at dtX4_mostFrom 14 rfl) (sX4_useBy pk hq0 hr (by omega)) (show TT 91 = (0, 4) from rfl) rfl wL_X4_37 vX4_useBy rfl npX4_useBy (by decide) (by decide) (Nat.le_of_ble_eq_true rfl) (by decide) (by decide) GK_E (fun v9 h9 hq => ?_) (fun E h9 hq => by cases hq.1)
    obtain ⟨e9, e8⟩ := hq
    cases e9
    rw [e8]
    show K mX4_mostFrom _ _ 0 0 24 [(4, vi x), (3, vi u), (0, vr 91), (1, vi (q : Int)), (2, vi r)] [vi (x * sU S (q : Int) + hA h (92 + 1 + ((q : Int) + 1).toNat) (r - x * sW S (q : Int))), vi u] h
    rw [hG _ (by omega) (by omega), show x * sU S (q : Int) + bF S f (sNt S - (q + 1)) (r - x * sW S (q : Int)) = (gF S (bF S f (sNt S - (q + 1))) q r) d by rw [ex]; rfl]
    refine K_max (dt_at dtX4_mostFrom 15 rfl) wL_X4_41 (by first | assumption | exact ⟨by omega, by omega⟩) (by first | assumption | exact ⟨by omega, by omega⟩) (by decide) (Nat.le_of_ble_eq_true rfl) (by decide) (by decide) ?_
    refine K_istore_n (ls' := [(3, vi (max u ((gF S (bF S f (sNt S - (q + 1))) q r) d))), (4, vi x), (0, vr 91), (1, vi (q : Int)), (2, vi r)]) (dt_at dtX4_mostFrom 16 rfl) rfl (by decide) rfl ?_
    refine K_iinc (ls' := [(4, vi (x + (-1))), (3, vi (max u ((gF S (bF S f (sNt S - (q + 1))) q r) d))), (0, vr 91), (1, vi (q : Int)), (2, vi r)]) (dt_at dtX4_mostFrom 17 rfl) rfl (by decide) rfl ?_
    refine K_goto (tgt := 10) (dt_at dtX4_mostFrom 18 rfl) (by decide) ?_
    exact K_pk [0, 1, 2, 3, 4] rfl (ih k (x + (-1)) (max u ((gF S (bF S f (sNt S - (q + 1))) q r) d)) (by omega) (by omega) ⟨by omega, by omega⟩ (by have h9 := hq; rw [show max u (mxA (gF S (bF S f (sNt S - (q + 1))) q r) (d + 1)) = max (max u ((gF S (bF S f (sNt S - (q + 1))) q r) d)) (mxA (gF S (bF S f (sNt S - (q + 1))) q r) d) by show max u (max (mxA (gF S (bF S f (sNt S - (q + 1))) q r) d) ((gF S (bF S f (sNt S - (q + 1))) q r) d)) = _; omega] at h9; exact h9))
set_option maxHeartbeats 4000000 in
set_option maxRecDepth 100000 in
theorem sX4_mostFrom {h : HP} {t : Nat} {S : HS} {B : Int} {f : Int → Int} {q : Nat} {r : Int} (pk : PK h t S B f) (hq0 : q < sNt S) (hr : 0 ≤ r ∧ r ≤ 60) (hG : ∀ x : Int, 0 ≤ x → x ≤ r → hA h (92 + 1 + ((q : Int) + 1).toNat) x = bF S f (sNt S - (q + 1)) x) : SpecK mX4_mostFrom [vr 91, vi (q : Int), vi r] h (fun o h' => o = .inl (some (vi (mxA (gF S (bF S f (sNt S - (q + 1))) q r) (mpN S f q r + 1)))) ∧ h' = h) := by
  refine Spec_of (by decide +kernel) (Nat.le_of_ble_eq_true rfl) ?_
  have c := pk.1
  have ht := c.1
  have hH := TTt ht
  have hB := c.2.2.2.1
  have hNt := hB.1
  have hNp := hB.2.1
  have hT := c.2.2.2.2.2.1
  have hC := c.2.2.2.2.2.2.1
  have h99 := c.2.2.2.2.2.2.2.1
  have G := c.2.2.2.2.2.2.2.2
  have hf0 := hT.2.2.2.1
  obtain ⟨m1, m2, m3⟩ := mpN_b hB hT hq0 hr.1 hr.2
  refine K_iconst (dt_at dtX4_mostFrom 0 rfl) ?_
  refine K_istore_n (ls' := [(3, vi 0), (0, vr 91), (1, vi (q : Int)), (2, vi r)]) (dt_at dtX4_mostFrom 1 rfl) rfl (by decide) rfl ?_
  refine K_aload_n (dt_at dtX4_mostFrom 2 rfl) rfl rfl ?_
  refine K_iload_n (dt_at dtX4_mostFrom 3 rfl) rfl rfl ?_
  refine K_iload_n (dt_at dtX4_mostFrom 4 rfl) rfl rfl ?_
  refine K_callV (M' := mX4_mostPieces) (a := 91) (ci := 4) (As := [vi (q : Int), vi r]) (st := []) (dt_at dtX4_mostFrom 5 rfl) (sX4_mostPieces pk hq0 hr) (show TT 91 = (0, 4) from rfl) rfl wL_X4_34 vX4_mostPieces rfl npX4_mostPieces (by decide) (by decide) (Nat.le_of_ble_eq_true rfl) (by decide) (by decide) GK_E (fun v9 h9 hq => ?_) (fun E h9 hq => by cases hq.1)
  obtain ⟨e9, e8⟩ := hq
  cases e9
  rw [e8]
  show K mX4_mostFrom _ _ 0 0 8 [(3, vi 0), (0, vr 91), (1, vi (q : Int)), (2, vi r)] [vi (mpN S f q r : Int)] h
  refine K_istore (ls' := [(4, vi (mpN S f q r : Int)), (3, vi 0), (0, vr 91), (1, vi (q : Int)), (2, vi r)]) (dt_at dtX4_mostFrom 6 rfl) (by decide) rfl ?_
  exact K_pk [0, 1, 2, 3, 4] rfl (lp_X4_mostFrom pk hq0 hr hG (mpN S f q r + 1) 0 _ _ (by omega) (Nat.le_refl _) ⟨by decide, by decide⟩ ⟨by have := (mxA_b (g := (gF S (bF S f (sNt S - (q + 1))) q r)) (M := 4000) (by omega) (mpN S f q r + 1) (fun k hk => (gF_b hB hT hq0 hr.1 hr.2 (by omega)).2)).1; rw [show max 0 (mxA (gF S (bF S f (sNt S - (q + 1))) q r) (mpN S f q r + 1)) = mxA (gF S (bF S f (sNt S - (q + 1))) q r) (mpN S f q r + 1) by omega], rfl⟩)
def mX4_firstMany : MI := (yX4_firstMany, cX4_firstMany, 4, (some .int), rmK 3 0)
def tX4_firstMany : List (Nat × Instr × Nat) := [(0, .aload_n 0, 1), (1, .iload_n 1, 1), (2, .iload_n 2, 1), (3, .invokevirtual 34, 3), (6, .istore_n 3, 1), (7, .iload_n 3, 1), (8, .ifCond .le 29, 3), (11, .aload_n 0, 1), (12, .iload_n 1, 1), (13, .iload_n 3, 1), (14, .iload_n 2, 1), (15, .invokevirtual 37, 3), (18, .aload_n 0, 1), (19, .getfield 11, 3), (22, .iload_n 1, 1), (23, .aaload, 1), (24, .iload_n 2, 1), (25, .iaload, 1), (26, .if_icmp .ne 5, 3), (29, .iload_n 3, 1), (30, .ireturn, 1), (31, .iinc 3 (-1), 3), (34, .goto (-27), 3), (37, .iconst 0, 1), (38, .ireturn, 1)]
theorem dtX4_firstMany : tX4_firstMany.all (fun q => decide (decode cX4_firstMany q.1 = .ok (q.2.1, q.2.2))) = true := by decide +kernel
theorem npX4_firstMany : (parseMethodDescriptor (mY mX4_firstMany).desc).map (fun d => d.parameters.length) = some 2 := by decide +kernel
theorem vX4_firstMany : mV mX4_firstMany := ⟨wI_X4_firstMany, wS_X4_firstMany, wN_X4, wC_X4_firstMany, by decide +kernel, by decide +kernel⟩
set_option maxHeartbeats 4000000 in
set_option maxRecDepth 100000 in
theorem lp_X4_firstMany {Q : AO → HP → Prop} {h : HP} {t : Nat} {S : HS} {B : Int} {f : Int → Int} {q : Nat} {r : Int} (pk : PK h t S B f) (hq0 : q < sNt S) (hr : 0 ≤ r ∧ r ≤ 60) (hG : ∀ x : Int, 0 ≤ x → x ≤ r → hA h (92 + 1 + ((q : Int) + 1).toNat) x = bF S f (sNt S - (q + 1)) x) (hG2 : hA h (92 + 1 + (q : Int).toNat) r = bF S f (sNt S - q) r) : ∀ (d k : Nat) (x : Int), x = d → d ≤ mpN S f q r → Q (.inl (some (vi (fmD (gF S (bF S f (sNt S - (q + 1))) q r) (bF S f (sNt S - q) r) d : Int)))) h → K mX4_firstMany GK (ZK Q 0 0) 0 0 7 [(3, vi x), (0, vr 91), (1, vi (q : Int)), (2, vi r)] [] h := by
  intro d
  induction d with
  | zero =>
    intro k x hx hdm hq
    have c := pk.1
    have ht := c.1
    have hH := TTt ht
    have hB := c.2.2.2.1
    have hNt := hB.1
    have hNp := hB.2.1
    have hT := c.2.2.2.2.2.1
    have hC := c.2.2.2.2.2.2.1
    have h99 := c.2.2.2.2.2.2.2.1
    have G := c.2.2.2.2.2.2.2.2
    have hf0 := hT.2.2.2.1
    refine K_iload_n (dt_at dtX4_firstMany 5 rfl) rfl rfl ?_
    refine K_if_le (tgt := 37) (dt_at dtX4_firstMany 6 rfl) (by decide) (by first | assumption | exact ⟨by omega, by omega⟩) (fun c1 => ?_) (fun c1 => absurd c1 (by omega))
    refine K_iconst (dt_at dtX4_firstMany 23 rfl) ?_
    exact K_iret (dt_at dtX4_firstMany 24 rfl) rfl rfl (by decide) (by decide) hq
  | succ d ih =>
    intro k x hx hdm hq
    have c := pk.1
    have ht := c.1
    have hH := TTt ht
    have hB := c.2.2.2.1
    have hNt := hB.1
    have hNp := hB.2.1
    have hT := c.2.2.2.2.2.1
    have hC := c.2.2.2.2.2.2.1
    have h99 := c.2.2.2.2.2.2.2.1
    have G := c.2.2.2.2.2.2.2.2
    have hf0 := hT.2.2.2.1
    have ex : x = ((d + 1 : Nat) : Int) := hx
    obtain ⟨-, m2, m3⟩ := mpN_b hB hT hq0 hr.1 hr.2
    have m4 := m3 (d + 1) (by omega)
    rw [← ex] at m4
    have m5 := gF_b (n := d + 1) hB hT hq0 hr.1 hr.2 (by omega)
    have m6 := bF_b hB hT (sNt S - q) r (by omega) hr.1 hr.2
    refine K_iload_n (dt_at dtX4_firstMany 5 rfl) rfl rfl ?_
    refine K_if_le (tgt := 37) (dt_at dtX4_firstMany 6 rfl) (by decide) (by first | assumption | exact ⟨by omega, by omega⟩) (fun c1 => absurd c1 (by omega)) (fun c1 => ?_)
    refine K_aload_n (dt_at dtX4_firstMany 7 rfl) rfl rfl ?_
    refine K_iload_n (dt_at dtX4_firstMany 8 rfl) rfl rfl ?_
    refine K_iload_n (dt_at dtX4_firstMany 9 rfl) rfl rfl ?_
    refine K_iload_n (dt_at dtX4_firstMany 10 rfl) rfl rfl ?_
    refine K_callV (M' := mX4_useBy) (a := 91) (ci := 4) (As := [vi (q : Int), vi x, vi r]) (st := []) (dt_at dtX4_firstMany 11 rfl) (sX4_useBy pk hq0 hr (by omega)) (show TT 91 = (0, 4) from rfl) rfl wL_X4_37 vX4_useBy rfl npX4_useBy (by decide) (by decide) (Nat.le_of_ble_eq_true rfl) (by decide) (by decide) GK_E (fun v9 h9 hq => ?_) (fun E h9 hq => by cases hq.1)
    obtain ⟨e9, e8⟩ := hq
    cases e9
    rw [e8]
    show K mX4_firstMany _ _ 0 0 18 [(3, vi x), (0, vr 91), (1, vi (q : Int)), (2, vi r)] [vi (x * sU S (q : Int) + hA h (92 + 1 + ((q : Int) + 1).toNat) (r - x * sW S (q : Int)))] h
    rw [hG _ (by omega) (by omega), show x * sU S (q : Int) + bF S f (sNt S - (q + 1)) (r - x * sW S (q : Int)) = (gF S (bF S f (sNt S - (q + 1))) q r) (d + 1) by rw [ex]; rfl]
    refine K_aload_n (dt_at dtX4_firstMany 12 rfl) rfl rfl ?_
    refine K_get (a := 91) (ci := 4) (k := 0) (v := vr 92) (dt_at dtX4_firstMany 13 rfl) (show TT 91 = (0, 4) from rfl) rfl (by decide) wF_X4_11 rfl ?_
    refine K_iload_n (dt_at dtX4_firstMany 14 rfl) rfl rfl ?_
    refine K_aald (dt_at dtX4_firstMany 15 rfl) (show TT 92 = (5, 7) from rfl) (by omega) (by omega) ?_
    refine K_iload_n (dt_at dtX4_firstMany 16 rfl) rfl rfl ?_
    refine K_iald (dt_at dtX4_firstMany 17 rfl) (grid_7 (show TT 92 = (5, 7) from rfl) (by omega) (by omega)) (by omega) (by omega) ?_
    rw [hG2]
    refine K_icmp_ne (tgt := 31) (dt_at dtX4_firstMany 18 rfl) (by decide) (by first | assumption | exact ⟨by omega, by omega⟩) (by first | assumption | exact ⟨by omega, by omega⟩) (fun c2 => ?_) (fun c2 => ?_)
    · refine K_iinc (ls' := [(3, vi (x + (-1))), (0, vr 91), (1, vi (q : Int)), (2, vi r)]) (dt_at dtX4_firstMany 21 rfl) rfl (by decide) rfl ?_
      refine K_goto (tgt := 7) (dt_at dtX4_firstMany 22 rfl) (by decide) ?_
      exact K_pk [0, 1, 2, 3] rfl (ih k (x + (-1)) (by omega) (by omega) (by have h9 := hq; rw [show fmD (gF S (bF S f (sNt S - (q + 1))) q r) (bF S f (sNt S - q) r) (d + 1) = fmD (gF S (bF S f (sNt S - (q + 1))) q r) (bF S f (sNt S - q) r) d from if_neg (by assumption)] at h9; exact h9))
    · refine K_iload_n (dt_at dtX4_firstMany 19 rfl) rfl rfl ?_
      exact K_iret (dt_at dtX4_firstMany 20 rfl) rfl rfl (by decide) (by decide) (by have h9 := hq; rw [show fmD (gF S (bF S f (sNt S - (q + 1))) q r) (bF S f (sNt S - q) r) (d + 1) = d + 1 from if_pos (by assumption)] at h9; rw [ex]; exact h9)
set_option maxHeartbeats 4000000 in
set_option maxRecDepth 100000 in
theorem sX4_firstMany {h : HP} {t : Nat} {S : HS} {B : Int} {f : Int → Int} {q : Nat} {r : Int} (pk : PK h t S B f) (hq0 : q < sNt S) (hr : 0 ≤ r ∧ r ≤ 60) (hG : ∀ x : Int, 0 ≤ x → x ≤ r → hA h (92 + 1 + ((q : Int) + 1).toNat) x = bF S f (sNt S - (q + 1)) x) (hG2 : hA h (92 + 1 + (q : Int).toNat) r = bF S f (sNt S - q) r) : SpecK mX4_firstMany [vr 91, vi (q : Int), vi r] h (fun o h' => o = .inl (some (vi (fmQ S f q r : Int))) ∧ h' = h) := by
  refine Spec_of (by decide +kernel) (Nat.le_of_ble_eq_true rfl) ?_
  have c := pk.1
  have ht := c.1
  have hH := TTt ht
  have hB := c.2.2.2.1
  have hNt := hB.1
  have hNp := hB.2.1
  have hT := c.2.2.2.2.2.1
  have hC := c.2.2.2.2.2.2.1
  have h99 := c.2.2.2.2.2.2.2.1
  have G := c.2.2.2.2.2.2.2.2
  have hf0 := hT.2.2.2.1
  refine K_aload_n (dt_at dtX4_firstMany 0 rfl) rfl rfl ?_
  refine K_iload_n (dt_at dtX4_firstMany 1 rfl) rfl rfl ?_
  refine K_iload_n (dt_at dtX4_firstMany 2 rfl) rfl rfl ?_
  refine K_callV (M' := mX4_mostPieces) (a := 91) (ci := 4) (As := [vi (q : Int), vi r]) (st := []) (dt_at dtX4_firstMany 3 rfl) (sX4_mostPieces pk hq0 hr) (show TT 91 = (0, 4) from rfl) rfl wL_X4_34 vX4_mostPieces rfl npX4_mostPieces (by decide) (by decide) (Nat.le_of_ble_eq_true rfl) (by decide) (by decide) GK_E (fun v9 h9 hq => ?_) (fun E h9 hq => by cases hq.1)
  obtain ⟨e9, e8⟩ := hq
  cases e9
  rw [e8]
  show K mX4_firstMany _ _ 0 0 6 [(0, vr 91), (1, vi (q : Int)), (2, vi r)] [vi (mpN S f q r : Int)] h
  refine K_istore_n (ls' := [(3, vi (mpN S f q r : Int)), (0, vr 91), (1, vi (q : Int)), (2, vi r)]) (dt_at dtX4_firstMany 4 rfl) rfl (by decide) rfl ?_
  exact K_pk [0, 1, 2, 3] rfl (lp_X4_firstMany pk hq0 hr hG hG2 (mpN S f q r) 0 _ rfl (Nat.le_refl _) ⟨rfl, rfl⟩)
