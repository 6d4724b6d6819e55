def GM (h : HP) (S : HS) (f : Int → Int) (k : Nat) : Prop := ∀ j : Nat, j ≤ k → ∀ r : Int, 0 ≤ r → r ≤ 60 → hA h 22 (61 * ((sNt S - j : Nat) : Int) + r) = bF S f j r
theorem mp_max {S : HS} {B : Int} {f : Int → Int} {q : Nat} {r : Int} (hB : hsW S) (hT : rT B f) (hq : q < sNt S) (h0 : 0 ≤ r) (h1 : r ≤ 60) (hs : ((mpN S f q r + 1 : Nat) : Int) ≤ f (29 + (q : Int))) : r < ((mpN S f q r + 1 : Nat) : Int) * sW S (q : Int) := by
  have hNt := hB.1
  have hw := (hB.2.2.1 (q : Int) (by omega) (by omega)).1
  obtain ⟨m1, -⟩ := mpN_b hB hT hq h0 h1
  have e : r.tdiv (sW S (q : Int)) = (mpN S f q r : Int) := by omega
  rw [Int.tdiv_eq_ediv_of_nonneg h0] at e
  have := Int.lt_ediv_add_one_mul_self r (show 0 < sW S (q : Int) by omega)
  rw [e] at this
  rw [show ((mpN S f q r + 1 : Nat) : Int) = (mpN S f q r : Int) + 1 by omega]
  exact this
theorem mxA_g {g : Nat → Int} : ∀ n : Nat, 0 < n → (∀ k, k < n → 0 ≤ g k) → ∃ k, k < n ∧ g k = mxA g n
  | 0, h, _ => by omega
  | 1, _, h => ⟨0, by omega, by have := h 0 (by omega); show g 0 = max 0 (g 0); omega⟩
  | n + 2, _, h => by
    obtain ⟨k, k1, k2⟩ := mxA_g (g := g) (n + 1) (by omega) (fun k hk => h k (by omega))
    by_cases z : mxA g (n + 1) ≤ g (n + 1)
    · exact ⟨n + 1, by omega, by show g (n + 1) = max (mxA g (n + 1)) (g (n + 1)); omega⟩
    · exact ⟨k, by omega, by rw [k2]; show mxA g (n + 1) = max (mxA g (n + 1)) (g (n + 1)); omega⟩
theorem pr_up {u v : Int → Int} {F : Int → Int} {c y : Int} {k : Nat} (pr : ∀ x : Int, 0 ≤ x → x < (k : Int) → u (c + x) = F x) (e : v = upI u (c + (k : Int)) y) (hy : y = F (k : Int)) : ∀ x : Int, 0 ≤ x → x < ((k + 1 : Nat) : Int) → v (c + x) = F x := by
  intro x x0 x1
  rw [e]
  by_cases z : x = (k : Int)
  · rw [z, upI_s]; exact hy
  · rw [upI_n (by omega)]; exact pr x x0 (by omega)
theorem GM_next {hh : HP} {S : HS} {f : Int → Int} {q : Nat} (hq : q < sNt S) (gm : GM hh S f (sNt S - (q + 1))) (pr : ∀ x : Int, 0 ≤ x → x < 61 → hA hh 22 (61 * (q : Int) + x) = bF S f (sNt S - q) x) : GM hh S f (sNt S - q) := by
  intro j hj r r0 r1
  by_cases z : j = sNt S - q
  · rw [z, show ((sNt S - (sNt S - q) : Nat) : Int) = (q : Int) by omega]
    exact pr r r0 (by omega)
  · exact gm j (by omega) r r0 r1
theorem nj_up {P : Nat → Prop} {n M : Nat} (hj : ∀ j, n + 1 < j → j ≤ M → P j) (h : P (n + 1)) : ∀ j, n < j → j ≤ M → P j := by
  intro j j1 j2
  by_cases z : j = n + 1
  · rw [z]; exact h
  · exact hj j (by omega) j2
def mX12_useBy : MI := (yX12_useBy, cX12_useBy, 4, (some .int), rmK 1 0)
def tX12_useBy : List (Nat × Instr × Nat) := [(0, .iload_n 2, 1), (1, .aload_n 0, 1), (2, .getfield 20, 3), (5, .iload_n 1, 1), (6, .iaload, 1), (7, .imul, 1), (8, .aload_n 0, 1), (9, .getfield 84, 3), (12, .bipush 61, 2), (14, .iload_n 1, 1), (15, .iconst 1, 1), (16, .iadd, 1), (17, .imul, 1), (18, .iload_n 3, 1), (19, .iadd, 1), (20, .iload_n 2, 1), (21, .aload_n 0, 1), (22, .getfield 16, 3), (25, .iload_n 1, 1), (26, .iaload, 1), (27, .imul, 1), (28, .isub, 1), (29, .iaload, 1), (30, .iadd, 1), (31, .ireturn, 1)]
theorem dtX12_useBy : tX12_useBy.all (fun q => decide (decode cX12_useBy q.1 = .ok (q.2.1, q.2.2))) = true := by decide +kernel
theorem npX12_useBy : (parseMethodDescriptor (mY mX12_useBy).desc).map (fun d => d.parameters.length) = some 3 := by decide +kernel
theorem vX12_useBy : mV mX12_useBy := ⟨wI_X12_useBy, wS_X12_useBy, wN_X12, wC_X12_useBy, by decide +kernel, by decide +kernel⟩
set_option maxHeartbeats 4000000 in
set_option maxRecDepth 100000 in
theorem sX12_useBy {h hh : HP} {S : HS} {f g : Int → Int} {q : Nat} {x r : Int} (G : MG h hh S f g) (hq0 : q < sNt S) (hi : 0 ≤ 61 * ((q : Int) + 1) + r - x * sW S (q : Int) ∧ 61 * ((q : Int) + 1) + r - x * sW S (q : Int) < 427) : SpecK mX12_useBy [vr 0, vi (q : Int), vi x, vi r] hh (fun o h' => o = .inl (some (vi (x * sU S (q : Int) + hA hh 22 (61 * ((q : Int) + 1) + r - x * sW S (q : Int))))) ∧ h' = hh) := by
  refine Spec_of (by decide +kernel) (Nat.le_of_ble_eq_true rfl) ?_
  have hB := G.1.1.1
  have hNt := hB.1
  refine K_iload_n (dt_at dtX12_useBy 0 rfl) rfl rfl ?_
  refine K_aload_n (dt_at dtX12_useBy 1 rfl) rfl rfl ?_
  refine K_get (a := 0) (ci := 12) (k := 6) (v := vr 2) (dt_at dtX12_useBy 2 rfl) (show TT 0 = (0, 12) from rfl) rfl (by decide) wF_X12_20 rfl ?_
  refine K_iload_n (dt_at dtX12_useBy 3 rfl) rfl rfl ?_
  refine K_iald (dt_at dtX12_useBy 4 rfl) (show TT 2 = (1, 6) from rfl) (by omega) (by omega) ?_
  rw [show hA hh 2 (q : Int) = sU S (q : Int) from MD_u (MG_D0 G) (by omega)]
  refine K_imul (dt_at dtX12_useBy 5 rfl) ?_
  refine K_aload_n (dt_at dtX12_useBy 6 rfl) rfl rfl ?_
  refine K_get (a := 0) (ci := 12) (k := 50) (v := vr 22) (dt_at dtX12_useBy 7 rfl) (show TT 0 = (0, 12) from rfl) rfl (by decide) wF_X12_84 rfl ?_
  refine K_bipush (dt_at dtX12_useBy 8 rfl) (by decide) ?_
  refine K_iload_n (dt_at dtX12_useBy 9 rfl) rfl rfl ?_
  refine K_iconst (dt_at dtX12_useBy 10 rfl) ?_
  refine K_iadd (dt_at dtX12_useBy 11 rfl) ?_
  refine K_imul (dt_at dtX12_useBy 12 rfl) ?_
  refine K_iload_n (dt_at dtX12_useBy 13 rfl) rfl rfl ?_
  refine K_iadd (dt_at dtX12_useBy 14 rfl) ?_
  refine K_iload_n (dt_at dtX12_useBy 15 rfl) rfl rfl ?_
  refine K_aload_n (dt_at dtX12_useBy 16 rfl) rfl rfl ?_
  refine K_get (a := 0) (ci := 12) (k := 5) (v := vr 1) (dt_at dtX12_useBy 17 rfl) (show TT 0 = (0, 12) from rfl) rfl (by decide) wF_X12_16 rfl ?_
  refine K_iload_n (dt_at dtX12_useBy 18 rfl) rfl rfl ?_
  refine K_iald (dt_at dtX12_useBy 19 rfl) (show TT 1 = (1, 6) from rfl) (by omega) (by omega) ?_
  rw [show hA hh 1 (q : Int) = sW S (q : Int) from MD_w (MG_D0 G) (by omega)]
  refine K_imul (dt_at dtX12_useBy 20 rfl) ?_
  refine K_isub (dt_at dtX12_useBy 21 rfl) ?_
  refine K_iald (dt_at dtX12_useBy 22 rfl) (show TT 22 = (1, 427) from rfl) (by omega) (by omega) ?_
  refine K_iadd (dt_at dtX12_useBy 23 rfl) ?_
  exact K_iret (dt_at dtX12_useBy 24 rfl) rfl rfl (by decide) (by decide) ⟨rfl, rfl⟩
def mX12_laysBest : MI := (yX12_laysBest, cX12_laysBest, 5, none, rmK 2 0)
def tX12_laysBest : List (Nat × Instr × Nat) := [(0, .iconst 0, 1), (1, .istore_n 1, 1), (2, .iload_n 1, 1), (3, .bipush 60, 2), (5, .if_icmp .gt 24, 3), (8, .aload_n 0, 1), (9, .getfield 84, 3), (12, .bipush 61, 2), (14, .aload_n 0, 1), (15, .getfield 267, 3), (18, .imul, 1), (19, .iload_n 1, 1), (20, .iadd, 1), (21, .iconst 0, 1), (22, .iastore, 1), (23, .iinc 1 1, 3), (26, .goto (-24), 3), (29, .aload_n 0, 1), (30, .getfield 267, 3), (33, .iconst 1, 1), (34, .isub, 1), (35, .istore_n 1, 1), (36, .iload_n 1, 1), (37, .ifCond .lt 86, 3), (40, .iconst 0, 1), (41, .istore_n 2, 1), (42, .iload_n 2, 1), (43, .bipush 60, 2), (45, .if_icmp .gt 72, 3), (48, .iconst 0, 1), (49, .istore_n 3, 1), (50, .iconst 0, 1), (51, .istore 4, 2), (53, .iload 4, 2), (55, .aload_n 0, 1), (56, .getfield 72, 3), (59, .bipush 57, 2), (61, .iload_n 1, 1), (62, .iadd, 1), (63, .iaload, 1), (64, .if_icmp .gt 35, 3), (67, .iload 4, 2), (69, .aload_n 0, 1), (70, .getfield 16, 3), (73, .iload_n 1, 1), (74, .iaload, 1), (75, .imul, 1), (76, .iload_n 2, 1), (77, .if_icmp .gt 22, 3), (80, .iload_n 3, 1), (81, .aload_n 0, 1), (82, .iload_n 1, 1), (83, .iload 4, 2), (85, .iload_n 2, 1), (86, .invokevirtual 423, 3), (89, .invokestatic 420, 3), (92, .istore_n 3, 1), (93, .iinc 4 1, 3), (96, .goto (-43), 3), (99, .aload_n 0, 1), (100, .getfield 84, 3), (103, .bipush 61, 2), (105, .iload_n 1, 1), (106, .imul, 1), (107, .iload_n 2, 1), (108, .iadd, 1), (109, .iload_n 3, 1), (110, .iastore, 1), (111, .iinc 2 1, 3), (114, .goto (-72), 3), (117, .iinc 1 (-1), 3), (120, .goto (-84), 3), (123, .return_, 1)]
theorem dtX12_laysBest : tX12_laysBest.all (fun q => decide (decode cX12_laysBest q.1 = .ok (q.2.1, q.2.2))) = true := by decide +kernel
theorem npX12_laysBest : (parseMethodDescriptor (mY mX12_laysBest).desc).map (fun d => d.parameters.length) = some 0 := by decide +kernel
theorem vX12_laysBest : mV mX12_laysBest := ⟨wI_X12_laysBest, wS_X12_laysBest, wN_X12, wC_X12_laysBest, by decide +kernel, by decide +kernel⟩
set_option maxHeartbeats 4000000 in
set_option maxRecDepth 100000 in
theorem ld_X12_laysBest {Z : CT → State → Prop} {h hh : HP} {S : HS} {f g : Int → Int} {q : Nat} {r : Int} (Q0 : MAsk h S f) (G : MG h hh S f g) (hq0 : q < sNt S) (hr : 0 ≤ r ∧ r ≤ 60) (hG : ∀ x : Int, 0 ≤ x → x ≤ r → hA hh 22 (61 * ((q : Int) + 1) + x) = bF S f (sNt S - (q + 1)) x) (kx : K mX12_laysBest GK Z 0 0 99 [(3, vi (mxA (gF S (bF S f (sNt S - (q + 1))) q r) (mpN S f q r + 1))), (2, vi r), (1, vi (q : Int)), (0, vr 0)] [] hh) : ∀ (dd k : Nat), k + dd = mpN S f q r + 1 → K mX12_laysBest GK Z 0 0 53 [(4, vi (k : Int)), (3, vi (mxA (gF S (bF S f (sNt S - (q + 1))) q r) k)), (2, vi r), (1, vi (q : Int)), (0, vr 0)] [] hh := by
  intro dd
  induction dd with
  | zero =>
    intro k hk
    have hB := Q0.1.1
    have hNt := hB.1
    have hNp := hB.2.1
    have R := Q0.2.2.2.2
    have hT := R.1
    have hW := hT.1
    have hw := hB.2.2.1 (q : Int) (by omega) (by omega)
    have hs := hT.1.1 (29 + (q : Int)) (by omega) (by omega)
    obtain ⟨m1, m2, m3⟩ := mpN_b hB hT hq0 hr.1 hr.2
    have ek : k = mpN S f q r + 1 := by omega
    have mm := mp_max hB hT hq0 hr.1 hr.2
    rw [← ek] at mm kx
    have nl : (k : Int) * sW S (q : Int) ≤ 1220 := by have h1 : (k : Int) * sW S (q : Int) ≤ 61 * sW S (q : Int) := Int.mul_le_mul_of_nonneg_right (by omega) (by omega); omega
    have n0 : 0 ≤ (k : Int) * sW S (q : Int) := Int.mul_nonneg (by omega) (by omega)
    refine K_iload (dt_at dtX12_laysBest 33 rfl) rfl ?_
    refine K_aload_n (dt_at dtX12_laysBest 34 rfl) rfl rfl ?_
    refine K_get (a := 0) (ci := 12) (k := 42) (v := vr 18) (dt_at dtX12_laysBest 35 rfl) (show TT 0 = (0, 12) from rfl) rfl (by decide) wF_X12_72 rfl ?_
    refine K_bipush (dt_at dtX12_laysBest 36 rfl) (by decide) ?_
    refine K_iload_n (dt_at dtX12_laysBest 37 rfl) rfl rfl ?_
    refine K_iadd (dt_at dtX12_laysBest 38 rfl) ?_
    refine K_iald (dt_at dtX12_laysBest 39 rfl) (show TT 18 = (1, 154) from rfl) (by omega) (by omega) ?_
    rw [show hA hh 18 (57 + (q : Int)) = (f (29 + (q : Int))) from RV_s (MG_D0 G).2.2.2 (p := (q : Int)) (by omega) (by omega)]
    refine K_icmp_gt (tgt := 99) (dt_at dtX12_laysBest 40 rfl) (by decide) (by first | assumption | exact ⟨by omega, by omega⟩) (by first | assumption | exact ⟨by omega, by omega⟩) (fun c1 => ?_) (fun c1 => ?_)
    · exact K_pk [1, 2, 3, 4] rfl kx
    · refine K_iload (dt_at dtX12_laysBest 41 rfl) rfl ?_
      refine K_aload_n (dt_at dtX12_laysBest 42 rfl) rfl rfl ?_
      refine K_get (a := 0) (ci := 12) (k := 5) (v := vr 1) (dt_at dtX12_laysBest 43 rfl) (show TT 0 = (0, 12) from rfl) rfl (by decide) wF_X12_16 rfl ?_
      refine K_iload_n (dt_at dtX12_laysBest 44 rfl) rfl rfl ?_
      refine K_iald (dt_at dtX12_laysBest 45 rfl) (show TT 1 = (1, 6) from rfl) (by omega) (by omega) ?_
      rw [show hA hh 1 (q : Int) = sW S (q : Int) from MD_w (MG_D0 G) (by omega)]
      refine K_imul (dt_at dtX12_laysBest 46 rfl) ?_
      refine K_iload_n (dt_at dtX12_laysBest 47 rfl) rfl rfl ?_
      refine K_icmp_gt (tgt := 99) (dt_at dtX12_laysBest 48 rfl) (by decide) (by first | assumption | exact ⟨by omega, by omega⟩) (by first | assumption | exact ⟨by omega, by omega⟩) (fun c2 => ?_) (fun c2 => ?_)
      · exact K_pk [1, 2, 3, 4] rfl kx
      · exact (by have := mm (by omega); omega : False).elim
  | succ dd ih =>
    intro k hk
    have hB := Q0.1.1
    have hNt := hB.1
    have hNp := hB.2.1
    have R := Q0.2.2.2.2
    have hT := R.1
    have hW := hT.1
    have hw := hB.2.2.1 (q : Int) (by omega) (by omega)
    have hs := hT.1.1 (29 + (q : Int)) (by omega) (by omega)
    obtain ⟨m1, m2, m3⟩ := mpN_b hB hT hq0 hr.1 hr.2
    have m4 := m3 k (by omega)
    have m5 := gF_b (n := k) hB hT hq0 hr.1 hr.2 (by omega)
    have m6 := mxA_b (g := (gF S (bF S f (sNt S - (q + 1))) q r)) (M := 4000) (by omega) k (fun j hj => (gF_b hB hT hq0 hr.1 hr.2 (by omega)).2)
    refine K_iload (dt_at dtX12_laysBest 33 rfl) rfl ?_
    refine K_aload_n (dt_at dtX12_laysBest 34 rfl) rfl rfl ?_
    refine K_get (a := 0) (ci := 12) (k := 42) (v := vr 18) (dt_at dtX12_laysBest 35 rfl) (show TT 0 = (0, 12) from rfl) rfl (by decide) wF_X12_72 rfl ?_
    refine K_bipush (dt_at dtX12_laysBest 36 rfl) (by decide) ?_
    refine K_iload_n (dt_at dtX12_laysBest 37 rfl) rfl rfl ?_
    refine K_iadd (dt_at dtX12_laysBest 38 rfl) ?_
    refine K_iald (dt_at dtX12_laysBest 39 rfl) (show TT 18 = (1, 154) from rfl) (by omega) (by omega) ?_
    rw [show hA hh 18 (57 + (q : Int)) = (f (29 + (q : Int))) from RV_s (MG_D0 G).2.2.2 (p := (q : Int)) (by omega) (by omega)]
    refine K_icmp_gt (tgt := 99) (dt_at dtX12_laysBest 40 rfl) (by decide) (by first | assumption | exact ⟨by omega, by omega⟩) (by first | assumption | exact ⟨by omega, by omega⟩) (fun c1 => absurd c1 (by omega)) (fun c1 => ?_)
    refine K_iload (dt_at dtX12_laysBest 41 rfl) rfl ?_
    refine K_aload_n (dt_at dtX12_laysBest 42 rfl) rfl rfl ?_
    refine K_get (a := 0) (ci := 12) (k := 5) (v := vr 1) (dt_at dtX12_laysBest 43 rfl) (show TT 0 = (0, 12) from rfl) rfl (by decide) wF_X12_16 rfl ?_
    refine K_iload_n (dt_at dtX12_laysBest 44 rfl) rfl rfl ?_
    refine K_iald (dt_at dtX12_laysBest 45 rfl) (show TT 1 = (1, 6) from rfl) (by omega) (by omega) ?_
    rw [show hA hh 1 (q : Int) = sW S (q : Int) from MD_w (MG_D0 G) (by omega)]
    refine K_imul (dt_at dtX12_laysBest 46 rfl) ?_
    refine K_iload_n (dt_at dtX12_laysBest 47 rfl) rfl rfl ?_
    refine K_icmp_gt (tgt := 99) (dt_at dtX12_laysBest 48 rfl) (by decide) (by first | assumption | exact ⟨by omega, by omega⟩) (by first | assumption | exact ⟨by omega, by omega⟩) (fun c2 => absurd c2 (by omega)) (fun c2 => ?_)
    refine K_iload_n (dt_at dtX12_laysBest 49 rfl) rfl rfl ?_
    refine K_aload_n (dt_at dtX12_laysBest 50 rfl) rfl rfl ?_
    refine K_iload_n (dt_at dtX12_laysBest 51 rfl) rfl rfl ?_
    refine K_iload (dt_at dtX12_laysBest 52 rfl) rfl ?_
    refine K_iload_n (dt_at dtX12_laysBest 53 rfl) rfl rfl ?_
    refine K_callV (M' := mX12_useBy) (a := 0) (ci := 12) (As := [vi (q : Int), vi (k : Int), vi r]) (st := [vi (mxA (gF S (bF S f (sNt S - (q + 1))) q r) k)]) (dt_at dtX12_laysBest 54 rfl) (sX12_useBy G hq0 (by omega)) (show TT 0 = (0, 12) from rfl) rfl wL_X12_423 vX12_useBy rfl npX12_useBy (by decide) (by decide) (Nat.le_of_ble_eq_true rfl) (by decide) (by decide) GK_E (fun v9 h9 hq => ?_) (fun E h9 hq => by cases hq.1)
    obtain ⟨e9, e8⟩ := hq
    cases e9
    rw [e8]
    show K mX12_laysBest _ _ 0 0 89 [(4, vi (k : Int)), (3, vi (mxA (gF S (bF S f (sNt S - (q + 1))) q r) k)), (2, vi r), (1, vi (q : Int)), (0, vr 0)] [vi ((k : Int) * sU S (q : Int) + hA hh 22 (61 * ((q : Int) + 1) + r - (k : Int) * sW S (q : Int))), vi (mxA (gF S (bF S f (sNt S - (q + 1))) q r) k)] hh
    rw [show 61 * ((q : Int) + 1) + r - (k : Int) * sW S (q : Int) = 61 * ((q : Int) + 1) + (r - (k : Int) * sW S (q : Int)) by omega, hG _ (by omega) (by omega)]
    rw [show (k : Int) * sU S (q : Int) + bF S f (sNt S - (q + 1)) (r - (k : Int) * sW S (q : Int)) = (gF S (bF S f (sNt S - (q + 1))) q r) k from rfl]
    refine K_callS (M' := mX12_greater) (As := [vi (mxA (gF S (bF S f (sNt S - (q + 1))) q r) k), vi ((gF S (bF S f (sNt S - (q + 1))) q r) k)]) (st := []) (dt_at dtX12_laysBest 55 rfl) (sX12_greater ⟨by omega, by omega⟩ ⟨by omega, by omega⟩) wL_X12_420 vX12_greater rfl npX12_greater (by decide) (by decide) (Nat.le_of_ble_eq_true rfl) (by decide) (by decide) GK_E (fun v9 h9 hq => ?_) (fun E h9 hq => by cases hq.1)
    obtain ⟨e9, e8⟩ := hq
    cases e9
    rw [e8]
    show K mX12_laysBest _ _ 0 0 92 [(4, vi (k : Int)), (3, vi (mxA (gF S (bF S f (sNt S - (q + 1))) q r) k)), (2, vi r), (1, vi (q : Int)), (0, vr 0)] [vi (max (mxA (gF S (bF S f (sNt S - (q + 1))) q r) k) ((gF S (bF S f (sNt S - (q + 1))) q r) k))] hh
    refine K_istore_n (ls' := [(3, vi (max (mxA (gF S (bF S f (sNt S - (q + 1))) q r) k) ((gF S (bF S f (sNt S - (q + 1))) q r) k))), (4, vi (k : Int)), (2, vi r), (1, vi (q : Int)), (0, vr 0)]) (dt_at dtX12_laysBest 56 rfl) rfl (by decide) rfl ?_
    refine K_iinc (ls' := [(4, vi ((k : Int) + 1)), (3, vi (max (mxA (gF S (bF S f (sNt S - (q + 1))) q r) k) ((gF S (bF S f (sNt S - (q + 1))) q r) k))), (2, vi r), (1, vi (q : Int)), (0, vr 0)]) (dt_at dtX12_laysBest 57 rfl) rfl (by decide) rfl ?_
    refine K_goto (tgt := 53) (dt_at dtX12_laysBest 58 rfl) (by decide) ?_
    refine K_pk [0, 1, 2, 3, 4] (ls' := [(4, vi ((k : Int) + 1)), (3, vi (max (mxA (gF S (bF S f (sNt S - (q + 1))) q r) k) ((gF S (bF S f (sNt S - (q + 1))) q r) k))), (2, vi r), (1, vi (q : Int)), (0, vr 0)]) rfl ?_
    exact K_cg (ls' := [(4, vi ((k + 1 : Nat) : Int)), (3, vi (mxA (gF S (bF S f (sNt S - (q + 1))) q r) (k + 1))), (2, vi r), (1, vi (q : Int)), (0, vr 0)]) (h' := hh) (by rfl) (by rfl) (ih (k + 1) (by omega))
set_option maxHeartbeats 4000000 in
set_option maxRecDepth 100000 in
theorem lc_X12_laysBest {Z : CT → State → Prop} {h : HP} {S : HS} {f : Int → Int} {q : Nat} (Q0 : MAsk h S f) (hq0 : q < sNt S) (kx : ∀ h2, (∃ g, MG h h2 S f g) → GM h2 S f (sNt S - q) → K mX12_laysBest GK Z 0 0 117 [(1, vi (q : Int)), (0, vr 0)] [] h2) : ∀ (dd k : Nat) (hh : HP), k + dd = 61 → (∃ g, MG h hh S f g) → GM hh S f (sNt S - (q + 1)) → (∀ x : Int, 0 ≤ x → x < (k : Int) → hA hh 22 (61 * (q : Int) + x) = bF S f (sNt S - q) x) → K mX12_laysBest GK Z 0 0 42 [(2, vi (k : Int)), (1, vi (q : Int)), (0, vr 0)] [] hh := by
  intro dd
  induction dd with
  | zero =>
    intro k hh hk ge gm pr
    have hB := Q0.1.1
    have hNt := hB.1
    have hNp := hB.2.1
    have R := Q0.2.2.2.2
    have hT := R.1
    have hW := hT.1
    obtain ⟨g, G⟩ := ge
    have eq1 : ((sNt S - (sNt S - (q + 1)) : Nat) : Int) = (q : Int) + 1 := by omega
    have hGr : ∀ x : Int, 0 ≤ x → x ≤ 60 → hA hh 22 (61 * ((q : Int) + 1) + x) = bF S f (sNt S - (q + 1)) x := fun x x0 x1 => by have := gm (sNt S - (q + 1)) (Nat.le_refl _) x x0 x1; rw [eq1] at this; exact this
    refine K_iload_n (dt_at dtX12_laysBest 26 rfl) rfl rfl ?_
    refine K_bipush (dt_at dtX12_laysBest 27 rfl) (by decide) ?_
    refine K_icmp_gt (tgt := 117) (dt_at dtX12_laysBest 28 rfl) (by decide) (by first | assumption | exact ⟨by omega, by omega⟩) (by first | assumption | exact ⟨by omega, by omega⟩) (fun c1 => ?_) (fun c1 => absurd c1 (by omega))
    exact K_pk [1, 2] rfl (kx hh ⟨g, G⟩ (GM_next hq0 gm (fun x x0 x1 => pr x x0 (by omega))))
  | succ dd ih =>
    intro k hh hk ge gm pr
    have hB := Q0.1.1
    have hNt := hB.1
    have hNp := hB.2.1
    have R := Q0.2.2.2.2
    have hT := R.1
    have hW := hT.1
    obtain ⟨g, G⟩ := ge
    have eq1 : ((sNt S - (sNt S - (q + 1)) : Nat) : Int) = (q : Int) + 1 := by omega
    have hGr : ∀ x : Int, 0 ≤ x → x ≤ 60 → hA hh 22 (61 * ((q : Int) + 1) + x) = bF S f (sNt S - (q + 1)) x := fun x x0 x1 => by have := gm (sNt S - (q + 1)) (Nat.le_refl _) x x0 x1; rw [eq1] at this; exact this
    have hGr : ∀ x : Int, 0 ≤ x → x ≤ (k : Int) → hA hh 22 (61 * ((q : Int) + 1) + x) = bF S f (sNt S - (q + 1)) x := fun x x0 x1 => hGr x x0 (by omega)
    refine K_iload_n (dt_at dtX12_laysBest 26 rfl) rfl rfl ?_
    refine K_bipush (dt_at dtX12_laysBest 27 rfl) (by decide) ?_
    refine K_icmp_gt (tgt := 117) (dt_at dtX12_laysBest 28 rfl) (by decide) (by first | assumption | exact ⟨by omega, by omega⟩) (by first | assumption | exact ⟨by omega, by omega⟩) (fun c1 => absurd c1 (by omega)) (fun c1 => ?_)
    refine K_iconst (dt_at dtX12_laysBest 29 rfl) ?_
    refine K_istore_n (ls' := [(3, vi 0), (2, vi (k : Int)), (1, vi (q : Int)), (0, vr 0)]) (dt_at dtX12_laysBest 30 rfl) rfl (by decide) rfl ?_
    refine K_iconst (dt_at dtX12_laysBest 31 rfl) ?_
    refine K_istore (ls' := [(4, vi 0), (3, vi 0), (2, vi (k : Int)), (1, vi (q : Int)), (0, vr 0)]) (dt_at dtX12_laysBest 32 rfl) (by decide) rfl ?_
    refine K_pk [0, 1, 2, 3, 4] rfl (ld_X12_laysBest Q0 G hq0 (r := (k : Int)) (by omega) hGr ?_ (mpN S f q (k : Int) + 1) 0 (by omega))
    refine K_aload_n (dt_at dtX12_laysBest 59 rfl) rfl rfl ?_
    refine K_get (a := 0) (ci := 12) (k := 50) (v := vr 22) (dt_at dtX12_laysBest 60 rfl) (show TT 0 = (0, 12) from rfl) rfl (by decide) wF_X12_84 rfl ?_
    refine K_bipush (dt_at dtX12_laysBest 61 rfl) (by decide) ?_
    refine K_iload_n (dt_at dtX12_laysBest 62 rfl) rfl rfl ?_
    refine K_imul (dt_at dtX12_laysBest 63 rfl) ?_
    refine K_iload_n (dt_at dtX12_laysBest 64 rfl) rfl rfl ?_
    refine K_iadd (dt_at dtX12_laysBest 65 rfl) ?_
    refine K_iload_n (dt_at dtX12_laysBest 66 rfl) rfl rfl ?_
    refine K_iast (dt_at dtX12_laysBest 67 rfl) (show TT 22 = (1, 427) from rfl) (by omega) (by omega) ?_
    obtain ⟨hu1, eu1⟩ : ∃ z, z = sA hh 22 ((61 * (q : Int)) + (k : Int)) (mxA (gF S (bF S f (sNt S - (q + 1))) q (k : Int)) (mpN S f q (k : Int) + 1)) := ⟨_, rfl⟩
    rw [← eu1]
    obtain ⟨au1, fu1, iu1, ru1⟩ := sA_fx eu1
    have Gu1 : MG h hu1 S f g := MG_A G eu1 (by omega)
    refine K_iinc (ls' := [(2, vi ((k : Int) + 1)), (3, vi (mxA (gF S (bF S f (sNt S - (q + 1))) q (k : Int)) (mpN S f q (k : Int) + 1))), (1, vi (q : Int)), (0, vr 0)]) (dt_at dtX12_laysBest 68 rfl) rfl (by decide) rfl ?_
    refine K_goto (tgt := 42) (dt_at dtX12_laysBest 69 rfl) (by decide) ?_
    exact K_pk [0, 2, 3] rfl (ih (k + 1) hu1 (by omega) ⟨g, Gu1⟩ (fun j hj r r0 r1 => by rw [au1, upI_n (by omega)]; exact gm j hj r r0 r1) (pr_up (F := bF S f (sNt S - q)) pr au1 (bF_at hq0 (k : Int)).symm))
set_option maxHeartbeats 4000000 in
set_option maxRecDepth 100000 in
theorem lb_X12_laysBest {Q : AO → HP → Prop} {h : HP} {S : HS} {f : Int → Int} (Q0 : MAsk h S f) (hQ : ∀ h2, (∃ g, MG h h2 S f g) → GM h2 S f (sNt S) → Q (.inl none) h2) : ∀ (dd k : Nat) (x : Int) (hh : HP), k + dd = sNt S → x = (sNt S : Int) - (k : Int) - 1 → (∃ g, MG h hh S f g) → GM hh S f k → K mX12_laysBest GK (ZK Q 0 0) 0 0 36 [(1, vi x), (0, vr 0)] [] hh := by
  intro dd
  induction dd with
  | zero =>
    intro k x hh hk ex ge gm
    have hB := Q0.1.1
    have hNt := hB.1
    have hNp := hB.2.1
    have R := Q0.2.2.2.2
    have hT := R.1
    have hW := hT.1
    have ek : k = sNt S := by omega
    refine K_iload_n (dt_at dtX12_laysBest 22 rfl) rfl rfl ?_
    refine K_if_lt (tgt := 123) (dt_at dtX12_laysBest 23 rfl) (by decide) (by first | assumption | exact ⟨by omega, by omega⟩) (fun c1 => ?_) (fun c1 => absurd c1 (by omega))
    exact K_vret (dt_at dtX12_laysBest 72 rfl) rfl (by decide) (by decide) (hQ hh ge (by rw [ek] at gm; exact gm))
  | succ dd ih =>
    intro k x hh hk ex ge gm
    have hB := Q0.1.1
    have hNt := hB.1
    have hNp := hB.2.1
    have R := Q0.2.2.2.2
    have hT := R.1
    have hW := hT.1
    refine K_iload_n (dt_at dtX12_laysBest 22 rfl) rfl rfl ?_
    refine K_if_lt (tgt := 123) (dt_at dtX12_laysBest 23 rfl) (by decide) (by first | assumption | exact ⟨by omega, by omega⟩) (fun c1 => absurd c1 (by omega)) (fun c1 => ?_)
    refine K_iconst (dt_at dtX12_laysBest 24 rfl) ?_
    refine K_istore_n (ls' := [(2, vi 0), (1, vi x), (0, vr 0)]) (dt_at dtX12_laysBest 25 rfl) rfl (by decide) rfl ?_
    refine K_pk [0, 1, 2] (ls' := [(2, vi 0), (1, vi x), (0, vr 0)]) rfl (K_cg (ls' := [(2, vi ((0 : Nat) : Int)), (1, vi ((sNt S - (k + 1) : Nat) : Int)), (0, vr 0)]) (h' := hh) (by rw [show x = ((sNt S - (k + 1) : Nat) : Int) by omega]; rfl) rfl (lc_X12_laysBest (q := sNt S - (k + 1)) Q0 (by omega) (fun h2 g2 gm2 => ?_) 61 0 hh (by omega) ge (by rw [show sNt S - (sNt S - (k + 1) + 1) = k by omega]; exact gm) (fun x x0 x1 => by omega)))
    refine K_iinc (ls' := [(1, vi (((sNt S - (k + 1) : Nat) : Int) + (-1))), (0, vr 0)]) (dt_at dtX12_laysBest 70 rfl) rfl (by decide) rfl ?_
    refine K_goto (tgt := 36) (dt_at dtX12_laysBest 71 rfl) (by decide) ?_
    exact K_pk [0, 1] rfl (ih (k + 1) (((sNt S - (k + 1) : Nat) : Int) + (-1)) h2 (by omega) (by omega) g2 (by rw [show sNt S - (sNt S - (k + 1)) = k + 1 by omega] at gm2; exact gm2))
set_option maxHeartbeats 4000000 in
set_option maxRecDepth 100000 in
theorem la_X12_laysBest {Q : AO → HP → Prop} {h : HP} {S : HS} {f : Int → Int} (Q0 : MAsk h S f) (hQ : ∀ h2, (∃ g, MG h h2 S f g) → GM h2 S f (sNt S) → Q (.inl none) h2) : ∀ (dd k : Nat) (hh : HP), k + dd = 61 → (∃ g, MG h hh S f g) → (∀ x : Int, 0 ≤ x → x < (k : Int) → hA hh 22 (61 * (sNt S : Int) + x) = 0) → K mX12_laysBest GK (ZK Q 0 0) 0 0 2 [(1, vi (k : Int)), (0, vr 0)] [] hh := by
  intro dd
  induction dd with
  | zero =>
    intro k hh hk ge pr
    have hB := Q0.1.1
    have hNt := hB.1
    have hNp := hB.2.1
    have R := Q0.2.2.2.2
    have hT := R.1
    have hW := hT.1
    obtain ⟨g, G⟩ := ge
    refine K_iload_n (dt_at dtX12_laysBest 2 rfl) rfl rfl ?_
    refine K_bipush (dt_at dtX12_laysBest 3 rfl) (by decide) ?_
    refine K_icmp_gt (tgt := 29) (dt_at dtX12_laysBest 4 rfl) (by decide) (by first | assumption | exact ⟨by omega, by omega⟩) (by first | assumption | exact ⟨by omega, by omega⟩) (fun c1 => ?_) (fun c1 => absurd c1 (by omega))
    refine K_aload_n (dt_at dtX12_laysBest 17 rfl) rfl rfl ?_
    refine K_get (a := 0) (ci := 12) (k := 1) (v := vi (sNt S : Int)) (dt_at dtX12_laysBest 18 rfl) (show TT 0 = (0, 12) from rfl) rfl (by decide) wF_X12_267 (by show vi (hI hh 0 1) = vi (sNt S : Int); rw [(MD_nt (MG_D0 G))]) ?_
    refine K_iconst (dt_at dtX12_laysBest 19 rfl) ?_
    refine K_isub (dt_at dtX12_laysBest 20 rfl) ?_
    refine K_istore_n (ls' := [(1, vi ((sNt S : Int) - 1)), (0, vr 0)]) (dt_at dtX12_laysBest 21 rfl) rfl (by decide) rfl ?_
    exact K_pk [0, 1] rfl (lb_X12_laysBest Q0 hQ (sNt S) 0 ((sNt S : Int) - 1) hh (by omega) (by omega) ⟨g, G⟩ (fun j hj r r0 r1 => by rw [show j = 0 by omega]; exact pr r r0 (by omega)))
  | succ dd ih =>
    intro k hh hk ge pr
    have hB := Q0.1.1
    have hNt := hB.1
    have hNp := hB.2.1
    have R := Q0.2.2.2.2
    have hT := R.1
    have hW := hT.1
    obtain ⟨g, G⟩ := ge
    refine K_iload_n (dt_at dtX12_laysBest 2 rfl) rfl rfl ?_
    refine K_bipush (dt_at dtX12_laysBest 3 rfl) (by decide) ?_
    refine K_icmp_gt (tgt := 29) (dt_at dtX12_laysBest 4 rfl) (by decide) (by first | assumption | exact ⟨by omega, by omega⟩) (by first | assumption | exact ⟨by omega, by omega⟩) (fun c1 => absurd c1 (by omega)) (fun c1 => ?_)
    refine K_aload_n (dt_at dtX12_laysBest 5 rfl) rfl rfl ?_
    refine K_get (a := 0) (ci := 12) (k := 50) (v := vr 22) (dt_at dtX12_laysBest 6 rfl) (show TT 0 = (0, 12) from rfl) rfl (by decide) wF_X12_84 rfl ?_
    refine K_bipush (dt_at dtX12_laysBest 7 rfl) (by decide) ?_
    refine K_aload_n (dt_at dtX12_laysBest 8 rfl) rfl rfl ?_
    refine K_get (a := 0) (ci := 12) (k := 1) (v := vi (sNt S : Int)) (dt_at dtX12_laysBest 9 rfl) (show TT 0 = (0, 12) from rfl) rfl (by decide) wF_X12_267 (by show vi (hI hh 0 1) = vi (sNt S : Int); rw [(MD_nt (MG_D0 G))]) ?_
    refine K_imul (dt_at dtX12_laysBest 10 rfl) ?_
    refine K_iload_n (dt_at dtX12_laysBest 11 rfl) rfl rfl ?_
    refine K_iadd (dt_at dtX12_laysBest 12 rfl) ?_
    refine K_iconst (dt_at dtX12_laysBest 13 rfl) ?_
    refine K_iast (dt_at dtX12_laysBest 14 rfl) (show TT 22 = (1, 427) from rfl) (by omega) (by omega) ?_
    obtain ⟨hu1, eu1⟩ : ∃ z, z = sA hh 22 ((61 * (sNt S : Int)) + (k : Int)) 0 := ⟨_, rfl⟩
    rw [← eu1]
    obtain ⟨au1, fu1, iu1, ru1⟩ := sA_fx eu1
    have Gu1 : MG h hu1 S f g := MG_A G eu1 (by omega)
    refine K_iinc (ls' := [(1, vi ((k : Int) + 1)), (0, vr 0)]) (dt_at dtX12_laysBest 15 rfl) rfl (by decide) rfl ?_
    refine K_goto (tgt := 2) (dt_at dtX12_laysBest 16 rfl) (by decide) ?_
    exact K_pk [0, 1] rfl (ih (k + 1) hu1 (by omega) ⟨g, Gu1⟩ (pr_up (F := fun _ => 0) pr au1 rfl))
set_option maxHeartbeats 4000000 in
set_option maxRecDepth 100000 in
theorem sX12_laysBest {h hh : HP} {S : HS} {f g : Int → Int} (Q0 : MAsk h S f) (G : MG h hh S f g) : SpecK mX12_laysBest [vr 0] hh (fun o h' => o = .inl none ∧ (∃ g, MG h h' S f g) ∧ GM h' S f (sNt S)) := by
  refine Spec_of (by decide +kernel) (Nat.le_of_ble_eq_true rfl) ?_
  refine K_iconst (dt_at dtX12_laysBest 0 rfl) ?_
  refine K_istore_n (ls' := [(1, vi 0), (0, vr 0)]) (dt_at dtX12_laysBest 1 rfl) rfl (by decide) rfl ?_
  exact K_pk [0, 1] rfl (la_X12_laysBest Q0 (fun h2 g2 gm => ⟨rfl, g2, gm⟩) 61 0 hh (by omega) ⟨g, G⟩ (fun x x0 x1 => by omega))
def mX12_best : MI := (yX12_best, cX12_best, 6, (some .int), rmK 3 0)
def tX12_best : List (Nat × Instr × Nat) := [(0, .aload_n 0, 1), (1, .iconst 0, 1), (2, .putfield 105, 3), (5, .aload_n 0, 1), (6, .iload_n 1, 1), (7, .invokevirtual 375, 3), (10, .ifCond .eq 29, 3), (13, .aload_n 0, 1), (14, .iload_n 2, 1), (15, .iconst (-1), 1), (16, .if_icmp .lt 15, 3), (19, .iload_n 2, 1), (20, .aload_n 0, 1), (21, .getfield 267, 3), (24, .if_icmp .ge 7, 3), (27, .iconst 1, 1), (28, .goto 4, 3), (31, .iconst 0, 1), (32, .iconst 1, 1), (33, .invokevirtual 260, 3), (36, .ifCond .ne 5, 3), (39, .iconst 0, 1), (40, .ireturn, 1), (41, .aload_n 0, 1), (42, .invokevirtual 426, 3), (45, .aload_n 0, 1), (46, .getfield 23, 3), (49, .aload_n 0, 1), (50, .getfield 72, 3), (53, .bipush 8, 2), (55, .iload_n 1, 1), (56, .iadd, 1), (57, .iaload, 1), (58, .iaload, 1), (59, .istore_n 3, 1), (60, .iload_n 2, 1), (61, .iconst (-1), 1), (62, .if_icmp .ne 10, 3), (65, .aload_n 0, 1), (66, .getfield 84, 3), (69, .iload_n 3, 1), (70, .iaload, 1), (71, .ireturn, 1), (72, .iconst 0, 1), (73, .istore 4, 2), (75, .iconst 0, 1), (76, .istore 5, 2), (78, .iload 5, 2), (80, .iload_n 2, 1), (81, .if_icmp .gt 76, 3), (84, .aload_n 0, 1), (85, .getfield 72, 3), (88, .bipush 57, 2), (90, .iload 5, 2), (92, .iadd, 1), (93, .iaload, 1), (94, .iload_n 3, 1), (95, .aload_n 0, 1), (96, .getfield 16, 3), (99, .iload 5, 2), (101, .iaload, 1), (102, .idiv, 1), (103, .invokestatic 307, 3), (106, .istore 4, 2), (108, .aload_n 0, 1), (109, .iload 5, 2), (111, .iload 4, 2), (113, .iload_n 3, 1), (114, .invokevirtual 423, 3), (117, .aload_n 0, 1), (118, .getfield 84, 3), (121, .bipush 61, 2), (123, .iload 5, 2), (125, .imul, 1), (126, .iload_n 3, 1), (127, .iadd, 1), (128, .iaload, 1), (129, .if_icmp .eq 9, 3), (132, .iinc 4 (-1), 3), (135, .goto (-27), 3), (138, .iload_n 3, 1), (139, .iload 4, 2), (141, .aload_n 0, 1), (142, .getfield 16, 3), (145, .iload 5, 2), (147, .iaload, 1), (148, .imul, 1), (149, .isub, 1), (150, .istore_n 3, 1), (151, .iinc 5 1, 3), (154, .goto (-76), 3), (157, .iload 4, 2), (159, .ireturn, 1)]
theorem dtX12_best : tX12_best.all (fun q => decide (decode cX12_best q.1 = .ok (q.2.1, q.2.2))) = true := by decide +kernel
theorem npX12_best : (parseMethodDescriptor (mY mX12_best).desc).map (fun d => d.parameters.length) = some 2 := by decide +kernel
theorem vX12_best : mV mX12_best := ⟨wI_X12_best, wS_X12_best, wN_X12, wC_X12_best, by decide +kernel, by decide +kernel⟩
set_option maxHeartbeats 4000000 in
set_option maxRecDepth 100000 in
theorem sX12_best_x1 {h : HP} {S : HS} {f : Int → Int} {p q : Int} (Q0 : MAsk h S f) (hp_ : i32 p) (hq_ : i32 q) (kn : ¬ (0 ≤ p ∧ p < sNp S)) : SpecK mX12_best [vr 0, vi p, vi q] h (fun o h' => o = .inl (some (vi 0)) ∧ FQ h h' ∧ hI h' 0 0 = 1) := by
  refine Spec_of (by decide +kernel) (Nat.le_of_ble_eq_true rfl) ?_
  have hB := Q0.1.1
  have hNt := hB.1
  have hNp := hB.2.1
  have R := Q0.2.2.2.2
  have hT := R.1
  have hW := hT.1
  refine K_aload_n (dt_at dtX12_best 0 rfl) rfl rfl ?_
  refine K_iconst (dt_at dtX12_best 1 rfl) ?_
  refine K_putI (a := 0) (ci := 12) (k := 0) (dt_at dtX12_best 2 rfl) (show TT 0 = (0, 12) from rfl) rfl (by decide) wF_X12_105 rfl (Or.inl rfl) rfl rfl ?_
  obtain ⟨hu1, eu1⟩ : ∃ z, z = sI h 0 0 0 := ⟨_, rfl⟩
  rw [← eu1]
  obtain ⟨iu1, fu1, au1, ru1⟩ := sI_fx eu1
  have Gu1 := MG_0 Q0 eu1
  refine K_aload_n (dt_at dtX12_best 3 rfl) rfl rfl ?_
  refine K_iload_n (dt_at dtX12_best 4 rfl) rfl rfl ?_
  refine K_callV (M' := mX12_isPerson) (a := 0) (ci := 12) (As := [vi p]) (st := []) (dt_at dtX12_best 5 rfl) (sX12_isPerson_f (MD_np (MG_D0 Gu1)) hNp Gu1.2.2.2 (by assumption) (by omega)) (show TT 0 = (0, 12) from rfl) rfl wL_X12_375 vX12_isPerson rfl npX12_isPerson (by decide) (by decide) (Nat.le_of_ble_eq_true rfl) (by decide) (by decide) GK_E (fun v9 hc2 hq => ?_) (fun E h9 hq => by cases hq.1)
  have hqq3 := hq
  obtain ⟨e9q3, e8q3⟩ := hqq3
  obtain ⟨iq3, fq3, aq3, rq3⟩ := sI_fx e8q3
  have Bq3 : FQ h hc2 := FQ_tr Gu1.2.1 (FQ_I e8q3 rfl Gu1.2.1.2.2.2.2)
  cases e9q3
  show K mX12_best _ _ 0 0 10 [(0, vr 0), (1, vi p), (2, vi q)] [vi 0] hc2
  refine K_if_eq (tgt := 39) (dt_at dtX12_best 6 rfl) (by decide) (by first | assumption | exact ⟨by omega, by omega⟩) (fun c1 => ?_) (fun c1 => absurd c1 (by omega))
  refine K_iconst (dt_at dtX12_best 21 rfl) ?_
  exact K_iret (dt_at dtX12_best 22 rfl) rfl rfl (by decide) (by decide) ⟨rfl, Bq3, iq3⟩
set_option maxHeartbeats 4000000 in
set_option maxRecDepth 100000 in
theorem sX12_best_x2 {h : HP} {S : HS} {f : Int → Int} {p q : Int} (Q0 : MAsk h S f) (hp_ : i32 p) (hq_ : i32 q) (k0 : 0 ≤ p ∧ p < sNp S) (kn : ¬ (-1 ≤ q ∧ q < sNt S)) : SpecK mX12_best [vr 0, vi p, vi q] h (fun o h' => o = .inl (some (vi 0)) ∧ FQ h h' ∧ hI h' 0 0 = 1) := by
  refine Spec_of (by decide +kernel) (Nat.le_of_ble_eq_true rfl) ?_
  have hB := Q0.1.1
  have hNt := hB.1
  have hNp := hB.2.1
  have R := Q0.2.2.2.2
  have hT := R.1
  have hW := hT.1
  refine K_aload_n (dt_at dtX12_best 0 rfl) rfl rfl ?_
  refine K_iconst (dt_at dtX12_best 1 rfl) ?_
  refine K_putI (a := 0) (ci := 12) (k := 0) (dt_at dtX12_best 2 rfl) (show TT 0 = (0, 12) from rfl) rfl (by decide) wF_X12_105 rfl (Or.inl rfl) rfl rfl ?_
  obtain ⟨hu1, eu1⟩ : ∃ z, z = sI h 0 0 0 := ⟨_, rfl⟩
  rw [← eu1]
  obtain ⟨iu1, fu1, au1, ru1⟩ := sI_fx eu1
  have Gu1 := MG_0 Q0 eu1
  refine K_aload_n (dt_at dtX12_best 3 rfl) rfl rfl ?_
  refine K_iload_n (dt_at dtX12_best 4 rfl) rfl rfl ?_
  refine K_callV (M' := mX12_isPerson) (a := 0) (ci := 12) (As := [vi p]) (st := []) (dt_at dtX12_best 5 rfl) (sX12_isPerson_t (MD_np (MG_D0 Gu1)) hNp Gu1.2.2.2 (by omega)) (show TT 0 = (0, 12) from rfl) rfl wL_X12_375 vX12_isPerson rfl npX12_isPerson (by decide) (by decide) (Nat.le_of_ble_eq_true rfl) (by decide) (by decide) GK_E (fun v9 h9 hq => ?_) (fun E h9 hq => by cases hq.1)
  obtain ⟨e9, e8⟩ := hq
  cases e9
  rw [e8]
  show K mX12_best _ _ 0 0 10 [(0, vr 0), (1, vi p), (2, vi q)] [vi 1] hu1
  refine K_if_eq (tgt := 39) (dt_at dtX12_best 6 rfl) (by decide) (by first | assumption | exact ⟨by omega, by omega⟩) (fun c1 => absurd c1 (by omega)) (fun c1 => ?_)
  refine K_aload_n (dt_at dtX12_best 7 rfl) rfl rfl ?_
  refine K_iload_n (dt_at dtX12_best 8 rfl) rfl rfl ?_
  refine K_iconst (dt_at dtX12_best 9 rfl) ?_
  refine K_icmp_lt (tgt := 31) (dt_at dtX12_best 10 rfl) (by decide) (by first | assumption | exact ⟨by omega, by omega⟩) (by first | assumption | exact ⟨by omega, by omega⟩) (fun c2 => ?_) (fun c2 => ?_)
  · refine K_iconst (dt_at dtX12_best 17 rfl) ?_
    refine K_iconst (dt_at dtX12_best 18 rfl) ?_
    refine K_callV (M' := mX12_right) (a := 0) (ci := 12) (As := [vi 0, vi 1]) (st := []) (dt_at dtX12_best 19 rfl) (sX12_right_f Gu1.2.2.2 (by decide)) (show TT 0 = (0, 12) from rfl) rfl wL_X12_260 vX12_right rfl npX12_right (by decide) (by decide) (Nat.le_of_ble_eq_true rfl) (by decide) (by decide) GK_E (fun v9 hc2 hq => ?_) (fun E h9 hq => by cases hq.1)
    have hqq3 := hq
    obtain ⟨e9q3, e8q3⟩ := hqq3
    obtain ⟨iq3, fq3, aq3, rq3⟩ := sI_fx e8q3
    have Bq3 : FQ h hc2 := FQ_tr Gu1.2.1 (FQ_I e8q3 rfl Gu1.2.1.2.2.2.2)
    cases e9q3
    show K mX12_best _ _ 0 0 36 [(0, vr 0), (1, vi p), (2, vi q)] [vi 0] hc2
    refine K_if_ne (tgt := 41) (dt_at dtX12_best 20 rfl) (by decide) (by first | assumption | exact ⟨by omega, by omega⟩) (fun c3 => absurd c3 (by omega)) (fun c3 => ?_)
    refine K_iconst (dt_at dtX12_best 21 rfl) ?_
    exact K_iret (dt_at dtX12_best 22 rfl) rfl rfl (by decide) (by decide) ⟨rfl, Bq3, iq3⟩
  · refine K_iload_n (dt_at dtX12_best 11 rfl) rfl rfl ?_
    refine K_aload_n (dt_at dtX12_best 12 rfl) rfl rfl ?_
    refine K_get (a := 0) (ci := 12) (k := 1) (v := vi (sNt S : Int)) (dt_at dtX12_best 13 rfl) (show TT 0 = (0, 12) from rfl) rfl (by decide) wF_X12_267 (by show vi (hI hu1 0 1) = vi (sNt S : Int); rw [(MD_nt (MG_D0 Gu1))]) ?_
    refine K_icmp_ge (tgt := 31) (dt_at dtX12_best 14 rfl) (by decide) (by first | assumption | exact ⟨by omega, by omega⟩) (by first | assumption | exact ⟨by omega, by omega⟩) (fun c4 => ?_) (fun c4 => ?_)
    · refine K_iconst (dt_at dtX12_best 17 rfl) ?_
      refine K_iconst (dt_at dtX12_best 18 rfl) ?_
      refine K_callV (M' := mX12_right) (a := 0) (ci := 12) (As := [vi 0, vi 1]) (st := []) (dt_at dtX12_best 19 rfl) (sX12_right_f Gu1.2.2.2 (by decide)) (show TT 0 = (0, 12) from rfl) rfl wL_X12_260 vX12_right rfl npX12_right (by decide) (by decide) (Nat.le_of_ble_eq_true rfl) (by decide) (by decide) GK_E (fun v9 hc4 hq => ?_) (fun E h9 hq => by cases hq.1)
      have hqq5 := hq
      obtain ⟨e9q5, e8q5⟩ := hqq5
      obtain ⟨iq5, fq5, aq5, rq5⟩ := sI_fx e8q5
      have Bq5 : FQ h hc4 := FQ_tr Gu1.2.1 (FQ_I e8q5 rfl Gu1.2.1.2.2.2.2)
      cases e9q5
      show K mX12_best _ _ 0 0 36 [(0, vr 0), (1, vi p), (2, vi q)] [vi 0] hc4
      refine K_if_ne (tgt := 41) (dt_at dtX12_best 20 rfl) (by decide) (by first | assumption | exact ⟨by omega, by omega⟩) (fun c5 => absurd c5 (by omega)) (fun c5 => ?_)
      refine K_iconst (dt_at dtX12_best 21 rfl) ?_
      exact K_iret (dt_at dtX12_best 22 rfl) rfl rfl (by decide) (by decide) ⟨rfl, Bq5, iq5⟩
    · refine K_iconst (dt_at dtX12_best 15 rfl) ?_
      refine K_goto (tgt := 32) (dt_at dtX12_best 16 rfl) (by decide) ?_
      refine K_iconst (dt_at dtX12_best 18 rfl) ?_
      exact (by omega : False).elim
set_option maxHeartbeats 4000000 in
set_option maxRecDepth 100000 in
theorem sX12_best_n {h : HP} {S : HS} {f : Int → Int} {p : Int} (Q0 : MAsk h S f) (hp : 0 ≤ p ∧ p < sNp S) : SpecK mX12_best [vr 0, vi p, vi (-1)] h (fun o h' => o = .inl (some (vi (bF S f (sNt S) (sH S (f (8 + p)))))) ∧ FQ h h' ∧ hI h' 0 0 = 0) := by
  refine Spec_of (by decide +kernel) (Nat.le_of_ble_eq_true rfl) ?_
  have hB := Q0.1.1
  have hNt := hB.1
  have hNp := hB.2.1
  have R := Q0.2.2.2.2
  have hT := R.1
  have hW := hT.1
  have wc := (hW.2 p (by omega) (by omega)).2.1
  have hc := R.2.1 p hp.1 hp.2
  have hh6 := (hB.2.2.2.1 (f (8 + p)) wc.1 hc).1
  refine K_aload_n (dt_at dtX12_best 0 rfl) rfl rfl ?_
  refine K_iconst (dt_at dtX12_best 1 rfl) ?_
  refine K_putI (a := 0) (ci := 12) (k := 0) (dt_at dtX12_best 2 rfl) (show TT 0 = (0, 12) from rfl) rfl (by decide) wF_X12_105 rfl (Or.inl rfl) rfl rfl ?_
  obtain ⟨hu1, eu1⟩ : ∃ z, z = sI h 0 0 0 := ⟨_, rfl⟩
  rw [← eu1]
  obtain ⟨iu1, fu1, au1, ru1⟩ := sI_fx eu1
  have Gu1 := MG_0 Q0 eu1
  refine K_aload_n (dt_at dtX12_best 3 rfl) rfl rfl ?_
  refine K_iload_n (dt_at dtX12_best 4 rfl) rfl rfl ?_
  refine K_callV (M' := mX12_isPerson) (a := 0) (ci := 12) (As := [vi p]) (st := []) (dt_at dtX12_best 5 rfl) (sX12_isPerson_t (MD_np (MG_D0 Gu1)) hNp Gu1.2.2.2 (by omega)) (show TT 0 = (0, 12) from rfl) rfl wL_X12_375 vX12_isPerson rfl npX12_isPerson (by decide) (by decide) (Nat.le_of_ble_eq_true rfl) (by decide) (by decide) GK_E (fun v9 h9 hq => ?_) (fun E h9 hq => by cases hq.1)
  obtain ⟨e9, e8⟩ := hq
  cases e9
  rw [e8]
  show K mX12_best _ _ 0 0 10 [(0, vr 0), (1, vi p), (2, vi (-1))] [vi 1] hu1
  refine K_if_eq (tgt := 39) (dt_at dtX12_best 6 rfl) (by decide) (by first | assumption | exact ⟨by omega, by omega⟩) (fun c1 => absurd c1 (by omega)) (fun c1 => ?_)
  refine K_aload_n (dt_at dtX12_best 7 rfl) rfl rfl ?_
  refine K_iload_n (dt_at dtX12_best 8 rfl) rfl rfl ?_
  refine K_iconst (dt_at dtX12_best 9 rfl) ?_
  refine K_icmp_lt (tgt := 31) (dt_at dtX12_best 10 rfl) (by decide) (by first | assumption | exact ⟨by omega, by omega⟩) (by first | assumption | exact ⟨by omega, by omega⟩) (fun c2 => absurd c2 (by omega)) (fun c2 => ?_)
  refine K_iload_n (dt_at dtX12_best 11 rfl) rfl rfl ?_
  refine K_aload_n (dt_at dtX12_best 12 rfl) rfl rfl ?_
  refine K_get (a := 0) (ci := 12) (k := 1) (v := vi (sNt S : Int)) (dt_at dtX12_best 13 rfl) (show TT 0 = (0, 12) from rfl) rfl (by decide) wF_X12_267 (by show vi (hI hu1 0 1) = vi (sNt S : Int); rw [(MD_nt (MG_D0 Gu1))]) ?_
  refine K_icmp_ge (tgt := 31) (dt_at dtX12_best 14 rfl) (by decide) (by first | assumption | exact ⟨by omega, by omega⟩) (by first | assumption | exact ⟨by omega, by omega⟩) (fun c3 => ?_) (fun c3 => ?_)
  · refine K_iconst (dt_at dtX12_best 17 rfl) ?_
    refine K_iconst (dt_at dtX12_best 18 rfl) ?_
    exact (by omega : False).elim
  · refine K_iconst (dt_at dtX12_best 15 rfl) ?_
    refine K_goto (tgt := 32) (dt_at dtX12_best 16 rfl) (by decide) ?_
    refine K_iconst (dt_at dtX12_best 18 rfl) ?_
    refine K_callV (M' := mX12_right) (a := 0) (ci := 12) (As := [vi 1, vi 1]) (st := []) (dt_at dtX12_best 19 rfl) (sX12_right_t Gu1.2.2.2) (show TT 0 = (0, 12) from rfl) rfl wL_X12_260 vX12_right rfl npX12_right (by decide) (by decide) (Nat.le_of_ble_eq_true rfl) (by decide) (by decide) GK_E (fun v9 h9 hq => ?_) (fun E h9 hq => by cases hq.1)
    obtain ⟨e9, e8⟩ := hq
    cases e9
    rw [e8]
    show K mX12_best _ _ 0 0 36 [(0, vr 0), (1, vi p), (2, vi (-1))] [vi 1] hu1
    refine K_if_ne (tgt := 41) (dt_at dtX12_best 20 rfl) (by decide) (by first | assumption | exact ⟨by omega, by omega⟩) (fun c4 => ?_) (fun c4 => absurd c4 (by omega))
    refine K_aload_n (dt_at dtX12_best 23 rfl) rfl rfl ?_
    refine K_callV (M' := mX12_laysBest) (a := 0) (ci := 12) (As := []) (st := []) (dt_at dtX12_best 24 rfl) (sX12_laysBest Q0 Gu1) (show TT 0 = (0, 12) from rfl) rfl wL_X12_426 vX12_laysBest rfl npX12_laysBest (by decide) (by decide) (Nat.le_of_ble_eq_true rfl) (by decide) (by decide) GK_E (fun v9 hc2 hq => ?_) (fun E h9 hq => by cases hq.1)
    have hqq3 := hq
    obtain ⟨e9q3, ⟨gq3, Gq3⟩, gmq3⟩ := hqq3
    cases e9q3
    show K mX12_best _ _ 0 0 45 [(0, vr 0), (1, vi p), (2, vi (-1))] [] hc2
    refine K_aload_n (dt_at dtX12_best 25 rfl) rfl rfl ?_
    refine K_get (a := 0) (ci := 12) (k := 7) (v := vr 3) (dt_at dtX12_best 26 rfl) (show TT 0 = (0, 12) from rfl) rfl (by decide) wF_X12_23 rfl ?_
    refine K_aload_n (dt_at dtX12_best 27 rfl) rfl rfl ?_
    refine K_get (a := 0) (ci := 12) (k := 42) (v := vr 18) (dt_at dtX12_best 28 rfl) (show TT 0 = (0, 12) from rfl) rfl (by decide) wF_X12_72 rfl ?_
    refine K_bipush (dt_at dtX12_best 29 rfl) (by decide) ?_
    refine K_iload_n (dt_at dtX12_best 30 rfl) rfl rfl ?_
    refine K_iadd (dt_at dtX12_best 31 rfl) ?_
    refine K_iald (dt_at dtX12_best 32 rfl) (show TT 18 = (1, 154) from rfl) (by omega) (by omega) ?_
    rw [show hA hc2 18 (8 + p) = (f (8 + p)) from RV_c (MG_D0 Gq3).2.2.2 (p := p) (by omega) (by omega)]
    refine K_iald (dt_at dtX12_best 33 rfl) (show TT 3 = (1, 7) from rfl) (by omega) (by omega) ?_
    rw [show hA hc2 3 (f (8 + p)) = sH S (f (8 + p)) from MD_h (MG_D0 Gq3) (by omega)]
    refine K_istore_n (ls' := [(3, vi (sH S (f (8 + p)))), (0, vr 0), (1, vi p), (2, vi (-1))]) (dt_at dtX12_best 34 rfl) rfl (by decide) rfl ?_
    refine K_iload_n (dt_at dtX12_best 35 rfl) rfl rfl ?_
    refine K_iconst (dt_at dtX12_best 36 rfl) ?_
    refine K_icmp_ne (tgt := 72) (dt_at dtX12_best 37 rfl) (by decide) (by first | assumption | exact ⟨by omega, by omega⟩) (by first | assumption | exact ⟨by omega, by omega⟩) (fun c5 => absurd c5 (by omega)) (fun c5 => ?_)
    refine K_aload_n (dt_at dtX12_best 38 rfl) rfl rfl ?_
    refine K_get (a := 0) (ci := 12) (k := 50) (v := vr 22) (dt_at dtX12_best 39 rfl) (show TT 0 = (0, 12) from rfl) rfl (by decide) wF_X12_84 rfl ?_
    refine K_iload_n (dt_at dtX12_best 40 rfl) rfl rfl ?_
    refine K_iald (dt_at dtX12_best 41 rfl) (show TT 22 = (1, 427) from rfl) (by omega) (by omega) ?_
    exact K_iret (dt_at dtX12_best 42 rfl) rfl rfl (by decide) (by decide) ⟨by rw [show (hA hc2 22 (sH S (f (8 + p)))) = bF S f (sNt S) (sH S (f (8 + p))) by have := gmq3 (sNt S) (Nat.le_refl _) (sH S (f (8 + p))) hh6.1 hh6.2; rw [show 61 * ((sNt S - sNt S : Nat) : Int) + (sH S (f (8 + p))) = (sH S (f (8 + p))) by omega] at this; exact this], Gq3.2.1, Gq3.2.2.2⟩
theorem fmD_top {S : HS} {f : Int → Int} {k n : Nat} {r : Int} (hn : n ≤ mpN S f k r) (h : gF S (bF S f (sNt S - (k + 1))) k r n = bF S f (sNt S - k) r) (hj : ∀ j, n < j → j ≤ mpN S f k r → gF S (bF S f (sNt S - (k + 1))) k r j ≠ bF S f (sNt S - k) r) : fmQ S f k r = n := by
  unfold fmQ
  have key : ∀ m : Nat, n ≤ m → m ≤ mpN S f k r → fmD (gF S (bF S f (sNt S - (k + 1))) k r) (bF S f (sNt S - k) r) m = n := by
    intro m
    induction m with
    | zero => intro h1 _; have : n = 0 := by omega
              rw [this]; rfl
    | succ m ih =>
      intro h1 h2
      show (if gF S (bF S f (sNt S - (k + 1))) k r (m + 1) = bF S f (sNt S - k) r then m + 1 else fmD (gF S (bF S f (sNt S - (k + 1))) k r) (bF S f (sNt S - k) r) m) = n
      by_cases z : n = m + 1
      · rw [← z, if_pos h]
      · rw [if_neg (hj (m + 1) (by omega) h2)]
        exact ih (by omega) (by omega)
  exact key (mpN S f k r) hn (Nat.le_refl _)
set_option maxHeartbeats 4000000 in
set_option maxRecDepth 100000 in
theorem li_X12_best {Z : CT → State → Prop} {h hh : HP} {S : HS} {f g : Int → Int} {k q : Nat} {r p : Int} (Q0 : MAsk h S f) (G : MG h hh S f g) (gm : GM hh S f (sNt S)) (hk0 : k < sNt S) (hr : 0 ≤ r ∧ r ≤ 60) (kx : K mX12_best GK Z 0 0 138 [(4, vi (fmQ S f k r : Int)), (3, vi r), (5, vi (k : Int)), (0, vr 0), (1, vi p), (2, vi (q : Int))] [] hh) : ∀ (n : Nat), n ≤ mpN S f k r → (∀ j, n < j → j ≤ mpN S f k r → (gF S (bF S f (sNt S - (k + 1))) k r) j ≠ bF S f (sNt S - k) r) → K mX12_best GK Z 0 0 108 [(4, vi (n : Int)), (3, vi r), (5, vi (k : Int)), (0, vr 0), (1, vi p), (2, vi (q : Int))] [] hh := by
  intro n
  induction n with
  | zero =>
    intro hn hj
    have hB := Q0.1.1
    have hNt := hB.1
    have hNp := hB.2.1
    have R := Q0.2.2.2.2
    have hT := R.1
    have hW := hT.1
    have e0 := gm (sNt S - k) (by omega) r hr.1 hr.2
    rw [show ((sNt S - (sNt S - k) : Nat) : Int) = (k : Int) by omega] at e0
    obtain ⟨m1, m2, m3⟩ := mpN_b hB hT hk0 hr.1 hr.2
    have m4 := m3 0 hn
    have m5 := gF_b (n := 0) hB hT hk0 hr.1 hr.2 hn
    have m6 := bF_b hB hT (sNt S - k) r (by omega) hr.1 hr.2
    have e1 : ∀ x : Int, 0 ≤ x → x ≤ 60 → hA hh 22 (61 * ((k : Int) + 1) + x) = bF S f (sNt S - (k + 1)) x := fun x x0 x1 => by have := gm (sNt S - (k + 1)) (by omega) x x0 x1; rw [show ((sNt S - (sNt S - (k + 1)) : Nat) : Int) = (k : Int) + 1 by omega] at this; exact this
    have z0 : ¬ (gF S (bF S f (sNt S - (k + 1))) k r) 0 ≠ bF S f (sNt S - k) r := fun z => by
      obtain ⟨j, j1, j2⟩ := mxA_g (g := (gF S (bF S f (sNt S - (k + 1))) k r)) (mpN S f k r + 1) (by omega) (fun j hj2 => (gF_b hB hT hk0 hr.1 hr.2 (by omega)).1)
      rw [← bF_at hk0] at j2
      by_cases w : j = 0
      · rw [w] at j2; exact z j2
      · exact hj j (by omega) (by omega) j2
    refine K_aload_n (dt_at dtX12_best 64 rfl) rfl rfl ?_
    refine K_iload (dt_at dtX12_best 65 rfl) rfl ?_
    refine K_iload (dt_at dtX12_best 66 rfl) rfl ?_
    refine K_iload_n (dt_at dtX12_best 67 rfl) rfl rfl ?_
    refine K_callV (M' := mX12_useBy) (a := 0) (ci := 12) (As := [vi (k : Int), vi ((0 : Nat) : Int), vi r]) (st := []) (dt_at dtX12_best 68 rfl) (sX12_useBy (q := k) G hk0 (by omega)) (show TT 0 = (0, 12) from rfl) rfl wL_X12_423 vX12_useBy rfl npX12_useBy (by decide) (by decide) (Nat.le_of_ble_eq_true rfl) (by decide) (by decide) GK_E (fun v9 h9 hq => ?_) (fun E h9 hq => by cases hq.1)
    obtain ⟨e9, e8⟩ := hq
    cases e9
    rw [e8]
    show K mX12_best _ _ 0 0 117 [(4, vi ((0 : Nat) : Int)), (3, vi r), (5, vi (k : Int)), (0, vr 0), (1, vi p), (2, vi (q : Int))] [vi (((0 : Nat) : Int) * sU S (k : Int) + hA hh 22 (61 * ((k : Int) + 1) + r - ((0 : Nat) : Int) * sW S (k : Int)))] hh
    rw [show 61 * ((k : Int) + 1) + r - ((0 : Nat) : Int) * sW S (k : Int) = 61 * ((k : Int) + 1) + (r - ((0 : Nat) : Int) * sW S (k : Int)) by omega, e1 _ (by omega) (by omega)]
    rw [show ((0 : Nat) : Int) * sU S (k : Int) + bF S f (sNt S - (k + 1)) (r - ((0 : Nat) : Int) * sW S (k : Int)) = (gF S (bF S f (sNt S - (k + 1))) k r) 0 from rfl]
    refine K_aload_n (dt_at dtX12_best 69 rfl) rfl rfl ?_
    refine K_get (a := 0) (ci := 12) (k := 50) (v := vr 22) (dt_at dtX12_best 70 rfl) (show TT 0 = (0, 12) from rfl) rfl (by decide) wF_X12_84 rfl ?_
    refine K_bipush (dt_at dtX12_best 71 rfl) (by decide) ?_
    refine K_iload (dt_at dtX12_best 72 rfl) rfl ?_
    refine K_imul (dt_at dtX12_best 73 rfl) ?_
    refine K_iload_n (dt_at dtX12_best 74 rfl) rfl rfl ?_
    refine K_iadd (dt_at dtX12_best 75 rfl) ?_
    refine K_iald (dt_at dtX12_best 76 rfl) (show TT 22 = (1, 427) from rfl) (by omega) (by omega) ?_
    rw [e0]
    refine K_icmp_eq (tgt := 138) (dt_at dtX12_best 77 rfl) (by decide) (by first | assumption | exact ⟨by omega, by omega⟩) (by first | assumption | exact ⟨by omega, by omega⟩) (fun c1 => ?_) (fun c1 => ?_)
    · have ef : fmQ S f k r = 0 := fmD_top hn (by assumption) (fun j j1 j2 => hj j j1 j2)
      rw [ef] at kx
      exact K_pk [0, 1, 2, 3, 4, 5] rfl kx
    · refine K_iinc (ls' := [(4, vi (((0 : Nat) : Int) + (-1))), (3, vi r), (5, vi (k : Int)), (0, vr 0), (1, vi p), (2, vi (q : Int))]) (dt_at dtX12_best 78 rfl) rfl (by decide) rfl ?_
      refine K_goto (tgt := 108) (dt_at dtX12_best 79 rfl) (by decide) ?_
      exact (z0 (by assumption)).elim
  | succ n ih =>
    intro hn hj
    have hB := Q0.1.1
    have hNt := hB.1
    have hNp := hB.2.1
    have R := Q0.2.2.2.2
    have hT := R.1
    have hW := hT.1
    have e0 := gm (sNt S - k) (by omega) r hr.1 hr.2
    rw [show ((sNt S - (sNt S - k) : Nat) : Int) = (k : Int) by omega] at e0
    obtain ⟨m1, m2, m3⟩ := mpN_b hB hT hk0 hr.1 hr.2
    have m4 := m3 (n + 1) hn
    have m5 := gF_b (n := (n + 1)) hB hT hk0 hr.1 hr.2 hn
    have m6 := bF_b hB hT (sNt S - k) r (by omega) hr.1 hr.2
    have e1 : ∀ x : Int, 0 ≤ x → x ≤ 60 → hA hh 22 (61 * ((k : Int) + 1) + x) = bF S f (sNt S - (k + 1)) x := fun x x0 x1 => by have := gm (sNt S - (k + 1)) (by omega) x x0 x1; rw [show ((sNt S - (sNt S - (k + 1)) : Nat) : Int) = (k : Int) + 1 by omega] at this; exact this
    refine K_aload_n (dt_at dtX12_best 64 rfl) rfl rfl ?_
    refine K_iload (dt_at dtX12_best 65 rfl) rfl ?_
    refine K_iload (dt_at dtX12_best 66 rfl) rfl ?_
    refine K_iload_n (dt_at dtX12_best 67 rfl) rfl rfl ?_
    refine K_callV (M' := mX12_useBy) (a := 0) (ci := 12) (As := [vi (k : Int), vi ((n + 1 : Nat) : Int), vi r]) (st := []) (dt_at dtX12_best 68 rfl) (sX12_useBy (q := k) G hk0 (by omega)) (show TT 0 = (0, 12) from rfl) rfl wL_X12_423 vX12_useBy rfl npX12_useBy (by decide) (by decide) (Nat.le_of_ble_eq_true rfl) (by decide) (by decide) GK_E (fun v9 h9 hq => ?_) (fun E h9 hq => by cases hq.1)
    obtain ⟨e9, e8⟩ := hq
    cases e9
    rw [e8]
    show K mX12_best _ _ 0 0 117 [(4, vi ((n + 1 : Nat) : Int)), (3, vi r), (5, vi (k : Int)), (0, vr 0), (1, vi p), (2, vi (q : Int))] [vi (((n + 1 : Nat) : Int) * sU S (k : Int) + hA hh 22 (61 * ((k : Int) + 1) + r - ((n + 1 : Nat) : Int) * sW S (k : Int)))] hh
    rw [show 61 * ((k : Int) + 1) + r - ((n + 1 : Nat) : Int) * sW S (k : Int) = 61 * ((k : Int) + 1) + (r - ((n + 1 : Nat) : Int) * sW S (k : Int)) by omega, e1 _ (by omega) (by omega)]
    rw [show ((n + 1 : Nat) : Int) * sU S (k : Int) + bF S f (sNt S - (k + 1)) (r - ((n + 1 : Nat) : Int) * sW S (k : Int)) = (gF S (bF S f (sNt S - (k + 1))) k r) (n + 1) from rfl]
    refine K_aload_n (dt_at dtX12_best 69 rfl) rfl rfl ?_
    refine K_get (a := 0) (ci := 12) (k := 50) (v := vr 22) (dt_at dtX12_best 70 rfl) (show TT 0 = (0, 12) from rfl) rfl (by decide) wF_X12_84 rfl ?_
    refine K_bipush (dt_at dtX12_best 71 rfl) (by decide) ?_
    refine K_iload (dt_at dtX12_best 72 rfl) rfl ?_
    refine K_imul (dt_at dtX12_best 73 rfl) ?_
    refine K_iload_n (dt_at dtX12_best 74 rfl) rfl rfl ?_
    refine K_iadd (dt_at dtX12_best 75 rfl) ?_
    refine K_iald (dt_at dtX12_best 76 rfl) (show TT 22 = (1, 427) from rfl) (by omega) (by omega) ?_
    rw [e0]
    refine K_icmp_eq (tgt := 138) (dt_at dtX12_best 77 rfl) (by decide) (by first | assumption | exact ⟨by omega, by omega⟩) (by first | assumption | exact ⟨by omega, by omega⟩) (fun c1 => ?_) (fun c1 => ?_)
    · have ef : fmQ S f k r = (n + 1) := fmD_top hn (by assumption) (fun j j1 j2 => hj j j1 j2)
      rw [ef] at kx
      exact K_pk [0, 1, 2, 3, 4, 5] rfl kx
    · refine K_iinc (ls' := [(4, vi (((n + 1 : Nat) : Int) + (-1))), (3, vi r), (5, vi (k : Int)), (0, vr 0), (1, vi p), (2, vi (q : Int))]) (dt_at dtX12_best 78 rfl) rfl (by decide) rfl ?_
      refine K_goto (tgt := 108) (dt_at dtX12_best 79 rfl) (by decide) ?_
      exact K_pk [0, 1, 2, 3, 4, 5] (ls' := [(4, vi (((n + 1 : Nat) : Int) + (-1))), (3, vi r), (5, vi (k : Int)), (0, vr 0), (1, vi p), (2, vi (q : Int))]) rfl (K_cg (ls' := [(4, vi (n : Int)), (3, vi r), (5, vi (k : Int)), (0, vr 0), (1, vi p), (2, vi (q : Int))]) (h' := hh) (by rw [show (((n + 1 : Nat) : Int) + (-1)) = (n : Int) by omega]) rfl (ih (by omega) (nj_up (P := fun j => (gF S (bF S f (sNt S - (k + 1))) k r) j ≠ bF S f (sNt S - k) r) hj (by assumption))))
set_option maxHeartbeats 4000000 in
set_option maxRecDepth 100000 in
theorem lo_X12_best {h hh : HP} {S : HS} {f g : Int → Int} {q : Nat} {p H : Int} (Q0 : MAsk h S f) (G : MG h hh S f g) (gm : GM hh S f (sNt S)) (hqt : q < sNt S) (hH : 0 ≤ H ∧ H ≤ 60) : ∀ (dd k : Nat) (y : Int), k + dd = q + 1 → (0 < k → y = (fmQ S f (k - 1) (rmF S f H (k - 1)) : Int)) → K mX12_best GK (ZK (fun o h' => o = .inl (some (vi (fmQ S f q (rmF S f H q) : Int))) ∧ FQ h h' ∧ hI h' 0 0 = 0) 0 0) 0 0 78 [(5, vi (k : Int)), (4, vi y), (3, vi (rmF S f H k)), (0, vr 0), (1, vi p), (2, vi (q : Int))] [] hh := by
  intro dd
  induction dd with
  | zero =>
    intro k y hk hy
    have hB := Q0.1.1
    have hNt := hB.1
    have hNp := hB.2.1
    have R := Q0.2.2.2.2
    have hT := R.1
    have hW := hT.1
    refine K_iload (dt_at dtX12_best 47 rfl) rfl ?_
    refine K_iload_n (dt_at dtX12_best 48 rfl) rfl rfl ?_
    refine K_icmp_gt (tgt := 157) (dt_at dtX12_best 49 rfl) (by decide) (by first | assumption | exact ⟨by omega, by omega⟩) (by first | assumption | exact ⟨by omega, by omega⟩) (fun c1 => ?_) (fun c1 => absurd c1 (by omega))
    refine K_iload (dt_at dtX12_best 91 rfl) rfl ?_
    exact K_iret (dt_at dtX12_best 92 rfl) rfl rfl (by decide) (by decide) ⟨by rw [hy (by omega), show k - 1 = q by omega], G.2.1, G.2.2.2⟩
  | succ dd ih =>
    intro k y hk hy
    have hB := Q0.1.1
    have hNt := hB.1
    have hNp := hB.2.1
    have R := Q0.2.2.2.2
    have hT := R.1
    have hW := hT.1
    have hw := hB.2.2.1 (k : Int) (by omega) (by omega)
    have hs := hT.2.1 (29 + (k : Int)) (by omega) (by omega)
    have hs2 := hT.1.1 (29 + (k : Int)) (by omega) (by omega)
    have rb := rmF_b (H := H) hB hT hH.1 hH.2 k (by omega)
    obtain ⟨m1, m2, m3⟩ := mpN_b (q := k) (r := rmF S f H k) hB hT (by omega) (by omega) (by omega)
    have td := tdiv_b (x := rmF S f H k) hw.1.1 ⟨by omega, by omega⟩
    refine K_iload (dt_at dtX12_best 47 rfl) rfl ?_
    refine K_iload_n (dt_at dtX12_best 48 rfl) rfl rfl ?_
    refine K_icmp_gt (tgt := 157) (dt_at dtX12_best 49 rfl) (by decide) (by first | assumption | exact ⟨by omega, by omega⟩) (by first | assumption | exact ⟨by omega, by omega⟩) (fun c1 => absurd c1 (by omega)) (fun c1 => ?_)
    refine K_aload_n (dt_at dtX12_best 50 rfl) rfl rfl ?_
    refine K_get (a := 0) (ci := 12) (k := 42) (v := vr 18) (dt_at dtX12_best 51 rfl) (show TT 0 = (0, 12) from rfl) rfl (by decide) wF_X12_72 rfl ?_
    refine K_bipush (dt_at dtX12_best 52 rfl) (by decide) ?_
    refine K_iload (dt_at dtX12_best 53 rfl) rfl ?_
    refine K_iadd (dt_at dtX12_best 54 rfl) ?_
    refine K_iald (dt_at dtX12_best 55 rfl) (show TT 18 = (1, 154) from rfl) (by omega) (by omega) ?_
    rw [show hA hh 18 (57 + (k : Int)) = (f (29 + (k : Int))) from RV_s (MG_D0 G).2.2.2 (p := (k : Int)) (by omega) (by omega)]
    refine K_iload_n (dt_at dtX12_best 56 rfl) rfl rfl ?_
    refine K_aload_n (dt_at dtX12_best 57 rfl) rfl rfl ?_
    refine K_get (a := 0) (ci := 12) (k := 5) (v := vr 1) (dt_at dtX12_best 58 rfl) (show TT 0 = (0, 12) from rfl) rfl (by decide) wF_X12_16 rfl ?_
    refine K_iload (dt_at dtX12_best 59 rfl) rfl ?_
    refine K_iald (dt_at dtX12_best 60 rfl) (show TT 1 = (1, 6) from rfl) (by omega) (by omega) ?_
    rw [show hA hh 1 (k : Int) = sW S (k : Int) from MD_w (MG_D0 G) (by omega)]
    refine K_idiv (dt_at dtX12_best 61 rfl) (by first | assumption | exact ⟨by omega, by omega⟩) (by first | assumption | exact ⟨by omega, by omega⟩) (by omega) ?_
    refine K_callS (M' := mX12_lesser) (As := [vi (f (29 + (k : Int))), vi ((rmF S f H k).tdiv (sW S (k : Int)))]) (st := []) (dt_at dtX12_best 62 rfl) (sX12_lesser ⟨by omega, by omega⟩ ⟨by omega, by omega⟩) wL_X12_307 vX12_lesser rfl npX12_lesser (by decide) (by decide) (Nat.le_of_ble_eq_true rfl) (by decide) (by decide) GK_E (fun v9 h9 hq => ?_) (fun E h9 hq => by cases hq.1)
    obtain ⟨e9, e8⟩ := hq
    cases e9
    rw [e8]
    show K mX12_best _ _ 0 0 106 [(5, vi (k : Int)), (4, vi y), (3, vi (rmF S f H k)), (0, vr 0), (1, vi p), (2, vi (q : Int))] [vi (min (f (29 + (k : Int))) ((rmF S f H k).tdiv (sW S (k : Int))))] hh
    refine K_istore (ls' := [(4, vi (min (f (29 + (k : Int))) ((rmF S f H k).tdiv (sW S (k : Int))))), (5, vi (k : Int)), (3, vi (rmF S f H k)), (0, vr 0), (1, vi p), (2, vi (q : Int))]) (dt_at dtX12_best 63 rfl) (by decide) rfl ?_
    refine K_pk [0, 2, 1, 3, 4, 5] (ls' := [(4, vi (min (f (29 + (k : Int))) ((rmF S f H k).tdiv (sW S (k : Int))))), (3, vi (rmF S f H k)), (5, vi (k : Int)), (0, vr 0), (1, vi p), (2, vi (q : Int))]) rfl (K_cg (ls' := [(4, vi (mpN S f k (rmF S f H k) : Int)), (3, vi (rmF S f H k)), (5, vi (k : Int)), (0, vr 0), (1, vi p), (2, vi (q : Int))]) (h' := hh) (by rw [show (min (f (29 + (k : Int))) ((rmF S f H k).tdiv (sW S (k : Int)))) = (mpN S f k (rmF S f H k) : Int) by rw [m1]; omega]) rfl (li_X12_best Q0 G gm (by omega) (by omega) ?_ (mpN S f k (rmF S f H k)) (Nat.le_refl _) (fun j j1 j2 => by omega)))
    refine K_iload_n (dt_at dtX12_best 80 rfl) rfl rfl ?_
    refine K_iload (dt_at dtX12_best 81 rfl) rfl ?_
    refine K_aload_n (dt_at dtX12_best 82 rfl) rfl rfl ?_
    refine K_get (a := 0) (ci := 12) (k := 5) (v := vr 1) (dt_at dtX12_best 83 rfl) (show TT 0 = (0, 12) from rfl) rfl (by decide) wF_X12_16 rfl ?_
    refine K_iload (dt_at dtX12_best 84 rfl) rfl ?_
    refine K_iald (dt_at dtX12_best 85 rfl) (show TT 1 = (1, 6) from rfl) (by omega) (by omega) ?_
    rw [show hA hh 1 (k : Int) = sW S (k : Int) from MD_w (MG_D0 G) (by omega)]
    refine K_imul (dt_at dtX12_best 86 rfl) ?_
    refine K_isub (dt_at dtX12_best 87 rfl) ?_
    refine K_istore_n (ls' := [(3, vi ((rmF S f H k) - ((fmQ S f k (rmF S f H k) : Int) * (sW S (k : Int))))), (4, vi (fmQ S f k (rmF S f H k) : Int)), (5, vi (k : Int)), (0, vr 0), (1, vi p), (2, vi (q : Int))]) (dt_at dtX12_best 88 rfl) rfl (by decide) rfl ?_
    refine K_iinc (ls' := [(5, vi ((k : Int) + 1)), (3, vi ((rmF S f H k) - ((fmQ S f k (rmF S f H k) : Int) * (sW S (k : Int))))), (4, vi (fmQ S f k (rmF S f H k) : Int)), (0, vr 0), (1, vi p), (2, vi (q : Int))]) (dt_at dtX12_best 89 rfl) rfl (by decide) rfl ?_
    refine K_goto (tgt := 78) (dt_at dtX12_best 90 rfl) (by decide) ?_
    exact K_pk [0, 2, 1, 3, 4, 5] rfl (ih (k + 1) (fmQ S f k (rmF S f H k) : Int) (by omega) (fun _ => by rw [show k + 1 - 1 = k by omega]))
set_option maxHeartbeats 4000000 in
set_option maxRecDepth 100000 in
theorem sX12_best {h : HP} {S : HS} {f : Int → Int} {p : Int} {q : Nat} (Q0 : MAsk h S f) (hp : 0 ≤ p ∧ p < sNp S) (hqt : q < sNt S) : SpecK mX12_best [vr 0, vi p, vi (q : Int)] h (fun o h' => o = .inl (some (vi (fmQ S f q (rmF S f (sH S (f (8 + p))) q) : Int))) ∧ FQ h h' ∧ hI h' 0 0 = 0) := by
  refine Spec_of (by decide +kernel) (Nat.le_of_ble_eq_true rfl) ?_
  have hB := Q0.1.1
  have hNt := hB.1
  have hNp := hB.2.1
  have R := Q0.2.2.2.2
  have hT := R.1
  have hW := hT.1
  have wc := (hW.2 p (by omega) (by omega)).2.1
  have hc := R.2.1 p hp.1 hp.2
  have hh6 := (hB.2.2.2.1 (f (8 + p)) wc.1 hc).1
  refine K_aload_n (dt_at dtX12_best 0 rfl) rfl rfl ?_
  refine K_iconst (dt_at dtX12_best 1 rfl) ?_
  refine K_putI (a := 0) (ci := 12) (k := 0) (dt_at dtX12_best 2 rfl) (show TT 0 = (0, 12) from rfl) rfl (by decide) wF_X12_105 rfl (Or.inl rfl) rfl rfl ?_
  obtain ⟨hu1, eu1⟩ : ∃ z, z = sI h 0 0 0 := ⟨_, rfl⟩
  rw [← eu1]
  obtain ⟨iu1, fu1, au1, ru1⟩ := sI_fx eu1
  have Gu1 := MG_0 Q0 eu1
  refine K_aload_n (dt_at dtX12_best 3 rfl) rfl rfl ?_
  refine K_iload_n (dt_at dtX12_best 4 rfl) rfl rfl ?_
  refine K_callV (M' := mX12_isPerson) (a := 0) (ci := 12) (As := [vi p]) (st := []) (dt_at dtX12_best 5 rfl) (sX12_isPerson_t (MD_np (MG_D0 Gu1)) hNp Gu1.2.2.2 (by omega)) (show TT 0 = (0, 12) from rfl) rfl wL_X12_375 vX12_isPerson rfl npX12_isPerson (by decide) (by decide) (Nat.le_of_ble_eq_true rfl) (by decide) (by decide) GK_E (fun v9 h9 hq => ?_) (fun E h9 hq => by cases hq.1)
  obtain ⟨e9, e8⟩ := hq
  cases e9
  rw [e8]
  show K mX12_best _ _ 0 0 10 [(0, vr 0), (1, vi p), (2, vi (q : Int))] [vi 1] hu1
  refine K_if_eq (tgt := 39) (dt_at dtX12_best 6 rfl) (by decide) (by first | assumption | exact ⟨by omega, by omega⟩) (fun c1 => absurd c1 (by omega)) (fun c1 => ?_)
  refine K_aload_n (dt_at dtX12_best 7 rfl) rfl rfl ?_
  refine K_iload_n (dt_at dtX12_best 8 rfl) rfl rfl ?_
  refine K_iconst (dt_at dtX12_best 9 rfl) ?_
  refine K_icmp_lt (tgt := 31) (dt_at dtX12_best 10 rfl) (by decide) (by first | assumption | exact ⟨by omega, by omega⟩) (by first | assumption | exact ⟨by omega, by omega⟩) (fun c2 => ?_) (fun c2 => ?_)
  · refine K_iconst (dt_at dtX12_best 17 rfl) ?_
    refine K_iconst (dt_at dtX12_best 18 rfl) ?_
    exact (by omega : False).elim
  · refine K_iload_n (dt_at dtX12_best 11 rfl) rfl rfl ?_
    refine K_aload_n (dt_at dtX12_best 12 rfl) rfl rfl ?_
    refine K_get (a := 0) (ci := 12) (k := 1) (v := vi (sNt S : Int)) (dt_at dtX12_best 13 rfl) (show TT 0 = (0, 12) from rfl) rfl (by decide) wF_X12_267 (by show vi (hI hu1 0 1) = vi (sNt S : Int); rw [(MD_nt (MG_D0 Gu1))]) ?_
    refine K_icmp_ge (tgt := 31) (dt_at dtX12_best 14 rfl) (by decide) (by first | assumption | exact ⟨by omega, by omega⟩) (by first | assumption | exact ⟨by omega, by omega⟩) (fun c3 => ?_) (fun c3 => ?_)
    · refine K_iconst (dt_at dtX12_best 17 rfl) ?_
      refine K_iconst (dt_at dtX12_best 18 rfl) ?_
      exact (by omega : False).elim
    · refine K_iconst (dt_at dtX12_best 15 rfl) ?_
      refine K_goto (tgt := 32) (dt_at dtX12_best 16 rfl) (by decide) ?_
      refine K_iconst (dt_at dtX12_best 18 rfl) ?_
      refine K_callV (M' := mX12_right) (a := 0) (ci := 12) (As := [vi 1, vi 1]) (st := []) (dt_at dtX12_best 19 rfl) (sX12_right_t Gu1.2.2.2) (show TT 0 = (0, 12) from rfl) rfl wL_X12_260 vX12_right rfl npX12_right (by decide) (by decide) (Nat.le_of_ble_eq_true rfl) (by decide) (by decide) GK_E (fun v9 h9 hq => ?_) (fun E h9 hq => by cases hq.1)
      obtain ⟨e9, e8⟩ := hq
      cases e9
      rw [e8]
      show K mX12_best _ _ 0 0 36 [(0, vr 0), (1, vi p), (2, vi (q : Int))] [vi 1] hu1
      refine K_if_ne (tgt := 41) (dt_at dtX12_best 20 rfl) (by decide) (by first | assumption | exact ⟨by omega, by omega⟩) (fun c4 => ?_) (fun c4 => absurd c4 (by omega))
      refine K_aload_n (dt_at dtX12_best 23 rfl) rfl rfl ?_
      refine K_callV (M' := mX12_laysBest) (a := 0) (ci := 12) (As := []) (st := []) (dt_at dtX12_best 24 rfl) (sX12_laysBest Q0 Gu1) (show TT 0 = (0, 12) from rfl) rfl wL_X12_426 vX12_laysBest rfl npX12_laysBest (by decide) (by decide) (Nat.le_of_ble_eq_true rfl) (by decide) (by decide) GK_E (fun v9 hc2 hq => ?_) (fun E h9 hq => by cases hq.1)
      have hqq3 := hq
      obtain ⟨e9q3, ⟨gq3, Gq3⟩, gmq3⟩ := hqq3
      cases e9q3
      show K mX12_best _ _ 0 0 45 [(0, vr 0), (1, vi p), (2, vi (q : Int))] [] hc2
      refine K_aload_n (dt_at dtX12_best 25 rfl) rfl rfl ?_
      refine K_get (a := 0) (ci := 12) (k := 7) (v := vr 3) (dt_at dtX12_best 26 rfl) (show TT 0 = (0, 12) from rfl) rfl (by decide) wF_X12_23 rfl ?_
      refine K_aload_n (dt_at dtX12_best 27 rfl) rfl rfl ?_
      refine K_get (a := 0) (ci := 12) (k := 42) (v := vr 18) (dt_at dtX12_best 28 rfl) (show TT 0 = (0, 12) from rfl) rfl (by decide) wF_X12_72 rfl ?_
      refine K_bipush (dt_at dtX12_best 29 rfl) (by decide) ?_
      refine K_iload_n (dt_at dtX12_best 30 rfl) rfl rfl ?_
      refine K_iadd (dt_at dtX12_best 31 rfl) ?_
      refine K_iald (dt_at dtX12_best 32 rfl) (show TT 18 = (1, 154) from rfl) (by omega) (by omega) ?_
      rw [show hA hc2 18 (8 + p) = (f (8 + p)) from RV_c (MG_D0 Gq3).2.2.2 (p := p) (by omega) (by omega)]
      refine K_iald (dt_at dtX12_best 33 rfl) (show TT 3 = (1, 7) from rfl) (by omega) (by omega) ?_
      rw [show hA hc2 3 (f (8 + p)) = sH S (f (8 + p)) from MD_h (MG_D0 Gq3) (by omega)]
      refine K_istore_n (ls' := [(3, vi (sH S (f (8 + p)))), (0, vr 0), (1, vi p), (2, vi (q : Int))]) (dt_at dtX12_best 34 rfl) rfl (by decide) rfl ?_
      refine K_iload_n (dt_at dtX12_best 35 rfl) rfl rfl ?_
      refine K_iconst (dt_at dtX12_best 36 rfl) ?_
      refine K_icmp_ne (tgt := 72) (dt_at dtX12_best 37 rfl) (by decide) (by first | assumption | exact ⟨by omega, by omega⟩) (by first | assumption | exact ⟨by omega, by omega⟩) (fun c5 => ?_) (fun c5 => absurd c5 (by omega))
      refine K_iconst (dt_at dtX12_best 43 rfl) ?_
      refine K_istore (ls' := [(4, vi 0), (3, vi (sH S (f (8 + p)))), (0, vr 0), (1, vi p), (2, vi (q : Int))]) (dt_at dtX12_best 44 rfl) (by decide) rfl ?_
      refine K_iconst (dt_at dtX12_best 45 rfl) ?_
      refine K_istore (ls' := [(5, vi 0), (4, vi 0), (3, vi (sH S (f (8 + p)))), (0, vr 0), (1, vi p), (2, vi (q : Int))]) (dt_at dtX12_best 46 rfl) (by decide) rfl ?_
      exact K_pk [0, 1, 2, 3, 4, 5] rfl (lo_X12_best Q0 Gq3 gmq3 hqt hh6 (q + 1) 0 0 (by omega) (fun z => by omega))
