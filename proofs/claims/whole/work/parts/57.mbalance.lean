def cnN (s : Int → Int) (y : Int) : Nat → Int
  | 0 => 1
  | k + 1 => if cnN s y k = 1 ∧ (sdN y k = 0 ∨ 0 < s (29 + (k : Int))) then 1 else 0
theorem cnN_b (s : Int → Int) (y : Int) : ∀ k, cnN s y k = 0 ∨ cnN s y k = 1
  | 0 => Or.inr rfl
  | k + 1 => by
    show (if _ then (1 : Int) else 0) = 0 ∨ (if _ then (1 : Int) else 0) = 1
    split
    · exact Or.inr rfl
    · exact Or.inl rfl
theorem tb_cn {w s : Int → Int} {x y : Int} : ∀ (d k : Nat), cnN s y k = 1 → tbF w s x y d k = if cnN s y (k + d) = 1 ∧ hvN w x y (k + d) = 0 then usN y (k + d) else -1
  | 0, k, h => by
    show (if hvN w x y k = 0 then usN y k else -1) = _
    by_cases e : hvN w x y k = 0
    · rw [if_pos e, if_pos ⟨h, e⟩]; rfl
    · rw [if_neg e, if_neg (fun z => e z.2)]
  | d + 1, k, h => by
    show (if sdN y k = 0 ∨ 1 ≤ s (29 + (k : Int)) then tbF w s x y d (k + 1) else -1) = _
    have st : cnN s y (k + 1) = if cnN s y k = 1 ∧ (sdN y k = 0 ∨ 0 < s (29 + (k : Int))) then 1 else 0 := rfl
    by_cases e : sdN y k = 0 ∨ 1 ≤ s (29 + (k : Int))
    · rw [if_pos e, tb_cn d (k + 1) (by rw [st, if_pos ⟨h, by omega⟩]), show k + 1 + d = k + (d + 1) by omega]
    · rw [if_neg e]
      have z : cnN s y (k + 1) = 0 := by rw [st, if_neg (fun q => e (by omega))]
      have dn : ∀ m : Nat, cnN s y (k + 1 + m) = 0 := by
        intro m
        induction m with
        | zero => exact z
        | succ m ih =>
          show (if cnN s y (k + 1 + m) = 1 ∧ _ then (1 : Int) else 0) = 0
          rw [if_neg (fun q => by rw [ih] at q; exact absurd q.1 (by decide))]
      rw [if_neg (fun q => by rw [show k + (d + 1) = k + 1 + d by omega, dn d] at q; exact absurd q.1 (by decide))]
theorem p3M_b : ∀ k : Nat, k ≤ 6 → p3 k ≤ 729 := by decide
def mX12_balance : MI := (yX12_balance, cX12_balance, 11, (some .int), rmK 2 0)
def tX12_balance : List (Nat × Instr × Nat) := [(0, .aload_n 0, 1), (1, .iconst 0, 1), (2, .putfield 105, 3), (5, .aload_n 0, 1), (6, .iload_n 1, 1), (7, .iconst 1, 1), (8, .bipush 99, 2), (10, .invokestatic 346, 3), (13, .iconst 1, 1), (14, .invokevirtual 260, 3), (17, .ifCond .ne 5, 3), (20, .iconst 0, 1), (21, .ireturn, 1), (22, .iconst 1, 1), (23, .istore_n 2, 1), (24, .iconst 0, 1), (25, .istore_n 3, 1), (26, .iload_n 3, 1), (27, .aload_n 0, 1), (28, .getfield 267, 3), (31, .if_icmp .ge 13, 3), (34, .iload_n 2, 1), (35, .iconst 3, 1), (36, .imul, 1), (37, .istore_n 2, 1), (38, .iinc 3 1, 3), (41, .goto (-15), 3), (44, .iconst (-1), 1), (45, .istore_n 3, 1), (46, .iconst 0, 1), (47, .istore 4, 2), (49, .iload 4, 2), (51, .iload_n 2, 1), (52, .if_icmp .ge 161, 3), (55, .iload 4, 2), (57, .istore 5, 2), (59, .iload_n 1, 1), (60, .istore 6, 2), (62, .iconst 0, 1), (63, .istore 7, 2), (65, .iconst 1, 1), (66, .istore 8, 2), (68, .iconst 0, 1), (69, .istore 9, 2), (71, .iload 9, 2), (73, .aload_n 0, 1), (74, .getfield 267, 3), (77, .if_icmp .ge 106, 3), (80, .iload 5, 2), (82, .iconst 3, 1), (83, .irem, 1), (84, .istore 10, 2), (86, .iload 5, 2), (88, .iconst 3, 1), (89, .idiv, 1), (90, .istore 5, 2), (92, .iload 8, 2), (94, .ifCond .eq 25, 3), (97, .iload 10, 2), (99, .ifCond .eq 16, 3), (102, .aload_n 0, 1), (103, .getfield 72, 3), (106, .bipush 57, 2), (108, .iload 9, 2), (110, .iadd, 1), (111, .iaload, 1), (112, .ifCond .le 7, 3), (115, .iconst 1, 1), (116, .goto 4, 3), (119, .iconst 0, 1), (120, .istore 8, 2), (122, .iload 6, 2), (124, .iload 10, 2), (126, .iconst 1, 1), (127, .if_icmp .ne 13, 3), (130, .aload_n 0, 1), (131, .getfield 16, 3), (134, .iload 9, 2), (136, .iaload, 1), (137, .goto 22, 3), (140, .iload 10, 2), (142, .iconst 2, 1), (143, .if_icmp .ne 15, 3), (146, .iconst 0, 1), (147, .aload_n 0, 1), (148, .getfield 16, 3), (151, .iload 9, 2), (153, .iaload, 1), (154, .isub, 1), (155, .goto 4, 3), (158, .iconst 0, 1), (159, .iadd, 1), (160, .istore 6, 2), (162, .iload 7, 2), (164, .iload 10, 2), (166, .ifCond .le 7, 3), (169, .iconst 1, 1), (170, .goto 4, 3), (173, .iconst 0, 1), (174, .iadd, 1), (175, .istore 7, 2), (177, .iinc 9 1, 3), (180, .goto (-109), 3), (183, .iload 8, 2), (185, .ifCond .eq 22, 3), (188, .iload 6, 2), (190, .ifCond .ne 17, 3), (193, .iload_n 3, 1), (194, .iconst (-1), 1), (195, .if_icmp .eq 9, 3), (198, .iload 7, 2), (200, .iload_n 3, 1), (201, .if_icmp .ge 6, 3), (204, .iload 7, 2), (206, .istore_n 3, 1), (207, .iinc 4 1, 3), (210, .goto (-161), 3), (213, .iload_n 3, 1), (214, .ireturn, 1)]
theorem dtX12_balance : tX12_balance.all (fun q => decide (decode cX12_balance q.1 = .ok (q.2.1, q.2.2))) = true := by decide +kernel
theorem npX12_balance : (parseMethodDescriptor (mY mX12_balance).desc).map (fun d => d.parameters.length) = some 1 := by decide +kernel
theorem vX12_balance : mV mX12_balance := ⟨wI_X12_balance, wS_X12_balance, wN_X12, wC_X12_balance, by decide +kernel, by decide +kernel⟩
set_option maxHeartbeats 4000000 in
set_option maxRecDepth 100000 in
theorem sX12_balance_x1 {h : HP} {S : HS} {f : Int → Int} {x : Int} (Q0 : MAsk h S f) (hx_ : i32 x) (kn : ¬ (1 ≤ x ∧ x ≤ 99)) : SpecK mX12_balance [vr 0, vi x] h (fun o h' => o = .inl (some (vi 0)) ∧ FQ h h' ∧ hI h' 0 0 = 1) := by
  refine Spec_of (by decide +kernel) (Nat.le_of_ble_eq_true rfl) ?_
  have hB := Q0.1.1
  have hNt := hB.1
  have hNp := hB.2.1
  have R := Q0.2.2.2.2
  have hT := R.1
  have hW := hT.1
  refine K_aload_n (dt_at dtX12_balance 0 rfl) rfl rfl ?_
  refine K_iconst (dt_at dtX12_balance 1 rfl) ?_
  refine K_putI (a := 0) (ci := 12) (k := 0) (dt_at dtX12_balance 2 rfl) (show TT 0 = (0, 12) from rfl) rfl (by decide) wF_X12_105 rfl (Or.inl rfl) rfl rfl ?_
  obtain ⟨hu1, eu1⟩ : ∃ z, z = sI h 0 0 0 := ⟨_, rfl⟩
  rw [← eu1]
  obtain ⟨iu1, fu1, au1, ru1⟩ := sI_fx eu1
  have Gu1 := MG_0 Q0 eu1
  refine K_aload_n (dt_at dtX12_balance 3 rfl) rfl rfl ?_
  refine K_iload_n (dt_at dtX12_balance 4 rfl) rfl rfl ?_
  refine K_iconst (dt_at dtX12_balance 5 rfl) ?_
  refine K_bipush (dt_at dtX12_balance 6 rfl) (by decide) ?_
  refine K_callS (M' := mX12_within) (As := [vi x, vi 1, vi 99]) (st := [vr 0]) (dt_at dtX12_balance 7 rfl) (sX12_within (by first | assumption | exact ⟨by omega, by omega⟩) ⟨by omega, by omega⟩ ⟨by omega, by omega⟩) wL_X12_346 vX12_within rfl npX12_within (by decide) (by decide) (Nat.le_of_ble_eq_true rfl) (by decide) (by decide) GK_E (fun v9 h9 hq => ?_) (fun E h9 hq => by cases hq.1)
  obtain ⟨e9, e8⟩ := hq
  cases e9
  rw [e8]
  show K mX12_balance _ _ 0 0 13 [(0, vr 0), (1, vi x)] [vi (if 1 ≤ x ∧ x ≤ 99 then 1 else 0), vr 0] hu1
  by_cases z1 : 1 ≤ x ∧ x ≤ 99
  · rw [if_pos z1]
    refine K_iconst (dt_at dtX12_balance 8 rfl) ?_
    exact (by omega : False).elim
  · rw [if_neg z1]
    refine K_iconst (dt_at dtX12_balance 8 rfl) ?_
    refine K_callV (M' := mX12_right) (a := 0) (ci := 12) (As := [vi 0, vi 1]) (st := []) (dt_at dtX12_balance 9 rfl) (sX12_right_f Gu1.2.2.2 (by decide)) (show TT 0 = (0, 12) from rfl) rfl wL_X12_260 vX12_right rfl npX12_right (by decide) (by decide) (Nat.le_of_ble_eq_true rfl) (by decide) (by decide) GK_E (fun v9 hc2 hq => ?_) (fun E h9 hq => by cases hq.1)
    have hqq3 := hq
    obtain ⟨e9q3, e8q3⟩ := hqq3
    obtain ⟨iq3, fq3, aq3, rq3⟩ := sI_fx e8q3
    have Bq3 : FQ h hc2 := FQ_tr Gu1.2.1 (FQ_I e8q3 rfl Gu1.2.1.2.2.2.2)
    cases e9q3
    show K mX12_balance _ _ 0 0 17 [(0, vr 0), (1, vi x)] [vi 0] hc2
    refine K_if_ne (tgt := 22) (dt_at dtX12_balance 10 rfl) (by decide) (by first | assumption | exact ⟨by omega, by omega⟩) (fun c2 => absurd c2 (by omega)) (fun c2 => ?_)
    refine K_iconst (dt_at dtX12_balance 11 rfl) ?_
    exact K_iret (dt_at dtX12_balance 12 rfl) rfl rfl (by decide) (by decide) ⟨rfl, Bq3, iq3⟩
set_option maxHeartbeats 4000000 in
set_option maxRecDepth 100000 in
theorem l3_X12_balance {Z : CT → State → Prop} {h hh : HP} {S : HS} {f g : Int → Int} {x : Int} {y W F : Int} (Q0 : MAsk h S f) (G : MG h hh S f g) (hx : 1 ≤ x ∧ x ≤ 99) (hy : 0 ≤ y ∧ y < 729) (kx : K mX12_balance GK Z 0 0 183 [(9, vi (sNt S : Int)), (5, vi (rsN y (sNt S))), (6, vi (hvN (sW S) x y (sNt S))), (7, vi (usN y (sNt S))), (8, vi (cnN f y (sNt S))), (4, vi y), (2, vi W), (3, vi F), (0, vr 0), (1, vi x)] [] hh) : ∀ (dd k : Nat), k + dd = sNt S → K mX12_balance GK Z 0 0 71 [(9, vi (k : Int)), (5, vi (rsN y k)), (6, vi (hvN (sW S) x y k)), (7, vi (usN y k)), (8, vi (cnN f y k)), (4, vi y), (2, vi W), (3, vi F), (0, vr 0), (1, vi x)] [] hh := by
  intro dd
  induction dd with
  | zero =>
    intro k hk
    have hB := Q0.1.1
    have hNt := hB.1
    have hNp := hB.2.1
    have R := Q0.2.2.2.2
    have hT := R.1
    have hW := hT.1
    have ek : k = sNt S := by omega
    rw [← ek] at kx
    refine K_iload (dt_at dtX12_balance 44 rfl) rfl ?_
    refine K_aload_n (dt_at dtX12_balance 45 rfl) rfl rfl ?_
    refine K_get (a := 0) (ci := 12) (k := 1) (v := vi (sNt S : Int)) (dt_at dtX12_balance 46 rfl) (show TT 0 = (0, 12) from rfl) rfl (by decide) wF_X12_267 (by show vi (hI hh 0 1) = vi (sNt S : Int); rw [(MD_nt (MG_D0 G))]) ?_
    refine K_icmp_ge (tgt := 183) (dt_at dtX12_balance 47 rfl) (by decide) (by first | assumption | exact ⟨by omega, by omega⟩) (by first | assumption | exact ⟨by omega, by omega⟩) (fun c1 => ?_) (fun c1 => absurd c1 (by omega))
    exact K_pk [0, 1, 2, 3, 4, 5, 6, 7, 8, 9] rfl kx
  | succ dd ih =>
    intro k hk
    have hB := Q0.1.1
    have hNt := hB.1
    have hNp := hB.2.1
    have R := Q0.2.2.2.2
    have hT := R.1
    have hW := hT.1
    have rb := rsN_b hy.1 hy.2 k
    have sd := sdN_b hy.1 hy.2 k
    have ub := usN_b y k
    have cb := cnN_b f y k
    have hvb := hvN_b (w := sW S) (y := y) (n := sNt S) hx (fun i a b => (hB.2.2.1 i a b).1) k (by omega)
    have hw := (hB.2.2.1 (k : Int) (by omega) (by omega)).1
    have hs := hT.1.1 (29 + (k : Int)) (by omega) (by omega)
    refine K_iload (dt_at dtX12_balance 44 rfl) rfl ?_
    refine K_aload_n (dt_at dtX12_balance 45 rfl) rfl rfl ?_
    refine K_get (a := 0) (ci := 12) (k := 1) (v := vi (sNt S : Int)) (dt_at dtX12_balance 46 rfl) (show TT 0 = (0, 12) from rfl) rfl (by decide) wF_X12_267 (by show vi (hI hh 0 1) = vi (sNt S : Int); rw [(MD_nt (MG_D0 G))]) ?_
    refine K_icmp_ge (tgt := 183) (dt_at dtX12_balance 47 rfl) (by decide) (by first | assumption | exact ⟨by omega, by omega⟩) (by first | assumption | exact ⟨by omega, by omega⟩) (fun c1 => absurd c1 (by omega)) (fun c1 => ?_)
    refine K_iload (dt_at dtX12_balance 48 rfl) rfl ?_
    refine K_iconst (dt_at dtX12_balance 49 rfl) ?_
    refine K_irem (dt_at dtX12_balance 50 rfl) (by first | assumption | exact ⟨by omega, by omega⟩) (by first | assumption | exact ⟨by omega, by omega⟩) (by omega) ?_
    rw [show (rsN y k).tmod 3 = sdN y k from rfl]
    refine K_istore (ls' := [(10, vi (sdN y k)), (9, vi (k : Int)), (5, vi (rsN y k)), (6, vi (hvN (sW S) x y k)), (7, vi (usN y k)), (8, vi (cnN f y k)), (4, vi y), (2, vi W), (3, vi F), (0, vr 0), (1, vi x)]) (dt_at dtX12_balance 51 rfl) (by decide) rfl ?_
    refine K_iload (dt_at dtX12_balance 52 rfl) rfl ?_
    refine K_iconst (dt_at dtX12_balance 53 rfl) ?_
    refine K_idiv (dt_at dtX12_balance 54 rfl) (by first | assumption | exact ⟨by omega, by omega⟩) (by first | assumption | exact ⟨by omega, by omega⟩) (by omega) ?_
    refine K_istore (ls' := [(5, vi ((rsN y k).tdiv 3)), (10, vi (sdN y k)), (9, vi (k : Int)), (6, vi (hvN (sW S) x y k)), (7, vi (usN y k)), (8, vi (cnN f y k)), (4, vi y), (2, vi W), (3, vi F), (0, vr 0), (1, vi x)]) (dt_at dtX12_balance 55 rfl) (by decide) rfl ?_
    refine K_iload (dt_at dtX12_balance 56 rfl) rfl ?_
    refine K_if_eq (tgt := 119) (dt_at dtX12_balance 57 rfl) (by decide) (by first | assumption | exact ⟨by omega, by omega⟩) (fun c2 => ?_) (fun c2 => ?_)
    · refine K_iconst (dt_at dtX12_balance 69 rfl) ?_
      refine K_istore (ls' := [(8, vi 0), (5, vi ((rsN y k).tdiv 3)), (10, vi (sdN y k)), (9, vi (k : Int)), (6, vi (hvN (sW S) x y k)), (7, vi (usN y k)), (4, vi y), (2, vi W), (3, vi F), (0, vr 0), (1, vi x)]) (dt_at dtX12_balance 70 rfl) (by decide) rfl ?_
      refine K_iload (dt_at dtX12_balance 71 rfl) rfl ?_
      refine K_iload (dt_at dtX12_balance 72 rfl) rfl ?_
      refine K_iconst (dt_at dtX12_balance 73 rfl) ?_
      refine K_icmp_ne (tgt := 140) (dt_at dtX12_balance 74 rfl) (by decide) (by first | assumption | exact ⟨by omega, by omega⟩) (by first | assumption | exact ⟨by omega, by omega⟩) (fun c3 => ?_) (fun c3 => ?_)
      · refine K_iload (dt_at dtX12_balance 80 rfl) rfl ?_
        refine K_iconst (dt_at dtX12_balance 81 rfl) ?_
        refine K_icmp_ne (tgt := 158) (dt_at dtX12_balance 82 rfl) (by decide) (by first | assumption | exact ⟨by omega, by omega⟩) (by first | assumption | exact ⟨by omega, by omega⟩) (fun c4 => ?_) (fun c4 => ?_)
        · refine K_iconst (dt_at dtX12_balance 90 rfl) ?_
          refine K_iadd (dt_at dtX12_balance 91 rfl) ?_
          refine K_istore (ls' := [(6, vi ((hvN (sW S) x y k) + 0)), (8, vi 0), (5, vi ((rsN y k).tdiv 3)), (10, vi (sdN y k)), (9, vi (k : Int)), (7, vi (usN y k)), (4, vi y), (2, vi W), (3, vi F), (0, vr 0), (1, vi x)]) (dt_at dtX12_balance 92 rfl) (by decide) rfl ?_
          refine K_iload (dt_at dtX12_balance 93 rfl) rfl ?_
          refine K_iload (dt_at dtX12_balance 94 rfl) rfl ?_
          refine K_if_le (tgt := 173) (dt_at dtX12_balance 95 rfl) (by decide) (by first | assumption | exact ⟨by omega, by omega⟩) (fun c5 => ?_) (fun c5 => ?_)
          · refine K_iconst (dt_at dtX12_balance 98 rfl) ?_
            refine K_iadd (dt_at dtX12_balance 99 rfl) ?_
            refine K_istore (ls' := [(7, vi ((usN y k) + 0)), (6, vi ((hvN (sW S) x y k) + 0)), (8, vi 0), (5, vi ((rsN y k).tdiv 3)), (10, vi (sdN y k)), (9, vi (k : Int)), (4, vi y), (2, vi W), (3, vi F), (0, vr 0), (1, vi x)]) (dt_at dtX12_balance 100 rfl) (by decide) rfl ?_
            refine K_iinc (ls' := [(9, vi ((k : Int) + 1)), (7, vi ((usN y k) + 0)), (6, vi ((hvN (sW S) x y k) + 0)), (8, vi 0), (5, vi ((rsN y k).tdiv 3)), (10, vi (sdN y k)), (4, vi y), (2, vi W), (3, vi F), (0, vr 0), (1, vi x)]) (dt_at dtX12_balance 101 rfl) rfl (by decide) rfl ?_
            refine K_goto (tgt := 71) (dt_at dtX12_balance 102 rfl) (by decide) ?_
            have q6 : ((hvN (sW S) x y k) + 0) = hvN (sW S) x y (k + 1) := by show _ = (if sdN y k = 0 then hvN (sW S) x y k else if sdN y k = 1 then hvN (sW S) x y k + sW S (k : Int) else hvN (sW S) x y k + -(sW S (k : Int))); split <;> (try split) <;> omega
            have q7 : ((usN y k) + 0) = usN y (k + 1) := by show _ = (if sdN y k = 0 then usN y k else usN y k + 1); split <;> omega
            have q8 : 0 = cnN f y (k + 1) := by show _ = (if cnN f y k = 1 ∧ (sdN y k = 0 ∨ 0 < f (29 + (k : Int))) then (1 : Int) else 0); split <;> omega
            refine K_pk [0, 4, 2, 1, 3, 6, 7, 8, 9, 10] (ls' := [(9, vi ((k : Int) + 1)), (5, vi ((rsN y k).tdiv 3)), (6, vi ((hvN (sW S) x y k) + 0)), (7, vi ((usN y k) + 0)), (8, vi 0), (4, vi y), (2, vi W), (3, vi F), (0, vr 0), (1, vi x)]) rfl ?_
            exact K_cg (ls' := [(9, vi ((k + 1 : Nat) : Int)), (5, vi (rsN y (k + 1))), (6, vi (hvN (sW S) x y (k + 1))), (7, vi (usN y (k + 1))), (8, vi (cnN f y (k + 1))), (4, vi y), (2, vi W), (3, vi F), (0, vr 0), (1, vi x)]) (h' := hh) (by rw [← q6, ← q7, ← q8]; rfl) rfl (ih (k + 1) (by omega))
          · refine K_iconst (dt_at dtX12_balance 96 rfl) ?_
            refine K_goto (tgt := 174) (dt_at dtX12_balance 97 rfl) (by decide) ?_
            refine K_iadd (dt_at dtX12_balance 99 rfl) ?_
            refine K_istore (ls' := [(7, vi ((usN y k) + 1)), (6, vi ((hvN (sW S) x y k) + 0)), (8, vi 0), (5, vi ((rsN y k).tdiv 3)), (10, vi (sdN y k)), (9, vi (k : Int)), (4, vi y), (2, vi W), (3, vi F), (0, vr 0), (1, vi x)]) (dt_at dtX12_balance 100 rfl) (by decide) rfl ?_
            refine K_iinc (ls' := [(9, vi ((k : Int) + 1)), (7, vi ((usN y k) + 1)), (6, vi ((hvN (sW S) x y k) + 0)), (8, vi 0), (5, vi ((rsN y k).tdiv 3)), (10, vi (sdN y k)), (4, vi y), (2, vi W), (3, vi F), (0, vr 0), (1, vi x)]) (dt_at dtX12_balance 101 rfl) rfl (by decide) rfl ?_
            refine K_goto (tgt := 71) (dt_at dtX12_balance 102 rfl) (by decide) ?_
            have q6 : ((hvN (sW S) x y k) + 0) = hvN (sW S) x y (k + 1) := by show _ = (if sdN y k = 0 then hvN (sW S) x y k else if sdN y k = 1 then hvN (sW S) x y k + sW S (k : Int) else hvN (sW S) x y k + -(sW S (k : Int))); split <;> (try split) <;> omega
            have q7 : ((usN y k) + 1) = usN y (k + 1) := by show _ = (if sdN y k = 0 then usN y k else usN y k + 1); split <;> omega
            have q8 : 0 = cnN f y (k + 1) := by show _ = (if cnN f y k = 1 ∧ (sdN y k = 0 ∨ 0 < f (29 + (k : Int))) then (1 : Int) else 0); split <;> omega
            refine K_pk [0, 4, 2, 1, 3, 6, 7, 8, 9, 10] (ls' := [(9, vi ((k : Int) + 1)), (5, vi ((rsN y k).tdiv 3)), (6, vi ((hvN (sW S) x y k) + 0)), (7, vi ((usN y k) + 1)), (8, vi 0), (4, vi y), (2, vi W), (3, vi F), (0, vr 0), (1, vi x)]) rfl ?_
            exact K_cg (ls' := [(9, vi ((k + 1 : Nat) : Int)), (5, vi (rsN y (k + 1))), (6, vi (hvN (sW S) x y (k + 1))), (7, vi (usN y (k + 1))), (8, vi (cnN f y (k + 1))), (4, vi y), (2, vi W), (3, vi F), (0, vr 0), (1, vi x)]) (h' := hh) (by rw [← q6, ← q7, ← q8]; rfl) rfl (ih (k + 1) (by omega))
        · refine K_iconst (dt_at dtX12_balance 83 rfl) ?_
          refine K_aload_n (dt_at dtX12_balance 84 rfl) rfl rfl ?_
          refine K_get (a := 0) (ci := 12) (k := 5) (v := vr 1) (dt_at dtX12_balance 85 rfl) (show TT 0 = (0, 12) from rfl) rfl (by decide) wF_X12_16 rfl ?_
          refine K_iload (dt_at dtX12_balance 86 rfl) rfl ?_
          refine K_iald (dt_at dtX12_balance 87 rfl) (show TT 1 = (1, 6) from rfl) (by omega) (by omega) ?_
          rw [show hA hh 1 (k : Int) = sW S (k : Int) from MD_w (MG_D0 G) (by omega)]
          refine K_isub (dt_at dtX12_balance 88 rfl) ?_
          refine K_goto (tgt := 159) (dt_at dtX12_balance 89 rfl) (by decide) ?_
          refine K_iadd (dt_at dtX12_balance 91 rfl) ?_
          refine K_istore (ls' := [(6, vi ((hvN (sW S) x y k) + (0 - (sW S (k : Int))))), (8, vi 0), (5, vi ((rsN y k).tdiv 3)), (10, vi (sdN y k)), (9, vi (k : Int)), (7, vi (usN y k)), (4, vi y), (2, vi W), (3, vi F), (0, vr 0), (1, vi x)]) (dt_at dtX12_balance 92 rfl) (by decide) rfl ?_
          refine K_iload (dt_at dtX12_balance 93 rfl) rfl ?_
          refine K_iload (dt_at dtX12_balance 94 rfl) rfl ?_
          refine K_if_le (tgt := 173) (dt_at dtX12_balance 95 rfl) (by decide) (by first | assumption | exact ⟨by omega, by omega⟩) (fun c6 => ?_) (fun c6 => ?_)
          · refine K_iconst (dt_at dtX12_balance 98 rfl) ?_
            refine K_iadd (dt_at dtX12_balance 99 rfl) ?_
            refine K_istore (ls' := [(7, vi ((usN y k) + 0)), (6, vi ((hvN (sW S) x y k) + (0 - (sW S (k : Int))))), (8, vi 0), (5, vi ((rsN y k).tdiv 3)), (10, vi (sdN y k)), (9, vi (k : Int)), (4, vi y), (2, vi W), (3, vi F), (0, vr 0), (1, vi x)]) (dt_at dtX12_balance 100 rfl) (by decide) rfl ?_
            refine K_iinc (ls' := [(9, vi ((k : Int) + 1)), (7, vi ((usN y k) + 0)), (6, vi ((hvN (sW S) x y k) + (0 - (sW S (k : Int))))), (8, vi 0), (5, vi ((rsN y k).tdiv 3)), (10, vi (sdN y k)), (4, vi y), (2, vi W), (3, vi F), (0, vr 0), (1, vi x)]) (dt_at dtX12_balance 101 rfl) rfl (by decide) rfl ?_
            refine K_goto (tgt := 71) (dt_at dtX12_balance 102 rfl) (by decide) ?_
            have q6 : ((hvN (sW S) x y k) + (0 - (sW S (k : Int)))) = hvN (sW S) x y (k + 1) := by show _ = (if sdN y k = 0 then hvN (sW S) x y k else if sdN y k = 1 then hvN (sW S) x y k + sW S (k : Int) else hvN (sW S) x y k + -(sW S (k : Int))); split <;> (try split) <;> omega
            have q7 : ((usN y k) + 0) = usN y (k + 1) := by show _ = (if sdN y k = 0 then usN y k else usN y k + 1); split <;> omega
            have q8 : 0 = cnN f y (k + 1) := by show _ = (if cnN f y k = 1 ∧ (sdN y k = 0 ∨ 0 < f (29 + (k : Int))) then (1 : Int) else 0); split <;> omega
            refine K_pk [0, 4, 2, 1, 3, 6, 7, 8, 9, 10] (ls' := [(9, vi ((k : Int) + 1)), (5, vi ((rsN y k).tdiv 3)), (6, vi ((hvN (sW S) x y k) + (0 - (sW S (k : Int))))), (7, vi ((usN y k) + 0)), (8, vi 0), (4, vi y), (2, vi W), (3, vi F), (0, vr 0), (1, vi x)]) rfl ?_
            exact K_cg (ls' := [(9, vi ((k + 1 : Nat) : Int)), (5, vi (rsN y (k + 1))), (6, vi (hvN (sW S) x y (k + 1))), (7, vi (usN y (k + 1))), (8, vi (cnN f y (k + 1))), (4, vi y), (2, vi W), (3, vi F), (0, vr 0), (1, vi x)]) (h' := hh) (by rw [← q6, ← q7, ← q8]; rfl) rfl (ih (k + 1) (by omega))
          · refine K_iconst (dt_at dtX12_balance 96 rfl) ?_
            refine K_goto (tgt := 174) (dt_at dtX12_balance 97 rfl) (by decide) ?_
            refine K_iadd (dt_at dtX12_balance 99 rfl) ?_
            refine K_istore (ls' := [(7, vi ((usN y k) + 1)), (6, vi ((hvN (sW S) x y k) + (0 - (sW S (k : Int))))), (8, vi 0), (5, vi ((rsN y k).tdiv 3)), (10, vi (sdN y k)), (9, vi (k : Int)), (4, vi y), (2, vi W), (3, vi F), (0, vr 0), (1, vi x)]) (dt_at dtX12_balance 100 rfl) (by decide) rfl ?_
            refine K_iinc (ls' := [(9, vi ((k : Int) + 1)), (7, vi ((usN y k) + 1)), (6, vi ((hvN (sW S) x y k) + (0 - (sW S (k : Int))))), (8, vi 0), (5, vi ((rsN y k).tdiv 3)), (10, vi (sdN y k)), (4, vi y), (2, vi W), (3, vi F), (0, vr 0), (1, vi x)]) (dt_at dtX12_balance 101 rfl) rfl (by decide) rfl ?_
            refine K_goto (tgt := 71) (dt_at dtX12_balance 102 rfl) (by decide) ?_
            have q6 : ((hvN (sW S) x y k) + (0 - (sW S (k : Int)))) = hvN (sW S) x y (k + 1) := by show _ = (if sdN y k = 0 then hvN (sW S) x y k else if sdN y k = 1 then hvN (sW S) x y k + sW S (k : Int) else hvN (sW S) x y k + -(sW S (k : Int))); split <;> (try split) <;> omega
            have q7 : ((usN y k) + 1) = usN y (k + 1) := by show _ = (if sdN y k = 0 then usN y k else usN y k + 1); split <;> omega
            have q8 : 0 = cnN f y (k + 1) := by show _ = (if cnN f y k = 1 ∧ (sdN y k = 0 ∨ 0 < f (29 + (k : Int))) then (1 : Int) else 0); split <;> omega
            refine K_pk [0, 4, 2, 1, 3, 6, 7, 8, 9, 10] (ls' := [(9, vi ((k : Int) + 1)), (5, vi ((rsN y k).tdiv 3)), (6, vi ((hvN (sW S) x y k) + (0 - (sW S (k : Int))))), (7, vi ((usN y k) + 1)), (8, vi 0), (4, vi y), (2, vi W), (3, vi F), (0, vr 0), (1, vi x)]) rfl ?_
            exact K_cg (ls' := [(9, vi ((k + 1 : Nat) : Int)), (5, vi (rsN y (k + 1))), (6, vi (hvN (sW S) x y (k + 1))), (7, vi (usN y (k + 1))), (8, vi (cnN f y (k + 1))), (4, vi y), (2, vi W), (3, vi F), (0, vr 0), (1, vi x)]) (h' := hh) (by rw [← q6, ← q7, ← q8]; rfl) rfl (ih (k + 1) (by omega))
      · refine K_aload_n (dt_at dtX12_balance 75 rfl) rfl rfl ?_
        refine K_get (a := 0) (ci := 12) (k := 5) (v := vr 1) (dt_at dtX12_balance 76 rfl) (show TT 0 = (0, 12) from rfl) rfl (by decide) wF_X12_16 rfl ?_
        refine K_iload (dt_at dtX12_balance 77 rfl) rfl ?_
        refine K_iald (dt_at dtX12_balance 78 rfl) (show TT 1 = (1, 6) from rfl) (by omega) (by omega) ?_
        rw [show hA hh 1 (k : Int) = sW S (k : Int) from MD_w (MG_D0 G) (by omega)]
        refine K_goto (tgt := 159) (dt_at dtX12_balance 79 rfl) (by decide) ?_
        refine K_iadd (dt_at dtX12_balance 91 rfl) ?_
        refine K_istore (ls' := [(6, vi ((hvN (sW S) x y k) + (sW S (k : Int)))), (8, vi 0), (5, vi ((rsN y k).tdiv 3)), (10, vi (sdN y k)), (9, vi (k : Int)), (7, vi (usN y k)), (4, vi y), (2, vi W), (3, vi F), (0, vr 0), (1, vi x)]) (dt_at dtX12_balance 92 rfl) (by decide) rfl ?_
        refine K_iload (dt_at dtX12_balance 93 rfl) rfl ?_
        refine K_iload (dt_at dtX12_balance 94 rfl) rfl ?_
        refine K_if_le (tgt := 173) (dt_at dtX12_balance 95 rfl) (by decide) (by first | assumption | exact ⟨by omega, by omega⟩) (fun c7 => ?_) (fun c7 => ?_)
        · refine K_iconst (dt_at dtX12_balance 98 rfl) ?_
          refine K_iadd (dt_at dtX12_balance 99 rfl) ?_
          refine K_istore (ls' := [(7, vi ((usN y k) + 0)), (6, vi ((hvN (sW S) x y k) + (sW S (k : Int)))), (8, vi 0), (5, vi ((rsN y k).tdiv 3)), (10, vi (sdN y k)), (9, vi (k : Int)), (4, vi y), (2, vi W), (3, vi F), (0, vr 0), (1, vi x)]) (dt_at dtX12_balance 100 rfl) (by decide) rfl ?_
          refine K_iinc (ls' := [(9, vi ((k : Int) + 1)), (7, vi ((usN y k) + 0)), (6, vi ((hvN (sW S) x y k) + (sW S (k : Int)))), (8, vi 0), (5, vi ((rsN y k).tdiv 3)), (10, vi (sdN y k)), (4, vi y), (2, vi W), (3, vi F), (0, vr 0), (1, vi x)]) (dt_at dtX12_balance 101 rfl) rfl (by decide) rfl ?_
          refine K_goto (tgt := 71) (dt_at dtX12_balance 102 rfl) (by decide) ?_
          have q6 : ((hvN (sW S) x y k) + (sW S (k : Int))) = hvN (sW S) x y (k + 1) := by show _ = (if sdN y k = 0 then hvN (sW S) x y k else if sdN y k = 1 then hvN (sW S) x y k + sW S (k : Int) else hvN (sW S) x y k + -(sW S (k : Int))); split <;> (try split) <;> omega
          have q7 : ((usN y k) + 0) = usN y (k + 1) := by show _ = (if sdN y k = 0 then usN y k else usN y k + 1); split <;> omega
          have q8 : 0 = cnN f y (k + 1) := by show _ = (if cnN f y k = 1 ∧ (sdN y k = 0 ∨ 0 < f (29 + (k : Int))) then (1 : Int) else 0); split <;> omega
          refine K_pk [0, 4, 2, 1, 3, 6, 7, 8, 9, 10] (ls' := [(9, vi ((k : Int) + 1)), (5, vi ((rsN y k).tdiv 3)), (6, vi ((hvN (sW S) x y k) + (sW S (k : Int)))), (7, vi ((usN y k) + 0)), (8, vi 0), (4, vi y), (2, vi W), (3, vi F), (0, vr 0), (1, vi x)]) rfl ?_
          exact K_cg (ls' := [(9, vi ((k + 1 : Nat) : Int)), (5, vi (rsN y (k + 1))), (6, vi (hvN (sW S) x y (k + 1))), (7, vi (usN y (k + 1))), (8, vi (cnN f y (k + 1))), (4, vi y), (2, vi W), (3, vi F), (0, vr 0), (1, vi x)]) (h' := hh) (by rw [← q6, ← q7, ← q8]; rfl) rfl (ih (k + 1) (by omega))
        · refine K_iconst (dt_at dtX12_balance 96 rfl) ?_
          refine K_goto (tgt := 174) (dt_at dtX12_balance 97 rfl) (by decide) ?_
          refine K_iadd (dt_at dtX12_balance 99 rfl) ?_
          refine K_istore (ls' := [(7, vi ((usN y k) + 1)), (6, vi ((hvN (sW S) x y k) + (sW S (k : Int)))), (8, vi 0), (5, vi ((rsN y k).tdiv 3)), (10, vi (sdN y k)), (9, vi (k : Int)), (4, vi y), (2, vi W), (3, vi F), (0, vr 0), (1, vi x)]) (dt_at dtX12_balance 100 rfl) (by decide) rfl ?_
          refine K_iinc (ls' := [(9, vi ((k : Int) + 1)), (7, vi ((usN y k) + 1)), (6, vi ((hvN (sW S) x y k) + (sW S (k : Int)))), (8, vi 0), (5, vi ((rsN y k).tdiv 3)), (10, vi (sdN y k)), (4, vi y), (2, vi W), (3, vi F), (0, vr 0), (1, vi x)]) (dt_at dtX12_balance 101 rfl) rfl (by decide) rfl ?_
          refine K_goto (tgt := 71) (dt_at dtX12_balance 102 rfl) (by decide) ?_
          have q6 : ((hvN (sW S) x y k) + (sW S (k : Int))) = hvN (sW S) x y (k + 1) := by show _ = (if sdN y k = 0 then hvN (sW S) x y k else if sdN y k = 1 then hvN (sW S) x y k + sW S (k : Int) else hvN (sW S) x y k + -(sW S (k : Int))); split <;> (try split) <;> omega
          have q7 : ((usN y k) + 1) = usN y (k + 1) := by show _ = (if sdN y k = 0 then usN y k else usN y k + 1); split <;> omega
          have q8 : 0 = cnN f y (k + 1) := by show _ = (if cnN f y k = 1 ∧ (sdN y k = 0 ∨ 0 < f (29 + (k : Int))) then (1 : Int) else 0); split <;> omega
          refine K_pk [0, 4, 2, 1, 3, 6, 7, 8, 9, 10] (ls' := [(9, vi ((k : Int) + 1)), (5, vi ((rsN y k).tdiv 3)), (6, vi ((hvN (sW S) x y k) + (sW S (k : Int)))), (7, vi ((usN y k) + 1)), (8, vi 0), (4, vi y), (2, vi W), (3, vi F), (0, vr 0), (1, vi x)]) rfl ?_
          exact K_cg (ls' := [(9, vi ((k + 1 : Nat) : Int)), (5, vi (rsN y (k + 1))), (6, vi (hvN (sW S) x y (k + 1))), (7, vi (usN y (k + 1))), (8, vi (cnN f y (k + 1))), (4, vi y), (2, vi W), (3, vi F), (0, vr 0), (1, vi x)]) (h' := hh) (by rw [← q6, ← q7, ← q8]; rfl) rfl (ih (k + 1) (by omega))
    · refine K_iload (dt_at dtX12_balance 58 rfl) rfl ?_
      refine K_if_eq (tgt := 115) (dt_at dtX12_balance 59 rfl) (by decide) (by first | assumption | exact ⟨by omega, by omega⟩) (fun c8 => ?_) (fun c8 => ?_)
      · refine K_iconst (dt_at dtX12_balance 67 rfl) ?_
        refine K_goto (tgt := 120) (dt_at dtX12_balance 68 rfl) (by decide) ?_
        refine K_istore (ls' := [(8, vi 1), (5, vi ((rsN y k).tdiv 3)), (10, vi (sdN y k)), (9, vi (k : Int)), (6, vi (hvN (sW S) x y k)), (7, vi (usN y k)), (4, vi y), (2, vi W), (3, vi F), (0, vr 0), (1, vi x)]) (dt_at dtX12_balance 70 rfl) (by decide) rfl ?_
        refine K_iload (dt_at dtX12_balance 71 rfl) rfl ?_
        refine K_iload (dt_at dtX12_balance 72 rfl) rfl ?_
        refine K_iconst (dt_at dtX12_balance 73 rfl) ?_
        refine K_icmp_ne (tgt := 140) (dt_at dtX12_balance 74 rfl) (by decide) (by first | assumption | exact ⟨by omega, by omega⟩) (by first | assumption | exact ⟨by omega, by omega⟩) (fun c9 => ?_) (fun c9 => ?_)
        · refine K_iload (dt_at dtX12_balance 80 rfl) rfl ?_
          refine K_iconst (dt_at dtX12_balance 81 rfl) ?_
          refine K_icmp_ne (tgt := 158) (dt_at dtX12_balance 82 rfl) (by decide) (by first | assumption | exact ⟨by omega, by omega⟩) (by first | assumption | exact ⟨by omega, by omega⟩) (fun c10 => ?_) (fun c10 => ?_)
          · refine K_iconst (dt_at dtX12_balance 90 rfl) ?_
            refine K_iadd (dt_at dtX12_balance 91 rfl) ?_
            refine K_istore (ls' := [(6, vi ((hvN (sW S) x y k) + 0)), (8, vi 1), (5, vi ((rsN y k).tdiv 3)), (10, vi (sdN y k)), (9, vi (k : Int)), (7, vi (usN y k)), (4, vi y), (2, vi W), (3, vi F), (0, vr 0), (1, vi x)]) (dt_at dtX12_balance 92 rfl) (by decide) rfl ?_
            refine K_iload (dt_at dtX12_balance 93 rfl) rfl ?_
            refine K_iload (dt_at dtX12_balance 94 rfl) rfl ?_
            refine K_if_le (tgt := 173) (dt_at dtX12_balance 95 rfl) (by decide) (by first | assumption | exact ⟨by omega, by omega⟩) (fun c11 => ?_) (fun c11 => ?_)
            · refine K_iconst (dt_at dtX12_balance 98 rfl) ?_
              refine K_iadd (dt_at dtX12_balance 99 rfl) ?_
              refine K_istore (ls' := [(7, vi ((usN y k) + 0)), (6, vi ((hvN (sW S) x y k) + 0)), (8, vi 1), (5, vi ((rsN y k).tdiv 3)), (10, vi (sdN y k)), (9, vi (k : Int)), (4, vi y), (2, vi W), (3, vi F), (0, vr 0), (1, vi x)]) (dt_at dtX12_balance 100 rfl) (by decide) rfl ?_
              refine K_iinc (ls' := [(9, vi ((k : Int) + 1)), (7, vi ((usN y k) + 0)), (6, vi ((hvN (sW S) x y k) + 0)), (8, vi 1), (5, vi ((rsN y k).tdiv 3)), (10, vi (sdN y k)), (4, vi y), (2, vi W), (3, vi F), (0, vr 0), (1, vi x)]) (dt_at dtX12_balance 101 rfl) rfl (by decide) rfl ?_
              refine K_goto (tgt := 71) (dt_at dtX12_balance 102 rfl) (by decide) ?_
              have q6 : ((hvN (sW S) x y k) + 0) = hvN (sW S) x y (k + 1) := by show _ = (if sdN y k = 0 then hvN (sW S) x y k else if sdN y k = 1 then hvN (sW S) x y k + sW S (k : Int) else hvN (sW S) x y k + -(sW S (k : Int))); split <;> (try split) <;> omega
              have q7 : ((usN y k) + 0) = usN y (k + 1) := by show _ = (if sdN y k = 0 then usN y k else usN y k + 1); split <;> omega
              have q8 : 1 = cnN f y (k + 1) := by show _ = (if cnN f y k = 1 ∧ (sdN y k = 0 ∨ 0 < f (29 + (k : Int))) then (1 : Int) else 0); split <;> omega
              refine K_pk [0, 4, 2, 1, 3, 6, 7, 8, 9, 10] (ls' := [(9, vi ((k : Int) + 1)), (5, vi ((rsN y k).tdiv 3)), (6, vi ((hvN (sW S) x y k) + 0)), (7, vi ((usN y k) + 0)), (8, vi 1), (4, vi y), (2, vi W), (3, vi F), (0, vr 0), (1, vi x)]) rfl ?_
              exact K_cg (ls' := [(9, vi ((k + 1 : Nat) : Int)), (5, vi (rsN y (k + 1))), (6, vi (hvN (sW S) x y (k + 1))), (7, vi (usN y (k + 1))), (8, vi (cnN f y (k + 1))), (4, vi y), (2, vi W), (3, vi F), (0, vr 0), (1, vi x)]) (h' := hh) (by rw [← q6, ← q7, ← q8]; rfl) rfl (ih (k + 1) (by omega))
            · refine K_iconst (dt_at dtX12_balance 96 rfl) ?_
              refine K_goto (tgt := 174) (dt_at dtX12_balance 97 rfl) (by decide) ?_
              refine K_iadd (dt_at dtX12_balance 99 rfl) ?_
              refine K_istore (ls' := [(7, vi ((usN y k) + 1)), (6, vi ((hvN (sW S) x y k) + 0)), (8, vi 1), (5, vi ((rsN y k).tdiv 3)), (10, vi (sdN y k)), (9, vi (k : Int)), (4, vi y), (2, vi W), (3, vi F), (0, vr 0), (1, vi x)]) (dt_at dtX12_balance 100 rfl) (by decide) rfl ?_
              refine K_iinc (ls' := [(9, vi ((k : Int) + 1)), (7, vi ((usN y k) + 1)), (6, vi ((hvN (sW S) x y k) + 0)), (8, vi 1), (5, vi ((rsN y k).tdiv 3)), (10, vi (sdN y k)), (4, vi y), (2, vi W), (3, vi F), (0, vr 0), (1, vi x)]) (dt_at dtX12_balance 101 rfl) rfl (by decide) rfl ?_
              refine K_goto (tgt := 71) (dt_at dtX12_balance 102 rfl) (by decide) ?_
              have q6 : ((hvN (sW S) x y k) + 0) = hvN (sW S) x y (k + 1) := by show _ = (if sdN y k = 0 then hvN (sW S) x y k else if sdN y k = 1 then hvN (sW S) x y k + sW S (k : Int) else hvN (sW S) x y k + -(sW S (k : Int))); split <;> (try split) <;> omega
              have q7 : ((usN y k) + 1) = usN y (k + 1) := by show _ = (if sdN y k = 0 then usN y k else usN y k + 1); split <;> omega
              have q8 : 1 = cnN f y (k + 1) := by show _ = (if cnN f y k = 1 ∧ (sdN y k = 0 ∨ 0 < f (29 + (k : Int))) then (1 : Int) else 0); split <;> omega
              refine K_pk [0, 4, 2, 1, 3, 6, 7, 8, 9, 10] (ls' := [(9, vi ((k : Int) + 1)), (5, vi ((rsN y k).tdiv 3)), (6, vi ((hvN (sW S) x y k) + 0)), (7, vi ((usN y k) + 1)), (8, vi 1), (4, vi y), (2, vi W), (3, vi F), (0, vr 0), (1, vi x)]) rfl ?_
              exact K_cg (ls' := [(9, vi ((k + 1 : Nat) : Int)), (5, vi (rsN y (k + 1))), (6, vi (hvN (sW S) x y (k + 1))), (7, vi (usN y (k + 1))), (8, vi (cnN f y (k + 1))), (4, vi y), (2, vi W), (3, vi F), (0, vr 0), (1, vi x)]) (h' := hh) (by rw [← q6, ← q7, ← q8]; rfl) rfl (ih (k + 1) (by omega))
          · refine K_iconst (dt_at dtX12_balance 83 rfl) ?_
            refine K_aload_n (dt_at dtX12_balance 84 rfl) rfl rfl ?_
            refine K_get (a := 0) (ci := 12) (k := 5) (v := vr 1) (dt_at dtX12_balance 85 rfl) (show TT 0 = (0, 12) from rfl) rfl (by decide) wF_X12_16 rfl ?_
            refine K_iload (dt_at dtX12_balance 86 rfl) rfl ?_
            refine K_iald (dt_at dtX12_balance 87 rfl) (show TT 1 = (1, 6) from rfl) (by omega) (by omega) ?_
            rw [show hA hh 1 (k : Int) = sW S (k : Int) from MD_w (MG_D0 G) (by omega)]
            refine K_isub (dt_at dtX12_balance 88 rfl) ?_
            refine K_goto (tgt := 159) (dt_at dtX12_balance 89 rfl) (by decide) ?_
            refine K_iadd (dt_at dtX12_balance 91 rfl) ?_
            refine K_istore (ls' := [(6, vi ((hvN (sW S) x y k) + (0 - (sW S (k : Int))))), (8, vi 1), (5, vi ((rsN y k).tdiv 3)), (10, vi (sdN y k)), (9, vi (k : Int)), (7, vi (usN y k)), (4, vi y), (2, vi W), (3, vi F), (0, vr 0), (1, vi x)]) (dt_at dtX12_balance 92 rfl) (by decide) rfl ?_
            refine K_iload (dt_at dtX12_balance 93 rfl) rfl ?_
            refine K_iload (dt_at dtX12_balance 94 rfl) rfl ?_
            refine K_if_le (tgt := 173) (dt_at dtX12_balance 95 rfl) (by decide) (by first | assumption | exact ⟨by omega, by omega⟩) (fun c12 => ?_) (fun c12 => ?_)
            · refine K_iconst (dt_at dtX12_balance 98 rfl) ?_
              refine K_iadd (dt_at dtX12_balance 99 rfl) ?_
              refine K_istore (ls' := [(7, vi ((usN y k) + 0)), (6, vi ((hvN (sW S) x y k) + (0 - (sW S (k : Int))))), (8, vi 1), (5, vi ((rsN y k).tdiv 3)), (10, vi (sdN y k)), (9, vi (k : Int)), (4, vi y), (2, vi W), (3, vi F), (0, vr 0), (1, vi x)]) (dt_at dtX12_balance 100 rfl) (by decide) rfl ?_
              refine K_iinc (ls' := [(9, vi ((k : Int) + 1)), (7, vi ((usN y k) + 0)), (6, vi ((hvN (sW S) x y k) + (0 - (sW S (k : Int))))), (8, vi 1), (5, vi ((rsN y k).tdiv 3)), (10, vi (sdN y k)), (4, vi y), (2, vi W), (3, vi F), (0, vr 0), (1, vi x)]) (dt_at dtX12_balance 101 rfl) rfl (by decide) rfl ?_
              refine K_goto (tgt := 71) (dt_at dtX12_balance 102 rfl) (by decide) ?_
              have q6 : ((hvN (sW S) x y k) + (0 - (sW S (k : Int)))) = hvN (sW S) x y (k + 1) := by show _ = (if sdN y k = 0 then hvN (sW S) x y k else if sdN y k = 1 then hvN (sW S) x y k + sW S (k : Int) else hvN (sW S) x y k + -(sW S (k : Int))); split <;> (try split) <;> omega
              have q7 : ((usN y k) + 0) = usN y (k + 1) := by show _ = (if sdN y k = 0 then usN y k else usN y k + 1); split <;> omega
              have q8 : 1 = cnN f y (k + 1) := by show _ = (if cnN f y k = 1 ∧ (sdN y k = 0 ∨ 0 < f (29 + (k : Int))) then (1 : Int) else 0); split <;> omega
              refine K_pk [0, 4, 2, 1, 3, 6, 7, 8, 9, 10] (ls' := [(9, vi ((k : Int) + 1)), (5, vi ((rsN y k).tdiv 3)), (6, vi ((hvN (sW S) x y k) + (0 - (sW S (k : Int))))), (7, vi ((usN y k) + 0)), (8, vi 1), (4, vi y), (2, vi W), (3, vi F), (0, vr 0), (1, vi x)]) rfl ?_
              exact K_cg (ls' := [(9, vi ((k + 1 : Nat) : Int)), (5, vi (rsN y (k + 1))), (6, vi (hvN (sW S) x y (k + 1))), (7, vi (usN y (k + 1))), (8, vi (cnN f y (k + 1))), (4, vi y), (2, vi W), (3, vi F), (0, vr 0), (1, vi x)]) (h' := hh) (by rw [← q6, ← q7, ← q8]; rfl) rfl (ih (k + 1) (by omega))
            · refine K_iconst (dt_at dtX12_balance 96 rfl) ?_
              refine K_goto (tgt := 174) (dt_at dtX12_balance 97 rfl) (by decide) ?_
              refine K_iadd (dt_at dtX12_balance 99 rfl) ?_
              refine K_istore (ls' := [(7, vi ((usN y k) + 1)), (6, vi ((hvN (sW S) x y k) + (0 - (sW S (k : Int))))), (8, vi 1), (5, vi ((rsN y k).tdiv 3)), (10, vi (sdN y k)), (9, vi (k : Int)), (4, vi y), (2, vi W), (3, vi F), (0, vr 0), (1, vi x)]) (dt_at dtX12_balance 100 rfl) (by decide) rfl ?_
              refine K_iinc (ls' := [(9, vi ((k : Int) + 1)), (7, vi ((usN y k) + 1)), (6, vi ((hvN (sW S) x y k) + (0 - (sW S (k : Int))))), (8, vi 1), (5, vi ((rsN y k).tdiv 3)), (10, vi (sdN y k)), (4, vi y), (2, vi W), (3, vi F), (0, vr 0), (1, vi x)]) (dt_at dtX12_balance 101 rfl) rfl (by decide) rfl ?_
              refine K_goto (tgt := 71) (dt_at dtX12_balance 102 rfl) (by decide) ?_
              have q6 : ((hvN (sW S) x y k) + (0 - (sW S (k : Int)))) = hvN (sW S) x y (k + 1) := by show _ = (if sdN y k = 0 then hvN (sW S) x y k else if sdN y k = 1 then hvN (sW S) x y k + sW S (k : Int) else hvN (sW S) x y k + -(sW S (k : Int))); split <;> (try split) <;> omega
              have q7 : ((usN y k) + 1) = usN y (k + 1) := by show _ = (if sdN y k = 0 then usN y k else usN y k + 1); split <;> omega
              have q8 : 1 = cnN f y (k + 1) := by show _ = (if cnN f y k = 1 ∧ (sdN y k = 0 ∨ 0 < f (29 + (k : Int))) then (1 : Int) else 0); split <;> omega
              refine K_pk [0, 4, 2, 1, 3, 6, 7, 8, 9, 10] (ls' := [(9, vi ((k : Int) + 1)), (5, vi ((rsN y k).tdiv 3)), (6, vi ((hvN (sW S) x y k) + (0 - (sW S (k : Int))))), (7, vi ((usN y k) + 1)), (8, vi 1), (4, vi y), (2, vi W), (3, vi F), (0, vr 0), (1, vi x)]) rfl ?_
              exact K_cg (ls' := [(9, vi ((k + 1 : Nat) : Int)), (5, vi (rsN y (k + 1))), (6, vi (hvN (sW S) x y (k + 1))), (7, vi (usN y (k + 1))), (8, vi (cnN f y (k + 1))), (4, vi y), (2, vi W), (3, vi F), (0, vr 0), (1, vi x)]) (h' := hh) (by rw [← q6, ← q7, ← q8]; rfl) rfl (ih (k + 1) (by omega))
        · refine K_aload_n (dt_at dtX12_balance 75 rfl) rfl rfl ?_
          refine K_get (a := 0) (ci := 12) (k := 5) (v := vr 1) (dt_at dtX12_balance 76 rfl) (show TT 0 = (0, 12) from rfl) rfl (by decide) wF_X12_16 rfl ?_
          refine K_iload (dt_at dtX12_balance 77 rfl) rfl ?_
          refine K_iald (dt_at dtX12_balance 78 rfl) (show TT 1 = (1, 6) from rfl) (by omega) (by omega) ?_
          rw [show hA hh 1 (k : Int) = sW S (k : Int) from MD_w (MG_D0 G) (by omega)]
          refine K_goto (tgt := 159) (dt_at dtX12_balance 79 rfl) (by decide) ?_
          refine K_iadd (dt_at dtX12_balance 91 rfl) ?_
          refine K_istore (ls' := [(6, vi ((hvN (sW S) x y k) + (sW S (k : Int)))), (8, vi 1), (5, vi ((rsN y k).tdiv 3)), (10, vi (sdN y k)), (9, vi (k : Int)), (7, vi (usN y k)), (4, vi y), (2, vi W), (3, vi F), (0, vr 0), (1, vi x)]) (dt_at dtX12_balance 92 rfl) (by decide) rfl ?_
          refine K_iload (dt_at dtX12_balance 93 rfl) rfl ?_
          refine K_iload (dt_at dtX12_balance 94 rfl) rfl ?_
          refine K_if_le (tgt := 173) (dt_at dtX12_balance 95 rfl) (by decide) (by first | assumption | exact ⟨by omega, by omega⟩) (fun c13 => ?_) (fun c13 => ?_)
          · refine K_iconst (dt_at dtX12_balance 98 rfl) ?_
            refine K_iadd (dt_at dtX12_balance 99 rfl) ?_
            refine K_istore (ls' := [(7, vi ((usN y k) + 0)), (6, vi ((hvN (sW S) x y k) + (sW S (k : Int)))), (8, vi 1), (5, vi ((rsN y k).tdiv 3)), (10, vi (sdN y k)), (9, vi (k : Int)), (4, vi y), (2, vi W), (3, vi F), (0, vr 0), (1, vi x)]) (dt_at dtX12_balance 100 rfl) (by decide) rfl ?_
            refine K_iinc (ls' := [(9, vi ((k : Int) + 1)), (7, vi ((usN y k) + 0)), (6, vi ((hvN (sW S) x y k) + (sW S (k : Int)))), (8, vi 1), (5, vi ((rsN y k).tdiv 3)), (10, vi (sdN y k)), (4, vi y), (2, vi W), (3, vi F), (0, vr 0), (1, vi x)]) (dt_at dtX12_balance 101 rfl) rfl (by decide) rfl ?_
            refine K_goto (tgt := 71) (dt_at dtX12_balance 102 rfl) (by decide) ?_
            have q6 : ((hvN (sW S) x y k) + (sW S (k : Int))) = hvN (sW S) x y (k + 1) := by show _ = (if sdN y k = 0 then hvN (sW S) x y k else if sdN y k = 1 then hvN (sW S) x y k + sW S (k : Int) else hvN (sW S) x y k + -(sW S (k : Int))); split <;> (try split) <;> omega
            have q7 : ((usN y k) + 0) = usN y (k + 1) := by show _ = (if sdN y k = 0 then usN y k else usN y k + 1); split <;> omega
            have q8 : 1 = cnN f y (k + 1) := by show _ = (if cnN f y k = 1 ∧ (sdN y k = 0 ∨ 0 < f (29 + (k : Int))) then (1 : Int) else 0); split <;> omega
            refine K_pk [0, 4, 2, 1, 3, 6, 7, 8, 9, 10] (ls' := [(9, vi ((k : Int) + 1)), (5, vi ((rsN y k).tdiv 3)), (6, vi ((hvN (sW S) x y k) + (sW S (k : Int)))), (7, vi ((usN y k) + 0)), (8, vi 1), (4, vi y), (2, vi W), (3, vi F), (0, vr 0), (1, vi x)]) rfl ?_
            exact K_cg (ls' := [(9, vi ((k + 1 : Nat) : Int)), (5, vi (rsN y (k + 1))), (6, vi (hvN (sW S) x y (k + 1))), (7, vi (usN y (k + 1))), (8, vi (cnN f y (k + 1))), (4, vi y), (2, vi W), (3, vi F), (0, vr 0), (1, vi x)]) (h' := hh) (by rw [← q6, ← q7, ← q8]; rfl) rfl (ih (k + 1) (by omega))
          · refine K_iconst (dt_at dtX12_balance 96 rfl) ?_
            refine K_goto (tgt := 174) (dt_at dtX12_balance 97 rfl) (by decide) ?_
            refine K_iadd (dt_at dtX12_balance 99 rfl) ?_
            refine K_istore (ls' := [(7, vi ((usN y k) + 1)), (6, vi ((hvN (sW S) x y k) + (sW S (k : Int)))), (8, vi 1), (5, vi ((rsN y k).tdiv 3)), (10, vi (sdN y k)), (9, vi (k : Int)), (4, vi y), (2, vi W), (3, vi F), (0, vr 0), (1, vi x)]) (dt_at dtX12_balance 100 rfl) (by decide) rfl ?_
            refine K_iinc (ls' := [(9, vi ((k : Int) + 1)), (7, vi ((usN y k) + 1)), (6, vi ((hvN (sW S) x y k) + (sW S (k : Int)))), (8, vi 1), (5, vi ((rsN y k).tdiv 3)), (10, vi (sdN y k)), (4, vi y), (2, vi W), (3, vi F), (0, vr 0), (1, vi x)]) (dt_at dtX12_balance 101 rfl) rfl (by decide) rfl ?_
            refine K_goto (tgt := 71) (dt_at dtX12_balance 102 rfl) (by decide) ?_
            have q6 : ((hvN (sW S) x y k) + (sW S (k : Int))) = hvN (sW S) x y (k + 1) := by show _ = (if sdN y k = 0 then hvN (sW S) x y k else if sdN y k = 1 then hvN (sW S) x y k + sW S (k : Int) else hvN (sW S) x y k + -(sW S (k : Int))); split <;> (try split) <;> omega
            have q7 : ((usN y k) + 1) = usN y (k + 1) := by show _ = (if sdN y k = 0 then usN y k else usN y k + 1); split <;> omega
            have q8 : 1 = cnN f y (k + 1) := by show _ = (if cnN f y k = 1 ∧ (sdN y k = 0 ∨ 0 < f (29 + (k : Int))) then (1 : Int) else 0); split <;> omega
            refine K_pk [0, 4, 2, 1, 3, 6, 7, 8, 9, 10] (ls' := [(9, vi ((k : Int) + 1)), (5, vi ((rsN y k).tdiv 3)), (6, vi ((hvN (sW S) x y k) + (sW S (k : Int)))), (7, vi ((usN y k) + 1)), (8, vi 1), (4, vi y), (2, vi W), (3, vi F), (0, vr 0), (1, vi x)]) rfl ?_
            exact K_cg (ls' := [(9, vi ((k + 1 : Nat) : Int)), (5, vi (rsN y (k + 1))), (6, vi (hvN (sW S) x y (k + 1))), (7, vi (usN y (k + 1))), (8, vi (cnN f y (k + 1))), (4, vi y), (2, vi W), (3, vi F), (0, vr 0), (1, vi x)]) (h' := hh) (by rw [← q6, ← q7, ← q8]; rfl) rfl (ih (k + 1) (by omega))
      · refine K_aload_n (dt_at dtX12_balance 60 rfl) rfl rfl ?_
        refine K_get (a := 0) (ci := 12) (k := 42) (v := vr 18) (dt_at dtX12_balance 61 rfl) (show TT 0 = (0, 12) from rfl) rfl (by decide) wF_X12_72 rfl ?_
        refine K_bipush (dt_at dtX12_balance 62 rfl) (by decide) ?_
        refine K_iload (dt_at dtX12_balance 63 rfl) rfl ?_
        refine K_iadd (dt_at dtX12_balance 64 rfl) ?_
        refine K_iald (dt_at dtX12_balance 65 rfl) (show TT 18 = (1, 154) from rfl) (by omega) (by omega) ?_
        rw [show hA hh 18 (57 + (k : Int)) = (f (29 + (k : Int))) from RV_s (MG_D0 G).2.2.2 (p := (k : Int)) (by omega) (by omega)]
        refine K_if_le (tgt := 119) (dt_at dtX12_balance 66 rfl) (by decide) (by first | assumption | exact ⟨by omega, by omega⟩) (fun c14 => ?_) (fun c14 => ?_)
        · refine K_iconst (dt_at dtX12_balance 69 rfl) ?_
          refine K_istore (ls' := [(8, vi 0), (5, vi ((rsN y k).tdiv 3)), (10, vi (sdN y k)), (9, vi (k : Int)), (6, vi (hvN (sW S) x y k)), (7, vi (usN y k)), (4, vi y), (2, vi W), (3, vi F), (0, vr 0), (1, vi x)]) (dt_at dtX12_balance 70 rfl) (by decide) rfl ?_
          refine K_iload (dt_at dtX12_balance 71 rfl) rfl ?_
          refine K_iload (dt_at dtX12_balance 72 rfl) rfl ?_
          refine K_iconst (dt_at dtX12_balance 73 rfl) ?_
          refine K_icmp_ne (tgt := 140) (dt_at dtX12_balance 74 rfl) (by decide) (by first | assumption | exact ⟨by omega, by omega⟩) (by first | assumption | exact ⟨by omega, by omega⟩) (fun c15 => ?_) (fun c15 => ?_)
          · refine K_iload (dt_at dtX12_balance 80 rfl) rfl ?_
            refine K_iconst (dt_at dtX12_balance 81 rfl) ?_
            refine K_icmp_ne (tgt := 158) (dt_at dtX12_balance 82 rfl) (by decide) (by first | assumption | exact ⟨by omega, by omega⟩) (by first | assumption | exact ⟨by omega, by omega⟩) (fun c16 => ?_) (fun c16 => ?_)
            · refine K_iconst (dt_at dtX12_balance 90 rfl) ?_
              refine K_iadd (dt_at dtX12_balance 91 rfl) ?_
              refine K_istore (ls' := [(6, vi ((hvN (sW S) x y k) + 0)), (8, vi 0), (5, vi ((rsN y k).tdiv 3)), (10, vi (sdN y k)), (9, vi (k : Int)), (7, vi (usN y k)), (4, vi y), (2, vi W), (3, vi F), (0, vr 0), (1, vi x)]) (dt_at dtX12_balance 92 rfl) (by decide) rfl ?_
              refine K_iload (dt_at dtX12_balance 93 rfl) rfl ?_
              refine K_iload (dt_at dtX12_balance 94 rfl) rfl ?_
              refine K_if_le (tgt := 173) (dt_at dtX12_balance 95 rfl) (by decide) (by first | assumption | exact ⟨by omega, by omega⟩) (fun c17 => ?_) (fun c17 => ?_)
              · refine K_iconst (dt_at dtX12_balance 98 rfl) ?_
                refine K_iadd (dt_at dtX12_balance 99 rfl) ?_
                refine K_istore (ls' := [(7, vi ((usN y k) + 0)), (6, vi ((hvN (sW S) x y k) + 0)), (8, vi 0), (5, vi ((rsN y k).tdiv 3)), (10, vi (sdN y k)), (9, vi (k : Int)), (4, vi y), (2, vi W), (3, vi F), (0, vr 0), (1, vi x)]) (dt_at dtX12_balance 100 rfl) (by decide) rfl ?_
                refine K_iinc (ls' := [(9, vi ((k : Int) + 1)), (7, vi ((usN y k) + 0)), (6, vi ((hvN (sW S) x y k) + 0)), (8, vi 0), (5, vi ((rsN y k).tdiv 3)), (10, vi (sdN y k)), (4, vi y), (2, vi W), (3, vi F), (0, vr 0), (1, vi x)]) (dt_at dtX12_balance 101 rfl) rfl (by decide) rfl ?_
                refine K_goto (tgt := 71) (dt_at dtX12_balance 102 rfl) (by decide) ?_
                have q6 : ((hvN (sW S) x y k) + 0) = hvN (sW S) x y (k + 1) := by show _ = (if sdN y k = 0 then hvN (sW S) x y k else if sdN y k = 1 then hvN (sW S) x y k + sW S (k : Int) else hvN (sW S) x y k + -(sW S (k : Int))); split <;> (try split) <;> omega
                have q7 : ((usN y k) + 0) = usN y (k + 1) := by show _ = (if sdN y k = 0 then usN y k else usN y k + 1); split <;> omega
                have q8 : 0 = cnN f y (k + 1) := by show _ = (if cnN f y k = 1 ∧ (sdN y k = 0 ∨ 0 < f (29 + (k : Int))) then (1 : Int) else 0); split <;> omega
                refine K_pk [0, 4, 2, 1, 3, 6, 7, 8, 9, 10] (ls' := [(9, vi ((k : Int) + 1)), (5, vi ((rsN y k).tdiv 3)), (6, vi ((hvN (sW S) x y k) + 0)), (7, vi ((usN y k) + 0)), (8, vi 0), (4, vi y), (2, vi W), (3, vi F), (0, vr 0), (1, vi x)]) rfl ?_
                exact K_cg (ls' := [(9, vi ((k + 1 : Nat) : Int)), (5, vi (rsN y (k + 1))), (6, vi (hvN (sW S) x y (k + 1))), (7, vi (usN y (k + 1))), (8, vi (cnN f y (k + 1))), (4, vi y), (2, vi W), (3, vi F), (0, vr 0), (1, vi x)]) (h' := hh) (by rw [← q6, ← q7, ← q8]; rfl) rfl (ih (k + 1) (by omega))
              · refine K_iconst (dt_at dtX12_balance 96 rfl) ?_
                refine K_goto (tgt := 174) (dt_at dtX12_balance 97 rfl) (by decide) ?_
                refine K_iadd (dt_at dtX12_balance 99 rfl) ?_
                refine K_istore (ls' := [(7, vi ((usN y k) + 1)), (6, vi ((hvN (sW S) x y k) + 0)), (8, vi 0), (5, vi ((rsN y k).tdiv 3)), (10, vi (sdN y k)), (9, vi (k : Int)), (4, vi y), (2, vi W), (3, vi F), (0, vr 0), (1, vi x)]) (dt_at dtX12_balance 100 rfl) (by decide) rfl ?_
                refine K_iinc (ls' := [(9, vi ((k : Int) + 1)), (7, vi ((usN y k) + 1)), (6, vi ((hvN (sW S) x y k) + 0)), (8, vi 0), (5, vi ((rsN y k).tdiv 3)), (10, vi (sdN y k)), (4, vi y), (2, vi W), (3, vi F), (0, vr 0), (1, vi x)]) (dt_at dtX12_balance 101 rfl) rfl (by decide) rfl ?_
                refine K_goto (tgt := 71) (dt_at dtX12_balance 102 rfl) (by decide) ?_
                have q6 : ((hvN (sW S) x y k) + 0) = hvN (sW S) x y (k + 1) := by show _ = (if sdN y k = 0 then hvN (sW S) x y k else if sdN y k = 1 then hvN (sW S) x y k + sW S (k : Int) else hvN (sW S) x y k + -(sW S (k : Int))); split <;> (try split) <;> omega
                have q7 : ((usN y k) + 1) = usN y (k + 1) := by show _ = (if sdN y k = 0 then usN y k else usN y k + 1); split <;> omega
                have q8 : 0 = cnN f y (k + 1) := by show _ = (if cnN f y k = 1 ∧ (sdN y k = 0 ∨ 0 < f (29 + (k : Int))) then (1 : Int) else 0); split <;> omega
                refine K_pk [0, 4, 2, 1, 3, 6, 7, 8, 9, 10] (ls' := [(9, vi ((k : Int) + 1)), (5, vi ((rsN y k).tdiv 3)), (6, vi ((hvN (sW S) x y k) + 0)), (7, vi ((usN y k) + 1)), (8, vi 0), (4, vi y), (2, vi W), (3, vi F), (0, vr 0), (1, vi x)]) rfl ?_
                exact K_cg (ls' := [(9, vi ((k + 1 : Nat) : Int)), (5, vi (rsN y (k + 1))), (6, vi (hvN (sW S) x y (k + 1))), (7, vi (usN y (k + 1))), (8, vi (cnN f y (k + 1))), (4, vi y), (2, vi W), (3, vi F), (0, vr 0), (1, vi x)]) (h' := hh) (by rw [← q6, ← q7, ← q8]; rfl) rfl (ih (k + 1) (by omega))
            · refine K_iconst (dt_at dtX12_balance 83 rfl) ?_
              refine K_aload_n (dt_at dtX12_balance 84 rfl) rfl rfl ?_
              refine K_get (a := 0) (ci := 12) (k := 5) (v := vr 1) (dt_at dtX12_balance 85 rfl) (show TT 0 = (0, 12) from rfl) rfl (by decide) wF_X12_16 rfl ?_
              refine K_iload (dt_at dtX12_balance 86 rfl) rfl ?_
              refine K_iald (dt_at dtX12_balance 87 rfl) (show TT 1 = (1, 6) from rfl) (by omega) (by omega) ?_
              rw [show hA hh 1 (k : Int) = sW S (k : Int) from MD_w (MG_D0 G) (by omega)]
              refine K_isub (dt_at dtX12_balance 88 rfl) ?_
              refine K_goto (tgt := 159) (dt_at dtX12_balance 89 rfl) (by decide) ?_
              refine K_iadd (dt_at dtX12_balance 91 rfl) ?_
              refine K_istore (ls' := [(6, vi ((hvN (sW S) x y k) + (0 - (sW S (k : Int))))), (8, vi 0), (5, vi ((rsN y k).tdiv 3)), (10, vi (sdN y k)), (9, vi (k : Int)), (7, vi (usN y k)), (4, vi y), (2, vi W), (3, vi F), (0, vr 0), (1, vi x)]) (dt_at dtX12_balance 92 rfl) (by decide) rfl ?_
              refine K_iload (dt_at dtX12_balance 93 rfl) rfl ?_
              refine K_iload (dt_at dtX12_balance 94 rfl) rfl ?_
              refine K_if_le (tgt := 173) (dt_at dtX12_balance 95 rfl) (by decide) (by first | assumption | exact ⟨by omega, by omega⟩) (fun c18 => ?_) (fun c18 => ?_)
              · refine K_iconst (dt_at dtX12_balance 98 rfl) ?_
                refine K_iadd (dt_at dtX12_balance 99 rfl) ?_
                refine K_istore (ls' := [(7, vi ((usN y k) + 0)), (6, vi ((hvN (sW S) x y k) + (0 - (sW S (k : Int))))), (8, vi 0), (5, vi ((rsN y k).tdiv 3)), (10, vi (sdN y k)), (9, vi (k : Int)), (4, vi y), (2, vi W), (3, vi F), (0, vr 0), (1, vi x)]) (dt_at dtX12_balance 100 rfl) (by decide) rfl ?_
                refine K_iinc (ls' := [(9, vi ((k : Int) + 1)), (7, vi ((usN y k) + 0)), (6, vi ((hvN (sW S) x y k) + (0 - (sW S (k : Int))))), (8, vi 0), (5, vi ((rsN y k).tdiv 3)), (10, vi (sdN y k)), (4, vi y), (2, vi W), (3, vi F), (0, vr 0), (1, vi x)]) (dt_at dtX12_balance 101 rfl) rfl (by decide) rfl ?_
                refine K_goto (tgt := 71) (dt_at dtX12_balance 102 rfl) (by decide) ?_
                have q6 : ((hvN (sW S) x y k) + (0 - (sW S (k : Int)))) = hvN (sW S) x y (k + 1) := by show _ = (if sdN y k = 0 then hvN (sW S) x y k else if sdN y k = 1 then hvN (sW S) x y k + sW S (k : Int) else hvN (sW S) x y k + -(sW S (k : Int))); split <;> (try split) <;> omega
                have q7 : ((usN y k) + 0) = usN y (k + 1) := by show _ = (if sdN y k = 0 then usN y k else usN y k + 1); split <;> omega
                have q8 : 0 = cnN f y (k + 1) := by show _ = (if cnN f y k = 1 ∧ (sdN y k = 0 ∨ 0 < f (29 + (k : Int))) then (1 : Int) else 0); split <;> omega
                refine K_pk [0, 4, 2, 1, 3, 6, 7, 8, 9, 10] (ls' := [(9, vi ((k : Int) + 1)), (5, vi ((rsN y k).tdiv 3)), (6, vi ((hvN (sW S) x y k) + (0 - (sW S (k : Int))))), (7, vi ((usN y k) + 0)), (8, vi 0), (4, vi y), (2, vi W), (3, vi F), (0, vr 0), (1, vi x)]) rfl ?_
                exact K_cg (ls' := [(9, vi ((k + 1 : Nat) : Int)), (5, vi (rsN y (k + 1))), (6, vi (hvN (sW S) x y (k + 1))), (7, vi (usN y (k + 1))), (8, vi (cnN f y (k + 1))), (4, vi y), (2, vi W), (3, vi F), (0, vr 0), (1, vi x)]) (h' := hh) (by rw [← q6, ← q7, ← q8]; rfl) rfl (ih (k + 1) (by omega))
              · refine K_iconst (dt_at dtX12_balance 96 rfl) ?_
                refine K_goto (tgt := 174) (dt_at dtX12_balance 97 rfl) (by decide) ?_
                refine K_iadd (dt_at dtX12_balance 99 rfl) ?_
                refine K_istore (ls' := [(7, vi ((usN y k) + 1)), (6, vi ((hvN (sW S) x y k) + (0 - (sW S (k : Int))))), (8, vi 0), (5, vi ((rsN y k).tdiv 3)), (10, vi (sdN y k)), (9, vi (k : Int)), (4, vi y), (2, vi W), (3, vi F), (0, vr 0), (1, vi x)]) (dt_at dtX12_balance 100 rfl) (by decide) rfl ?_
                refine K_iinc (ls' := [(9, vi ((k : Int) + 1)), (7, vi ((usN y k) + 1)), (6, vi ((hvN (sW S) x y k) + (0 - (sW S (k : Int))))), (8, vi 0), (5, vi ((rsN y k).tdiv 3)), (10, vi (sdN y k)), (4, vi y), (2, vi W), (3, vi F), (0, vr 0), (1, vi x)]) (dt_at dtX12_balance 101 rfl) rfl (by decide) rfl ?_
                refine K_goto (tgt := 71) (dt_at dtX12_balance 102 rfl) (by decide) ?_
                have q6 : ((hvN (sW S) x y k) + (0 - (sW S (k : Int)))) = hvN (sW S) x y (k + 1) := by show _ = (if sdN y k = 0 then hvN (sW S) x y k else if sdN y k = 1 then hvN (sW S) x y k + sW S (k : Int) else hvN (sW S) x y k + -(sW S (k : Int))); split <;> (try split) <;> omega
                have q7 : ((usN y k) + 1) = usN y (k + 1) := by show _ = (if sdN y k = 0 then usN y k else usN y k + 1); split <;> omega
                have q8 : 0 = cnN f y (k + 1) := by show _ = (if cnN f y k = 1 ∧ (sdN y k = 0 ∨ 0 < f (29 + (k : Int))) then (1 : Int) else 0); split <;> omega
                refine K_pk [0, 4, 2, 1, 3, 6, 7, 8, 9, 10] (ls' := [(9, vi ((k : Int) + 1)), (5, vi ((rsN y k).tdiv 3)), (6, vi ((hvN (sW S) x y k) + (0 - (sW S (k : Int))))), (7, vi ((usN y k) + 1)), (8, vi 0), (4, vi y), (2, vi W), (3, vi F), (0, vr 0), (1, vi x)]) rfl ?_
                exact K_cg (ls' := [(9, vi ((k + 1 : Nat) : Int)), (5, vi (rsN y (k + 1))), (6, vi (hvN (sW S) x y (k + 1))), (7, vi (usN y (k + 1))), (8, vi (cnN f y (k + 1))), (4, vi y), (2, vi W), (3, vi F), (0, vr 0), (1, vi x)]) (h' := hh) (by rw [← q6, ← q7, ← q8]; rfl) rfl (ih (k + 1) (by omega))
          · refine K_aload_n (dt_at dtX12_balance 75 rfl) rfl rfl ?_
            refine K_get (a := 0) (ci := 12) (k := 5) (v := vr 1) (dt_at dtX12_balance 76 rfl) (show TT 0 = (0, 12) from rfl) rfl (by decide) wF_X12_16 rfl ?_
            refine K_iload (dt_at dtX12_balance 77 rfl) rfl ?_
            refine K_iald (dt_at dtX12_balance 78 rfl) (show TT 1 = (1, 6) from rfl) (by omega) (by omega) ?_
            rw [show hA hh 1 (k : Int) = sW S (k : Int) from MD_w (MG_D0 G) (by omega)]
            refine K_goto (tgt := 159) (dt_at dtX12_balance 79 rfl) (by decide) ?_
            refine K_iadd (dt_at dtX12_balance 91 rfl) ?_
            refine K_istore (ls' := [(6, vi ((hvN (sW S) x y k) + (sW S (k : Int)))), (8, vi 0), (5, vi ((rsN y k).tdiv 3)), (10, vi (sdN y k)), (9, vi (k : Int)), (7, vi (usN y k)), (4, vi y), (2, vi W), (3, vi F), (0, vr 0), (1, vi x)]) (dt_at dtX12_balance 92 rfl) (by decide) rfl ?_
            refine K_iload (dt_at dtX12_balance 93 rfl) rfl ?_
            refine K_iload (dt_at dtX12_balance 94 rfl) rfl ?_
            refine K_if_le (tgt := 173) (dt_at dtX12_balance 95 rfl) (by decide) (by first | assumption | exact ⟨by omega, by omega⟩) (fun c19 => ?_) (fun c19 => ?_)
            · refine K_iconst (dt_at dtX12_balance 98 rfl) ?_
              refine K_iadd (dt_at dtX12_balance 99 rfl) ?_
              refine K_istore (ls' := [(7, vi ((usN y k) + 0)), (6, vi ((hvN (sW S) x y k) + (sW S (k : Int)))), (8, vi 0), (5, vi ((rsN y k).tdiv 3)), (10, vi (sdN y k)), (9, vi (k : Int)), (4, vi y), (2, vi W), (3, vi F), (0, vr 0), (1, vi x)]) (dt_at dtX12_balance 100 rfl) (by decide) rfl ?_
              refine K_iinc (ls' := [(9, vi ((k : Int) + 1)), (7, vi ((usN y k) + 0)), (6, vi ((hvN (sW S) x y k) + (sW S (k : Int)))), (8, vi 0), (5, vi ((rsN y k).tdiv 3)), (10, vi (sdN y k)), (4, vi y), (2, vi W), (3, vi F), (0, vr 0), (1, vi x)]) (dt_at dtX12_balance 101 rfl) rfl (by decide) rfl ?_
              refine K_goto (tgt := 71) (dt_at dtX12_balance 102 rfl) (by decide) ?_
              have q6 : ((hvN (sW S) x y k) + (sW S (k : Int))) = hvN (sW S) x y (k + 1) := by show _ = (if sdN y k = 0 then hvN (sW S) x y k else if sdN y k = 1 then hvN (sW S) x y k + sW S (k : Int) else hvN (sW S) x y k + -(sW S (k : Int))); split <;> (try split) <;> omega
              have q7 : ((usN y k) + 0) = usN y (k + 1) := by show _ = (if sdN y k = 0 then usN y k else usN y k + 1); split <;> omega
              have q8 : 0 = cnN f y (k + 1) := by show _ = (if cnN f y k = 1 ∧ (sdN y k = 0 ∨ 0 < f (29 + (k : Int))) then (1 : Int) else 0); split <;> omega
              refine K_pk [0, 4, 2, 1, 3, 6, 7, 8, 9, 10] (ls' := [(9, vi ((k : Int) + 1)), (5, vi ((rsN y k).tdiv 3)), (6, vi ((hvN (sW S) x y k) + (sW S (k : Int)))), (7, vi ((usN y k) + 0)), (8, vi 0), (4, vi y), (2, vi W), (3, vi F), (0, vr 0), (1, vi x)]) rfl ?_
              exact K_cg (ls' := [(9, vi ((k + 1 : Nat) : Int)), (5, vi (rsN y (k + 1))), (6, vi (hvN (sW S) x y (k + 1))), (7, vi (usN y (k + 1))), (8, vi (cnN f y (k + 1))), (4, vi y), (2, vi W), (3, vi F), (0, vr 0), (1, vi x)]) (h' := hh) (by rw [← q6, ← q7, ← q8]; rfl) rfl (ih (k + 1) (by omega))
            · refine K_iconst (dt_at dtX12_balance 96 rfl) ?_
              refine K_goto (tgt := 174) (dt_at dtX12_balance 97 rfl) (by decide) ?_
              refine K_iadd (dt_at dtX12_balance 99 rfl) ?_
              refine K_istore (ls' := [(7, vi ((usN y k) + 1)), (6, vi ((hvN (sW S) x y k) + (sW S (k : Int)))), (8, vi 0), (5, vi ((rsN y k).tdiv 3)), (10, vi (sdN y k)), (9, vi (k : Int)), (4, vi y), (2, vi W), (3, vi F), (0, vr 0), (1, vi x)]) (dt_at dtX12_balance 100 rfl) (by decide) rfl ?_
              refine K_iinc (ls' := [(9, vi ((k : Int) + 1)), (7, vi ((usN y k) + 1)), (6, vi ((hvN (sW S) x y k) + (sW S (k : Int)))), (8, vi 0), (5, vi ((rsN y k).tdiv 3)), (10, vi (sdN y k)), (4, vi y), (2, vi W), (3, vi F), (0, vr 0), (1, vi x)]) (dt_at dtX12_balance 101 rfl) rfl (by decide) rfl ?_
              refine K_goto (tgt := 71) (dt_at dtX12_balance 102 rfl) (by decide) ?_
              have q6 : ((hvN (sW S) x y k) + (sW S (k : Int))) = hvN (sW S) x y (k + 1) := by show _ = (if sdN y k = 0 then hvN (sW S) x y k else if sdN y k = 1 then hvN (sW S) x y k + sW S (k : Int) else hvN (sW S) x y k + -(sW S (k : Int))); split <;> (try split) <;> omega
              have q7 : ((usN y k) + 1) = usN y (k + 1) := by show _ = (if sdN y k = 0 then usN y k else usN y k + 1); split <;> omega
              have q8 : 0 = cnN f y (k + 1) := by show _ = (if cnN f y k = 1 ∧ (sdN y k = 0 ∨ 0 < f (29 + (k : Int))) then (1 : Int) else 0); split <;> omega
              refine K_pk [0, 4, 2, 1, 3, 6, 7, 8, 9, 10] (ls' := [(9, vi ((k : Int) + 1)), (5, vi ((rsN y k).tdiv 3)), (6, vi ((hvN (sW S) x y k) + (sW S (k : Int)))), (7, vi ((usN y k) + 1)), (8, vi 0), (4, vi y), (2, vi W), (3, vi F), (0, vr 0), (1, vi x)]) rfl ?_
              exact K_cg (ls' := [(9, vi ((k + 1 : Nat) : Int)), (5, vi (rsN y (k + 1))), (6, vi (hvN (sW S) x y (k + 1))), (7, vi (usN y (k + 1))), (8, vi (cnN f y (k + 1))), (4, vi y), (2, vi W), (3, vi F), (0, vr 0), (1, vi x)]) (h' := hh) (by rw [← q6, ← q7, ← q8]; rfl) rfl (ih (k + 1) (by omega))
        · refine K_iconst (dt_at dtX12_balance 67 rfl) ?_
          refine K_goto (tgt := 120) (dt_at dtX12_balance 68 rfl) (by decide) ?_
          refine K_istore (ls' := [(8, vi 1), (5, vi ((rsN y k).tdiv 3)), (10, vi (sdN y k)), (9, vi (k : Int)), (6, vi (hvN (sW S) x y k)), (7, vi (usN y k)), (4, vi y), (2, vi W), (3, vi F), (0, vr 0), (1, vi x)]) (dt_at dtX12_balance 70 rfl) (by decide) rfl ?_
          refine K_iload (dt_at dtX12_balance 71 rfl) rfl ?_
          refine K_iload (dt_at dtX12_balance 72 rfl) rfl ?_
          refine K_iconst (dt_at dtX12_balance 73 rfl) ?_
          refine K_icmp_ne (tgt := 140) (dt_at dtX12_balance 74 rfl) (by decide) (by first | assumption | exact ⟨by omega, by omega⟩) (by first | assumption | exact ⟨by omega, by omega⟩) (fun c20 => ?_) (fun c20 => ?_)
          · refine K_iload (dt_at dtX12_balance 80 rfl) rfl ?_
            refine K_iconst (dt_at dtX12_balance 81 rfl) ?_
            refine K_icmp_ne (tgt := 158) (dt_at dtX12_balance 82 rfl) (by decide) (by first | assumption | exact ⟨by omega, by omega⟩) (by first | assumption | exact ⟨by omega, by omega⟩) (fun c21 => ?_) (fun c21 => ?_)
            · refine K_iconst (dt_at dtX12_balance 90 rfl) ?_
              refine K_iadd (dt_at dtX12_balance 91 rfl) ?_
              refine K_istore (ls' := [(6, vi ((hvN (sW S) x y k) + 0)), (8, vi 1), (5, vi ((rsN y k).tdiv 3)), (10, vi (sdN y k)), (9, vi (k : Int)), (7, vi (usN y k)), (4, vi y), (2, vi W), (3, vi F), (0, vr 0), (1, vi x)]) (dt_at dtX12_balance 92 rfl) (by decide) rfl ?_
              refine K_iload (dt_at dtX12_balance 93 rfl) rfl ?_
              refine K_iload (dt_at dtX12_balance 94 rfl) rfl ?_
              refine K_if_le (tgt := 173) (dt_at dtX12_balance 95 rfl) (by decide) (by first | assumption | exact ⟨by omega, by omega⟩) (fun c22 => ?_) (fun c22 => ?_)
              · refine K_iconst (dt_at dtX12_balance 98 rfl) ?_
                refine K_iadd (dt_at dtX12_balance 99 rfl) ?_
                refine K_istore (ls' := [(7, vi ((usN y k) + 0)), (6, vi ((hvN (sW S) x y k) + 0)), (8, vi 1), (5, vi ((rsN y k).tdiv 3)), (10, vi (sdN y k)), (9, vi (k : Int)), (4, vi y), (2, vi W), (3, vi F), (0, vr 0), (1, vi x)]) (dt_at dtX12_balance 100 rfl) (by decide) rfl ?_
                refine K_iinc (ls' := [(9, vi ((k : Int) + 1)), (7, vi ((usN y k) + 0)), (6, vi ((hvN (sW S) x y k) + 0)), (8, vi 1), (5, vi ((rsN y k).tdiv 3)), (10, vi (sdN y k)), (4, vi y), (2, vi W), (3, vi F), (0, vr 0), (1, vi x)]) (dt_at dtX12_balance 101 rfl) rfl (by decide) rfl ?_
                refine K_goto (tgt := 71) (dt_at dtX12_balance 102 rfl) (by decide) ?_
                have q6 : ((hvN (sW S) x y k) + 0) = hvN (sW S) x y (k + 1) := by show _ = (if sdN y k = 0 then hvN (sW S) x y k else if sdN y k = 1 then hvN (sW S) x y k + sW S (k : Int) else hvN (sW S) x y k + -(sW S (k : Int))); split <;> (try split) <;> omega
                have q7 : ((usN y k) + 0) = usN y (k + 1) := by show _ = (if sdN y k = 0 then usN y k else usN y k + 1); split <;> omega
                have q8 : 1 = cnN f y (k + 1) := by show _ = (if cnN f y k = 1 ∧ (sdN y k = 0 ∨ 0 < f (29 + (k : Int))) then (1 : Int) else 0); split <;> omega
                refine K_pk [0, 4, 2, 1, 3, 6, 7, 8, 9, 10] (ls' := [(9, vi ((k : Int) + 1)), (5, vi ((rsN y k).tdiv 3)), (6, vi ((hvN (sW S) x y k) + 0)), (7, vi ((usN y k) + 0)), (8, vi 1), (4, vi y), (2, vi W), (3, vi F), (0, vr 0), (1, vi x)]) rfl ?_
                exact K_cg (ls' := [(9, vi ((k + 1 : Nat) : Int)), (5, vi (rsN y (k + 1))), (6, vi (hvN (sW S) x y (k + 1))), (7, vi (usN y (k + 1))), (8, vi (cnN f y (k + 1))), (4, vi y), (2, vi W), (3, vi F), (0, vr 0), (1, vi x)]) (h' := hh) (by rw [← q6, ← q7, ← q8]; rfl) rfl (ih (k + 1) (by omega))
              · refine K_iconst (dt_at dtX12_balance 96 rfl) ?_
                refine K_goto (tgt := 174) (dt_at dtX12_balance 97 rfl) (by decide) ?_
                refine K_iadd (dt_at dtX12_balance 99 rfl) ?_
                refine K_istore (ls' := [(7, vi ((usN y k) + 1)), (6, vi ((hvN (sW S) x y k) + 0)), (8, vi 1), (5, vi ((rsN y k).tdiv 3)), (10, vi (sdN y k)), (9, vi (k : Int)), (4, vi y), (2, vi W), (3, vi F), (0, vr 0), (1, vi x)]) (dt_at dtX12_balance 100 rfl) (by decide) rfl ?_
                refine K_iinc (ls' := [(9, vi ((k : Int) + 1)), (7, vi ((usN y k) + 1)), (6, vi ((hvN (sW S) x y k) + 0)), (8, vi 1), (5, vi ((rsN y k).tdiv 3)), (10, vi (sdN y k)), (4, vi y), (2, vi W), (3, vi F), (0, vr 0), (1, vi x)]) (dt_at dtX12_balance 101 rfl) rfl (by decide) rfl ?_
                refine K_goto (tgt := 71) (dt_at dtX12_balance 102 rfl) (by decide) ?_
                have q6 : ((hvN (sW S) x y k) + 0) = hvN (sW S) x y (k + 1) := by show _ = (if sdN y k = 0 then hvN (sW S) x y k else if sdN y k = 1 then hvN (sW S) x y k + sW S (k : Int) else hvN (sW S) x y k + -(sW S (k : Int))); split <;> (try split) <;> omega
                have q7 : ((usN y k) + 1) = usN y (k + 1) := by show _ = (if sdN y k = 0 then usN y k else usN y k + 1); split <;> omega
                have q8 : 1 = cnN f y (k + 1) := by show _ = (if cnN f y k = 1 ∧ (sdN y k = 0 ∨ 0 < f (29 + (k : Int))) then (1 : Int) else 0); split <;> omega
                refine K_pk [0, 4, 2, 1, 3, 6, 7, 8, 9, 10] (ls' := [(9, vi ((k : Int) + 1)), (5, vi ((rsN y k).tdiv 3)), (6, vi ((hvN (sW S) x y k) + 0)), (7, vi ((usN y k) + 1)), (8, vi 1), (4, vi y), (2, vi W), (3, vi F), (0, vr 0), (1, vi x)]) rfl ?_
                exact K_cg (ls' := [(9, vi ((k + 1 : Nat) : Int)), (5, vi (rsN y (k + 1))), (6, vi (hvN (sW S) x y (k + 1))), (7, vi (usN y (k + 1))), (8, vi (cnN f y (k + 1))), (4, vi y), (2, vi W), (3, vi F), (0, vr 0), (1, vi x)]) (h' := hh) (by rw [← q6, ← q7, ← q8]; rfl) rfl (ih (k + 1) (by omega))
            · refine K_iconst (dt_at dtX12_balance 83 rfl) ?_
              refine K_aload_n (dt_at dtX12_balance 84 rfl) rfl rfl ?_
              refine K_get (a := 0) (ci := 12) (k := 5) (v := vr 1) (dt_at dtX12_balance 85 rfl) (show TT 0 = (0, 12) from rfl) rfl (by decide) wF_X12_16 rfl ?_
              refine K_iload (dt_at dtX12_balance 86 rfl) rfl ?_
              refine K_iald (dt_at dtX12_balance 87 rfl) (show TT 1 = (1, 6) from rfl) (by omega) (by omega) ?_
              rw [show hA hh 1 (k : Int) = sW S (k : Int) from MD_w (MG_D0 G) (by omega)]
              refine K_isub (dt_at dtX12_balance 88 rfl) ?_
              refine K_goto (tgt := 159) (dt_at dtX12_balance 89 rfl) (by decide) ?_
              refine K_iadd (dt_at dtX12_balance 91 rfl) ?_
              refine K_istore (ls' := [(6, vi ((hvN (sW S) x y k) + (0 - (sW S (k : Int))))), (8, vi 1), (5, vi ((rsN y k).tdiv 3)), (10, vi (sdN y k)), (9, vi (k : Int)), (7, vi (usN y k)), (4, vi y), (2, vi W), (3, vi F), (0, vr 0), (1, vi x)]) (dt_at dtX12_balance 92 rfl) (by decide) rfl ?_
              refine K_iload (dt_at dtX12_balance 93 rfl) rfl ?_
              refine K_iload (dt_at dtX12_balance 94 rfl) rfl ?_
              refine K_if_le (tgt := 173) (dt_at dtX12_balance 95 rfl) (by decide) (by first | assumption | exact ⟨by omega, by omega⟩) (fun c23 => ?_) (fun c23 => ?_)
              · refine K_iconst (dt_at dtX12_balance 98 rfl) ?_
                refine K_iadd (dt_at dtX12_balance 99 rfl) ?_
                refine K_istore (ls' := [(7, vi ((usN y k) + 0)), (6, vi ((hvN (sW S) x y k) + (0 - (sW S (k : Int))))), (8, vi 1), (5, vi ((rsN y k).tdiv 3)), (10, vi (sdN y k)), (9, vi (k : Int)), (4, vi y), (2, vi W), (3, vi F), (0, vr 0), (1, vi x)]) (dt_at dtX12_balance 100 rfl) (by decide) rfl ?_
                refine K_iinc (ls' := [(9, vi ((k : Int) + 1)), (7, vi ((usN y k) + 0)), (6, vi ((hvN (sW S) x y k) + (0 - (sW S (k : Int))))), (8, vi 1), (5, vi ((rsN y k).tdiv 3)), (10, vi (sdN y k)), (4, vi y), (2, vi W), (3, vi F), (0, vr 0), (1, vi x)]) (dt_at dtX12_balance 101 rfl) rfl (by decide) rfl ?_
                refine K_goto (tgt := 71) (dt_at dtX12_balance 102 rfl) (by decide) ?_
                have q6 : ((hvN (sW S) x y k) + (0 - (sW S (k : Int)))) = hvN (sW S) x y (k + 1) := by show _ = (if sdN y k = 0 then hvN (sW S) x y k else if sdN y k = 1 then hvN (sW S) x y k + sW S (k : Int) else hvN (sW S) x y k + -(sW S (k : Int))); split <;> (try split) <;> omega
                have q7 : ((usN y k) + 0) = usN y (k + 1) := by show _ = (if sdN y k = 0 then usN y k else usN y k + 1); split <;> omega
                have q8 : 1 = cnN f y (k + 1) := by show _ = (if cnN f y k = 1 ∧ (sdN y k = 0 ∨ 0 < f (29 + (k : Int))) then (1 : Int) else 0); split <;> omega
                refine K_pk [0, 4, 2, 1, 3, 6, 7, 8, 9, 10] (ls' := [(9, vi ((k : Int) + 1)), (5, vi ((rsN y k).tdiv 3)), (6, vi ((hvN (sW S) x y k) + (0 - (sW S (k : Int))))), (7, vi ((usN y k) + 0)), (8, vi 1), (4, vi y), (2, vi W), (3, vi F), (0, vr 0), (1, vi x)]) rfl ?_
                exact K_cg (ls' := [(9, vi ((k + 1 : Nat) : Int)), (5, vi (rsN y (k + 1))), (6, vi (hvN (sW S) x y (k + 1))), (7, vi (usN y (k + 1))), (8, vi (cnN f y (k + 1))), (4, vi y), (2, vi W), (3, vi F), (0, vr 0), (1, vi x)]) (h' := hh) (by rw [← q6, ← q7, ← q8]; rfl) rfl (ih (k + 1) (by omega))
              · refine K_iconst (dt_at dtX12_balance 96 rfl) ?_
                refine K_goto (tgt := 174) (dt_at dtX12_balance 97 rfl) (by decide) ?_
                refine K_iadd (dt_at dtX12_balance 99 rfl) ?_
                refine K_istore (ls' := [(7, vi ((usN y k) + 1)), (6, vi ((hvN (sW S) x y k) + (0 - (sW S (k : Int))))), (8, vi 1), (5, vi ((rsN y k).tdiv 3)), (10, vi (sdN y k)), (9, vi (k : Int)), (4, vi y), (2, vi W), (3, vi F), (0, vr 0), (1, vi x)]) (dt_at dtX12_balance 100 rfl) (by decide) rfl ?_
                refine K_iinc (ls' := [(9, vi ((k : Int) + 1)), (7, vi ((usN y k) + 1)), (6, vi ((hvN (sW S) x y k) + (0 - (sW S (k : Int))))), (8, vi 1), (5, vi ((rsN y k).tdiv 3)), (10, vi (sdN y k)), (4, vi y), (2, vi W), (3, vi F), (0, vr 0), (1, vi x)]) (dt_at dtX12_balance 101 rfl) rfl (by decide) rfl ?_
                refine K_goto (tgt := 71) (dt_at dtX12_balance 102 rfl) (by decide) ?_
                have q6 : ((hvN (sW S) x y k) + (0 - (sW S (k : Int)))) = hvN (sW S) x y (k + 1) := by show _ = (if sdN y k = 0 then hvN (sW S) x y k else if sdN y k = 1 then hvN (sW S) x y k + sW S (k : Int) else hvN (sW S) x y k + -(sW S (k : Int))); split <;> (try split) <;> omega
                have q7 : ((usN y k) + 1) = usN y (k + 1) := by show _ = (if sdN y k = 0 then usN y k else usN y k + 1); split <;> omega
                have q8 : 1 = cnN f y (k + 1) := by show _ = (if cnN f y k = 1 ∧ (sdN y k = 0 ∨ 0 < f (29 + (k : Int))) then (1 : Int) else 0); split <;> omega
                refine K_pk [0, 4, 2, 1, 3, 6, 7, 8, 9, 10] (ls' := [(9, vi ((k : Int) + 1)), (5, vi ((rsN y k).tdiv 3)), (6, vi ((hvN (sW S) x y k) + (0 - (sW S (k : Int))))), (7, vi ((usN y k) + 1)), (8, vi 1), (4, vi y), (2, vi W), (3, vi F), (0, vr 0), (1, vi x)]) rfl ?_
                exact K_cg (ls' := [(9, vi ((k + 1 : Nat) : Int)), (5, vi (rsN y (k + 1))), (6, vi (hvN (sW S) x y (k + 1))), (7, vi (usN y (k + 1))), (8, vi (cnN f y (k + 1))), (4, vi y), (2, vi W), (3, vi F), (0, vr 0), (1, vi x)]) (h' := hh) (by rw [← q6, ← q7, ← q8]; rfl) rfl (ih (k + 1) (by omega))
          · refine K_aload_n (dt_at dtX12_balance 75 rfl) rfl rfl ?_
            refine K_get (a := 0) (ci := 12) (k := 5) (v := vr 1) (dt_at dtX12_balance 76 rfl) (show TT 0 = (0, 12) from rfl) rfl (by decide) wF_X12_16 rfl ?_
            refine K_iload (dt_at dtX12_balance 77 rfl) rfl ?_
            refine K_iald (dt_at dtX12_balance 78 rfl) (show TT 1 = (1, 6) from rfl) (by omega) (by omega) ?_
            rw [show hA hh 1 (k : Int) = sW S (k : Int) from MD_w (MG_D0 G) (by omega)]
            refine K_goto (tgt := 159) (dt_at dtX12_balance 79 rfl) (by decide) ?_
            refine K_iadd (dt_at dtX12_balance 91 rfl) ?_
            refine K_istore (ls' := [(6, vi ((hvN (sW S) x y k) + (sW S (k : Int)))), (8, vi 1), (5, vi ((rsN y k).tdiv 3)), (10, vi (sdN y k)), (9, vi (k : Int)), (7, vi (usN y k)), (4, vi y), (2, vi W), (3, vi F), (0, vr 0), (1, vi x)]) (dt_at dtX12_balance 92 rfl) (by decide) rfl ?_
            refine K_iload (dt_at dtX12_balance 93 rfl) rfl ?_
            refine K_iload (dt_at dtX12_balance 94 rfl) rfl ?_
            refine K_if_le (tgt := 173) (dt_at dtX12_balance 95 rfl) (by decide) (by first | assumption | exact ⟨by omega, by omega⟩) (fun c24 => ?_) (fun c24 => ?_)
            · refine K_iconst (dt_at dtX12_balance 98 rfl) ?_
              refine K_iadd (dt_at dtX12_balance 99 rfl) ?_
              refine K_istore (ls' := [(7, vi ((usN y k) + 0)), (6, vi ((hvN (sW S) x y k) + (sW S (k : Int)))), (8, vi 1), (5, vi ((rsN y k).tdiv 3)), (10, vi (sdN y k)), (9, vi (k : Int)), (4, vi y), (2, vi W), (3, vi F), (0, vr 0), (1, vi x)]) (dt_at dtX12_balance 100 rfl) (by decide) rfl ?_
              refine K_iinc (ls' := [(9, vi ((k : Int) + 1)), (7, vi ((usN y k) + 0)), (6, vi ((hvN (sW S) x y k) + (sW S (k : Int)))), (8, vi 1), (5, vi ((rsN y k).tdiv 3)), (10, vi (sdN y k)), (4, vi y), (2, vi W), (3, vi F), (0, vr 0), (1, vi x)]) (dt_at dtX12_balance 101 rfl) rfl (by decide) rfl ?_
              refine K_goto (tgt := 71) (dt_at dtX12_balance 102 rfl) (by decide) ?_
              have q6 : ((hvN (sW S) x y k) + (sW S (k : Int))) = hvN (sW S) x y (k + 1) := by show _ = (if sdN y k = 0 then hvN (sW S) x y k else if sdN y k = 1 then hvN (sW S) x y k + sW S (k : Int) else hvN (sW S) x y k + -(sW S (k : Int))); split <;> (try split) <;> omega
              have q7 : ((usN y k) + 0) = usN y (k + 1) := by show _ = (if sdN y k = 0 then usN y k else usN y k + 1); split <;> omega
              have q8 : 1 = cnN f y (k + 1) := by show _ = (if cnN f y k = 1 ∧ (sdN y k = 0 ∨ 0 < f (29 + (k : Int))) then (1 : Int) else 0); split <;> omega
              refine K_pk [0, 4, 2, 1, 3, 6, 7, 8, 9, 10] (ls' := [(9, vi ((k : Int) + 1)), (5, vi ((rsN y k).tdiv 3)), (6, vi ((hvN (sW S) x y k) + (sW S (k : Int)))), (7, vi ((usN y k) + 0)), (8, vi 1), (4, vi y), (2, vi W), (3, vi F), (0, vr 0), (1, vi x)]) rfl ?_
              exact K_cg (ls' := [(9, vi ((k + 1 : Nat) : Int)), (5, vi (rsN y (k + 1))), (6, vi (hvN (sW S) x y (k + 1))), (7, vi (usN y (k + 1))), (8, vi (cnN f y (k + 1))), (4, vi y), (2, vi W), (3, vi F), (0, vr 0), (1, vi x)]) (h' := hh) (by rw [← q6, ← q7, ← q8]; rfl) rfl (ih (k + 1) (by omega))
            · refine K_iconst (dt_at dtX12_balance 96 rfl) ?_
              refine K_goto (tgt := 174) (dt_at dtX12_balance 97 rfl) (by decide) ?_
              refine K_iadd (dt_at dtX12_balance 99 rfl) ?_
              refine K_istore (ls' := [(7, vi ((usN y k) + 1)), (6, vi ((hvN (sW S) x y k) + (sW S (k : Int)))), (8, vi 1), (5, vi ((rsN y k).tdiv 3)), (10, vi (sdN y k)), (9, vi (k : Int)), (4, vi y), (2, vi W), (3, vi F), (0, vr 0), (1, vi x)]) (dt_at dtX12_balance 100 rfl) (by decide) rfl ?_
              refine K_iinc (ls' := [(9, vi ((k : Int) + 1)), (7, vi ((usN y k) + 1)), (6, vi ((hvN (sW S) x y k) + (sW S (k : Int)))), (8, vi 1), (5, vi ((rsN y k).tdiv 3)), (10, vi (sdN y k)), (4, vi y), (2, vi W), (3, vi F), (0, vr 0), (1, vi x)]) (dt_at dtX12_balance 101 rfl) rfl (by decide) rfl ?_
              refine K_goto (tgt := 71) (dt_at dtX12_balance 102 rfl) (by decide) ?_
              have q6 : ((hvN (sW S) x y k) + (sW S (k : Int))) = hvN (sW S) x y (k + 1) := by show _ = (if sdN y k = 0 then hvN (sW S) x y k else if sdN y k = 1 then hvN (sW S) x y k + sW S (k : Int) else hvN (sW S) x y k + -(sW S (k : Int))); split <;> (try split) <;> omega
              have q7 : ((usN y k) + 1) = usN y (k + 1) := by show _ = (if sdN y k = 0 then usN y k else usN y k + 1); split <;> omega
              have q8 : 1 = cnN f y (k + 1) := by show _ = (if cnN f y k = 1 ∧ (sdN y k = 0 ∨ 0 < f (29 + (k : Int))) then (1 : Int) else 0); split <;> omega
              refine K_pk [0, 4, 2, 1, 3, 6, 7, 8, 9, 10] (ls' := [(9, vi ((k : Int) + 1)), (5, vi ((rsN y k).tdiv 3)), (6, vi ((hvN (sW S) x y k) + (sW S (k : Int)))), (7, vi ((usN y k) + 1)), (8, vi 1), (4, vi y), (2, vi W), (3, vi F), (0, vr 0), (1, vi x)]) rfl ?_
              exact K_cg (ls' := [(9, vi ((k + 1 : Nat) : Int)), (5, vi (rsN y (k + 1))), (6, vi (hvN (sW S) x y (k + 1))), (7, vi (usN y (k + 1))), (8, vi (cnN f y (k + 1))), (4, vi y), (2, vi W), (3, vi F), (0, vr 0), (1, vi x)]) (h' := hh) (by rw [← q6, ← q7, ← q8]; rfl) rfl (ih (k + 1) (by omega))
set_option maxHeartbeats 4000000 in
set_option maxRecDepth 100000 in
theorem l2_X12_balance {h hh : HP} {S : HS} {f g : Int → Int} {x : Int} (Q0 : MAsk h S f) (G : MG h hh S f g) (hx : 1 ≤ x ∧ x ≤ 99) : ∀ (dd k : Nat), k + dd = p3 (sNt S) → K mX12_balance GK (ZK (fun o h' => o = .inl (some (vi (fwN (fun k => tbF (sW S) f x (k : Int) (sNt S) 0) (p3 (sNt S))))) ∧ FQ h h' ∧ hI h' 0 0 = 0) 0 0) 0 0 49 [(4, vi (k : Int)), (3, vi (fwN (fun k => tbF (sW S) f x (k : Int) (sNt S) 0) k)), (2, vi (p3 (sNt S) : Int)), (0, vr 0), (1, vi x)] [] hh := by
  intro dd
  induction dd with
  | zero =>
    intro k hk
    have hB := Q0.1.1
    have hNt := hB.1
    have hNp := hB.2.1
    have R := Q0.2.2.2.2
    have hT := R.1
    have hW := hT.1
    have ek : k = p3 (sNt S) := by omega
    have pb := p3M_b (sNt S) hNt
    refine K_iload (dt_at dtX12_balance 31 rfl) rfl ?_
    refine K_iload_n (dt_at dtX12_balance 32 rfl) rfl rfl ?_
    refine K_icmp_ge (tgt := 213) (dt_at dtX12_balance 33 rfl) (by decide) (by first | assumption | exact ⟨by omega, by omega⟩) (by first | assumption | exact ⟨by omega, by omega⟩) (fun c1 => ?_) (fun c1 => absurd c1 (by omega))
    refine K_iload_n (dt_at dtX12_balance 117 rfl) rfl rfl ?_
    exact K_iret (dt_at dtX12_balance 118 rfl) rfl rfl (by decide) (by decide) ⟨by rw [ek], G.2.1, G.2.2.2⟩
  | succ dd ih =>
    intro k hk
    have hB := Q0.1.1
    have hNt := hB.1
    have hNp := hB.2.1
    have R := Q0.2.2.2.2
    have hT := R.1
    have hW := hT.1
    have pb := p3M_b (sNt S) hNt
    refine K_iload (dt_at dtX12_balance 31 rfl) rfl ?_
    refine K_iload_n (dt_at dtX12_balance 32 rfl) rfl rfl ?_
    refine K_icmp_ge (tgt := 213) (dt_at dtX12_balance 33 rfl) (by decide) (by first | assumption | exact ⟨by omega, by omega⟩) (by first | assumption | exact ⟨by omega, by omega⟩) (fun c1 => absurd c1 (by omega)) (fun c1 => ?_)
    refine K_iload (dt_at dtX12_balance 34 rfl) rfl ?_
    refine K_istore (ls' := [(5, vi (k : Int)), (4, vi (k : Int)), (3, vi (fwN (fun k => tbF (sW S) f x (k : Int) (sNt S) 0) k)), (2, vi (p3 (sNt S) : Int)), (0, vr 0), (1, vi x)]) (dt_at dtX12_balance 35 rfl) (by decide) rfl ?_
    refine K_iload_n (dt_at dtX12_balance 36 rfl) rfl rfl ?_
    refine K_istore (ls' := [(6, vi x), (5, vi (k : Int)), (4, vi (k : Int)), (3, vi (fwN (fun k => tbF (sW S) f x (k : Int) (sNt S) 0) k)), (2, vi (p3 (sNt S) : Int)), (0, vr 0), (1, vi x)]) (dt_at dtX12_balance 37 rfl) (by decide) rfl ?_
    refine K_iconst (dt_at dtX12_balance 38 rfl) ?_
    refine K_istore (ls' := [(7, vi 0), (6, vi x), (5, vi (k : Int)), (4, vi (k : Int)), (3, vi (fwN (fun k => tbF (sW S) f x (k : Int) (sNt S) 0) k)), (2, vi (p3 (sNt S) : Int)), (0, vr 0), (1, vi x)]) (dt_at dtX12_balance 39 rfl) (by decide) rfl ?_
    refine K_iconst (dt_at dtX12_balance 40 rfl) ?_
    refine K_istore (ls' := [(8, vi 1), (7, vi 0), (6, vi x), (5, vi (k : Int)), (4, vi (k : Int)), (3, vi (fwN (fun k => tbF (sW S) f x (k : Int) (sNt S) 0) k)), (2, vi (p3 (sNt S) : Int)), (0, vr 0), (1, vi x)]) (dt_at dtX12_balance 41 rfl) (by decide) rfl ?_
    refine K_iconst (dt_at dtX12_balance 42 rfl) ?_
    refine K_istore (ls' := [(9, vi 0), (8, vi 1), (7, vi 0), (6, vi x), (5, vi (k : Int)), (4, vi (k : Int)), (3, vi (fwN (fun k => tbF (sW S) f x (k : Int) (sNt S) 0) k)), (2, vi (p3 (sNt S) : Int)), (0, vr 0), (1, vi x)]) (dt_at dtX12_balance 43 rfl) (by decide) rfl ?_
    refine K_pk [0, 4, 3, 2, 1, 5, 7, 6, 8, 9] rfl (l3_X12_balance (y := (k : Int)) Q0 G hx (by omega) ?_ (sNt S) 0 (by omega))
    have cb := cnN_b f (k : Int) (sNt S)
    have ub := usN_b (k : Int) (sNt S)
    have hvb := hvN_b (w := sW S) (y := (k : Int)) (n := sNt S) hx (fun i a b => (hB.2.2.1 i a b).1) (sNt S) (Nat.le_refl _)
    have tb := tb_cn (w := sW S) (s := f) (x := x) (y := (k : Int)) (sNt S) 0 rfl
    rw [show 0 + sNt S = sNt S by omega] at tb
    have fb := fwN_b (u := (fun k => tbF (sW S) f x (k : Int) (sNt S) 0)) (M := 6) (by omega) (fun j => by have := tbF_b (sW S) f x (j : Int) (sNt S) 0; exact ⟨this.1, by omega⟩) k
    refine K_iload (dt_at dtX12_balance 103 rfl) rfl ?_
    refine K_if_eq (tgt := 207) (dt_at dtX12_balance 104 rfl) (by decide) (by first | assumption | exact ⟨by omega, by omega⟩) (fun c2 => ?_) (fun c2 => ?_)
    · refine K_iinc (ls' := [(4, vi ((k : Int) + 1)), (9, vi (sNt S : Int)), (5, vi (rsN (k : Int) (sNt S))), (6, vi (hvN (sW S) x (k : Int) (sNt S))), (7, vi (usN (k : Int) (sNt S))), (8, vi (cnN f (k : Int) (sNt S))), (2, vi (p3 (sNt S) : Int)), (3, vi (fwN (fun k => tbF (sW S) f x (k : Int) (sNt S) 0) k)), (0, vr 0), (1, vi x)]) (dt_at dtX12_balance 115 rfl) rfl (by decide) rfl ?_
      refine K_goto (tgt := 49) (dt_at dtX12_balance 116 rfl) (by decide) ?_
      refine K_pk [0, 7, 6, 8, 9] (ls' := [(4, vi ((k : Int) + 1)), (3, vi (fwN (fun k => tbF (sW S) f x (k : Int) (sNt S) 0) k)), (2, vi (p3 (sNt S) : Int)), (0, vr 0), (1, vi x)]) rfl ?_
      exact K_cg (ls' := [(4, vi ((k + 1 : Nat) : Int)), (3, vi (fwN (fun k => tbF (sW S) f x (k : Int) (sNt S) 0) (k + 1))), (2, vi (p3 (sNt S) : Int)), (0, vr 0), (1, vi x)]) (h' := hh) (by rw [fwN_f (u := (fun k => tbF (sW S) f x (k : Int) (sNt S) 0)) (by show ¬ (tbF (sW S) f x (k : Int) (sNt S) 0 ≠ -1 ∧ ((fwN (fun k => tbF (sW S) f x (k : Int) (sNt S) 0) k) = -1 ∨ tbF (sW S) f x (k : Int) (sNt S) 0 < (fwN (fun k => tbF (sW S) f x (k : Int) (sNt S) 0) k))); rw [tb]; split <;> omega)]; rfl) rfl (ih (k + 1) (by omega))
    · refine K_iload (dt_at dtX12_balance 105 rfl) rfl ?_
      refine K_if_ne (tgt := 207) (dt_at dtX12_balance 106 rfl) (by decide) (by first | assumption | exact ⟨by omega, by omega⟩) (fun c3 => ?_) (fun c3 => ?_)
      · refine K_iinc (ls' := [(4, vi ((k : Int) + 1)), (9, vi (sNt S : Int)), (5, vi (rsN (k : Int) (sNt S))), (6, vi (hvN (sW S) x (k : Int) (sNt S))), (7, vi (usN (k : Int) (sNt S))), (8, vi (cnN f (k : Int) (sNt S))), (2, vi (p3 (sNt S) : Int)), (3, vi (fwN (fun k => tbF (sW S) f x (k : Int) (sNt S) 0) k)), (0, vr 0), (1, vi x)]) (dt_at dtX12_balance 115 rfl) rfl (by decide) rfl ?_
        refine K_goto (tgt := 49) (dt_at dtX12_balance 116 rfl) (by decide) ?_
        refine K_pk [0, 7, 6, 8, 9] (ls' := [(4, vi ((k : Int) + 1)), (3, vi (fwN (fun k => tbF (sW S) f x (k : Int) (sNt S) 0) k)), (2, vi (p3 (sNt S) : Int)), (0, vr 0), (1, vi x)]) rfl ?_
        exact K_cg (ls' := [(4, vi ((k + 1 : Nat) : Int)), (3, vi (fwN (fun k => tbF (sW S) f x (k : Int) (sNt S) 0) (k + 1))), (2, vi (p3 (sNt S) : Int)), (0, vr 0), (1, vi x)]) (h' := hh) (by rw [fwN_f (u := (fun k => tbF (sW S) f x (k : Int) (sNt S) 0)) (by show ¬ (tbF (sW S) f x (k : Int) (sNt S) 0 ≠ -1 ∧ ((fwN (fun k => tbF (sW S) f x (k : Int) (sNt S) 0) k) = -1 ∨ tbF (sW S) f x (k : Int) (sNt S) 0 < (fwN (fun k => tbF (sW S) f x (k : Int) (sNt S) 0) k))); rw [tb]; split <;> omega)]; rfl) rfl (ih (k + 1) (by omega))
      · refine K_iload_n (dt_at dtX12_balance 107 rfl) rfl rfl ?_
        refine K_iconst (dt_at dtX12_balance 108 rfl) ?_
        refine K_icmp_eq (tgt := 204) (dt_at dtX12_balance 109 rfl) (by decide) (by first | assumption | exact ⟨by omega, by omega⟩) (by first | assumption | exact ⟨by omega, by omega⟩) (fun c4 => ?_) (fun c4 => ?_)
        · refine K_iload (dt_at dtX12_balance 113 rfl) rfl ?_
          refine K_istore_n (ls' := [(3, vi (usN (k : Int) (sNt S))), (9, vi (sNt S : Int)), (5, vi (rsN (k : Int) (sNt S))), (6, vi (hvN (sW S) x (k : Int) (sNt S))), (7, vi (usN (k : Int) (sNt S))), (8, vi (cnN f (k : Int) (sNt S))), (4, vi (k : Int)), (2, vi (p3 (sNt S) : Int)), (0, vr 0), (1, vi x)]) (dt_at dtX12_balance 114 rfl) rfl (by decide) rfl ?_
          refine K_iinc (ls' := [(4, vi ((k : Int) + 1)), (3, vi (usN (k : Int) (sNt S))), (9, vi (sNt S : Int)), (5, vi (rsN (k : Int) (sNt S))), (6, vi (hvN (sW S) x (k : Int) (sNt S))), (7, vi (usN (k : Int) (sNt S))), (8, vi (cnN f (k : Int) (sNt S))), (2, vi (p3 (sNt S) : Int)), (0, vr 0), (1, vi x)]) (dt_at dtX12_balance 115 rfl) rfl (by decide) rfl ?_
          refine K_goto (tgt := 49) (dt_at dtX12_balance 116 rfl) (by decide) ?_
          refine K_pk [0, 1, 7, 8, 9] (ls' := [(4, vi ((k : Int) + 1)), (3, vi (usN (k : Int) (sNt S))), (2, vi (p3 (sNt S) : Int)), (0, vr 0), (1, vi x)]) rfl ?_
          exact K_cg (ls' := [(4, vi ((k + 1 : Nat) : Int)), (3, vi (fwN (fun k => tbF (sW S) f x (k : Int) (sNt S) 0) (k + 1))), (2, vi (p3 (sNt S) : Int)), (0, vr 0), (1, vi x)]) (h' := hh) (by rw [fwN_t (u := (fun k => tbF (sW S) f x (k : Int) (sNt S) 0)) (by show tbF (sW S) f x (k : Int) (sNt S) 0 ≠ -1 ∧ ((fwN (fun k => tbF (sW S) f x (k : Int) (sNt S) 0) k) = -1 ∨ tbF (sW S) f x (k : Int) (sNt S) 0 < (fwN (fun k => tbF (sW S) f x (k : Int) (sNt S) 0) k)); rw [tb, if_pos (by omega)]; omega), tb, if_pos (by omega)]; rfl) rfl (ih (k + 1) (by omega))
        · refine K_iload (dt_at dtX12_balance 110 rfl) rfl ?_
          refine K_iload_n (dt_at dtX12_balance 111 rfl) rfl rfl ?_
          refine K_icmp_ge (tgt := 207) (dt_at dtX12_balance 112 rfl) (by decide) (by first | assumption | exact ⟨by omega, by omega⟩) (by first | assumption | exact ⟨by omega, by omega⟩) (fun c5 => ?_) (fun c5 => ?_)
          · refine K_iinc (ls' := [(4, vi ((k : Int) + 1)), (9, vi (sNt S : Int)), (5, vi (rsN (k : Int) (sNt S))), (6, vi (hvN (sW S) x (k : Int) (sNt S))), (7, vi (usN (k : Int) (sNt S))), (8, vi (cnN f (k : Int) (sNt S))), (2, vi (p3 (sNt S) : Int)), (3, vi (fwN (fun k => tbF (sW S) f x (k : Int) (sNt S) 0) k)), (0, vr 0), (1, vi x)]) (dt_at dtX12_balance 115 rfl) rfl (by decide) rfl ?_
            refine K_goto (tgt := 49) (dt_at dtX12_balance 116 rfl) (by decide) ?_
            refine K_pk [0, 7, 6, 8, 9] (ls' := [(4, vi ((k : Int) + 1)), (3, vi (fwN (fun k => tbF (sW S) f x (k : Int) (sNt S) 0) k)), (2, vi (p3 (sNt S) : Int)), (0, vr 0), (1, vi x)]) rfl ?_
            exact K_cg (ls' := [(4, vi ((k + 1 : Nat) : Int)), (3, vi (fwN (fun k => tbF (sW S) f x (k : Int) (sNt S) 0) (k + 1))), (2, vi (p3 (sNt S) : Int)), (0, vr 0), (1, vi x)]) (h' := hh) (by rw [fwN_f (u := (fun k => tbF (sW S) f x (k : Int) (sNt S) 0)) (by show ¬ (tbF (sW S) f x (k : Int) (sNt S) 0 ≠ -1 ∧ ((fwN (fun k => tbF (sW S) f x (k : Int) (sNt S) 0) k) = -1 ∨ tbF (sW S) f x (k : Int) (sNt S) 0 < (fwN (fun k => tbF (sW S) f x (k : Int) (sNt S) 0) k))); rw [tb]; split <;> omega)]; rfl) rfl (ih (k + 1) (by omega))
          · refine K_iload (dt_at dtX12_balance 113 rfl) rfl ?_
            refine K_istore_n (ls' := [(3, vi (usN (k : Int) (sNt S))), (9, vi (sNt S : Int)), (5, vi (rsN (k : Int) (sNt S))), (6, vi (hvN (sW S) x (k : Int) (sNt S))), (7, vi (usN (k : Int) (sNt S))), (8, vi (cnN f (k : Int) (sNt S))), (4, vi (k : Int)), (2, vi (p3 (sNt S) : Int)), (0, vr 0), (1, vi x)]) (dt_at dtX12_balance 114 rfl) rfl (by decide) rfl ?_
            refine K_iinc (ls' := [(4, vi ((k : Int) + 1)), (3, vi (usN (k : Int) (sNt S))), (9, vi (sNt S : Int)), (5, vi (rsN (k : Int) (sNt S))), (6, vi (hvN (sW S) x (k : Int) (sNt S))), (7, vi (usN (k : Int) (sNt S))), (8, vi (cnN f (k : Int) (sNt S))), (2, vi (p3 (sNt S) : Int)), (0, vr 0), (1, vi x)]) (dt_at dtX12_balance 115 rfl) rfl (by decide) rfl ?_
            refine K_goto (tgt := 49) (dt_at dtX12_balance 116 rfl) (by decide) ?_
            refine K_pk [0, 1, 7, 8, 9] (ls' := [(4, vi ((k : Int) + 1)), (3, vi (usN (k : Int) (sNt S))), (2, vi (p3 (sNt S) : Int)), (0, vr 0), (1, vi x)]) rfl ?_
            exact K_cg (ls' := [(4, vi ((k + 1 : Nat) : Int)), (3, vi (fwN (fun k => tbF (sW S) f x (k : Int) (sNt S) 0) (k + 1))), (2, vi (p3 (sNt S) : Int)), (0, vr 0), (1, vi x)]) (h' := hh) (by rw [fwN_t (u := (fun k => tbF (sW S) f x (k : Int) (sNt S) 0)) (by show tbF (sW S) f x (k : Int) (sNt S) 0 ≠ -1 ∧ ((fwN (fun k => tbF (sW S) f x (k : Int) (sNt S) 0) k) = -1 ∨ tbF (sW S) f x (k : Int) (sNt S) 0 < (fwN (fun k => tbF (sW S) f x (k : Int) (sNt S) 0) k)); rw [tb, if_pos (by omega)]; omega), tb, if_pos (by omega)]; rfl) rfl (ih (k + 1) (by omega))
set_option maxHeartbeats 4000000 in
set_option maxRecDepth 100000 in
theorem l1_X12_balance {h hh : HP} {S : HS} {f g : Int → Int} {x : Int} (Q0 : MAsk h S f) (G : MG h hh S f g) (hx : 1 ≤ x ∧ x ≤ 99) : ∀ (dd k : Nat), k + dd = sNt S → K mX12_balance GK (ZK (fun o h' => o = .inl (some (vi (fwN (fun k => tbF (sW S) f x (k : Int) (sNt S) 0) (p3 (sNt S))))) ∧ FQ h h' ∧ hI h' 0 0 = 0) 0 0) 0 0 26 [(3, vi (k : Int)), (2, vi (p3 k : Int)), (0, vr 0), (1, vi x)] [] hh := by
  intro dd
  induction dd with
  | zero =>
    intro k hk
    have hB := Q0.1.1
    have hNt := hB.1
    have hNp := hB.2.1
    have R := Q0.2.2.2.2
    have hT := R.1
    have hW := hT.1
    have ek : k = sNt S := by omega
    refine K_iload_n (dt_at dtX12_balance 17 rfl) rfl rfl ?_
    refine K_aload_n (dt_at dtX12_balance 18 rfl) rfl rfl ?_
    refine K_get (a := 0) (ci := 12) (k := 1) (v := vi (sNt S : Int)) (dt_at dtX12_balance 19 rfl) (show TT 0 = (0, 12) from rfl) rfl (by decide) wF_X12_267 (by show vi (hI hh 0 1) = vi (sNt S : Int); rw [(MD_nt (MG_D0 G))]) ?_
    refine K_icmp_ge (tgt := 44) (dt_at dtX12_balance 20 rfl) (by decide) (by first | assumption | exact ⟨by omega, by omega⟩) (by first | assumption | exact ⟨by omega, by omega⟩) (fun c1 => ?_) (fun c1 => absurd c1 (by omega))
    refine K_iconst (dt_at dtX12_balance 27 rfl) ?_
    refine K_istore_n (ls' := [(3, vi (-1)), (2, vi (p3 k : Int)), (0, vr 0), (1, vi x)]) (dt_at dtX12_balance 28 rfl) rfl (by decide) rfl ?_
    refine K_iconst (dt_at dtX12_balance 29 rfl) ?_
    refine K_istore (ls' := [(4, vi 0), (3, vi (-1)), (2, vi (p3 k : Int)), (0, vr 0), (1, vi x)]) (dt_at dtX12_balance 30 rfl) (by decide) rfl ?_
    exact K_pk [0, 1, 2, 3, 4] (ls' := [(4, vi 0), (3, vi (-1)), (2, vi (p3 k : Int)), (0, vr 0), (1, vi x)]) rfl (K_cg (ls' := [(4, vi ((0 : Nat) : Int)), (3, vi (-1)), (2, vi (p3 (sNt S) : Int)), (0, vr 0), (1, vi x)]) (h' := hh) (by rw [ek]; rfl) rfl (l2_X12_balance Q0 G hx (p3 (sNt S)) 0 (by omega)))
  | succ dd ih =>
    intro k hk
    have hB := Q0.1.1
    have hNt := hB.1
    have hNp := hB.2.1
    have R := Q0.2.2.2.2
    have hT := R.1
    have hW := hT.1
    refine K_iload_n (dt_at dtX12_balance 17 rfl) rfl rfl ?_
    refine K_aload_n (dt_at dtX12_balance 18 rfl) rfl rfl ?_
    refine K_get (a := 0) (ci := 12) (k := 1) (v := vi (sNt S : Int)) (dt_at dtX12_balance 19 rfl) (show TT 0 = (0, 12) from rfl) rfl (by decide) wF_X12_267 (by show vi (hI hh 0 1) = vi (sNt S : Int); rw [(MD_nt (MG_D0 G))]) ?_
    refine K_icmp_ge (tgt := 44) (dt_at dtX12_balance 20 rfl) (by decide) (by first | assumption | exact ⟨by omega, by omega⟩) (by first | assumption | exact ⟨by omega, by omega⟩) (fun c1 => absurd c1 (by omega)) (fun c1 => ?_)
    refine K_iload_n (dt_at dtX12_balance 21 rfl) rfl rfl ?_
    refine K_iconst (dt_at dtX12_balance 22 rfl) ?_
    refine K_imul (dt_at dtX12_balance 23 rfl) ?_
    refine K_istore_n (ls' := [(2, vi ((p3 k : Int) * 3)), (3, vi (k : Int)), (0, vr 0), (1, vi x)]) (dt_at dtX12_balance 24 rfl) rfl (by decide) rfl ?_
    refine K_iinc (ls' := [(3, vi ((k : Int) + 1)), (2, vi ((p3 k : Int) * 3)), (0, vr 0), (1, vi x)]) (dt_at dtX12_balance 25 rfl) rfl (by decide) rfl ?_
    refine K_goto (tgt := 26) (dt_at dtX12_balance 26 rfl) (by decide) ?_
    refine K_pk [0, 1, 2, 3] (ls' := [(3, vi ((k : Int) + 1)), (2, vi ((p3 k : Int) * 3)), (0, vr 0), (1, vi x)]) rfl ?_
    exact K_cg (ls' := [(3, vi ((k + 1 : Nat) : Int)), (2, vi (p3 (k + 1) : Int)), (0, vr 0), (1, vi x)]) (h' := hh) (by rw [show (p3 k : Int) * 3 = (p3 (k + 1) : Int) by show _ = ((p3 k * 3 : Nat) : Int); omega]; rfl) rfl (ih (k + 1) (by omega))
set_option maxHeartbeats 4000000 in
set_option maxRecDepth 100000 in
theorem sX12_balance {h : HP} {S : HS} {f : Int → Int} {x : Int} (Q0 : MAsk h S f) (hx : 1 ≤ x ∧ x ≤ 99) : SpecK mX12_balance [vr 0, vi x] h (fun o h' => o = .inl (some (vi (fwN (fun k => tbF (sW S) f x (k : Int) (sNt S) 0) (p3 (sNt S))))) ∧ FQ h h' ∧ hI h' 0 0 = 0) := by
  refine Spec_of (by decide +kernel) (Nat.le_of_ble_eq_true rfl) ?_
  have hB := Q0.1.1
  have hNt := hB.1
  have hNp := hB.2.1
  have R := Q0.2.2.2.2
  have hT := R.1
  have hW := hT.1
  refine K_aload_n (dt_at dtX12_balance 0 rfl) rfl rfl ?_
  refine K_iconst (dt_at dtX12_balance 1 rfl) ?_
  refine K_putI (a := 0) (ci := 12) (k := 0) (dt_at dtX12_balance 2 rfl) (show TT 0 = (0, 12) from rfl) rfl (by decide) wF_X12_105 rfl (Or.inl rfl) rfl rfl ?_
  obtain ⟨hu1, eu1⟩ : ∃ z, z = sI h 0 0 0 := ⟨_, rfl⟩
  rw [← eu1]
  obtain ⟨iu1, fu1, au1, ru1⟩ := sI_fx eu1
  have Gu1 := MG_0 Q0 eu1
  refine K_aload_n (dt_at dtX12_balance 3 rfl) rfl rfl ?_
  refine K_iload_n (dt_at dtX12_balance 4 rfl) rfl rfl ?_
  refine K_iconst (dt_at dtX12_balance 5 rfl) ?_
  refine K_bipush (dt_at dtX12_balance 6 rfl) (by decide) ?_
  refine K_callS (M' := mX12_within) (As := [vi x, vi 1, vi 99]) (st := [vr 0]) (dt_at dtX12_balance 7 rfl) (sX12_within (by first | assumption | exact ⟨by omega, by omega⟩) ⟨by omega, by omega⟩ ⟨by omega, by omega⟩) wL_X12_346 vX12_within rfl npX12_within (by decide) (by decide) (Nat.le_of_ble_eq_true rfl) (by decide) (by decide) GK_E (fun v9 h9 hq => ?_) (fun E h9 hq => by cases hq.1)
  obtain ⟨e9, e8⟩ := hq
  cases e9
  rw [e8]
  show K mX12_balance _ _ 0 0 13 [(0, vr 0), (1, vi x)] [vi (if 1 ≤ x ∧ x ≤ 99 then 1 else 0), vr 0] hu1
  by_cases z1 : 1 ≤ x ∧ x ≤ 99
  · rw [if_pos z1]
    refine K_iconst (dt_at dtX12_balance 8 rfl) ?_
    refine K_callV (M' := mX12_right) (a := 0) (ci := 12) (As := [vi 1, vi 1]) (st := []) (dt_at dtX12_balance 9 rfl) (sX12_right_t Gu1.2.2.2) (show TT 0 = (0, 12) from rfl) rfl wL_X12_260 vX12_right rfl npX12_right (by decide) (by decide) (Nat.le_of_ble_eq_true rfl) (by decide) (by decide) GK_E (fun v9 h9 hq => ?_) (fun E h9 hq => by cases hq.1)
    obtain ⟨e9, e8⟩ := hq
    cases e9
    rw [e8]
    show K mX12_balance _ _ 0 0 17 [(0, vr 0), (1, vi x)] [vi 1] hu1
    refine K_if_ne (tgt := 22) (dt_at dtX12_balance 10 rfl) (by decide) (by first | assumption | exact ⟨by omega, by omega⟩) (fun c2 => ?_) (fun c2 => absurd c2 (by omega))
    refine K_iconst (dt_at dtX12_balance 13 rfl) ?_
    refine K_istore_n (ls' := [(2, vi 1), (0, vr 0), (1, vi x)]) (dt_at dtX12_balance 14 rfl) rfl (by decide) rfl ?_
    refine K_iconst (dt_at dtX12_balance 15 rfl) ?_
    refine K_istore_n (ls' := [(3, vi 0), (2, vi 1), (0, vr 0), (1, vi x)]) (dt_at dtX12_balance 16 rfl) rfl (by decide) rfl ?_
    exact K_pk [0, 1, 2, 3] rfl (l1_X12_balance Q0 Gu1 hx (sNt S) 0 (by omega))
  · rw [if_neg z1]
    refine K_iconst (dt_at dtX12_balance 8 rfl) ?_
    exact (by omega : False).elim
