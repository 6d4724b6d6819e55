def mX12_lesser : MI := (yX12_lesser, cX12_lesser, 2, (some .int), rmK 1 0)
def tX12_lesser : List (Nat × Instr × Nat) := [(0, .iload_n 0, 1), (1, .iload_n 1, 1), (2, .if_icmp .ge 7, 3), (5, .iload_n 0, 1), (6, .goto 4, 3), (9, .iload_n 1, 1), (10, .ireturn, 1)]
theorem dtX12_lesser : tX12_lesser.all (fun q => decide (decode cX12_lesser q.1 = .ok (q.2.1, q.2.2))) = true := by decide +kernel
theorem npX12_lesser : (parseMethodDescriptor (mY mX12_lesser).desc).map (fun d => d.parameters.length) = some 2 := by decide +kernel
theorem vX12_lesser : mS mX12_lesser := ⟨wT_X12_lesser, wN_X12, wC_X12_lesser, by decide +kernel, by decide +kernel⟩
set_option maxHeartbeats 4000000 in
set_option maxRecDepth 100000 in
theorem sX12_lesser {h : HP} {x y : Int} (hx : i32 x) (hy : i32 y) : SpecK mX12_lesser [vi x, vi y] h (fun o h' => o = .inl (some (vi (min x y))) ∧ h' = h) := by
  refine Spec_of (by decide +kernel) (Nat.le_of_ble_eq_true rfl) ?_
  refine K_iload_n (dt_at dtX12_lesser 0 rfl) rfl rfl ?_
  refine K_iload_n (dt_at dtX12_lesser 1 rfl) rfl rfl ?_
  refine K_icmp_ge (tgt := 9) (dt_at dtX12_lesser 2 rfl) (by decide) (by first | assumption | exact ⟨by omega, by omega⟩) (by first | assumption | exact ⟨by omega, by omega⟩) (fun c1 => ?_) (fun c1 => ?_)
  · refine K_iload_n (dt_at dtX12_lesser 5 rfl) rfl rfl ?_
    exact K_iret (dt_at dtX12_lesser 6 rfl) rfl rfl (by decide) (by decide) ⟨by rw [show min x y = y by omega], rfl⟩
  · refine K_iload_n (dt_at dtX12_lesser 3 rfl) rfl rfl ?_
    refine K_goto (tgt := 10) (dt_at dtX12_lesser 4 rfl) (by decide) ?_
    exact K_iret (dt_at dtX12_lesser 6 rfl) rfl rfl (by decide) (by decide) ⟨by rw [show min x y = x by omega], rfl⟩
def mX12_greater : MI := (yX12_greater, cX12_greater, 2, (some .int), rmK 1 0)
def tX12_greater : List (Nat × Instr × Nat) := [(0, .iload_n 0, 1), (1, .iload_n 1, 1), (2, .if_icmp .le 7, 3), (5, .iload_n 0, 1), (6, .goto 4, 3), (9, .iload_n 1, 1), (10, .ireturn, 1)]
theorem dtX12_greater : tX12_greater.all (fun q => decide (decode cX12_greater q.1 = .ok (q.2.1, q.2.2))) = true := by decide +kernel
theorem npX12_greater : (parseMethodDescriptor (mY mX12_greater).desc).map (fun d => d.parameters.length) = some 2 := by decide +kernel
theorem vX12_greater : mS mX12_greater := ⟨wT_X12_greater, wN_X12, wC_X12_greater, by decide +kernel, by decide +kernel⟩
set_option maxHeartbeats 4000000 in
set_option maxRecDepth 100000 in
theorem sX12_greater {h : HP} {x y : Int} (hx : i32 x) (hy : i32 y) : SpecK mX12_greater [vi x, vi y] h (fun o h' => o = .inl (some (vi (max x y))) ∧ h' = h) := by
  refine Spec_of (by decide +kernel) (Nat.le_of_ble_eq_true rfl) ?_
  refine K_iload_n (dt_at dtX12_greater 0 rfl) rfl rfl ?_
  refine K_iload_n (dt_at dtX12_greater 1 rfl) rfl rfl ?_
  refine K_icmp_le (tgt := 9) (dt_at dtX12_greater 2 rfl) (by decide) (by first | assumption | exact ⟨by omega, by omega⟩) (by first | assumption | exact ⟨by omega, by omega⟩) (fun c1 => ?_) (fun c1 => ?_)
  · refine K_iload_n (dt_at dtX12_greater 5 rfl) rfl rfl ?_
    exact K_iret (dt_at dtX12_greater 6 rfl) rfl rfl (by decide) (by decide) ⟨by rw [show max x y = y by omega], rfl⟩
  · refine K_iload_n (dt_at dtX12_greater 3 rfl) rfl rfl ?_
    refine K_goto (tgt := 10) (dt_at dtX12_greater 4 rfl) (by decide) ?_
    exact K_iret (dt_at dtX12_greater 6 rfl) rfl rfl (by decide) (by decide) ⟨by rw [show max x y = x by omega], rfl⟩
def mX12_bounded : MI := (yX12_bounded, cX12_bounded, 3, (some .int), rmK 1 0)
def tX12_bounded : List (Nat × Instr × Nat) := [(0, .iload_n 0, 1), (1, .iload_n 1, 1), (2, .if_icmp .ge 7, 3), (5, .iload_n 1, 1), (6, .goto 13, 3), (9, .iload_n 0, 1), (10, .iload_n 2, 1), (11, .if_icmp .le 7, 3), (14, .iload_n 2, 1), (15, .goto 4, 3), (18, .iload_n 0, 1), (19, .ireturn, 1)]
theorem dtX12_bounded : tX12_bounded.all (fun q => decide (decode cX12_bounded q.1 = .ok (q.2.1, q.2.2))) = true := by decide +kernel
theorem npX12_bounded : (parseMethodDescriptor (mY mX12_bounded).desc).map (fun d => d.parameters.length) = some 3 := by decide +kernel
theorem vX12_bounded : mS mX12_bounded := ⟨wT_X12_bounded, wN_X12, wC_X12_bounded, by decide +kernel, by decide +kernel⟩
set_option maxHeartbeats 4000000 in
set_option maxRecDepth 100000 in
theorem sX12_bounded {h : HP} {x : Int} (hx : i32 x) : SpecK mX12_bounded [vi x, vi 0, vi 9] h (fun o h' => o = .inl (some (vi (max 0 (min 9 x)))) ∧ h' = h) := by
  refine Spec_of (by decide +kernel) (Nat.le_of_ble_eq_true rfl) ?_
  refine K_iload_n (dt_at dtX12_bounded 0 rfl) rfl rfl ?_
  refine K_iload_n (dt_at dtX12_bounded 1 rfl) rfl rfl ?_
  refine K_icmp_ge (tgt := 9) (dt_at dtX12_bounded 2 rfl) (by decide) (by first | assumption | exact ⟨by omega, by omega⟩) (by first | assumption | exact ⟨by omega, by omega⟩) (fun c1 => ?_) (fun c1 => ?_)
  · refine K_iload_n (dt_at dtX12_bounded 5 rfl) rfl rfl ?_
    refine K_iload_n (dt_at dtX12_bounded 6 rfl) rfl rfl ?_
    refine K_icmp_le (tgt := 18) (dt_at dtX12_bounded 7 rfl) (by decide) (by first | assumption | exact ⟨by omega, by omega⟩) (by first | assumption | exact ⟨by omega, by omega⟩) (fun c2 => ?_) (fun c2 => ?_)
    · refine K_iload_n (dt_at dtX12_bounded 10 rfl) rfl rfl ?_
      exact K_iret (dt_at dtX12_bounded 11 rfl) rfl rfl (by decide) (by decide) ⟨by rw [show max 0 (min 9 x) = x by omega], rfl⟩
    · refine K_iload_n (dt_at dtX12_bounded 8 rfl) rfl rfl ?_
      refine K_goto (tgt := 19) (dt_at dtX12_bounded 9 rfl) (by decide) ?_
      exact K_iret (dt_at dtX12_bounded 11 rfl) rfl rfl (by decide) (by decide) ⟨by rw [show max 0 (min 9 x) = 9 by omega], rfl⟩
  · refine K_iload_n (dt_at dtX12_bounded 3 rfl) rfl rfl ?_
    refine K_goto (tgt := 19) (dt_at dtX12_bounded 4 rfl) (by decide) ?_
    exact K_iret (dt_at dtX12_bounded 11 rfl) rfl rfl (by decide) (by decide) ⟨by rw [show max 0 (min 9 x) = 0 by omega], rfl⟩
def mX12_within : MI := (yX12_within, cX12_within, 3, (some .boolean), rmK 1 0)
def tX12_within : List (Nat × Instr × Nat) := [(0, .iload_n 0, 1), (1, .iload_n 1, 1), (2, .if_icmp .lt 12, 3), (5, .iload_n 0, 1), (6, .iload_n 2, 1), (7, .if_icmp .gt 7, 3), (10, .iconst 1, 1), (11, .goto 4, 3), (14, .iconst 0, 1), (15, .ireturn, 1)]
theorem dtX12_within : tX12_within.all (fun q => decide (decode cX12_within q.1 = .ok (q.2.1, q.2.2))) = true := by decide +kernel
theorem npX12_within : (parseMethodDescriptor (mY mX12_within).desc).map (fun d => d.parameters.length) = some 3 := by decide +kernel
theorem vX12_within : mS mX12_within := ⟨wT_X12_within, wN_X12, wC_X12_within, by decide +kernel, by decide +kernel⟩
set_option maxHeartbeats 4000000 in
set_option maxRecDepth 100000 in
theorem sX12_within {h : HP} {x y z : Int} (hx : i32 x) (hy : i32 y) (hz : i32 z) : SpecK mX12_within [vi x, vi y, vi z] h (fun o h' => o = .inl (some (vi (if y ≤ x ∧ x ≤ z then 1 else 0))) ∧ h' = h) := by
  refine Spec_of (by decide +kernel) (Nat.le_of_ble_eq_true rfl) ?_
  refine K_iload_n (dt_at dtX12_within 0 rfl) rfl rfl ?_
  refine K_iload_n (dt_at dtX12_within 1 rfl) rfl rfl ?_
  refine K_icmp_lt (tgt := 14) (dt_at dtX12_within 2 rfl) (by decide) (by first | assumption | exact ⟨by omega, by omega⟩) (by first | assumption | exact ⟨by omega, by omega⟩) (fun c1 => ?_) (fun c1 => ?_)
  · refine K_iconst (dt_at dtX12_within 8 rfl) ?_
    exact K_iret (dt_at dtX12_within 9 rfl) rfl (by decide) (by decide) (by decide) ⟨by rw [if_neg (by omega)], rfl⟩
  · refine K_iload_n (dt_at dtX12_within 3 rfl) rfl rfl ?_
    refine K_iload_n (dt_at dtX12_within 4 rfl) rfl rfl ?_
    refine K_icmp_gt (tgt := 14) (dt_at dtX12_within 5 rfl) (by decide) (by first | assumption | exact ⟨by omega, by omega⟩) (by first | assumption | exact ⟨by omega, by omega⟩) (fun c2 => ?_) (fun c2 => ?_)
    · refine K_iconst (dt_at dtX12_within 8 rfl) ?_
      exact K_iret (dt_at dtX12_within 9 rfl) rfl (by decide) (by decide) (by decide) ⟨by rw [if_neg (by omega)], rfl⟩
    · refine K_iconst (dt_at dtX12_within 6 rfl) ?_
      refine K_goto (tgt := 15) (dt_at dtX12_within 7 rfl) (by decide) ?_
      exact K_iret (dt_at dtX12_within 9 rfl) rfl (by decide) (by decide) (by decide) ⟨by rw [if_pos (by omega)], rfl⟩
def mX12_bits : MI := (yX12_bits, cX12_bits, 3, (some .int), rmK 1 0)
def tX12_bits : List (Nat × Instr × Nat) := [(0, .iconst 0, 1), (1, .istore_n 1, 1), (2, .iconst 0, 1), (3, .istore_n 2, 1), (4, .iload_n 2, 1), (5, .bipush 7, 2), (7, .if_icmp .ge 17, 3), (10, .iload_n 1, 1), (11, .iload_n 0, 1), (12, .iload_n 2, 1), (13, .ishr, 1), (14, .iconst 1, 1), (15, .iand, 1), (16, .iadd, 1), (17, .istore_n 1, 1), (18, .iinc 2 1, 3), (21, .goto (-17), 3), (24, .iload_n 1, 1), (25, .ireturn, 1)]
theorem dtX12_bits : tX12_bits.all (fun q => decide (decode cX12_bits q.1 = .ok (q.2.1, q.2.2))) = true := by decide +kernel
theorem npX12_bits : (parseMethodDescriptor (mY mX12_bits).desc).map (fun d => d.parameters.length) = some 1 := by decide +kernel
theorem vX12_bits : mS mX12_bits := ⟨wT_X12_bits, wN_X12, wC_X12_bits, by decide +kernel, by decide +kernel⟩
/-- how many of seven bits -/
def bitC (x : Int) : Int := (itN (fun k v => v + bAnd (bShr x (k : Int)) 1) 0 7)
set_option maxHeartbeats 4000000 in
set_option maxRecDepth 100000 in
theorem lp_X12_bits {Z : CT → State → Prop} {h : HP} {x : Int}  (kx : K mX12_bits GK Z 0 0 24 [(2, vi (7 : Int)), (1, vi (itN (fun k v => v + bAnd (bShr x (k : Int)) 1) 0 7)), (0, vi x)] [] h) : ∀ (d k : Nat), k + d = 7 → K mX12_bits GK Z 0 0 4 [(2, vi (k : Int)), (1, vi (itN (fun k v => v + bAnd (bShr x (k : Int)) 1) 0 k)), (0, vi x)] [] h := by
  intro d
  induction d with
  | zero =>
    intro k hk
    obtain rfl : 7 = k := by omega
    refine K_iload_n (dt_at dtX12_bits 4 rfl) rfl rfl ?_
    refine K_bipush (dt_at dtX12_bits 5 rfl) (by decide) ?_
    refine K_icmp_ge (tgt := 24) (dt_at dtX12_bits 6 rfl) (by decide) (by first | assumption | exact ⟨by omega, by omega⟩) (by first | assumption | exact ⟨by omega, by omega⟩) (fun c1 => ?_) (fun c1 => absurd c1 (by omega))
    exact K_pk [0, 1, 2] rfl kx
  | succ d ih =>
    intro k hk
    refine K_iload_n (dt_at dtX12_bits 4 rfl) rfl rfl ?_
    refine K_bipush (dt_at dtX12_bits 5 rfl) (by decide) ?_
    refine K_icmp_ge (tgt := 24) (dt_at dtX12_bits 6 rfl) (by decide) (by first | assumption | exact ⟨by omega, by omega⟩) (by first | assumption | exact ⟨by omega, by omega⟩) (fun c1 => absurd c1 (by omega)) (fun c1 => ?_)
    refine K_iload_n (dt_at dtX12_bits 7 rfl) rfl rfl ?_
    refine K_iload_n (dt_at dtX12_bits 8 rfl) rfl rfl ?_
    refine K_iload_n (dt_at dtX12_bits 9 rfl) rfl rfl ?_
    refine K_ishr (dt_at dtX12_bits 10 rfl) ?_
    refine K_iconst (dt_at dtX12_bits 11 rfl) ?_
    refine K_iand (dt_at dtX12_bits 12 rfl) ?_
    refine K_iadd (dt_at dtX12_bits 13 rfl) ?_
    refine K_istore_n (ls' := [(1, vi ((itN (fun k v => v + bAnd (bShr x (k : Int)) 1) 0 k) + (bAnd (bShr x (k : Int)) 1))), (2, vi (k : Int)), (0, vi x)]) (dt_at dtX12_bits 14 rfl) rfl (by decide) rfl ?_
    refine K_iinc (ls' := [(2, vi ((k : Int) + 1)), (1, vi ((itN (fun k v => v + bAnd (bShr x (k : Int)) 1) 0 k) + (bAnd (bShr x (k : Int)) 1))), (0, vi x)]) (dt_at dtX12_bits 15 rfl) rfl (by decide) rfl ?_
    refine K_goto (tgt := 4) (dt_at dtX12_bits 16 rfl) (by decide) ?_
    refine K_pk [0, 1, 2] (ls' := [(2, vi ((k : Int) + 1)), (1, vi ((itN (fun k v => v + bAnd (bShr x (k : Int)) 1) 0 k) + (bAnd (bShr x (k : Int)) 1))), (0, vi x)]) rfl ?_
    exact K_cg (ls' := [(2, vi ((k + 1 : Nat) : Int)), (1, vi (itN (fun k v => v + bAnd (bShr x (k : Int)) 1) 0 (k + 1))), (0, vi x)]) (h' := h) (by rfl) (by rfl) (ih (k + 1) (by omega))
set_option maxHeartbeats 4000000 in
set_option maxRecDepth 100000 in
theorem sX12_bits {h : HP} {x : Int}  : SpecK mX12_bits [vi x] h (fun o h' => o = .inl (some (vi (bitC x))) ∧ h' = h) := by
  refine Spec_of (by decide +kernel) (Nat.le_of_ble_eq_true rfl) ?_
  refine K_iconst (dt_at dtX12_bits 0 rfl) ?_
  refine K_istore_n (ls' := [(1, vi 0), (0, vi x)]) (dt_at dtX12_bits 1 rfl) rfl (by decide) rfl ?_
  refine K_iconst (dt_at dtX12_bits 2 rfl) ?_
  refine K_istore_n (ls' := [(2, vi 0), (1, vi 0), (0, vi x)]) (dt_at dtX12_bits 3 rfl) rfl (by decide) rfl ?_
  refine K_pk [0, 1, 2] rfl (lp_X12_bits  ?_ 7 0 (by omega))
  refine K_iload_n (dt_at dtX12_bits 17 rfl) rfl rfl ?_
  exact K_iret (dt_at dtX12_bits 18 rfl) rfl rfl (by decide) (by decide) ⟨rfl, rfl⟩
def mX12_works : MI := (yX12_works, cX12_works, 3, (some .int), rmK 1 0)
def tX12_works : List (Nat × Instr × Nat) := [(0, .iload_n 0, 1), (1, .tableswitch 105 4 10 #[43, 57, 71, 82, 93, 97, 101], 43), (44, .iload_n 1, 1), (45, .ifCond .eq 11, 3), (48, .iload_n 2, 1), (49, .ifCond .eq 7, 3), (52, .iconst 1, 1), (53, .goto 4, 3), (56, .iconst 0, 1), (57, .ireturn, 1), (58, .iload_n 1, 1), (59, .ifCond .ne 7, 3), (62, .iload_n 2, 1), (63, .ifCond .eq 7, 3), (66, .iconst 1, 1), (67, .goto 4, 3), (70, .iconst 0, 1), (71, .ireturn, 1), (72, .iload_n 1, 1), (73, .iload_n 2, 1), (74, .if_icmp .ge 7, 3), (77, .iconst 1, 1), (78, .goto 4, 3), (81, .iconst 0, 1), (82, .ireturn, 1), (83, .iload_n 1, 1), (84, .iload_n 2, 1), (85, .if_icmp .ne 7, 3), (88, .iconst 1, 1), (89, .goto 4, 3), (92, .iconst 0, 1), (93, .ireturn, 1), (94, .iload_n 1, 1), (95, .iload_n 2, 1), (96, .iadd, 1), (97, .ireturn, 1), (98, .iload_n 1, 1), (99, .iload_n 2, 1), (100, .isub, 1), (101, .ireturn, 1), (102, .iload_n 1, 1), (103, .iload_n 2, 1), (104, .imul, 1), (105, .ireturn, 1), (106, .iload_n 2, 1), (107, .ifCond .ne 7, 3), (110, .iconst 0, 1), (111, .goto 6, 3), (114, .iload_n 1, 1), (115, .iload_n 2, 1), (116, .idiv, 1), (117, .ireturn, 1)]
theorem dtX12_works : tX12_works.all (fun q => decide (decode cX12_works q.1 = .ok (q.2.1, q.2.2))) = true := by decide +kernel
theorem npX12_works : (parseMethodDescriptor (mY mX12_works).desc).map (fun d => d.parameters.length) = some 3 := by decide +kernel
theorem vX12_works : mS mX12_works := ⟨wT_X12_works, wN_X12, wC_X12_works, by decide +kernel, by decide +kernel⟩
set_option maxHeartbeats 4000000 in
set_option maxRecDepth 100000 in
theorem sX12_works_17 {h : HP} {a b : Int} (ha : i32 a) (hb : i32 b) : SpecK mX12_works [vi 11, vi a, vi b] h (fun o h' => o = .inl (some (vi (joinF (-17) a b))) ∧ h' = h) := by
  refine Spec_of (by decide +kernel) (Nat.le_of_ble_eq_true rfl) ?_
  refine K_iload_n (dt_at dtX12_works 0 rfl) rfl rfl ?_
  refine K_tableOut (tgt := 106) (dt_at dtX12_works 1 rfl) ⟨by decide, by decide⟩ (by decide) (by decide) ?_
  refine K_iload_n (dt_at dtX12_works 44 rfl) rfl rfl ?_
  refine K_if_ne (tgt := 114) (dt_at dtX12_works 45 rfl) (by decide) hb (fun c1 => ?_) (fun c1 => ?_)
  · refine K_iload_n (dt_at dtX12_works 48 rfl) rfl rfl ?_
    refine K_iload_n (dt_at dtX12_works 49 rfl) rfl rfl ?_
    refine K_idiv (dt_at dtX12_works 50 rfl) ha hb (by omega) ?_
    refine K_same (y := wr (a.tdiv b)) (wr_same _) ?_
    exact K_iret (dt_at dtX12_works 51 rfl) rfl rfl (by decide) (by decide) ⟨by rw [show joinF (-17) a b = (if b = 0 then 0 else wr (a.tdiv b)) from rfl, if_neg (by assumption)], rfl⟩
  · refine K_iconst (dt_at dtX12_works 46 rfl) ?_
    refine K_goto (tgt := 117) (dt_at dtX12_works 47 rfl) (by decide) ?_
    exact K_iret (dt_at dtX12_works 51 rfl) rfl rfl (by decide) (by decide) ⟨by rw [show joinF (-17) a b = (if b = 0 then 0 else wr (a.tdiv b)) from rfl, if_pos (by assumption)], rfl⟩
set_option maxHeartbeats 4000000 in
set_option maxRecDepth 100000 in
theorem sX12_works_16 {h : HP} {a b : Int} (ha : i32 a) (hb : i32 b) : SpecK mX12_works [vi 10, vi a, vi b] h (fun o h' => o = .inl (some (vi (joinF (-16) a b))) ∧ h' = h) := by
  refine Spec_of (by decide +kernel) (Nat.le_of_ble_eq_true rfl) ?_
  refine K_iload_n (dt_at dtX12_works 0 rfl) rfl rfl ?_
  refine K_tableIn (tgt := 102) (dt_at dtX12_works 1 rfl) ⟨by decide, by decide⟩ (by decide) (by decide) rfl (by decide) ?_
  refine K_iload_n (dt_at dtX12_works 40 rfl) rfl rfl ?_
  refine K_iload_n (dt_at dtX12_works 41 rfl) rfl rfl ?_
  refine K_imul (dt_at dtX12_works 42 rfl) ?_
  refine K_same (y := wr (a * b)) (wr_same _) ?_
  exact K_iret (dt_at dtX12_works 43 rfl) rfl rfl (by decide) (by decide) ⟨rfl, rfl⟩
set_option maxHeartbeats 4000000 in
set_option maxRecDepth 100000 in
theorem sX12_works_15 {h : HP} {a b : Int} (ha : i32 a) (hb : i32 b) : SpecK mX12_works [vi 9, vi a, vi b] h (fun o h' => o = .inl (some (vi (joinF (-15) a b))) ∧ h' = h) := by
  refine Spec_of (by decide +kernel) (Nat.le_of_ble_eq_true rfl) ?_
  refine K_iload_n (dt_at dtX12_works 0 rfl) rfl rfl ?_
  refine K_tableIn (tgt := 98) (dt_at dtX12_works 1 rfl) ⟨by decide, by decide⟩ (by decide) (by decide) rfl (by decide) ?_
  refine K_iload_n (dt_at dtX12_works 36 rfl) rfl rfl ?_
  refine K_iload_n (dt_at dtX12_works 37 rfl) rfl rfl ?_
  refine K_isub (dt_at dtX12_works 38 rfl) ?_
  refine K_same (y := wr (a - b)) (wr_same _) ?_
  exact K_iret (dt_at dtX12_works 39 rfl) rfl rfl (by decide) (by decide) ⟨rfl, rfl⟩
set_option maxHeartbeats 4000000 in
set_option maxRecDepth 100000 in
theorem sX12_works_14 {h : HP} {a b : Int} (ha : i32 a) (hb : i32 b) : SpecK mX12_works [vi 8, vi a, vi b] h (fun o h' => o = .inl (some (vi (joinF (-14) a b))) ∧ h' = h) := by
  refine Spec_of (by decide +kernel) (Nat.le_of_ble_eq_true rfl) ?_
  refine K_iload_n (dt_at dtX12_works 0 rfl) rfl rfl ?_
  refine K_tableIn (tgt := 94) (dt_at dtX12_works 1 rfl) ⟨by decide, by decide⟩ (by decide) (by decide) rfl (by decide) ?_
  refine K_iload_n (dt_at dtX12_works 32 rfl) rfl rfl ?_
  refine K_iload_n (dt_at dtX12_works 33 rfl) rfl rfl ?_
  refine K_iadd (dt_at dtX12_works 34 rfl) ?_
  refine K_same (y := wr (a + b)) (wr_same _) ?_
  exact K_iret (dt_at dtX12_works 35 rfl) rfl rfl (by decide) (by decide) ⟨rfl, rfl⟩
set_option maxHeartbeats 4000000 in
set_option maxRecDepth 100000 in
theorem sX12_works_13 {h : HP} {a b : Int} (ha : i32 a) (hb : i32 b) : SpecK mX12_works [vi 7, vi a, vi b] h (fun o h' => o = .inl (some (vi (joinF (-13) a b))) ∧ h' = h) := by
  refine Spec_of (by decide +kernel) (Nat.le_of_ble_eq_true rfl) ?_
  refine K_iload_n (dt_at dtX12_works 0 rfl) rfl rfl ?_
  refine K_tableIn (tgt := 83) (dt_at dtX12_works 1 rfl) ⟨by decide, by decide⟩ (by decide) (by decide) rfl (by decide) ?_
  refine K_iload_n (dt_at dtX12_works 25 rfl) rfl rfl ?_
  refine K_iload_n (dt_at dtX12_works 26 rfl) rfl rfl ?_
  refine K_icmp_ne (tgt := 92) (dt_at dtX12_works 27 rfl) (by decide) ha hb (fun c1 => ?_) (fun c1 => ?_)
  · refine K_iconst (dt_at dtX12_works 30 rfl) ?_
    exact K_iret (dt_at dtX12_works 31 rfl) rfl rfl (by decide) (by decide) ⟨by rw [show joinF (-13) a b = (if a = b then 1 else 0) from rfl, if_neg (by omega)], rfl⟩
  · refine K_iconst (dt_at dtX12_works 28 rfl) ?_
    refine K_goto (tgt := 93) (dt_at dtX12_works 29 rfl) (by decide) ?_
    exact K_iret (dt_at dtX12_works 31 rfl) rfl rfl (by decide) (by decide) ⟨by rw [show joinF (-13) a b = (if a = b then 1 else 0) from rfl, if_pos (by omega)], rfl⟩
set_option maxHeartbeats 4000000 in
set_option maxRecDepth 100000 in
theorem sX12_works_12 {h : HP} {a b : Int} (ha : i32 a) (hb : i32 b) : SpecK mX12_works [vi 6, vi a, vi b] h (fun o h' => o = .inl (some (vi (joinF (-12) a b))) ∧ h' = h) := by
  refine Spec_of (by decide +kernel) (Nat.le_of_ble_eq_true rfl) ?_
  refine K_iload_n (dt_at dtX12_works 0 rfl) rfl rfl ?_
  refine K_tableIn (tgt := 72) (dt_at dtX12_works 1 rfl) ⟨by decide, by decide⟩ (by decide) (by decide) rfl (by decide) ?_
  refine K_iload_n (dt_at dtX12_works 18 rfl) rfl rfl ?_
  refine K_iload_n (dt_at dtX12_works 19 rfl) rfl rfl ?_
  refine K_icmp_ge (tgt := 81) (dt_at dtX12_works 20 rfl) (by decide) ha hb (fun c1 => ?_) (fun c1 => ?_)
  · refine K_iconst (dt_at dtX12_works 23 rfl) ?_
    exact K_iret (dt_at dtX12_works 24 rfl) rfl rfl (by decide) (by decide) ⟨by rw [show joinF (-12) a b = (if a < b then 1 else 0) from rfl, if_neg (by omega)], rfl⟩
  · refine K_iconst (dt_at dtX12_works 21 rfl) ?_
    refine K_goto (tgt := 82) (dt_at dtX12_works 22 rfl) (by decide) ?_
    exact K_iret (dt_at dtX12_works 24 rfl) rfl rfl (by decide) (by decide) ⟨by rw [show joinF (-12) a b = (if a < b then 1 else 0) from rfl, if_pos (by omega)], rfl⟩
set_option maxHeartbeats 4000000 in
set_option maxRecDepth 100000 in
theorem sX12_works_11 {h : HP} {a b : Int} (ha : i32 a) (hb : i32 b) : SpecK mX12_works [vi 4, vi a, vi b] h (fun o h' => o = .inl (some (vi (joinF (-11) a b))) ∧ h' = h) := by
  refine Spec_of (by decide +kernel) (Nat.le_of_ble_eq_true rfl) ?_
  refine K_iload_n (dt_at dtX12_works 0 rfl) rfl rfl ?_
  refine K_tableIn (tgt := 44) (dt_at dtX12_works 1 rfl) ⟨by decide, by decide⟩ (by decide) (by decide) rfl (by decide) ?_
  refine K_iload_n (dt_at dtX12_works 2 rfl) rfl rfl ?_
  refine K_if_eq (tgt := 56) (dt_at dtX12_works 3 rfl) (by decide) ha (fun c1 => ?_) (fun c1 => ?_)
  · refine K_iconst (dt_at dtX12_works 8 rfl) ?_
    exact K_iret (dt_at dtX12_works 9 rfl) rfl rfl (by decide) (by decide) ⟨by rw [show joinF (-11) a b = (if a ≠ 0 ∧ b ≠ 0 then 1 else 0) from rfl, if_neg (by omega)], rfl⟩
  · refine K_iload_n (dt_at dtX12_works 4 rfl) rfl rfl ?_
    refine K_if_eq (tgt := 56) (dt_at dtX12_works 5 rfl) (by decide) hb (fun c2 => ?_) (fun c2 => ?_)
    · refine K_iconst (dt_at dtX12_works 8 rfl) ?_
      exact K_iret (dt_at dtX12_works 9 rfl) rfl rfl (by decide) (by decide) ⟨by rw [show joinF (-11) a b = (if a ≠ 0 ∧ b ≠ 0 then 1 else 0) from rfl, if_neg (by omega)], rfl⟩
    · refine K_iconst (dt_at dtX12_works 6 rfl) ?_
      refine K_goto (tgt := 57) (dt_at dtX12_works 7 rfl) (by decide) ?_
      exact K_iret (dt_at dtX12_works 9 rfl) rfl rfl (by decide) (by decide) ⟨by rw [show joinF (-11) a b = (if a ≠ 0 ∧ b ≠ 0 then 1 else 0) from rfl, if_pos (by omega)], rfl⟩
set_option maxHeartbeats 4000000 in
set_option maxRecDepth 100000 in
theorem sX12_works_10 {h : HP} {a b : Int} (ha : i32 a) (hb : i32 b) : SpecK mX12_works [vi 5, vi a, vi b] h (fun o h' => o = .inl (some (vi (joinF (-10) a b))) ∧ h' = h) := by
  refine Spec_of (by decide +kernel) (Nat.le_of_ble_eq_true rfl) ?_
  refine K_iload_n (dt_at dtX12_works 0 rfl) rfl rfl ?_
  refine K_tableIn (tgt := 58) (dt_at dtX12_works 1 rfl) ⟨by decide, by decide⟩ (by decide) (by decide) rfl (by decide) ?_
  refine K_iload_n (dt_at dtX12_works 10 rfl) rfl rfl ?_
  refine K_if_ne (tgt := 66) (dt_at dtX12_works 11 rfl) (by decide) ha (fun c1 => ?_) (fun c1 => ?_)
  · refine K_iconst (dt_at dtX12_works 14 rfl) ?_
    refine K_goto (tgt := 71) (dt_at dtX12_works 15 rfl) (by decide) ?_
    exact K_iret (dt_at dtX12_works 17 rfl) rfl rfl (by decide) (by decide) ⟨by rw [show joinF (-10) a b = (if a ≠ 0 ∨ b ≠ 0 then 1 else 0) from rfl, if_pos (by omega)], rfl⟩
  · refine K_iload_n (dt_at dtX12_works 12 rfl) rfl rfl ?_
    refine K_if_eq (tgt := 70) (dt_at dtX12_works 13 rfl) (by decide) hb (fun c2 => ?_) (fun c2 => ?_)
    · refine K_iconst (dt_at dtX12_works 16 rfl) ?_
      exact K_iret (dt_at dtX12_works 17 rfl) rfl rfl (by decide) (by decide) ⟨by rw [show joinF (-10) a b = (if a ≠ 0 ∨ b ≠ 0 then 1 else 0) from rfl, if_neg (by omega)], rfl⟩
    · refine K_iconst (dt_at dtX12_works 14 rfl) ?_
      refine K_goto (tgt := 71) (dt_at dtX12_works 15 rfl) (by decide) ?_
      exact K_iret (dt_at dtX12_works 17 rfl) rfl rfl (by decide) (by decide) ⟨by rw [show joinF (-10) a b = (if a ≠ 0 ∨ b ≠ 0 then 1 else 0) from rfl, if_pos (by omega)], rfl⟩
theorem sX12_works {h : HP} {s a b : Int} (hs : -17 ≤ s ∧ s < -9) (ha : i32 a) (hb : i32 b) : SpecK mX12_works [vi (opF s), vi a, vi b] h (fun o h' => o = .inl (some (vi (joinF s a b))) ∧ h' = h) := by
  rcases (show s = -10 ∨ s = -11 ∨ s = -12 ∨ s = -13 ∨ s = -14 ∨ s = -15 ∨ s = -16 ∨ s = -17 by omega) with rfl | rfl | rfl | rfl | rfl | rfl | rfl | rfl
  · exact sX12_works_10 ha hb
  · exact sX12_works_11 ha hb
  · exact sX12_works_12 ha hb
  · exact sX12_works_13 ha hb
  · exact sX12_works_14 ha hb
  · exact sX12_works_15 ha hb
  · exact sX12_works_16 ha hb
  · exact sX12_works_17 ha hb
def mX12_reckons : MI := (yX12_reckons, cX12_reckons, 5, (some .int), rmK 2 0)
def tX12_reckons : List (Nat × Instr × Nat) := [(0, .iconst 0, 1), (1, .istore_n 2, 1), (2, .iload_n 1, 1), (3, .istore_n 3, 1), (4, .aload_n 0, 1), (5, .getfield 32, 3), (8, .iload_n 3, 1), (9, .iaload, 1), (10, .ifCond .eq 133, 3), (13, .aload_n 0, 1), (14, .getfield 32, 3), (17, .iload_n 3, 1), (18, .iaload, 1), (19, .istore 4, 2), (21, .iinc 3 1, 3), (24, .iload 4, 2), (26, .iconst 1, 1), (27, .if_icmp .eq 9, 3), (30, .iload 4, 2), (32, .iconst 2, 1), (33, .if_icmp .ne 44, 3), (36, .aload_n 0, 1), (37, .getfield 81, 3), (40, .iload_n 2, 1), (41, .iload 4, 2), (43, .iconst 1, 1), (44, .if_icmp .ne 12, 3), (47, .aload_n 0, 1), (48, .getfield 32, 3), (51, .iload_n 3, 1), (52, .iaload, 1), (53, .goto 14, 3), (56, .aload_n 0, 1), (57, .getfield 78, 3), (60, .aload_n 0, 1), (61, .getfield 32, 3), (64, .iload_n 3, 1), (65, .iaload, 1), (66, .iaload, 1), (67, .iastore, 1), (68, .iinc 3 1, 3), (71, .iinc 2 1, 3), (74, .goto 66, 3), (77, .iload 4, 2), (79, .iconst 3, 1), (80, .if_icmp .ne 30, 3), (83, .aload_n 0, 1), (84, .getfield 81, 3), (87, .iload_n 2, 1), (88, .iconst 1, 1), (89, .isub, 1), (90, .aload_n 0, 1), (91, .getfield 81, 3), (94, .iload_n 2, 1), (95, .iconst 1, 1), (96, .isub, 1), (97, .iaload, 1), (98, .ifCond .ne 7, 3), (101, .iconst 1, 1), (102, .goto 4, 3), (105, .iconst 0, 1), (106, .iastore, 1), (107, .goto 33, 3), (110, .iinc 2 (-1), 3), (113, .aload_n 0, 1), (114, .getfield 81, 3), (117, .iload_n 2, 1), (118, .iconst 1, 1), (119, .isub, 1), (120, .iload 4, 2), (122, .aload_n 0, 1), (123, .getfield 81, 3), (126, .iload_n 2, 1), (127, .iconst 1, 1), (128, .isub, 1), (129, .iaload, 1), (130, .aload_n 0, 1), (131, .getfield 81, 3), (134, .iload_n 2, 1), (135, .iaload, 1), (136, .invokestatic 287, 3), (139, .iastore, 1), (140, .goto (-136), 3), (143, .aload_n 0, 1), (144, .getfield 81, 3), (147, .iconst 0, 1), (148, .iaload, 1), (149, .ireturn, 1)]
theorem dtX12_reckons : tX12_reckons.all (fun q => decide (decode cX12_reckons q.1 = .ok (q.2.1, q.2.2))) = true := by decide +kernel
theorem npX12_reckons : (parseMethodDescriptor (mY mX12_reckons).desc).map (fun d => d.parameters.length) = some 1 := by decide +kernel
theorem vX12_reckons : mV mX12_reckons := ⟨wI_X12_reckons, wS_X12_reckons, wN_X12, wC_X12_reckons, by decide +kernel, by decide +kernel⟩
theorem opF_b {s : Int} (h : -17 ≤ s ∧ s < -9) : 4 ≤ opF s ∧ opF s ≤ 11 := by
  unfold opF
  rw [if_neg (by omega)]
  by_cases a : s = -10
  · rw [if_pos a]; omega
  · rw [if_neg a]
    by_cases b : s = -11
    · rw [if_pos b]; omega
    · rw [if_neg b]; omega
theorem vkF_b {s : Int} (h : -8 ≤ s ∧ s < 0) : 0 ≤ vkF s ∧ vkF s < 8 := by
  unfold vkF
  by_cases a : s = -1
  · rw [if_pos a]; omega
  · rw [if_neg a]
    by_cases b : s = -2
    · rw [if_pos b]; omega
    · rw [if_neg b]
      by_cases c : s = -7
      · rw [if_pos c]; omega
      · rw [if_neg c]
        by_cases d : s = -8
        · rw [if_pos d]; omega
        · rw [if_neg d]; omega
def vT (g : Int → Int) (i : Int) : Int := g (vkF (-1 - i))
def plR (g : Int → Int) (st : List Int) : Prop := ∀ (j : Nat) (y : Int), st[j]? = some y → g ((st.length : Int) - 1 - (j : Int)) = y
theorem pl_push {g : Int → Int} {st : List Int} {x : Int} (h : plR g st) : plR (upI g (st.length : Int) x) (x :: st) := by
  intro j y hj
  cases j with
  | zero =>
    have : x = y := Option.some.inj hj
    rw [← this, show (((x :: st).length : Nat) : Int) - 1 - ((0 : Nat) : Int) = (st.length : Int) by rw [List.length_cons]; omega, upI_s]
  | succ j =>
    have hj : st[j]? = some y := hj
    have hl : j < st.length := (List.getElem?_eq_some_iff.mp hj).1
    rw [show (((x :: st).length : Nat) : Int) - 1 - ((j + 1 : Nat) : Int) = (st.length : Int) - 1 - (j : Int) by rw [List.length_cons]; omega, upI_n (by omega)]
    exact h j y hj
theorem pl_top {g : Int → Int} {q : List Int} {x y : Int} (h : plR g (x :: q)) : plR (upI g (((x :: q).length : Int) - 1) y) (y :: q) := by
  intro j z hj
  cases j with
  | zero =>
    have : y = z := Option.some.inj hj
    rw [← this, show (((y :: q).length : Nat) : Int) - 1 - ((0 : Nat) : Int) = ((x :: q).length : Int) - 1 by rw [List.length_cons, List.length_cons]; omega, upI_s]
  | succ j =>
    have hl : j < q.length := (List.getElem?_eq_some_iff.mp (show q[j]? = some z from hj)).1
    rw [upI_n (by rw [List.length_cons, List.length_cons]; omega)]
    exact h (j + 1) z hj
theorem pl_join {g : Int → Int} {q : List Int} {x y z : Int} (h : plR g (y :: x :: q)) : plR (upI g (((y :: x :: q).length : Int) + (-1) - 1) z) (z :: q) := by
  intro j w hj
  cases j with
  | zero =>
    have : z = w := Option.some.inj hj
    rw [← this, show (((z :: q).length : Nat) : Int) - 1 - ((0 : Nat) : Int) = ((y :: x :: q).length : Int) + (-1) - 1 by rw [List.length_cons, List.length_cons, List.length_cons]; omega, upI_s]
  | succ j =>
    have hl : j < q.length := (List.getElem?_eq_some_iff.mp (show q[j]? = some w from hj)).1
    rw [upI_n (by rw [List.length_cons, List.length_cons, List.length_cons]; omega)]
    have := h (j + 2) w hj
    rw [show (((y :: x :: q).length : Nat) : Int) - 1 - ((j + 2 : Nat) : Int) = (((z :: q).length : Nat) : Int) - 1 - ((j + 1 : Nat) : Int) by rw [List.length_cons, List.length_cons, List.length_cons]; omega] at this
    exact this
/-- but for the pile -/
def FP (h h' : HP) : Prop := (∀ a, a ≠ 21 → hA h' a = hA h a) ∧ hI h' = hI h ∧ hR h' = hR h
theorem FP_tr {h g g' : HP} {i x : Int} (F : FP h g) (e : g' = sA g 21 i x) : FP h g' := by
  obtain ⟨a1, f1, i1, r1⟩ := sA_fx e
  exact ⟨fun a ha => by rw [f1 a ha]; exact F.1 a ha, by rw [i1]; exact F.2.1, by rw [r1]; exact F.2.2⟩
theorem MD_FP {h0 h g : HP} {b : Int} {S : HS} {f : Int → Int} (d : MD h0 h b S f) (F : FP h g) : MD h0 g b S f := by
  obtain ⟨d1, d2, ⟨d3, d5⟩, d4⟩ := d
  exact ⟨d1, d2, ⟨MFr_tr d3 ⟨fun c p q r => F.1 c (by omega), fun k hk => by rw [F.1 18 (by decide)], fun a k _ => by rw [F.2.1], F.2.2⟩, fun k => by rw [F.1 20 (by decide)]; exact d5 k⟩, fun j j0 j1 => by rw [F.1 18 (by decide)]; exact d4 j j0 j1⟩
theorem ev_N {v : Int → Int} {s : Int} {r st : List Int} (h : 0 ≤ s) : evL v (s :: r) st = evL v r (s :: st) := if_pos h
theorem ev_V {v : Int → Int} {s : Int} {r st : List Int} (h : ¬ 0 ≤ s) (h2 : -8 ≤ s) : evL v (s :: r) st = evL v r (v (-1 - s) :: st) := (if_neg h).trans (if_pos h2)
theorem ev_O {v : Int → Int} {s x : Int} {r q : List Int} (h3 : s = -9) : evL v (s :: r) (x :: q) = evL v r ((if x = 0 then 1 else 0) :: q) := (if_neg (by omega)).trans ((if_neg (by omega)).trans (if_pos h3))
theorem ev_B {v : Int → Int} {s x y : Int} {r q : List Int} (h2 : ¬ -8 ≤ s) (h3 : ¬ s = -9) : evL v (s :: r) (y :: x :: q) = evL v r (joinF s x y :: q) := (if_neg (by omega)).trans ((if_neg h2).trans (if_neg h3))
set_option maxHeartbeats 4000000 in
set_option maxRecDepth 100000 in
theorem lp_X12_reckons {Q : AO → HP → Prop} {h : HP} {x0 : Int} (hv : ∀ i : Int, 0 ≤ i → i < 8 → i32 (hA h 20 i)) : ∀ (L : List Int) (a : Int) (st : List Int) (hh : HP), cdR (hA h 6) a L → wfL st.length L → st.length ≤ 64 → (∀ y ∈ st, i32 y) → plR (hA hh 21) st → FP h hh → (∀ h2, FP h h2 → Q (.inl (some (vi (hdL (evL (vT (hA h 20)) L st))))) h2) → K mX12_reckons GK (ZK Q 0 0) 0 0 4 [(2, vi ((st.length : Nat) : Int)), (3, vi a), (0, vr 0), (1, vi x0)] [] hh := by
  intro L
  induction L with
  | nil =>
    intro a st hh hc wf hl h3 pl fp hq
    obtain ⟨hb, hc0⟩ : (0 ≤ a ∧ a < 1400) ∧ hA h 6 a = 0 := hc
    have wf : st.length = 1 := wf
    obtain ⟨y, rfl⟩ : ∃ y, st = [y] := List.length_eq_one_iff.mp wf
    have p0 : hA hh 21 0 = y := pl 0 y rfl
    refine K_aload_n (dt_at dtX12_reckons 4 rfl) rfl rfl ?_
    refine K_get (a := 0) (ci := 12) (k := 10) (v := vr 6) (dt_at dtX12_reckons 5 rfl) (show TT 0 = (0, 12) from rfl) rfl (by decide) wF_X12_32 rfl ?_
    refine K_iload_n (dt_at dtX12_reckons 6 rfl) rfl rfl ?_
    refine K_iald (dt_at dtX12_reckons 7 rfl) (show TT 6 = (1, 1400) from rfl) (by omega) (by omega) ?_
    rw [show hA hh 6 a = 0 by rw [fp.1 6 (by decide)]; exact hc0]
    refine K_if_eq (tgt := 143) (dt_at dtX12_reckons 8 rfl) (by decide) (by first | assumption | exact ⟨by omega, by omega⟩) (fun c1 => ?_) (fun c1 => absurd c1 (by omega))
    refine K_aload_n (dt_at dtX12_reckons 83 rfl) rfl rfl ?_
    refine K_get (a := 0) (ci := 12) (k := 46) (v := vr 21) (dt_at dtX12_reckons 84 rfl) (show TT 0 = (0, 12) from rfl) rfl (by decide) wF_X12_81 rfl ?_
    refine K_iconst (dt_at dtX12_reckons 85 rfl) ?_
    refine K_iald (dt_at dtX12_reckons 86 rfl) (show TT 21 = (1, 950) from rfl) (by omega) (by omega) ?_
    rw [p0]
    exact K_iret (dt_at dtX12_reckons 87 rfl) rfl rfl (by decide) (by decide) (hq hh fp)
  | cons s r ih =>
    intro a st hh hc wf hl h3 pl fp hq
    obtain ⟨hb, hc0⟩ := hc
    obtain ⟨hs, wf⟩ := wf
    by_cases z1 : 0 ≤ s
    · rw [if_pos z1] at hc0
      rw [if_pos (by omega)] at wf
      obtain ⟨hc1, hc2, hc3⟩ := hc0
      refine K_aload_n (dt_at dtX12_reckons 4 rfl) rfl rfl ?_
      refine K_get (a := 0) (ci := 12) (k := 10) (v := vr 6) (dt_at dtX12_reckons 5 rfl) (show TT 0 = (0, 12) from rfl) rfl (by decide) wF_X12_32 rfl ?_
      refine K_iload_n (dt_at dtX12_reckons 6 rfl) rfl rfl ?_
      refine K_iald (dt_at dtX12_reckons 7 rfl) (show TT 6 = (1, 1400) from rfl) (by omega) (by omega) ?_
      rw [show hA hh 6 a = 1 by rw [fp.1 6 (by decide)]; exact hc1]
      refine K_if_eq (tgt := 143) (dt_at dtX12_reckons 8 rfl) (by decide) (by first | assumption | exact ⟨by omega, by omega⟩) (fun c1 => absurd c1 (by omega)) (fun c1 => ?_)
      refine K_aload_n (dt_at dtX12_reckons 9 rfl) rfl rfl ?_
      refine K_get (a := 0) (ci := 12) (k := 10) (v := vr 6) (dt_at dtX12_reckons 10 rfl) (show TT 0 = (0, 12) from rfl) rfl (by decide) wF_X12_32 rfl ?_
      refine K_iload_n (dt_at dtX12_reckons 11 rfl) rfl rfl ?_
      refine K_iald (dt_at dtX12_reckons 12 rfl) (show TT 6 = (1, 1400) from rfl) (by omega) (by omega) ?_
      rw [show hA hh 6 a = 1 by rw [fp.1 6 (by decide)]; exact hc1]
      refine K_istore (ls' := [(4, vi 1), (2, vi ((st.length : Nat) : Int)), (3, vi a), (0, vr 0), (1, vi x0)]) (dt_at dtX12_reckons 13 rfl) (by decide) rfl ?_
      refine K_iinc (ls' := [(3, vi (a + 1)), (4, vi 1), (2, vi ((st.length : Nat) : Int)), (0, vr 0), (1, vi x0)]) (dt_at dtX12_reckons 14 rfl) rfl (by decide) rfl ?_
      refine K_iload (dt_at dtX12_reckons 15 rfl) rfl ?_
      refine K_iconst (dt_at dtX12_reckons 16 rfl) ?_
      refine K_icmp_eq (tgt := 36) (dt_at dtX12_reckons 17 rfl) (by decide) (by first | assumption | exact ⟨by omega, by omega⟩) (by first | assumption | exact ⟨by omega, by omega⟩) (fun c2 => ?_) (fun c2 => absurd c2 (by omega))
      refine K_aload_n (dt_at dtX12_reckons 21 rfl) rfl rfl ?_
      refine K_get (a := 0) (ci := 12) (k := 46) (v := vr 21) (dt_at dtX12_reckons 22 rfl) (show TT 0 = (0, 12) from rfl) rfl (by decide) wF_X12_81 rfl ?_
      refine K_iload_n (dt_at dtX12_reckons 23 rfl) rfl rfl ?_
      refine K_iload (dt_at dtX12_reckons 24 rfl) rfl ?_
      refine K_iconst (dt_at dtX12_reckons 25 rfl) ?_
      refine K_icmp_ne (tgt := 56) (dt_at dtX12_reckons 26 rfl) (by decide) (by first | assumption | exact ⟨by omega, by omega⟩) (by first | assumption | exact ⟨by omega, by omega⟩) (fun c3 => absurd c3 (by omega)) (fun c3 => ?_)
      refine K_aload_n (dt_at dtX12_reckons 27 rfl) rfl rfl ?_
      refine K_get (a := 0) (ci := 12) (k := 10) (v := vr 6) (dt_at dtX12_reckons 28 rfl) (show TT 0 = (0, 12) from rfl) rfl (by decide) wF_X12_32 rfl ?_
      refine K_iload_n (dt_at dtX12_reckons 29 rfl) rfl rfl ?_
      refine K_iald (dt_at dtX12_reckons 30 rfl) (show TT 6 = (1, 1400) from rfl) (by omega) (by omega) ?_
      rw [show hA hh 6 (a + 1) = s by rw [fp.1 6 (by decide)]; exact hc2]
      refine K_goto (tgt := 67) (dt_at dtX12_reckons 31 rfl) (by decide) ?_
      refine K_iast (dt_at dtX12_reckons 39 rfl) (show TT 21 = (1, 950) from rfl) (by omega) (by omega) ?_
      obtain ⟨hq1, eq1⟩ : ∃ z, z = sA hh 21 ((st.length : Nat) : Int) s := ⟨_, rfl⟩
      rw [← eq1]
      obtain ⟨aq1, fq1, iq1, rq1⟩ := sA_fx eq1
      refine K_iinc (ls' := [(3, vi ((a + 1) + 1)), (4, vi 1), (2, vi ((st.length : Nat) : Int)), (0, vr 0), (1, vi x0)]) (dt_at dtX12_reckons 40 rfl) rfl (by decide) rfl ?_
      refine K_iinc (ls' := [(2, vi (((st.length : Nat) : Int) + 1)), (3, vi ((a + 1) + 1)), (4, vi 1), (0, vr 0), (1, vi x0)]) (dt_at dtX12_reckons 41 rfl) rfl (by decide) rfl ?_
      refine K_goto (tgt := 140) (dt_at dtX12_reckons 42 rfl) (by decide) ?_
      refine K_goto (tgt := 4) (dt_at dtX12_reckons 82 rfl) (by decide) ?_
      exact K_pk [0, 1, 3, 4] (ls' := [(2, vi ((st.length : Int) + 1)), (3, vi (a + 1 + 1)), (0, vr 0), (1, vi x0)]) rfl (K_cg (ls' := [(2, vi (((s :: st).length : Nat) : Int)), (3, vi (a + 2)), (0, vr 0), (1, vi x0)]) (h' := hq1) (by rw [show a + 1 + 1 = a + 2 by omega]; rfl) rfl (ih (a + 2) (s :: st) hq1 hc3 wf.2 (by rw [List.length_cons]; omega) (fun y hy => by rcases List.mem_cons.mp hy with rfl | hy; exact ⟨by omega, by omega⟩; exact h3 y hy) (by rw [aq1]; exact pl_push pl) (FP_tr fp eq1) (fun h2 q_ => by have h9 := hq h2 q_; rw [ev_N z1] at h9; exact h9)))
    · rw [if_neg z1] at hc0
      by_cases z2 : -8 ≤ s
      · rw [if_pos z2] at hc0
        rw [if_pos z2] at wf
        obtain ⟨hc1, hc2, hc3⟩ := hc0
        have vb := vkF_b (s := s) ⟨z2, by omega⟩
        refine K_aload_n (dt_at dtX12_reckons 4 rfl) rfl rfl ?_
        refine K_get (a := 0) (ci := 12) (k := 10) (v := vr 6) (dt_at dtX12_reckons 5 rfl) (show TT 0 = (0, 12) from rfl) rfl (by decide) wF_X12_32 rfl ?_
        refine K_iload_n (dt_at dtX12_reckons 6 rfl) rfl rfl ?_
        refine K_iald (dt_at dtX12_reckons 7 rfl) (show TT 6 = (1, 1400) from rfl) (by omega) (by omega) ?_
        rw [show hA hh 6 a = 2 by rw [fp.1 6 (by decide)]; exact hc1]
        refine K_if_eq (tgt := 143) (dt_at dtX12_reckons 8 rfl) (by decide) (by first | assumption | exact ⟨by omega, by omega⟩) (fun c1 => absurd c1 (by omega)) (fun c1 => ?_)
        refine K_aload_n (dt_at dtX12_reckons 9 rfl) rfl rfl ?_
        refine K_get (a := 0) (ci := 12) (k := 10) (v := vr 6) (dt_at dtX12_reckons 10 rfl) (show TT 0 = (0, 12) from rfl) rfl (by decide) wF_X12_32 rfl ?_
        refine K_iload_n (dt_at dtX12_reckons 11 rfl) rfl rfl ?_
        refine K_iald (dt_at dtX12_reckons 12 rfl) (show TT 6 = (1, 1400) from rfl) (by omega) (by omega) ?_
        rw [show hA hh 6 a = 2 by rw [fp.1 6 (by decide)]; exact hc1]
        refine K_istore (ls' := [(4, vi 2), (2, vi ((st.length : Nat) : Int)), (3, vi a), (0, vr 0), (1, vi x0)]) (dt_at dtX12_reckons 13 rfl) (by decide) rfl ?_
        refine K_iinc (ls' := [(3, vi (a + 1)), (4, vi 2), (2, vi ((st.length : Nat) : Int)), (0, vr 0), (1, vi x0)]) (dt_at dtX12_reckons 14 rfl) rfl (by decide) rfl ?_
        refine K_iload (dt_at dtX12_reckons 15 rfl) rfl ?_
        refine K_iconst (dt_at dtX12_reckons 16 rfl) ?_
        refine K_icmp_eq (tgt := 36) (dt_at dtX12_reckons 17 rfl) (by decide) (by first | assumption | exact ⟨by omega, by omega⟩) (by first | assumption | exact ⟨by omega, by omega⟩) (fun c2 => absurd c2 (by omega)) (fun c2 => ?_)
        refine K_iload (dt_at dtX12_reckons 18 rfl) rfl ?_
        refine K_iconst (dt_at dtX12_reckons 19 rfl) ?_
        refine K_icmp_ne (tgt := 77) (dt_at dtX12_reckons 20 rfl) (by decide) (by first | assumption | exact ⟨by omega, by omega⟩) (by first | assumption | exact ⟨by omega, by omega⟩) (fun c3 => absurd c3 (by omega)) (fun c3 => ?_)
        refine K_aload_n (dt_at dtX12_reckons 21 rfl) rfl rfl ?_
        refine K_get (a := 0) (ci := 12) (k := 46) (v := vr 21) (dt_at dtX12_reckons 22 rfl) (show TT 0 = (0, 12) from rfl) rfl (by decide) wF_X12_81 rfl ?_
        refine K_iload_n (dt_at dtX12_reckons 23 rfl) rfl rfl ?_
        refine K_iload (dt_at dtX12_reckons 24 rfl) rfl ?_
        refine K_iconst (dt_at dtX12_reckons 25 rfl) ?_
        refine K_icmp_ne (tgt := 56) (dt_at dtX12_reckons 26 rfl) (by decide) (by first | assumption | exact ⟨by omega, by omega⟩) (by first | assumption | exact ⟨by omega, by omega⟩) (fun c4 => ?_) (fun c4 => absurd c4 (by omega))
        refine K_aload_n (dt_at dtX12_reckons 32 rfl) rfl rfl ?_
        refine K_get (a := 0) (ci := 12) (k := 45) (v := vr 20) (dt_at dtX12_reckons 33 rfl) (show TT 0 = (0, 12) from rfl) rfl (by decide) wF_X12_78 rfl ?_
        refine K_aload_n (dt_at dtX12_reckons 34 rfl) rfl rfl ?_
        refine K_get (a := 0) (ci := 12) (k := 10) (v := vr 6) (dt_at dtX12_reckons 35 rfl) (show TT 0 = (0, 12) from rfl) rfl (by decide) wF_X12_32 rfl ?_
        refine K_iload_n (dt_at dtX12_reckons 36 rfl) rfl rfl ?_
        refine K_iald (dt_at dtX12_reckons 37 rfl) (show TT 6 = (1, 1400) from rfl) (by omega) (by omega) ?_
        rw [show hA hh 6 (a + 1) = vkF s by rw [fp.1 6 (by decide)]; exact hc2]
        refine K_iald (dt_at dtX12_reckons 38 rfl) (show TT 20 = (1, 8) from rfl) (by omega) (by omega) ?_
        rw [show hA hh 20 (vkF s) = hA h 20 (vkF s) by rw [fp.1 20 (by decide)]]
        refine K_iast (dt_at dtX12_reckons 39 rfl) (show TT 21 = (1, 950) from rfl) (by omega) (by omega) ?_
        obtain ⟨hq1, eq1⟩ : ∃ z, z = sA hh 21 ((st.length : Nat) : Int) (hA h 20 (vkF s)) := ⟨_, rfl⟩
        rw [← eq1]
        obtain ⟨aq1, fq1, iq1, rq1⟩ := sA_fx eq1
        refine K_iinc (ls' := [(3, vi ((a + 1) + 1)), (4, vi 2), (2, vi ((st.length : Nat) : Int)), (0, vr 0), (1, vi x0)]) (dt_at dtX12_reckons 40 rfl) rfl (by decide) rfl ?_
        refine K_iinc (ls' := [(2, vi (((st.length : Nat) : Int) + 1)), (3, vi ((a + 1) + 1)), (4, vi 2), (0, vr 0), (1, vi x0)]) (dt_at dtX12_reckons 41 rfl) rfl (by decide) rfl ?_
        refine K_goto (tgt := 140) (dt_at dtX12_reckons 42 rfl) (by decide) ?_
        refine K_goto (tgt := 4) (dt_at dtX12_reckons 82 rfl) (by decide) ?_
        exact K_pk [0, 1, 3, 4] (ls' := [(2, vi ((st.length : Int) + 1)), (3, vi (a + 1 + 1)), (0, vr 0), (1, vi x0)]) rfl (K_cg (ls' := [(2, vi ((((hA h 20 (vkF s)) :: st).length : Nat) : Int)), (3, vi (a + 2)), (0, vr 0), (1, vi x0)]) (h' := hq1) (by rw [show a + 1 + 1 = a + 2 by omega]; rfl) rfl (ih (a + 2) ((hA h 20 (vkF s)) :: st) hq1 hc3 wf.2 (by rw [List.length_cons]; omega) (fun y hy => by rcases List.mem_cons.mp hy with rfl | hy; exact hv _ vb.1 vb.2; exact h3 y hy) (by rw [aq1]; exact pl_push pl) (FP_tr fp eq1) (fun h2 q_ => by have h9 := hq h2 q_; rw [ev_V z1 z2, show vT (hA h 20) (-1 - s) = hA h 20 (vkF s) by unfold vT; rw [show -1 - (-1 - s) = s by omega]] at h9; exact h9)))
      · rw [if_neg z2] at hc0 wf
        obtain ⟨hc1, hc3⟩ := hc0
        by_cases z3 : s = -9
        · rw [if_pos z3] at wf
          obtain ⟨x, q, rfl⟩ : ∃ x q, st = x :: q := by cases st with | nil => exact absurd wf.1 (by simp) | cons x q => exact ⟨x, q, rfl⟩
          have hx := h3 x List.mem_cons_self
          have p0 : hA hh 21 ((((x :: q).length : Nat) : Int) - 1) = x := by have := pl 0 x rfl; rw [show (((x :: q).length : Nat) : Int) - 1 - ((0 : Nat) : Int) = (((x :: q).length : Nat) : Int) - 1 by omega] at this; exact this
          have lc : (x :: q).length = q.length + 1 := List.length_cons
          refine K_aload_n (dt_at dtX12_reckons 4 rfl) rfl rfl ?_
          refine K_get (a := 0) (ci := 12) (k := 10) (v := vr 6) (dt_at dtX12_reckons 5 rfl) (show TT 0 = (0, 12) from rfl) rfl (by decide) wF_X12_32 rfl ?_
          refine K_iload_n (dt_at dtX12_reckons 6 rfl) rfl rfl ?_
          refine K_iald (dt_at dtX12_reckons 7 rfl) (show TT 6 = (1, 1400) from rfl) (by omega) (by omega) ?_
          rw [show hA hh 6 a = 3 by rw [fp.1 6 (by decide), hc1, z3]; rfl]
          refine K_if_eq (tgt := 143) (dt_at dtX12_reckons 8 rfl) (by decide) (by first | assumption | exact ⟨by omega, by omega⟩) (fun c1 => absurd c1 (by omega)) (fun c1 => ?_)
          refine K_aload_n (dt_at dtX12_reckons 9 rfl) rfl rfl ?_
          refine K_get (a := 0) (ci := 12) (k := 10) (v := vr 6) (dt_at dtX12_reckons 10 rfl) (show TT 0 = (0, 12) from rfl) rfl (by decide) wF_X12_32 rfl ?_
          refine K_iload_n (dt_at dtX12_reckons 11 rfl) rfl rfl ?_
          refine K_iald (dt_at dtX12_reckons 12 rfl) (show TT 6 = (1, 1400) from rfl) (by omega) (by omega) ?_
          rw [show hA hh 6 a = 3 by rw [fp.1 6 (by decide), hc1, z3]; rfl]
          refine K_istore (ls' := [(4, vi 3), (2, vi (((x :: q).length : Nat) : Int)), (3, vi a), (0, vr 0), (1, vi x0)]) (dt_at dtX12_reckons 13 rfl) (by decide) rfl ?_
          refine K_iinc (ls' := [(3, vi (a + 1)), (4, vi 3), (2, vi (((x :: q).length : Nat) : Int)), (0, vr 0), (1, vi x0)]) (dt_at dtX12_reckons 14 rfl) rfl (by decide) rfl ?_
          refine K_iload (dt_at dtX12_reckons 15 rfl) rfl ?_
          refine K_iconst (dt_at dtX12_reckons 16 rfl) ?_
          refine K_icmp_eq (tgt := 36) (dt_at dtX12_reckons 17 rfl) (by decide) (by first | assumption | exact ⟨by omega, by omega⟩) (by first | assumption | exact ⟨by omega, by omega⟩) (fun c2 => absurd c2 (by omega)) (fun c2 => ?_)
          refine K_iload (dt_at dtX12_reckons 18 rfl) rfl ?_
          refine K_iconst (dt_at dtX12_reckons 19 rfl) ?_
          refine K_icmp_ne (tgt := 77) (dt_at dtX12_reckons 20 rfl) (by decide) (by first | assumption | exact ⟨by omega, by omega⟩) (by first | assumption | exact ⟨by omega, by omega⟩) (fun c3 => ?_) (fun c3 => absurd c3 (by omega))
          refine K_iload (dt_at dtX12_reckons 43 rfl) rfl ?_
          refine K_iconst (dt_at dtX12_reckons 44 rfl) ?_
          refine K_icmp_ne (tgt := 110) (dt_at dtX12_reckons 45 rfl) (by decide) (by first | assumption | exact ⟨by omega, by omega⟩) (by first | assumption | exact ⟨by omega, by omega⟩) (fun c4 => absurd c4 (by omega)) (fun c4 => ?_)
          refine K_aload_n (dt_at dtX12_reckons 46 rfl) rfl rfl ?_
          refine K_get (a := 0) (ci := 12) (k := 46) (v := vr 21) (dt_at dtX12_reckons 47 rfl) (show TT 0 = (0, 12) from rfl) rfl (by decide) wF_X12_81 rfl ?_
          refine K_iload_n (dt_at dtX12_reckons 48 rfl) rfl rfl ?_
          refine K_iconst (dt_at dtX12_reckons 49 rfl) ?_
          refine K_isub (dt_at dtX12_reckons 50 rfl) ?_
          refine K_aload_n (dt_at dtX12_reckons 51 rfl) rfl rfl ?_
          refine K_get (a := 0) (ci := 12) (k := 46) (v := vr 21) (dt_at dtX12_reckons 52 rfl) (show TT 0 = (0, 12) from rfl) rfl (by decide) wF_X12_81 rfl ?_
          refine K_iload_n (dt_at dtX12_reckons 53 rfl) rfl rfl ?_
          refine K_iconst (dt_at dtX12_reckons 54 rfl) ?_
          refine K_isub (dt_at dtX12_reckons 55 rfl) ?_
          refine K_iald (dt_at dtX12_reckons 56 rfl) (show TT 21 = (1, 950) from rfl) (by omega) (by omega) ?_
          rw [p0]
          refine K_if_ne (tgt := 105) (dt_at dtX12_reckons 57 rfl) (by decide) (by first | assumption | exact ⟨by omega, by omega⟩) (fun c5 => ?_) (fun c5 => ?_)
          · refine K_iconst (dt_at dtX12_reckons 60 rfl) ?_
            refine K_iast (dt_at dtX12_reckons 61 rfl) (show TT 21 = (1, 950) from rfl) (by omega) (by omega) ?_
            obtain ⟨hq1, eq1⟩ : ∃ z, z = sA hh 21 ((((x :: q).length : Nat) : Int) - 1) 0 := ⟨_, rfl⟩
            rw [← eq1]
            obtain ⟨aq1, fq1, iq1, rq1⟩ := sA_fx eq1
            refine K_goto (tgt := 140) (dt_at dtX12_reckons 62 rfl) (by decide) ?_
            refine K_goto (tgt := 4) (dt_at dtX12_reckons 82 rfl) (by decide) ?_
            exact K_pk [2, 0, 3, 4] rfl (ih (a + 1) (0 :: q) hq1 hc3 (by have := wf.2; rw [List.length_cons] at this; exact this) (by rw [List.length_cons]; omega) (fun y hy => by rcases List.mem_cons.mp hy with rfl | hy; exact ⟨by decide, by decide⟩; exact h3 y (List.mem_cons_of_mem _ hy)) (by rw [aq1]; exact pl_top pl) (FP_tr fp eq1) (fun h2 q_ => by have h9 := hq h2 q_; rw [ev_O z3, if_neg (by assumption)] at h9; exact h9))
          · refine K_iconst (dt_at dtX12_reckons 58 rfl) ?_
            refine K_goto (tgt := 106) (dt_at dtX12_reckons 59 rfl) (by decide) ?_
            refine K_iast (dt_at dtX12_reckons 61 rfl) (show TT 21 = (1, 950) from rfl) (by omega) (by omega) ?_
            obtain ⟨hq2, eq2⟩ : ∃ z, z = sA hh 21 ((((x :: q).length : Nat) : Int) - 1) 1 := ⟨_, rfl⟩
            rw [← eq2]
            obtain ⟨aq2, fq2, iq2, rq2⟩ := sA_fx eq2
            refine K_goto (tgt := 140) (dt_at dtX12_reckons 62 rfl) (by decide) ?_
            refine K_goto (tgt := 4) (dt_at dtX12_reckons 82 rfl) (by decide) ?_
            exact K_pk [2, 0, 3, 4] rfl (ih (a + 1) (1 :: q) hq2 hc3 (by have := wf.2; rw [List.length_cons] at this; exact this) (by rw [List.length_cons]; omega) (fun y hy => by rcases List.mem_cons.mp hy with rfl | hy; exact ⟨by decide, by decide⟩; exact h3 y (List.mem_cons_of_mem _ hy)) (by rw [aq2]; exact pl_top pl) (FP_tr fp eq2) (fun h2 q_ => by have h9 := hq h2 q_; rw [ev_O z3, if_pos (by assumption)] at h9; exact h9))
        · rw [if_neg z3] at wf
          obtain ⟨y, x, q, rfl⟩ : ∃ y x q, st = y :: x :: q := by cases st with | nil => exact absurd wf.1 (by simp) | cons y st => cases st with | nil => exact absurd wf.1 (by simp) | cons x q => exact ⟨y, x, q, rfl⟩
          have hy := h3 y List.mem_cons_self
          have hx := h3 x (List.mem_cons_of_mem _ List.mem_cons_self)
          have ob := opF_b (s := s) ⟨hs.1, by omega⟩
          have lc : (y :: x :: q).length = q.length + 2 := rfl
          have p0 : hA hh 21 ((((y :: x :: q).length : Nat) : Int) + (-1)) = y := by have := pl 0 y rfl; rw [show (((y :: x :: q).length : Nat) : Int) - 1 - ((0 : Nat) : Int) = (((y :: x :: q).length : Nat) : Int) + (-1) by omega] at this; exact this
          have p1 : hA hh 21 (((((y :: x :: q).length : Nat) : Int) + (-1)) - 1) = x := by have := pl 1 x rfl; rw [show (((y :: x :: q).length : Nat) : Int) - 1 - ((1 : Nat) : Int) = ((((y :: x :: q).length : Nat) : Int) + (-1)) - 1 by omega] at this; exact this
          refine K_aload_n (dt_at dtX12_reckons 4 rfl) rfl rfl ?_
          refine K_get (a := 0) (ci := 12) (k := 10) (v := vr 6) (dt_at dtX12_reckons 5 rfl) (show TT 0 = (0, 12) from rfl) rfl (by decide) wF_X12_32 rfl ?_
          refine K_iload_n (dt_at dtX12_reckons 6 rfl) rfl rfl ?_
          refine K_iald (dt_at dtX12_reckons 7 rfl) (show TT 6 = (1, 1400) from rfl) (by omega) (by omega) ?_
          rw [show hA hh 6 a = opF s by rw [fp.1 6 (by decide)]; exact hc1]
          refine K_if_eq (tgt := 143) (dt_at dtX12_reckons 8 rfl) (by decide) (by first | assumption | exact ⟨by omega, by omega⟩) (fun c1 => absurd c1 (by omega)) (fun c1 => ?_)
          refine K_aload_n (dt_at dtX12_reckons 9 rfl) rfl rfl ?_
          refine K_get (a := 0) (ci := 12) (k := 10) (v := vr 6) (dt_at dtX12_reckons 10 rfl) (show TT 0 = (0, 12) from rfl) rfl (by decide) wF_X12_32 rfl ?_
          refine K_iload_n (dt_at dtX12_reckons 11 rfl) rfl rfl ?_
          refine K_iald (dt_at dtX12_reckons 12 rfl) (show TT 6 = (1, 1400) from rfl) (by omega) (by omega) ?_
          rw [show hA hh 6 a = opF s by rw [fp.1 6 (by decide)]; exact hc1]
          refine K_istore (ls' := [(4, vi (opF s)), (2, vi (((y :: x :: q).length : Nat) : Int)), (3, vi a), (0, vr 0), (1, vi x0)]) (dt_at dtX12_reckons 13 rfl) (by decide) rfl ?_
          refine K_iinc (ls' := [(3, vi (a + 1)), (4, vi (opF s)), (2, vi (((y :: x :: q).length : Nat) : Int)), (0, vr 0), (1, vi x0)]) (dt_at dtX12_reckons 14 rfl) rfl (by decide) rfl ?_
          refine K_iload (dt_at dtX12_reckons 15 rfl) rfl ?_
          refine K_iconst (dt_at dtX12_reckons 16 rfl) ?_
          refine K_icmp_eq (tgt := 36) (dt_at dtX12_reckons 17 rfl) (by decide) (by first | assumption | exact ⟨by omega, by omega⟩) (by first | assumption | exact ⟨by omega, by omega⟩) (fun c2 => absurd c2 (by omega)) (fun c2 => ?_)
          refine K_iload (dt_at dtX12_reckons 18 rfl) rfl ?_
          refine K_iconst (dt_at dtX12_reckons 19 rfl) ?_
          refine K_icmp_ne (tgt := 77) (dt_at dtX12_reckons 20 rfl) (by decide) (by first | assumption | exact ⟨by omega, by omega⟩) (by first | assumption | exact ⟨by omega, by omega⟩) (fun c3 => ?_) (fun c3 => absurd c3 (by omega))
          refine K_iload (dt_at dtX12_reckons 43 rfl) rfl ?_
          refine K_iconst (dt_at dtX12_reckons 44 rfl) ?_
          refine K_icmp_ne (tgt := 110) (dt_at dtX12_reckons 45 rfl) (by decide) (by first | assumption | exact ⟨by omega, by omega⟩) (by first | assumption | exact ⟨by omega, by omega⟩) (fun c4 => ?_) (fun c4 => absurd c4 (by omega))
          refine K_iinc (ls' := [(2, vi ((((y :: x :: q).length : Nat) : Int) + (-1))), (3, vi (a + 1)), (4, vi (opF s)), (0, vr 0), (1, vi x0)]) (dt_at dtX12_reckons 63 rfl) rfl (by decide) rfl ?_
          refine K_aload_n (dt_at dtX12_reckons 64 rfl) rfl rfl ?_
          refine K_get (a := 0) (ci := 12) (k := 46) (v := vr 21) (dt_at dtX12_reckons 65 rfl) (show TT 0 = (0, 12) from rfl) rfl (by decide) wF_X12_81 rfl ?_
          refine K_iload_n (dt_at dtX12_reckons 66 rfl) rfl rfl ?_
          refine K_iconst (dt_at dtX12_reckons 67 rfl) ?_
          refine K_isub (dt_at dtX12_reckons 68 rfl) ?_
          refine K_iload (dt_at dtX12_reckons 69 rfl) rfl ?_
          refine K_aload_n (dt_at dtX12_reckons 70 rfl) rfl rfl ?_
          refine K_get (a := 0) (ci := 12) (k := 46) (v := vr 21) (dt_at dtX12_reckons 71 rfl) (show TT 0 = (0, 12) from rfl) rfl (by decide) wF_X12_81 rfl ?_
          refine K_iload_n (dt_at dtX12_reckons 72 rfl) rfl rfl ?_
          refine K_iconst (dt_at dtX12_reckons 73 rfl) ?_
          refine K_isub (dt_at dtX12_reckons 74 rfl) ?_
          refine K_iald (dt_at dtX12_reckons 75 rfl) (show TT 21 = (1, 950) from rfl) (by omega) (by omega) ?_
          rw [p1]
          refine K_aload_n (dt_at dtX12_reckons 76 rfl) rfl rfl ?_
          refine K_get (a := 0) (ci := 12) (k := 46) (v := vr 21) (dt_at dtX12_reckons 77 rfl) (show TT 0 = (0, 12) from rfl) rfl (by decide) wF_X12_81 rfl ?_
          refine K_iload_n (dt_at dtX12_reckons 78 rfl) rfl rfl ?_
          refine K_iald (dt_at dtX12_reckons 79 rfl) (show TT 21 = (1, 950) from rfl) (by omega) (by omega) ?_
          rw [p0]
          refine K_callS (M' := mX12_works) (As := [vi (opF s), vi x, vi y]) (st := [vi (((((y :: x :: q).length : Nat) : Int) + (-1)) - 1), vr 21]) (dt_at dtX12_reckons 80 rfl) (sX12_works ⟨hs.1, by omega⟩ hx hy) wL_X12_287 vX12_works rfl npX12_works (by decide) (by decide) (Nat.le_of_ble_eq_true rfl) (by decide) (by decide) GK_E (fun v9 h9 hq => ?_) (fun E h9 hq => by cases hq.1)
          obtain ⟨e9, e8⟩ := hq
          cases e9
          rw [e8]
          show K mX12_reckons _ _ 0 0 139 [(2, vi ((((y :: x :: q).length : Nat) : Int) + (-1))), (3, vi (a + 1)), (4, vi (opF s)), (0, vr 0), (1, vi x0)] [vi (joinF s x y), vi (((((y :: x :: q).length : Nat) : Int) + (-1)) - 1), vr 21] hh
          refine K_iast (dt_at dtX12_reckons 81 rfl) (show TT 21 = (1, 950) from rfl) (by omega) (by omega) ?_
          obtain ⟨hq1, eq1⟩ : ∃ z, z = sA hh 21 (((((y :: x :: q).length : Nat) : Int) + (-1)) - 1) (joinF s x y) := ⟨_, rfl⟩
          rw [← eq1]
          obtain ⟨aq1, fq1, iq1, rq1⟩ := sA_fx eq1
          refine K_goto (tgt := 4) (dt_at dtX12_reckons 82 rfl) (by decide) ?_
          exact K_pk [0, 1, 3, 4] (ls' := [(2, vi ((((y :: x :: q).length : Nat) : Int) + (-1))), (3, vi (a + 1)), (0, vr 0), (1, vi x0)]) rfl (K_cg (ls' := [(2, vi ((((joinF s x y) :: q).length : Nat) : Int)), (3, vi (a + 1)), (0, vr 0), (1, vi x0)]) (h' := hq1) (by rw [show (((y :: x :: q).length : Nat) : Int) + (-1) = ((((joinF s x y) :: q).length : Nat) : Int) by rw [List.length_cons, List.length_cons, List.length_cons]; omega]) rfl (ih (a + 1) ((joinF s x y) :: q) hq1 hc3 (by have := wf.2; rw [List.length_cons, List.length_cons] at this; exact this) (by rw [List.length_cons]; omega) (fun w hw => by rcases List.mem_cons.mp hw with rfl | hw; exact joinF32 _ _ _; exact h3 w (List.mem_cons_of_mem _ (List.mem_cons_of_mem _ hw))) (by rw [aq1]; exact pl_join pl) (FP_tr fp eq1) (fun h2 q_ => by have h9 := hq h2 q_; rw [ev_B z2 z3] at h9; exact h9)))
set_option maxHeartbeats 4000000 in
set_option maxRecDepth 100000 in
theorem sX12_reckons {h : HP} {x0 : Int} {L : List Int} (cd : cdR (hA h 6) x0 L) (wf : wfL 0 L) (hv : ∀ i : Int, 0 ≤ i → i < 8 → i32 (hA h 20 i)) : SpecK mX12_reckons [vr 0, vi x0] h (fun o h' => o = .inl (some (vi (ruF L (vT (hA h 20))))) ∧ FP h h') := by
  refine Spec_of (by decide +kernel) (Nat.le_of_ble_eq_true rfl) ?_
  refine K_iconst (dt_at dtX12_reckons 0 rfl) ?_
  refine K_istore_n (ls' := [(2, vi 0), (0, vr 0), (1, vi x0)]) (dt_at dtX12_reckons 1 rfl) rfl (by decide) rfl ?_
  refine K_iload_n (dt_at dtX12_reckons 2 rfl) rfl rfl ?_
  refine K_istore_n (ls' := [(3, vi x0), (2, vi 0), (0, vr 0), (1, vi x0)]) (dt_at dtX12_reckons 3 rfl) rfl (by decide) rfl ?_
  exact K_pk [1, 0, 2, 3] rfl (lp_X12_reckons hv L x0 [] h cd wf (by decide) (fun y hy => by cases hy) (fun j y hj => by cases hj) ⟨fun _ _ => rfl, rfl, rfl⟩ (fun h2 q_ => ⟨rfl, q_⟩))
def mX12_pieceAt : MI := (yX12_pieceAt, cX12_pieceAt, 4, (some .int), rmK 1 0)
def tX12_pieceAt : List (Nat × Instr × Nat) := [(0, .iload_n 1, 1), (1, .bipush 15, 2), (3, .iadd, 1), (4, .bipush 6, 2), (6, .aload_n 0, 1), (7, .getfield 72, 3), (10, .iload_n 1, 1), (11, .bipush 8, 2), (13, .iadd, 1), (14, .iload_n 2, 1), (15, .iadd, 1), (16, .iaload, 1), (17, .imul, 1), (18, .iadd, 1), (19, .iload_n 3, 1), (20, .iadd, 1), (21, .ireturn, 1)]
theorem dtX12_pieceAt : tX12_pieceAt.all (fun q => decide (decode cX12_pieceAt q.1 = .ok (q.2.1, q.2.2))) = true := by decide +kernel
theorem npX12_pieceAt : (parseMethodDescriptor (mY mX12_pieceAt).desc).map (fun d => d.parameters.length) = some 3 := by decide +kernel
theorem vX12_pieceAt : mV mX12_pieceAt := ⟨wI_X12_pieceAt, wS_X12_pieceAt, wN_X12, wC_X12_pieceAt, by decide +kernel, by decide +kernel⟩
set_option maxHeartbeats 4000000 in
set_option maxRecDepth 100000 in
theorem sX12_pieceAt {h0 h : HP} {b : Int} {S : HS} {f : Int → Int} {p t : Int} (d : MD h0 h b S f) (hW : rW f) (hp : 0 ≤ p ∧ p < 7) : SpecK mX12_pieceAt [vr 0, vi b, vi p, vi t] h (fun o h' => o = .inl (some (vi (b + 15 + 6 * f (8 + p) + t))) ∧ h' = h) := by
  refine Spec_of (by decide +kernel) (Nat.le_of_ble_eq_true rfl) ?_
  have hB := d.1.1
  have hNt := hB.1
  have hNp := hB.2.1
  have hb := d.2.1
  refine K_iload_n (dt_at dtX12_pieceAt 0 rfl) rfl rfl ?_
  refine K_bipush (dt_at dtX12_pieceAt 1 rfl) (by decide) ?_
  refine K_iadd (dt_at dtX12_pieceAt 2 rfl) ?_
  refine K_bipush (dt_at dtX12_pieceAt 3 rfl) (by decide) ?_
  refine K_aload_n (dt_at dtX12_pieceAt 4 rfl) rfl rfl ?_
  refine K_get (a := 0) (ci := 12) (k := 42) (v := vr 18) (dt_at dtX12_pieceAt 5 rfl) (show TT 0 = (0, 12) from rfl) rfl (by decide) wF_X12_72 rfl ?_
  refine K_iload_n (dt_at dtX12_pieceAt 6 rfl) rfl rfl ?_
  refine K_bipush (dt_at dtX12_pieceAt 7 rfl) (by decide) ?_
  refine K_iadd (dt_at dtX12_pieceAt 8 rfl) ?_
  refine K_iload_n (dt_at dtX12_pieceAt 9 rfl) rfl rfl ?_
  refine K_iadd (dt_at dtX12_pieceAt 10 rfl) ?_
  refine K_iald (dt_at dtX12_pieceAt 11 rfl) (show TT 18 = (1, 154) from rfl) (by omega) (by omega) ?_
  rw [show hA h 18 ((b + 8) + p) = (f (8 + p)) from RV_c d.2.2.2 (p := p) (by omega) (by omega)]
  refine K_imul (dt_at dtX12_pieceAt 12 rfl) ?_
  refine K_iadd (dt_at dtX12_pieceAt 13 rfl) ?_
  refine K_iload_n (dt_at dtX12_pieceAt 14 rfl) rfl rfl ?_
  refine K_iadd (dt_at dtX12_pieceAt 15 rfl) ?_
  exact K_iret (dt_at dtX12_pieceAt 16 rfl) rfl rfl (by decide) (by decide) ⟨rfl, rfl⟩
def mX12_useIn : MI := (yX12_useIn, cX12_useIn, 5, (some .int), rmK 2 0)
def tX12_useIn : List (Nat × Instr × Nat) := [(0, .iconst 0, 1), (1, .istore_n 3, 1), (2, .iconst 0, 1), (3, .istore 4, 2), (5, .iload 4, 2), (7, .aload_n 0, 1), (8, .getfield 267, 3), (11, .if_icmp .ge 33, 3), (14, .iload_n 3, 1), (15, .aload_n 0, 1), (16, .getfield 20, 3), (19, .iload 4, 2), (21, .iaload, 1), (22, .aload_n 0, 1), (23, .getfield 72, 3), (26, .aload_n 0, 1), (27, .iload_n 1, 1), (28, .iload_n 2, 1), (29, .iload 4, 2), (31, .invokevirtual 291, 3), (34, .iaload, 1), (35, .imul, 1), (36, .iadd, 1), (37, .istore_n 3, 1), (38, .iinc 4 1, 3), (41, .goto (-36), 3), (44, .iload_n 3, 1), (45, .ireturn, 1)]
theorem dtX12_useIn : tX12_useIn.all (fun q => decide (decode cX12_useIn q.1 = .ok (q.2.1, q.2.2))) = true := by decide +kernel
theorem npX12_useIn : (parseMethodDescriptor (mY mX12_useIn).desc).map (fun d => d.parameters.length) = some 2 := by decide +kernel
theorem vX12_useIn : mV mX12_useIn := ⟨wI_X12_useIn, wS_X12_useIn, wN_X12, wC_X12_useIn, by decide +kernel, by decide +kernel⟩
set_option maxHeartbeats 4000000 in
set_option maxRecDepth 100000 in
theorem lp_X12_useIn {Z : CT → State → Prop} {h0 h : HP} {b : Int} {S : HS} {f : Int → Int} {p : Int} (d : MD h0 h b S f) (hW : rW f) (hp : 0 ≤ p ∧ p < 7) (kx : K mX12_useIn GK Z 0 0 44 [(4, vi (sNt S : Int)), (3, vi (sumF (sU S) f p (sNt S))), (0, vr 0), (1, vi b), (2, vi p)] [] h) : ∀ (dd k : Nat), k + dd = sNt S → K mX12_useIn GK Z 0 0 5 [(4, vi (k : Int)), (3, vi (sumF (sU S) f p k)), (0, vr 0), (1, vi b), (2, vi p)] [] h := by
  intro dd
  induction dd with
  | zero =>
    intro k hk
    have hB := d.1.1
    have hNt := hB.1
    have hNp := hB.2.1
    have hb := d.2.1
    have ek : k = sNt S := by omega
    subst ek
    refine K_iload (dt_at dtX12_useIn 4 rfl) rfl ?_
    refine K_aload_n (dt_at dtX12_useIn 5 rfl) rfl rfl ?_
    refine K_get (a := 0) (ci := 12) (k := 1) (v := vi (sNt S : Int)) (dt_at dtX12_useIn 6 rfl) (show TT 0 = (0, 12) from rfl) rfl (by decide) wF_X12_267 (by show vi (hI h 0 1) = vi (sNt S : Int); rw [(MD_nt d)]) ?_
    refine K_icmp_ge (tgt := 44) (dt_at dtX12_useIn 7 rfl) (by decide) (by first | assumption | exact ⟨by omega, by omega⟩) (by first | assumption | exact ⟨by omega, by omega⟩) (fun c1 => ?_) (fun c1 => absurd c1 (by omega))
    exact K_pk [0, 1, 2, 3, 4] rfl kx
  | succ dd ih =>
    intro k hk
    have hB := d.1.1
    have hNt := hB.1
    have hNp := hB.2.1
    have hb := d.2.1
    have wc := (hW.2 p hp.1 hp.2).2.1
    refine K_iload (dt_at dtX12_useIn 4 rfl) rfl ?_
    refine K_aload_n (dt_at dtX12_useIn 5 rfl) rfl rfl ?_
    refine K_get (a := 0) (ci := 12) (k := 1) (v := vi (sNt S : Int)) (dt_at dtX12_useIn 6 rfl) (show TT 0 = (0, 12) from rfl) rfl (by decide) wF_X12_267 (by show vi (hI h 0 1) = vi (sNt S : Int); rw [(MD_nt d)]) ?_
    refine K_icmp_ge (tgt := 44) (dt_at dtX12_useIn 7 rfl) (by decide) (by first | assumption | exact ⟨by omega, by omega⟩) (by first | assumption | exact ⟨by omega, by omega⟩) (fun c1 => absurd c1 (by omega)) (fun c1 => ?_)
    refine K_iload_n (dt_at dtX12_useIn 8 rfl) rfl rfl ?_
    refine K_aload_n (dt_at dtX12_useIn 9 rfl) rfl rfl ?_
    refine K_get (a := 0) (ci := 12) (k := 6) (v := vr 2) (dt_at dtX12_useIn 10 rfl) (show TT 0 = (0, 12) from rfl) rfl (by decide) wF_X12_20 rfl ?_
    refine K_iload (dt_at dtX12_useIn 11 rfl) rfl ?_
    refine K_iald (dt_at dtX12_useIn 12 rfl) (show TT 2 = (1, 6) from rfl) (by omega) (by omega) ?_
    rw [show hA h 2 (k : Int) = sU S (k : Int) from MD_u d (by omega)]
    refine K_aload_n (dt_at dtX12_useIn 13 rfl) rfl rfl ?_
    refine K_get (a := 0) (ci := 12) (k := 42) (v := vr 18) (dt_at dtX12_useIn 14 rfl) (show TT 0 = (0, 12) from rfl) rfl (by decide) wF_X12_72 rfl ?_
    refine K_aload_n (dt_at dtX12_useIn 15 rfl) rfl rfl ?_
    refine K_iload_n (dt_at dtX12_useIn 16 rfl) rfl rfl ?_
    refine K_iload_n (dt_at dtX12_useIn 17 rfl) rfl rfl ?_
    refine K_iload (dt_at dtX12_useIn 18 rfl) rfl ?_
    refine K_callV (M' := mX12_pieceAt) (a := 0) (ci := 12) (As := [vi b, vi p, vi (k : Int)]) (st := [vr 18, vi (sU S (k : Int)), vi (sumF (sU S) f p k)]) (dt_at dtX12_useIn 19 rfl) (sX12_pieceAt d hW hp) (show TT 0 = (0, 12) from rfl) rfl wL_X12_291 vX12_pieceAt rfl npX12_pieceAt (by decide) (by decide) (Nat.le_of_ble_eq_true rfl) (by decide) (by decide) GK_E (fun v9 h9 hq => ?_) (fun E h9 hq => by cases hq.1)
    obtain ⟨e9, e8⟩ := hq
    cases e9
    rw [e8]
    show K mX12_useIn _ _ 0 0 34 [(4, vi (k : Int)), (3, vi (sumF (sU S) f p k)), (0, vr 0), (1, vi b), (2, vi p)] [vi (b + 15 + 6 * f (8 + p) + (k : Int)), vr 18, vi (sU S (k : Int)), vi (sumF (sU S) f p k)] h
    refine K_iald (dt_at dtX12_useIn 20 rfl) (show TT 18 = (1, 154) from rfl) (by omega) (by omega) ?_
    rw [show hA h 18 (b + 15 + 6 * f (8 + p) + (k : Int)) = (f (35 + f (8 + p) * 6 + (k : Int))) from RV_i d.2.2.2 (c := f (8 + p)) (t := (k : Int)) (by omega) (by omega) (by omega)]
    refine K_imul (dt_at dtX12_useIn 21 rfl) ?_
    refine K_iadd (dt_at dtX12_useIn 22 rfl) ?_
    refine K_istore_n (ls' := [(3, vi ((sumF (sU S) f p k) + ((sU S (k : Int)) * (f (35 + f (8 + p) * 6 + (k : Int)))))), (4, vi (k : Int)), (0, vr 0), (1, vi b), (2, vi p)]) (dt_at dtX12_useIn 23 rfl) rfl (by decide) rfl ?_
    refine K_iinc (ls' := [(4, vi ((k : Int) + 1)), (3, vi ((sumF (sU S) f p k) + ((sU S (k : Int)) * (f (35 + f (8 + p) * 6 + (k : Int)))))), (0, vr 0), (1, vi b), (2, vi p)]) (dt_at dtX12_useIn 24 rfl) rfl (by decide) rfl ?_
    refine K_goto (tgt := 5) (dt_at dtX12_useIn 25 rfl) (by decide) ?_
    refine K_pk [0, 1, 2, 3, 4] (ls' := [(4, vi ((k : Int) + 1)), (3, vi ((sumF (sU S) f p k) + ((sU S (k : Int)) * (f (35 + f (8 + p) * 6 + (k : Int)))))), (0, vr 0), (1, vi b), (2, vi p)]) rfl ?_
    exact K_cg (ls' := [(4, vi ((k + 1 : Nat) : Int)), (3, vi (sumF (sU S) f p (k + 1))), (0, vr 0), (1, vi b), (2, vi p)]) (h' := h) (by rfl) (by rfl) (ih (k + 1) (by omega))
set_option maxHeartbeats 4000000 in
set_option maxRecDepth 100000 in
theorem sX12_useIn {h0 h : HP} {b : Int} {S : HS} {f : Int → Int} {p : Int} (d : MD h0 h b S f) (hW : rW f) (hp : 0 ≤ p ∧ p < 7) : SpecK mX12_useIn [vr 0, vi b, vi p] h (fun o h' => o = .inl (some (vi (sumF (sU S) f p (sNt S)))) ∧ h' = h) := by
  refine Spec_of (by decide +kernel) (Nat.le_of_ble_eq_true rfl) ?_
  have hB := d.1.1
  have hNt := hB.1
  have hNp := hB.2.1
  have hb := d.2.1
  refine K_iconst (dt_at dtX12_useIn 0 rfl) ?_
  refine K_istore_n (ls' := [(3, vi 0), (0, vr 0), (1, vi b), (2, vi p)]) (dt_at dtX12_useIn 1 rfl) rfl (by decide) rfl ?_
  refine K_iconst (dt_at dtX12_useIn 2 rfl) ?_
  refine K_istore (ls' := [(4, vi 0), (3, vi 0), (0, vr 0), (1, vi b), (2, vi p)]) (dt_at dtX12_useIn 3 rfl) (by decide) rfl ?_
  refine K_pk [0, 1, 2, 3, 4] rfl (lp_X12_useIn d hW hp ?_ (sNt S) 0 (by omega))
  refine K_iload_n (dt_at dtX12_useIn 26 rfl) rfl rfl ?_
  exact K_iret (dt_at dtX12_useIn 27 rfl) rfl rfl (by decide) (by decide) ⟨rfl, rfl⟩
def mX12_weightIn : MI := (yX12_weightIn, cX12_weightIn, 5, (some .int), rmK 2 0)
def tX12_weightIn : List (Nat × Instr × Nat) := [(0, .iconst 0, 1), (1, .istore_n 3, 1), (2, .iconst 0, 1), (3, .istore 4, 2), (5, .iload 4, 2), (7, .aload_n 0, 1), (8, .getfield 267, 3), (11, .if_icmp .ge 33, 3), (14, .iload_n 3, 1), (15, .aload_n 0, 1), (16, .getfield 16, 3), (19, .iload 4, 2), (21, .iaload, 1), (22, .aload_n 0, 1), (23, .getfield 72, 3), (26, .aload_n 0, 1), (27, .iload_n 1, 1), (28, .iload_n 2, 1), (29, .iload 4, 2), (31, .invokevirtual 291, 3), (34, .iaload, 1), (35, .imul, 1), (36, .iadd, 1), (37, .istore_n 3, 1), (38, .iinc 4 1, 3), (41, .goto (-36), 3), (44, .iload_n 3, 1), (45, .ireturn, 1)]
theorem dtX12_weightIn : tX12_weightIn.all (fun q => decide (decode cX12_weightIn q.1 = .ok (q.2.1, q.2.2))) = true := by decide +kernel
theorem npX12_weightIn : (parseMethodDescriptor (mY mX12_weightIn).desc).map (fun d => d.parameters.length) = some 2 := by decide +kernel
theorem vX12_weightIn : mV mX12_weightIn := ⟨wI_X12_weightIn, wS_X12_weightIn, wN_X12, wC_X12_weightIn, by decide +kernel, by decide +kernel⟩
set_option maxHeartbeats 4000000 in
set_option maxRecDepth 100000 in
theorem lp_X12_weightIn {Z : CT → State → Prop} {h0 h : HP} {b : Int} {S : HS} {f : Int → Int} {p : Int} (d : MD h0 h b S f) (hW : rW f) (hp : 0 ≤ p ∧ p < 7) (kx : K mX12_weightIn GK Z 0 0 44 [(4, vi (sNt S : Int)), (3, vi (sumF (sW S) f p (sNt S))), (0, vr 0), (1, vi b), (2, vi p)] [] h) : ∀ (dd k : Nat), k + dd = sNt S → K mX12_weightIn GK Z 0 0 5 [(4, vi (k : Int)), (3, vi (sumF (sW S) f p k)), (0, vr 0), (1, vi b), (2, vi p)] [] h := by
  intro dd
  induction dd with
  | zero =>
    intro k hk
    have hB := d.1.1
    have hNt := hB.1
    have hNp := hB.2.1
    have hb := d.2.1
    have ek : k = sNt S := by omega
    subst ek
    refine K_iload (dt_at dtX12_weightIn 4 rfl) rfl ?_
    refine K_aload_n (dt_at dtX12_weightIn 5 rfl) rfl rfl ?_
    refine K_get (a := 0) (ci := 12) (k := 1) (v := vi (sNt S : Int)) (dt_at dtX12_weightIn 6 rfl) (show TT 0 = (0, 12) from rfl) rfl (by decide) wF_X12_267 (by show vi (hI h 0 1) = vi (sNt S : Int); rw [(MD_nt d)]) ?_
    refine K_icmp_ge (tgt := 44) (dt_at dtX12_weightIn 7 rfl) (by decide) (by first | assumption | exact ⟨by omega, by omega⟩) (by first | assumption | exact ⟨by omega, by omega⟩) (fun c1 => ?_) (fun c1 => absurd c1 (by omega))
    exact K_pk [0, 1, 2, 3, 4] rfl kx
  | succ dd ih =>
    intro k hk
    have hB := d.1.1
    have hNt := hB.1
    have hNp := hB.2.1
    have hb := d.2.1
    have wc := (hW.2 p hp.1 hp.2).2.1
    refine K_iload (dt_at dtX12_weightIn 4 rfl) rfl ?_
    refine K_aload_n (dt_at dtX12_weightIn 5 rfl) rfl rfl ?_
    refine K_get (a := 0) (ci := 12) (k := 1) (v := vi (sNt S : Int)) (dt_at dtX12_weightIn 6 rfl) (show TT 0 = (0, 12) from rfl) rfl (by decide) wF_X12_267 (by show vi (hI h 0 1) = vi (sNt S : Int); rw [(MD_nt d)]) ?_
    refine K_icmp_ge (tgt := 44) (dt_at dtX12_weightIn 7 rfl) (by decide) (by first | assumption | exact ⟨by omega, by omega⟩) (by first | assumption | exact ⟨by omega, by omega⟩) (fun c1 => absurd c1 (by omega)) (fun c1 => ?_)
    refine K_iload_n (dt_at dtX12_weightIn 8 rfl) rfl rfl ?_
    refine K_aload_n (dt_at dtX12_weightIn 9 rfl) rfl rfl ?_
    refine K_get (a := 0) (ci := 12) (k := 5) (v := vr 1) (dt_at dtX12_weightIn 10 rfl) (show TT 0 = (0, 12) from rfl) rfl (by decide) wF_X12_16 rfl ?_
    refine K_iload (dt_at dtX12_weightIn 11 rfl) rfl ?_
    refine K_iald (dt_at dtX12_weightIn 12 rfl) (show TT 1 = (1, 6) from rfl) (by omega) (by omega) ?_
    rw [show hA h 1 (k : Int) = sW S (k : Int) from MD_w d (by omega)]
    refine K_aload_n (dt_at dtX12_weightIn 13 rfl) rfl rfl ?_
    refine K_get (a := 0) (ci := 12) (k := 42) (v := vr 18) (dt_at dtX12_weightIn 14 rfl) (show TT 0 = (0, 12) from rfl) rfl (by decide) wF_X12_72 rfl ?_
    refine K_aload_n (dt_at dtX12_weightIn 15 rfl) rfl rfl ?_
    refine K_iload_n (dt_at dtX12_weightIn 16 rfl) rfl rfl ?_
    refine K_iload_n (dt_at dtX12_weightIn 17 rfl) rfl rfl ?_
    refine K_iload (dt_at dtX12_weightIn 18 rfl) rfl ?_
    refine K_callV (M' := mX12_pieceAt) (a := 0) (ci := 12) (As := [vi b, vi p, vi (k : Int)]) (st := [vr 18, vi (sW S (k : Int)), vi (sumF (sW S) f p k)]) (dt_at dtX12_weightIn 19 rfl) (sX12_pieceAt d hW hp) (show TT 0 = (0, 12) from rfl) rfl wL_X12_291 vX12_pieceAt rfl npX12_pieceAt (by decide) (by decide) (Nat.le_of_ble_eq_true rfl) (by decide) (by decide) GK_E (fun v9 h9 hq => ?_) (fun E h9 hq => by cases hq.1)
    obtain ⟨e9, e8⟩ := hq
    cases e9
    rw [e8]
    show K mX12_weightIn _ _ 0 0 34 [(4, vi (k : Int)), (3, vi (sumF (sW S) f p k)), (0, vr 0), (1, vi b), (2, vi p)] [vi (b + 15 + 6 * f (8 + p) + (k : Int)), vr 18, vi (sW S (k : Int)), vi (sumF (sW S) f p k)] h
    refine K_iald (dt_at dtX12_weightIn 20 rfl) (show TT 18 = (1, 154) from rfl) (by omega) (by omega) ?_
    rw [show hA h 18 (b + 15 + 6 * f (8 + p) + (k : Int)) = (f (35 + f (8 + p) * 6 + (k : Int))) from RV_i d.2.2.2 (c := f (8 + p)) (t := (k : Int)) (by omega) (by omega) (by omega)]
    refine K_imul (dt_at dtX12_weightIn 21 rfl) ?_
    refine K_iadd (dt_at dtX12_weightIn 22 rfl) ?_
    refine K_istore_n (ls' := [(3, vi ((sumF (sW S) f p k) + ((sW S (k : Int)) * (f (35 + f (8 + p) * 6 + (k : Int)))))), (4, vi (k : Int)), (0, vr 0), (1, vi b), (2, vi p)]) (dt_at dtX12_weightIn 23 rfl) rfl (by decide) rfl ?_
    refine K_iinc (ls' := [(4, vi ((k : Int) + 1)), (3, vi ((sumF (sW S) f p k) + ((sW S (k : Int)) * (f (35 + f (8 + p) * 6 + (k : Int)))))), (0, vr 0), (1, vi b), (2, vi p)]) (dt_at dtX12_weightIn 24 rfl) rfl (by decide) rfl ?_
    refine K_goto (tgt := 5) (dt_at dtX12_weightIn 25 rfl) (by decide) ?_
    refine K_pk [0, 1, 2, 3, 4] (ls' := [(4, vi ((k : Int) + 1)), (3, vi ((sumF (sW S) f p k) + ((sW S (k : Int)) * (f (35 + f (8 + p) * 6 + (k : Int)))))), (0, vr 0), (1, vi b), (2, vi p)]) rfl ?_
    exact K_cg (ls' := [(4, vi ((k + 1 : Nat) : Int)), (3, vi (sumF (sW S) f p (k + 1))), (0, vr 0), (1, vi b), (2, vi p)]) (h' := h) (by rfl) (by rfl) (ih (k + 1) (by omega))
set_option maxHeartbeats 4000000 in
set_option maxRecDepth 100000 in
theorem sX12_weightIn {h0 h : HP} {b : Int} {S : HS} {f : Int → Int} {p : Int} (d : MD h0 h b S f) (hW : rW f) (hp : 0 ≤ p ∧ p < 7) : SpecK mX12_weightIn [vr 0, vi b, vi p] h (fun o h' => o = .inl (some (vi (sumF (sW S) f p (sNt S)))) ∧ h' = h) := by
  refine Spec_of (by decide +kernel) (Nat.le_of_ble_eq_true rfl) ?_
  have hB := d.1.1
  have hNt := hB.1
  have hNp := hB.2.1
  have hb := d.2.1
  refine K_iconst (dt_at dtX12_weightIn 0 rfl) ?_
  refine K_istore_n (ls' := [(3, vi 0), (0, vr 0), (1, vi b), (2, vi p)]) (dt_at dtX12_weightIn 1 rfl) rfl (by decide) rfl ?_
  refine K_iconst (dt_at dtX12_weightIn 2 rfl) ?_
  refine K_istore (ls' := [(4, vi 0), (3, vi 0), (0, vr 0), (1, vi b), (2, vi p)]) (dt_at dtX12_weightIn 3 rfl) (by decide) rfl ?_
  refine K_pk [0, 1, 2, 3, 4] rfl (lp_X12_weightIn d hW hp ?_ (sNt S) 0 (by omega))
  refine K_iload_n (dt_at dtX12_weightIn 26 rfl) rfl rfl ?_
  exact K_iret (dt_at dtX12_weightIn 27 rfl) rfl rfl (by decide) (by decide) ⟨rfl, rfl⟩
