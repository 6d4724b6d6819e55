def mX10_tripsOf : MI := (yX10_tripsOf, cX10_tripsOf, 2, (some .int), rmK 1 0)
def tX10_tripsOf : List (Nat × Instr × Nat) := [(0, .aload_n 0, 1), (1, .getfield 24, 3), (4, .iload_n 1, 1), (5, .iaload, 1), (6, .ireturn, 1)]
theorem dtX10_tripsOf : tX10_tripsOf.all (fun q => decide (decode cX10_tripsOf q.1 = .ok (q.2.1, q.2.2))) = true := by decide +kernel
theorem npX10_tripsOf : (parseMethodDescriptor (mY mX10_tripsOf).desc).map (fun d => d.parameters.length) = some 1 := by decide +kernel
theorem vX10_tripsOf : mV mX10_tripsOf := ⟨wI_X10_tripsOf, wS_X10_tripsOf, wN_X10, wC_X10_tripsOf, by decide +kernel, by decide +kernel⟩
set_option maxHeartbeats 4000000 in
set_option maxRecDepth 100000 in
theorem sX10_tripsOf {h : HP} {w : Nat} {p : Int} (hW10 : TT w = (0, 10)) (hp : 0 ≤ p ∧ p < 7) : SpecK mX10_tripsOf [vr w, vi p] h (fun o h' => o = .inl (some (vi (hA h (w + 4) p))) ∧ h' = h) := by
  refine Spec_of (by decide +kernel) (Nat.le_of_ble_eq_true rfl) ?_
  refine K_aload_n (dt_at dtX10_tripsOf 0 rfl) rfl rfl ?_
  refine K_get (a := w) (ci := 10) (k := 2) (v := vr (w + 4)) (dt_at dtX10_tripsOf 1 rfl) hW10 rfl (by decide) wF_X10_24 rfl ?_
  refine K_iload_n (dt_at dtX10_tripsOf 2 rfl) rfl rfl ?_
  refine K_iald (dt_at dtX10_tripsOf 3 rfl) (lay_10_2 hW10) (by omega) (by omega) ?_
  exact K_iret (dt_at dtX10_tripsOf 4 rfl) rfl rfl (by decide) (by decide) ⟨rfl, rfl⟩
def mX10_emptyCases : MI := (yX10_emptyCases, cX10_emptyCases, 1, (some .int), rmK 1 0)
def tX10_emptyCases : List (Nat × Instr × Nat) := [(0, .aload_n 0, 1), (1, .getfield 33, 3), (4, .ireturn, 1)]
theorem dtX10_emptyCases : tX10_emptyCases.all (fun q => decide (decode cX10_emptyCases q.1 = .ok (q.2.1, q.2.2))) = true := by decide +kernel
theorem npX10_emptyCases : (parseMethodDescriptor (mY mX10_emptyCases).desc).map (fun d => d.parameters.length) = some 0 := by decide +kernel
theorem vX10_emptyCases : mV mX10_emptyCases := ⟨wI_X10_emptyCases, wS_X10_emptyCases, wN_X10, wC_X10_emptyCases, by decide +kernel, by decide +kernel⟩
set_option maxHeartbeats 4000000 in
set_option maxRecDepth 100000 in
theorem sX10_emptyCases {h : HP} {w : Nat} (hW10 : TT w = (0, 10)) : SpecK mX10_emptyCases [vr w] h (fun o h' => o = .inl (some (vi (hI h w 6))) ∧ h' = h) := by
  refine Spec_of (by decide +kernel) (Nat.le_of_ble_eq_true rfl) ?_
  refine K_aload_n (dt_at dtX10_emptyCases 0 rfl) rfl rfl ?_
  refine K_get (a := w) (ci := 10) (k := 6) (v := vi (hI h w 6)) (dt_at dtX10_emptyCases 1 rfl) hW10 rfl (by decide) wF_X10_33 rfl ?_
  exact K_iret (dt_at dtX10_emptyCases 2 rfl) rfl rfl (by decide) (by decide) ⟨rfl, rfl⟩
def mX10_allTrips : MI := (yX10_allTrips, cX10_allTrips, 3, (some .int), rmK 1 0)
def tX10_allTrips : List (Nat × Instr × Nat) := [(0, .iconst 0, 1), (1, .istore_n 1, 1), (2, .iconst 0, 1), (3, .istore_n 2, 1), (4, .iload_n 2, 1), (5, .bipush 7, 2), (7, .if_icmp .ge 18, 3), (10, .iload_n 1, 1), (11, .aload_n 0, 1), (12, .getfield 24, 3), (15, .iload_n 2, 1), (16, .iaload, 1), (17, .iadd, 1), (18, .istore_n 1, 1), (19, .iinc 2 1, 3), (22, .goto (-18), 3), (25, .iload_n 1, 1), (26, .ireturn, 1)]
theorem dtX10_allTrips : tX10_allTrips.all (fun q => decide (decode cX10_allTrips q.1 = .ok (q.2.1, q.2.2))) = true := by decide +kernel
theorem npX10_allTrips : (parseMethodDescriptor (mY mX10_allTrips).desc).map (fun d => d.parameters.length) = some 0 := by decide +kernel
theorem vX10_allTrips : mV mX10_allTrips := ⟨wI_X10_allTrips, wS_X10_allTrips, wN_X10, wC_X10_allTrips, by decide +kernel, by decide +kernel⟩
set_option maxHeartbeats 4000000 in
set_option maxRecDepth 100000 in
theorem lp_X10_allTrips {Z : CT → State → Prop} {h : HP} {w : Nat} (hW10 : TT w = (0, 10)) (kx : K mX10_allTrips GK Z 0 0 25 [(2, vi (7 : Int)), (1, vi (itN (fun k v => v + hA h (w + 4) (k : Int)) 0 7)), (0, vr w)] [] h) : ∀ (d k : Nat), k + d = 7 → K mX10_allTrips GK Z 0 0 4 [(2, vi (k : Int)), (1, vi (itN (fun k v => v + hA h (w + 4) (k : Int)) 0 k)), (0, vr w)] [] h := by
  intro d
  induction d with
  | zero =>
    intro k hk
    obtain rfl : 7 = k := by omega
    refine K_iload_n (dt_at dtX10_allTrips 4 rfl) rfl rfl ?_
    refine K_bipush (dt_at dtX10_allTrips 5 rfl) (by decide) ?_
    refine K_icmp_ge (tgt := 25) (dt_at dtX10_allTrips 6 rfl) (by decide) (by first | assumption | exact ⟨by omega, by omega⟩) (by first | assumption | exact ⟨by omega, by omega⟩) (fun c1 => ?_) (fun c1 => absurd c1 (by omega))
    exact K_pk [0, 1, 2] rfl kx
  | succ d ih =>
    intro k hk
    refine K_iload_n (dt_at dtX10_allTrips 4 rfl) rfl rfl ?_
    refine K_bipush (dt_at dtX10_allTrips 5 rfl) (by decide) ?_
    refine K_icmp_ge (tgt := 25) (dt_at dtX10_allTrips 6 rfl) (by decide) (by first | assumption | exact ⟨by omega, by omega⟩) (by first | assumption | exact ⟨by omega, by omega⟩) (fun c1 => absurd c1 (by omega)) (fun c1 => ?_)
    refine K_iload_n (dt_at dtX10_allTrips 7 rfl) rfl rfl ?_
    refine K_aload_n (dt_at dtX10_allTrips 8 rfl) rfl rfl ?_
    refine K_get (a := w) (ci := 10) (k := 2) (v := vr (w + 4)) (dt_at dtX10_allTrips 9 rfl) hW10 rfl (by decide) wF_X10_24 rfl ?_
    refine K_iload_n (dt_at dtX10_allTrips 10 rfl) rfl rfl ?_
    refine K_iald (dt_at dtX10_allTrips 11 rfl) (lay_10_2 hW10) (by omega) (by omega) ?_
    refine K_iadd (dt_at dtX10_allTrips 12 rfl) ?_
    refine K_istore_n (ls' := [(1, vi ((itN (fun k v => v + hA h (w + 4) (k : Int)) 0 k) + (hA h (w + 4) (k : Int)))), (2, vi (k : Int)), (0, vr w)]) (dt_at dtX10_allTrips 13 rfl) rfl (by decide) rfl ?_
    refine K_iinc (ls' := [(2, vi ((k : Int) + 1)), (1, vi ((itN (fun k v => v + hA h (w + 4) (k : Int)) 0 k) + (hA h (w + 4) (k : Int)))), (0, vr w)]) (dt_at dtX10_allTrips 14 rfl) rfl (by decide) rfl ?_
    refine K_goto (tgt := 4) (dt_at dtX10_allTrips 15 rfl) (by decide) ?_
    refine K_pk [0, 1, 2] (ls' := [(2, vi ((k : Int) + 1)), (1, vi ((itN (fun k v => v + hA h (w + 4) (k : Int)) 0 k) + (hA h (w + 4) (k : Int)))), (0, vr w)]) rfl ?_
    exact K_cg (ls' := [(2, vi ((k + 1 : Nat) : Int)), (1, vi (itN (fun k v => v + hA h (w + 4) (k : Int)) 0 (k + 1))), (0, vr w)]) (h' := h) (by rfl) (by rfl) (ih (k + 1) (by omega))
set_option maxHeartbeats 4000000 in
set_option maxRecDepth 100000 in
theorem sX10_allTrips {h : HP} {w : Nat} (hW10 : TT w = (0, 10)) : SpecK mX10_allTrips [vr w] h (fun o h' => o = .inl (some (vi (itN (fun k v => v + hA h (w + 4) (k : Int)) 0 7))) ∧ h' = h) := by
  refine Spec_of (by decide +kernel) (Nat.le_of_ble_eq_true rfl) ?_
  refine K_iconst (dt_at dtX10_allTrips 0 rfl) ?_
  refine K_istore_n (ls' := [(1, vi 0), (0, vr w)]) (dt_at dtX10_allTrips 1 rfl) rfl (by decide) rfl ?_
  refine K_iconst (dt_at dtX10_allTrips 2 rfl) ?_
  refine K_istore_n (ls' := [(2, vi 0), (1, vi 0), (0, vr w)]) (dt_at dtX10_allTrips 3 rfl) rfl (by decide) rfl ?_
  refine K_pk [0, 1, 2] rfl (lp_X10_allTrips hW10 ?_ 7 0 (by omega))
  refine K_iload_n (dt_at dtX10_allTrips 16 rfl) rfl rfl ?_
  exact K_iret (dt_at dtX10_allTrips 17 rfl) rfl rfl (by decide) (by decide) ⟨rfl, rfl⟩
def bcI (x : Int) : Int :=
  let a := x - bAnd (bUshr x 1) 1431655765
  let b := bAnd a 858993459 + bAnd (bUshr a 2) 858993459
  let c := bAnd (b + bUshr b 4) 252645135
  let d := c + bUshr c 8
  let e := d + bUshr d 16
  bAnd e 63
theorem bcI32 (x : Int) : i32 (bcI x) := bAnd32 _ _
def mJ6_bitCount_0f7a4 : MI := (yJ6_bitCount_0f7a4, cJ6_bitCount_0f7a4, 1, (some .int), rmK 1 0)
def tJ6_bitCount_0f7a4 : List (Nat × Instr × Nat) := [(0, .iload_n 0, 1), (1, .iload_n 0, 1), (2, .iconst 1, 1), (3, .iushr, 1), (4, .ldc_w 265, 3), (7, .iand, 1), (8, .isub, 1), (9, .istore_n 0, 1), (10, .iload_n 0, 1), (11, .ldc_w 266, 3), (14, .iand, 1), (15, .iload_n 0, 1), (16, .iconst 2, 1), (17, .iushr, 1), (18, .ldc_w 266, 3), (21, .iand, 1), (22, .iadd, 1), (23, .istore_n 0, 1), (24, .iload_n 0, 1), (25, .iload_n 0, 1), (26, .iconst 4, 1), (27, .iushr, 1), (28, .iadd, 1), (29, .ldc_w 267, 3), (32, .iand, 1), (33, .istore_n 0, 1), (34, .iload_n 0, 1), (35, .iload_n 0, 1), (36, .bipush 8, 2), (38, .iushr, 1), (39, .iadd, 1), (40, .istore_n 0, 1), (41, .iload_n 0, 1), (42, .iload_n 0, 1), (43, .bipush 16, 2), (45, .iushr, 1), (46, .iadd, 1), (47, .istore_n 0, 1), (48, .iload_n 0, 1), (49, .bipush 63, 2), (51, .iand, 1), (52, .ireturn, 1)]
theorem dtJ6_bitCount_0f7a4 : tJ6_bitCount_0f7a4.all (fun q => decide (decode cJ6_bitCount_0f7a4 q.1 = .ok (q.2.1, q.2.2))) = true := by decide +kernel
theorem npJ6_bitCount_0f7a4 : (parseMethodDescriptor (mY mJ6_bitCount_0f7a4).desc).map (fun d => d.parameters.length) = some 1 := by decide +kernel
theorem vJ6_bitCount_0f7a4 : mS mJ6_bitCount_0f7a4 := ⟨wT_J6_bitCount_0f7a4, wN_J6, wC_J6_bitCount_0f7a4, by decide +kernel, by decide +kernel⟩
set_option maxHeartbeats 4000000 in
set_option maxRecDepth 100000 in
theorem sJ6_bitCount_0f7a4 {h : HP} {x : Int}  : SpecK mJ6_bitCount_0f7a4 [vi x] h (fun o h' => o = .inl (some (vi (bcI x))) ∧ h' = h) := by
  refine Spec_of (by decide +kernel) (Nat.le_of_ble_eq_true rfl) ?_
  refine K_iload_n (dt_at dtJ6_bitCount_0f7a4 0 rfl) rfl rfl ?_
  refine K_iload_n (dt_at dtJ6_bitCount_0f7a4 1 rfl) rfl rfl ?_
  refine K_iconst (dt_at dtJ6_bitCount_0f7a4 2 rfl) ?_
  refine K_iushr (dt_at dtJ6_bitCount_0f7a4 3 rfl) ?_
  refine K_ldcw (n := 1431655765) (dt_at dtJ6_bitCount_0f7a4 4 rfl) wK_J6_265 (by decide) ?_
  refine K_iand (dt_at dtJ6_bitCount_0f7a4 5 rfl) ?_
  refine K_isub (dt_at dtJ6_bitCount_0f7a4 6 rfl) ?_
  refine K_istore_n (ls' := [(0, vi (x - (bAnd (bUshr x 1) 1431655765)))]) (dt_at dtJ6_bitCount_0f7a4 7 rfl) rfl (by decide) rfl ?_
  refine K_iload_n (dt_at dtJ6_bitCount_0f7a4 8 rfl) rfl rfl ?_
  refine K_ldcw (n := 858993459) (dt_at dtJ6_bitCount_0f7a4 9 rfl) wK_J6_266 (by decide) ?_
  refine K_iand (dt_at dtJ6_bitCount_0f7a4 10 rfl) ?_
  refine K_iload_n (dt_at dtJ6_bitCount_0f7a4 11 rfl) rfl rfl ?_
  refine K_iconst (dt_at dtJ6_bitCount_0f7a4 12 rfl) ?_
  refine K_iushr (dt_at dtJ6_bitCount_0f7a4 13 rfl) ?_
  refine K_ldcw (n := 858993459) (dt_at dtJ6_bitCount_0f7a4 14 rfl) wK_J6_266 (by decide) ?_
  refine K_iand (dt_at dtJ6_bitCount_0f7a4 15 rfl) ?_
  refine K_iadd (dt_at dtJ6_bitCount_0f7a4 16 rfl) ?_
  refine K_istore_n (ls' := [(0, vi ((bAnd (x - (bAnd (bUshr x 1) 1431655765)) 858993459) + (bAnd (bUshr (x - (bAnd (bUshr x 1) 1431655765)) 2) 858993459)))]) (dt_at dtJ6_bitCount_0f7a4 17 rfl) rfl (by decide) rfl ?_
  refine K_iload_n (dt_at dtJ6_bitCount_0f7a4 18 rfl) rfl rfl ?_
  refine K_iload_n (dt_at dtJ6_bitCount_0f7a4 19 rfl) rfl rfl ?_
  refine K_iconst (dt_at dtJ6_bitCount_0f7a4 20 rfl) ?_
  refine K_iushr (dt_at dtJ6_bitCount_0f7a4 21 rfl) ?_
  refine K_iadd (dt_at dtJ6_bitCount_0f7a4 22 rfl) ?_
  refine K_ldcw (n := 252645135) (dt_at dtJ6_bitCount_0f7a4 23 rfl) wK_J6_267 (by decide) ?_
  refine K_iand (dt_at dtJ6_bitCount_0f7a4 24 rfl) ?_
  refine K_istore_n (ls' := [(0, vi (bAnd (((bAnd (x - (bAnd (bUshr x 1) 1431655765)) 858993459) + (bAnd (bUshr (x - (bAnd (bUshr x 1) 1431655765)) 2) 858993459)) + (bUshr ((bAnd (x - (bAnd (bUshr x 1) 1431655765)) 858993459) + (bAnd (bUshr (x - (bAnd (bUshr x 1) 1431655765)) 2) 858993459)) 4)) 252645135))]) (dt_at dtJ6_bitCount_0f7a4 25 rfl) rfl (by decide) rfl ?_
  refine K_iload_n (dt_at dtJ6_bitCount_0f7a4 26 rfl) rfl rfl ?_
  refine K_iload_n (dt_at dtJ6_bitCount_0f7a4 27 rfl) rfl rfl ?_
  refine K_bipush (dt_at dtJ6_bitCount_0f7a4 28 rfl) (by decide) ?_
  refine K_iushr (dt_at dtJ6_bitCount_0f7a4 29 rfl) ?_
  refine K_iadd (dt_at dtJ6_bitCount_0f7a4 30 rfl) ?_
  refine K_istore_n (ls' := [(0, vi ((bAnd (((bAnd (x - (bAnd (bUshr x 1) 1431655765)) 858993459) + (bAnd (bUshr (x - (bAnd (bUshr x 1) 1431655765)) 2) 858993459)) + (bUshr ((bAnd (x - (bAnd (bUshr x 1) 1431655765)) 858993459) + (bAnd (bUshr (x - (bAnd (bUshr x 1) 1431655765)) 2) 858993459)) 4)) 252645135) + (bUshr (bAnd (((bAnd (x - (bAnd (bUshr x 1) 1431655765)) 858993459) + (bAnd (bUshr (x - (bAnd (bUshr x 1) 1431655765)) 2) 858993459)) + (bUshr ((bAnd (x - (bAnd (bUshr x 1) 1431655765)) 858993459) + (bAnd (bUshr (x - (bAnd (bUshr x 1) 1431655765)) 2) 858993459)) 4)) 252645135) 8)))]) (dt_at dtJ6_bitCount_0f7a4 31 rfl) rfl (by decide) rfl ?_
  refine K_iload_n (dt_at dtJ6_bitCount_0f7a4 32 rfl) rfl rfl ?_
  refine K_iload_n (dt_at dtJ6_bitCount_0f7a4 33 rfl) rfl rfl ?_
  refine K_bipush (dt_at dtJ6_bitCount_0f7a4 34 rfl) (by decide) ?_
  refine K_iushr (dt_at dtJ6_bitCount_0f7a4 35 rfl) ?_
  refine K_iadd (dt_at dtJ6_bitCount_0f7a4 36 rfl) ?_
  refine K_istore_n (ls' := [(0, vi (((bAnd (((bAnd (x - (bAnd (bUshr x 1) 1431655765)) 858993459) + (bAnd (bUshr (x - (bAnd (bUshr x 1) 1431655765)) 2) 858993459)) + (bUshr ((bAnd (x - (bAnd (bUshr x 1) 1431655765)) 858993459) + (bAnd (bUshr (x - (bAnd (bUshr x 1) 1431655765)) 2) 858993459)) 4)) 252645135) + (bUshr (bAnd (((bAnd (x - (bAnd (bUshr x 1) 1431655765)) 858993459) + (bAnd (bUshr (x - (bAnd (bUshr x 1) 1431655765)) 2) 858993459)) + (bUshr ((bAnd (x - (bAnd (bUshr x 1) 1431655765)) 858993459) + (bAnd (bUshr (x - (bAnd (bUshr x 1) 1431655765)) 2) 858993459)) 4)) 252645135) 8)) + (bUshr ((bAnd (((bAnd (x - (bAnd (bUshr x 1) 1431655765)) 858993459) + (bAnd (bUshr (x - (bAnd (bUshr x 1) 1431655765)) 2) 858993459)) + (bUshr ((bAnd (x - (bAnd (bUshr x 1) 1431655765)) 858993459) + (bAnd (bUshr (x - (bAnd (bUshr x 1) 1431655765)) 2) 858993459)) 4)) 252645135) + (bUshr (bAnd (((bAnd (x - (bAnd (bUshr x 1) 1431655765)) 858993459) + (bAnd (bUshr (x - (bAnd (bUshr x 1) 1431655765)) 2) 858993459)) + (bUshr ((bAnd (x - (bAnd (bUshr x 1) 1431655765)) 858993459) + (bAnd (bUshr (x - (bAnd (bUshr x 1) 1431655765)) 2) 858993459)) 4)) 252645135) 8)) 16)))]) (dt_at dtJ6_bitCount_0f7a4 37 rfl) rfl (by decide) rfl ?_
  refine K_iload_n (dt_at dtJ6_bitCount_0f7a4 38 rfl) rfl rfl ?_
  refine K_bipush (dt_at dtJ6_bitCount_0f7a4 39 rfl) (by decide) ?_
  refine K_iand (dt_at dtJ6_bitCount_0f7a4 40 rfl) ?_
  exact K_iret (dt_at dtJ6_bitCount_0f7a4 41 rfl) rfl rfl (by decide) (by decide) ⟨rfl, rfl⟩
def mX8_dismiss : MI := (yX8_dismiss, cX8_dismiss, 4, none, rmK 2 0)
def tX8_dismiss : List (Nat × Instr × Nat) := [(0, .iconst 0, 1), (1, .istore_n 3, 1), (2, .iload_n 3, 1), (3, .iload_n 2, 1), (4, .if_icmp .ge 24, 3), (7, .aload_n 0, 1), (8, .iload_n 3, 1), (9, .invokevirtual 58, 3), (12, .iload_n 1, 1), (13, .if_icmp .ne 9, 3), (16, .aload_n 0, 1), (17, .iload_n 3, 1), (18, .iconst (-1), 1), (19, .invokevirtual 61, 3), (22, .iinc 3 1, 3), (25, .goto (-23), 3), (28, .return_, 1)]
theorem dtX8_dismiss : tX8_dismiss.all (fun q => decide (decode cX8_dismiss q.1 = .ok (q.2.1, q.2.2))) = true := by decide +kernel
theorem npX8_dismiss : (parseMethodDescriptor (mY mX8_dismiss).desc).map (fun d => d.parameters.length) = some 2 := by decide +kernel
theorem vX8_dismiss : mV mX8_dismiss := ⟨wI_X8_dismiss, wS_X8_dismiss, wN_X8, wC_X8_dismiss, by decide +kernel, by decide +kernel⟩
set_option maxHeartbeats 4000000 in
set_option maxRecDepth 100000 in
theorem lp_X8_dismiss {Z : CT → State → Prop} {h : HP} {a n : Nat} {q : Int} (hT : TT a = (0, 8)) (hW : rW (hA h (a + 1))) (hn : n ≤ 7) (hq0 : i32 q) (kx : K mX8_dismiss GK Z 0 0 28 [(3, vi (n : Int)), (0, vr a), (1, vi q), (2, vi (n : Int))] [] (sF h (a + 1) (disF (hA h (a + 1)) q n))) : ∀ (d k : Nat), k + d = n → K mX8_dismiss GK Z 0 0 2 [(3, vi (k : Int)), (0, vr a), (1, vi q), (2, vi (n : Int))] [] (sF h (a + 1) (disF (hA h (a + 1)) q k)) := by
  intro d
  induction d with
  | zero =>
    intro k hk
    obtain rfl : n = k := by omega
    refine K_iload_n (dt_at dtX8_dismiss 2 rfl) rfl rfl ?_
    refine K_iload_n (dt_at dtX8_dismiss 3 rfl) rfl rfl ?_
    refine K_icmp_ge (tgt := 28) (dt_at dtX8_dismiss 4 rfl) (by decide) (by first | assumption | exact ⟨by omega, by omega⟩) (by first | assumption | exact ⟨by omega, by omega⟩) (fun c1 => ?_) (fun c1 => absurd c1 (by omega))
    exact K_pk [0, 1, 2, 3] rfl kx
  | succ d ih =>
    intro k hk
    have w1 := (hW.2 k (by omega) (by omega)).2.2.2
    refine K_iload_n (dt_at dtX8_dismiss 2 rfl) rfl rfl ?_
    refine K_iload_n (dt_at dtX8_dismiss 3 rfl) rfl rfl ?_
    refine K_icmp_ge (tgt := 28) (dt_at dtX8_dismiss 4 rfl) (by decide) (by first | assumption | exact ⟨by omega, by omega⟩) (by first | assumption | exact ⟨by omega, by omega⟩) (fun c1 => absurd c1 (by omega)) (fun c1 => ?_)
    refine K_aload_n (dt_at dtX8_dismiss 5 rfl) rfl rfl ?_
    refine K_iload_n (dt_at dtX8_dismiss 6 rfl) rfl rfl ?_
    refine K_callV (M' := mX8_packerOf) (a := a) (ci := 8) (As := [vi (k : Int)]) (st := []) (dt_at dtX8_dismiss 7 rfl) (sX8_packerOf hT ⟨by omega, by omega⟩) hT rfl wL_X8_58 vX8_packerOf rfl npX8_packerOf (by decide) (by decide) (Nat.le_of_ble_eq_true rfl) (by decide) (by decide) GK_E (fun v9 h9 hq => ?_) (fun E h9 hq => by cases hq.1)
    obtain ⟨e9, e8⟩ := hq
    cases e9
    rw [e8]
    show K mX8_dismiss _ _ 0 0 12 [(3, vi (k : Int)), (0, vr a), (1, vi q), (2, vi (n : Int))] [vi (hA (sF h (a + 1) (disF (hA h (a + 1)) q k)) (a + 1) (22 + (k : Int)))] (sF h (a + 1) (disF (hA h (a + 1)) q k))
    rw [hA_F, disF_at]
    refine K_iload_n (dt_at dtX8_dismiss 8 rfl) rfl rfl ?_
    refine K_icmp_ne (tgt := 22) (dt_at dtX8_dismiss 9 rfl) (by decide) (by first | assumption | exact ⟨by omega, by omega⟩) (by first | assumption | exact ⟨by omega, by omega⟩) (fun c2 => ?_) (fun c2 => ?_)
    · refine K_iinc (ls' := [(3, vi ((k : Int) + 1)), (0, vr a), (1, vi q), (2, vi (n : Int))]) (dt_at dtX8_dismiss 14 rfl) rfl (by decide) rfl ?_
      refine K_goto (tgt := 2) (dt_at dtX8_dismiss 15 rfl) (by decide) ?_
      refine K_pk [0, 1, 2, 3] (ls' := [(3, vi ((k : Int) + 1)), (0, vr a), (1, vi q), (2, vi (n : Int))]) rfl ?_
      exact K_cg (ls' := [(3, vi ((k + 1 : Nat) : Int)), (0, vr a), (1, vi q), (2, vi (n : Int))]) (h' := (sF h (a + 1) (disF (hA h (a + 1)) q (k + 1)))) (by rfl) (by rw [← disF_f (by assumption)]) (ih (k + 1) (by omega))
    · refine K_aload_n (dt_at dtX8_dismiss 10 rfl) rfl rfl ?_
      refine K_iload_n (dt_at dtX8_dismiss 11 rfl) rfl rfl ?_
      refine K_iconst (dt_at dtX8_dismiss 12 rfl) ?_
      refine K_callV (M' := mX8_setPacker) (a := a) (ci := 8) (As := [vi (k : Int), vi (-1)]) (st := []) (dt_at dtX8_dismiss 13 rfl) (sX8_setPacker hT ⟨by omega, by omega⟩) hT rfl wL_X8_61 vX8_setPacker rfl npX8_setPacker (by decide) (by decide) (Nat.le_of_ble_eq_true rfl) (by decide) (by decide) GK_E (fun v9 h9 hq => ?_) (fun E h9 hq => by cases hq.1)
      obtain ⟨e9, e8⟩ := hq
      cases e9
      rw [e8]
      show K mX8_dismiss _ _ 0 0 22 [(3, vi (k : Int)), (0, vr a), (1, vi q), (2, vi (n : Int))] [] (sA (sF h (a + 1) (disF (hA h (a + 1)) q k)) (a + 1) (22 + (k : Int)) (-1))
      refine K_iinc (ls' := [(3, vi ((k : Int) + 1)), (0, vr a), (1, vi q), (2, vi (n : Int))]) (dt_at dtX8_dismiss 14 rfl) rfl (by decide) rfl ?_
      refine K_goto (tgt := 2) (dt_at dtX8_dismiss 15 rfl) (by decide) ?_
      refine K_pk [0, 1, 2, 3] (ls' := [(3, vi ((k : Int) + 1)), (0, vr a), (1, vi q), (2, vi (n : Int))]) rfl ?_
      exact K_cg (ls' := [(3, vi ((k + 1 : Nat) : Int)), (0, vr a), (1, vi q), (2, vi (n : Int))]) (h' := (sF h (a + 1) (disF (hA h (a + 1)) q (k + 1)))) (by rfl) (by rw [sA_F, hA_F, sF_F, disF_t (by assumption)]) (ih (k + 1) (by omega))
set_option maxHeartbeats 4000000 in
set_option maxRecDepth 100000 in
theorem sX8_dismiss {h : HP} {a n : Nat} {q : Int} (hT : TT a = (0, 8)) (hW : rW (hA h (a + 1))) (hn : n ≤ 7) (hq0 : i32 q) : SpecK mX8_dismiss [vr a, vi q, vi (n : Int)] h (fun o h' => o = .inl (none) ∧ h' = (sF h (a + 1) (disF (hA h (a + 1)) q n))) := by
  refine Spec_of (by decide +kernel) (Nat.le_of_ble_eq_true rfl) ?_
  refine K_iconst (dt_at dtX8_dismiss 0 rfl) ?_
  refine K_istore_n (ls' := [(3, vi 0), (0, vr a), (1, vi q), (2, vi (n : Int))]) (dt_at dtX8_dismiss 1 rfl) rfl (by decide) rfl ?_
  refine K_pk [0, 1, 2, 3] (ls' := [(3, vi ((0 : Nat) : Int)), (0, vr a), (1, vi q), (2, vi (n : Int))]) rfl (K_cg (h' := (sF h (a + 1) (disF (hA h (a + 1)) q 0))) rfl (by rw [disF_0, sF_self]) (lp_X8_dismiss hT hW hn hq0 ?_ n 0 (by omega)))
  exact K_vret (dt_at dtX8_dismiss 16 rfl) rfl (by decide) (by decide) ⟨rfl, rfl⟩
def mX8_toRight : MI := (yX8_toRight, cX8_toRight, 5, (some .int), rmK 3 0)
def tX8_toRight : List (Nat × Instr × Nat) := [(0, .iconst 0, 1), (1, .istore_n 2, 1), (2, .iconst 0, 1), (3, .istore_n 3, 1), (4, .iload_n 3, 1), (5, .iload_n 1, 1), (6, .if_icmp .ge 39, 3), (9, .aload_n 0, 1), (10, .iload_n 3, 1), (11, .iload_n 1, 1), (12, .invokevirtual 68, 3), (15, .iconst 1, 1), (16, .iload_n 3, 1), (17, .ishl, 1), (18, .iconst 1, 1), (19, .isub, 1), (20, .iand, 1), (21, .ifCond .ne 7, 3), (24, .iconst 1, 1), (25, .goto 4, 3), (28, .iconst 0, 1), (29, .istore 4, 2), (31, .iload 4, 2), (33, .ifCond .ne 6, 3), (36, .iinc 2 1, 3), (39, .iinc 3 1, 3), (42, .goto (-38), 3), (45, .iload_n 2, 1), (46, .ireturn, 1)]
theorem dtX8_toRight : tX8_toRight.all (fun q => decide (decode cX8_toRight q.1 = .ok (q.2.1, q.2.2))) = true := by decide +kernel
theorem npX8_toRight : (parseMethodDescriptor (mY mX8_toRight).desc).map (fun d => d.parameters.length) = some 1 := by decide +kernel
theorem vX8_toRight : mV mX8_toRight := ⟨wI_X8_toRight, wS_X8_toRight, wN_X8, wC_X8_toRight, by decide +kernel, by decide +kernel⟩
set_option maxHeartbeats 4000000 in
set_option maxRecDepth 100000 in
theorem lp_X8_toRight {Z : CT → State → Prop} {h : HP} {a n : Nat} (hT : TT a = (0, 8)) (hW : rW (hA h (a + 1))) (hn : n ≤ 7) (kx : K mX8_toRight GK Z 0 0 45 [(3, vi (n : Int)), (2, vi (cntN (fun k => decide (bAnd (roundF (hA h (a + 1)) n (k : Int) 0) (bShl 1 (k : Int) - 1) ≠ 0)) n)), (0, vr a), (1, vi (n : Int))] [] h) : ∀ (d k : Nat), k + d = n → K mX8_toRight GK Z 0 0 4 [(3, vi (k : Int)), (2, vi (cntN (fun k => decide (bAnd (roundF (hA h (a + 1)) n (k : Int) 0) (bShl 1 (k : Int) - 1) ≠ 0)) k)), (0, vr a), (1, vi (n : Int))] [] h := by
  intro d
  induction d with
  | zero =>
    intro k hk
    obtain rfl : k = n := by omega
    refine K_iload_n (dt_at dtX8_toRight 4 rfl) rfl rfl ?_
    refine K_iload_n (dt_at dtX8_toRight 5 rfl) rfl rfl ?_
    refine K_icmp_ge (tgt := 45) (dt_at dtX8_toRight 6 rfl) (by decide) (by first | assumption | exact ⟨by omega, by omega⟩) (by first | assumption | exact ⟨by omega, by omega⟩) (fun c1 => ?_) (fun c1 => absurd c1 (by omega))
    exact K_pk [0, 1, 2, 3] rfl kx
  | succ d ih =>
    intro k hk
    refine K_iload_n (dt_at dtX8_toRight 4 rfl) rfl rfl ?_
    refine K_iload_n (dt_at dtX8_toRight 5 rfl) rfl rfl ?_
    refine K_icmp_ge (tgt := 45) (dt_at dtX8_toRight 6 rfl) (by decide) (by first | assumption | exact ⟨by omega, by omega⟩) (by first | assumption | exact ⟨by omega, by omega⟩) (fun c1 => absurd c1 (by omega)) (fun c1 => ?_)
    refine K_aload_n (dt_at dtX8_toRight 7 rfl) rfl rfl ?_
    refine K_iload_n (dt_at dtX8_toRight 8 rfl) rfl rfl ?_
    refine K_iload_n (dt_at dtX8_toRight 9 rfl) rfl rfl ?_
    refine K_callV (M' := mX8_round) (a := a) (ci := 8) (As := [vi (k : Int), vi (n : Int)]) (st := []) (dt_at dtX8_toRight 10 rfl) (sX8_round hT hW hn ⟨by omega, by omega⟩) hT rfl wL_X8_68 vX8_round rfl npX8_round (by decide) (by decide) (Nat.le_of_ble_eq_true rfl) (by decide) (by decide) GK_E (fun v9 h9 hq => ?_) (fun E h9 hq => by cases hq.1)
    obtain ⟨e9, e8⟩ := hq
    cases e9
    rw [e8]
    show K mX8_toRight _ _ 0 0 15 [(3, vi (k : Int)), (2, vi (cntN (fun k => decide (bAnd (roundF (hA h (a + 1)) n (k : Int) 0) (bShl 1 (k : Int) - 1) ≠ 0)) k)), (0, vr a), (1, vi (n : Int))] [vi (roundF (hA h (a + 1)) n (k : Int) 0)] h
    refine K_iconst (dt_at dtX8_toRight 11 rfl) ?_
    refine K_iload_n (dt_at dtX8_toRight 12 rfl) rfl rfl ?_
    refine K_ishl (dt_at dtX8_toRight 13 rfl) ?_
    refine K_iconst (dt_at dtX8_toRight 14 rfl) ?_
    refine K_isub (dt_at dtX8_toRight 15 rfl) ?_
    refine K_iand (dt_at dtX8_toRight 16 rfl) ?_
    refine K_if_ne (tgt := 28) (dt_at dtX8_toRight 17 rfl) (by decide) (bAnd32 _ _) (fun c2 => ?_) (fun c2 => ?_)
    · refine K_iconst (dt_at dtX8_toRight 20 rfl) ?_
      refine K_istore (ls' := [(4, vi 0), (3, vi (k : Int)), (2, vi (cntN (fun k => decide (bAnd (roundF (hA h (a + 1)) n (k : Int) 0) (bShl 1 (k : Int) - 1) ≠ 0)) k)), (0, vr a), (1, vi (n : Int))]) (dt_at dtX8_toRight 21 rfl) (by decide) rfl ?_
      refine K_iload (dt_at dtX8_toRight 22 rfl) rfl ?_
      refine K_if_ne (tgt := 39) (dt_at dtX8_toRight 23 rfl) (by decide) (by first | assumption | exact ⟨by omega, by omega⟩) (fun c3 => absurd c3 (by omega)) (fun c3 => ?_)
      refine K_iinc (ls' := [(2, vi ((cntN (fun k => decide (bAnd (roundF (hA h (a + 1)) n (k : Int) 0) (bShl 1 (k : Int) - 1) ≠ 0)) k) + 1)), (4, vi 0), (3, vi (k : Int)), (0, vr a), (1, vi (n : Int))]) (dt_at dtX8_toRight 24 rfl) rfl (by decide) rfl ?_
      refine K_iinc (ls' := [(3, vi ((k : Int) + 1)), (2, vi ((cntN (fun k => decide (bAnd (roundF (hA h (a + 1)) n (k : Int) 0) (bShl 1 (k : Int) - 1) ≠ 0)) k) + 1)), (4, vi 0), (0, vr a), (1, vi (n : Int))]) (dt_at dtX8_toRight 25 rfl) rfl (by decide) rfl ?_
      refine K_goto (tgt := 4) (dt_at dtX8_toRight 26 rfl) (by decide) ?_
      refine K_pk [0, 1, 3, 4] (ls' := [(3, vi ((k : Int) + 1)), (2, vi ((cntN (fun k => decide (bAnd (roundF (hA h (a + 1)) n (k : Int) 0) (bShl 1 (k : Int) - 1) ≠ 0)) k) + 1)), (0, vr a), (1, vi (n : Int))]) rfl ?_
      exact K_cg (ls' := [(3, vi ((k + 1 : Nat) : Int)), (2, vi (cntN (fun k => decide (bAnd (roundF (hA h (a + 1)) n (k : Int) 0) (bShl 1 (k : Int) - 1) ≠ 0)) (k + 1))), (0, vr a), (1, vi (n : Int))]) (h' := h) (by rw [cntN_t (p := (fun k => decide (bAnd (roundF (hA h (a + 1)) n (k : Int) 0) (bShl 1 (k : Int) - 1) ≠ 0))) (decide_eq_true (by assumption))]; rfl) (by rfl) (ih (k + 1) (by omega))
    · refine K_iconst (dt_at dtX8_toRight 18 rfl) ?_
      refine K_goto (tgt := 29) (dt_at dtX8_toRight 19 rfl) (by decide) ?_
      refine K_istore (ls' := [(4, vi 1), (3, vi (k : Int)), (2, vi (cntN (fun k => decide (bAnd (roundF (hA h (a + 1)) n (k : Int) 0) (bShl 1 (k : Int) - 1) ≠ 0)) k)), (0, vr a), (1, vi (n : Int))]) (dt_at dtX8_toRight 21 rfl) (by decide) rfl ?_
      refine K_iload (dt_at dtX8_toRight 22 rfl) rfl ?_
      refine K_if_ne (tgt := 39) (dt_at dtX8_toRight 23 rfl) (by decide) (by first | assumption | exact ⟨by omega, by omega⟩) (fun c4 => ?_) (fun c4 => absurd c4 (by omega))
      refine K_iinc (ls' := [(3, vi ((k : Int) + 1)), (4, vi 1), (2, vi (cntN (fun k => decide (bAnd (roundF (hA h (a + 1)) n (k : Int) 0) (bShl 1 (k : Int) - 1) ≠ 0)) k)), (0, vr a), (1, vi (n : Int))]) (dt_at dtX8_toRight 25 rfl) rfl (by decide) rfl ?_
      refine K_goto (tgt := 4) (dt_at dtX8_toRight 26 rfl) (by decide) ?_
      refine K_pk [0, 2, 3, 4] (ls' := [(3, vi ((k : Int) + 1)), (2, vi (cntN (fun k => decide (bAnd (roundF (hA h (a + 1)) n (k : Int) 0) (bShl 1 (k : Int) - 1) ≠ 0)) k)), (0, vr a), (1, vi (n : Int))]) rfl ?_
      exact K_cg (ls' := [(3, vi ((k + 1 : Nat) : Int)), (2, vi (cntN (fun k => decide (bAnd (roundF (hA h (a + 1)) n (k : Int) 0) (bShl 1 (k : Int) - 1) ≠ 0)) (k + 1))), (0, vr a), (1, vi (n : Int))]) (h' := h) (by rw [cntN_f (p := (fun k => decide (bAnd (roundF (hA h (a + 1)) n (k : Int) 0) (bShl 1 (k : Int) - 1) ≠ 0))) (decide_eq_false (by intro z; exact z (by assumption)))]; rfl) (by rfl) (ih (k + 1) (by omega))
set_option maxHeartbeats 4000000 in
set_option maxRecDepth 100000 in
theorem sX8_toRight {h : HP} {a n : Nat} (hT : TT a = (0, 8)) (hW : rW (hA h (a + 1))) (hn : n ≤ 7) : SpecK mX8_toRight [vr a, vi (n : Int)] h (fun o h' => o = .inl (some (vi (cntN (fun k => decide (bAnd (roundF (hA h (a + 1)) n (k : Int) 0) (bShl 1 (k : Int) - 1) ≠ 0)) n))) ∧ h' = h) := by
  refine Spec_of (by decide +kernel) (Nat.le_of_ble_eq_true rfl) ?_
  refine K_iconst (dt_at dtX8_toRight 0 rfl) ?_
  refine K_istore_n (ls' := [(2, vi 0), (0, vr a), (1, vi (n : Int))]) (dt_at dtX8_toRight 1 rfl) rfl (by decide) rfl ?_
  refine K_iconst (dt_at dtX8_toRight 2 rfl) ?_
  refine K_istore_n (ls' := [(3, vi 0), (2, vi 0), (0, vr a), (1, vi (n : Int))]) (dt_at dtX8_toRight 3 rfl) rfl (by decide) rfl ?_
  refine K_pk [0, 1, 2, 3] rfl (lp_X8_toRight hT hW hn ?_ n 0 (by omega))
  refine K_iload_n (dt_at dtX8_toRight 27 rfl) rfl rfl ?_
  exact K_iret (dt_at dtX8_toRight 28 rfl) rfl rfl (by decide) (by decide) ⟨rfl, rfl⟩
def mX8_firstToRight : MI := (yX8_firstToRight, cX8_firstToRight, 5, (some .int), rmK 3 0)
def tX8_firstToRight : List (Nat × Instr × Nat) := [(0, .iconst 0, 1), (1, .istore_n 2, 1), (2, .iload_n 2, 1), (3, .iload_n 1, 1), (4, .if_icmp .ge 50, 3), (7, .aload_n 0, 1), (8, .iload_n 2, 1), (9, .iload_n 1, 1), (10, .invokevirtual 68, 3), (13, .istore_n 3, 1), (14, .iload_n 2, 1), (15, .iconst 1, 1), (16, .iadd, 1), (17, .istore 4, 2), (19, .iload 4, 2), (21, .iload_n 1, 1), (22, .if_icmp .ge 26, 3), (25, .iload_n 3, 1), (26, .iconst 1, 1), (27, .iload 4, 2), (29, .ishl, 1), (30, .iand, 1), (31, .ifCond .eq 11, 3), (34, .bipush 10, 2), (36, .iload_n 2, 1), (37, .imul, 1), (38, .iload 4, 2), (40, .iadd, 1), (41, .ireturn, 1), (42, .iinc 4 1, 3), (45, .goto (-26), 3), (48, .iinc 2 1, 3), (51, .goto (-49), 3), (54, .iconst (-1), 1), (55, .ireturn, 1)]
theorem dtX8_firstToRight : tX8_firstToRight.all (fun q => decide (decode cX8_firstToRight q.1 = .ok (q.2.1, q.2.2))) = true := by decide +kernel
theorem npX8_firstToRight : (parseMethodDescriptor (mY mX8_firstToRight).desc).map (fun d => d.parameters.length) = some 1 := by decide +kernel
theorem vX8_firstToRight : mV mX8_firstToRight := ⟨wI_X8_firstToRight, wS_X8_firstToRight, wN_X8, wC_X8_firstToRight, by decide +kernel, by decide +kernel⟩
/-- the first that is found from k on, among d -/
def soN (g : Nat → Option Int) : Nat → Nat → Option Int
  | _, 0 => none
  | k, d + 1 => match g k with
    | some v => some v
    | none => soN g (k + 1) d
theorem srN_s {g : Nat → Option Int} {z v : Int} {k d : Nat} (h : g k = some v) : srN g z k (d + 1) = v := by
  show (match g k with | some v => v | none => srN g z (k + 1) d) = v
  rw [h]
theorem srN_n {g : Nat → Option Int} {z : Int} {k d : Nat} (h : g k = none) : srN g z k (d + 1) = srN g z (k + 1) d := by
  show (match g k with | some v => v | none => srN g z (k + 1) d) = _
  rw [h]
theorem soN_s {g : Nat → Option Int} {v : Int} {k d : Nat} (h : g k = some v) : soN g k (d + 1) = some v := by
  show (match g k with | some v => some v | none => soN g (k + 1) d) = some v
  rw [h]
theorem soN_n {g : Nat → Option Int} {k d : Nat} (h : g k = none) : soN g k (d + 1) = soN g (k + 1) d := by
  show (match g k with | some v => some v | none => soN g (k + 1) d) = _
  rw [h]
set_option maxHeartbeats 4000000 in
set_option maxRecDepth 100000 in
theorem li_X8_firstToRight {Q : AO → HP → Prop} {h : HP} {a n : Nat} {R p : Int} (hT : TT a = (0, 8)) (hn : n ≤ 7) : ∀ (d k : Nat), k + d = n → (∀ v, soN (fun j => if bAnd R (bShl 1 (j : Int)) = 0 then none else some (10 * p + (j : Int))) k d = some v → Q (.inl (some (vi v))) h) → (soN (fun j => if bAnd R (bShl 1 (j : Int)) = 0 then none else some (10 * p + (j : Int))) k d = none → K mX8_firstToRight GK (ZK Q 0 0) 0 0 48 [(4, vi (n : Int)), (3, vi R), (2, vi p), (0, vr a), (1, vi (n : Int))] [] h) → K mX8_firstToRight GK (ZK Q 0 0) 0 0 19 [(4, vi (k : Int)), (3, vi R), (2, vi p), (0, vr a), (1, vi (n : Int))] [] h := by
  intro d
  induction d with
  | zero =>
    intro k hk hq kx
    obtain rfl : k = n := by omega
    refine K_iload (dt_at dtX8_firstToRight 14 rfl) rfl ?_
    refine K_iload_n (dt_at dtX8_firstToRight 15 rfl) rfl rfl ?_
    refine K_icmp_ge (tgt := 48) (dt_at dtX8_firstToRight 16 rfl) (by decide) (by first | assumption | exact ⟨by omega, by omega⟩) (by first | assumption | exact ⟨by omega, by omega⟩) (fun c1 => ?_) (fun c1 => absurd c1 (by omega))
    exact K_pk [0, 1, 2, 3, 4] rfl (kx rfl)
  | succ d ih =>
    intro k hk hq kx
    refine K_iload (dt_at dtX8_firstToRight 14 rfl) rfl ?_
    refine K_iload_n (dt_at dtX8_firstToRight 15 rfl) rfl rfl ?_
    refine K_icmp_ge (tgt := 48) (dt_at dtX8_firstToRight 16 rfl) (by decide) (by first | assumption | exact ⟨by omega, by omega⟩) (by first | assumption | exact ⟨by omega, by omega⟩) (fun c1 => absurd c1 (by omega)) (fun c1 => ?_)
    refine K_iload_n (dt_at dtX8_firstToRight 17 rfl) rfl rfl ?_
    refine K_iconst (dt_at dtX8_firstToRight 18 rfl) ?_
    refine K_iload (dt_at dtX8_firstToRight 19 rfl) rfl ?_
    refine K_ishl (dt_at dtX8_firstToRight 20 rfl) ?_
    refine K_iand (dt_at dtX8_firstToRight 21 rfl) ?_
    refine K_if_eq (tgt := 42) (dt_at dtX8_firstToRight 22 rfl) (by decide) (bAnd32 _ _) (fun c2 => ?_) (fun c2 => ?_)
    · refine K_iinc (ls' := [(4, vi ((k : Int) + 1)), (3, vi R), (2, vi p), (0, vr a), (1, vi (n : Int))]) (dt_at dtX8_firstToRight 29 rfl) rfl (by decide) rfl ?_
      refine K_goto (tgt := 19) (dt_at dtX8_firstToRight 30 rfl) (by decide) ?_
      exact K_pk [0, 1, 2, 3, 4] rfl (ih (k + 1) (by omega) (fun v z => hq v (by rw [soN_n (g := (fun j => if bAnd R (bShl 1 (j : Int)) = 0 then none else some (10 * p + (j : Int)))) (if_pos (by assumption))]; exact z)) (fun z => kx (by rw [soN_n (g := (fun j => if bAnd R (bShl 1 (j : Int)) = 0 then none else some (10 * p + (j : Int)))) (if_pos (by assumption))]; exact z)))
    · refine K_bipush (dt_at dtX8_firstToRight 23 rfl) (by decide) ?_
      refine K_iload_n (dt_at dtX8_firstToRight 24 rfl) rfl rfl ?_
      refine K_imul (dt_at dtX8_firstToRight 25 rfl) ?_
      refine K_iload (dt_at dtX8_firstToRight 26 rfl) rfl ?_
      refine K_iadd (dt_at dtX8_firstToRight 27 rfl) ?_
      exact K_iret (dt_at dtX8_firstToRight 28 rfl) rfl rfl (by decide) (by decide) (hq _ (soN_s (g := (fun j => if bAnd R (bShl 1 (j : Int)) = 0 then none else some (10 * p + (j : Int)))) (if_neg (by assumption))))
set_option maxHeartbeats 4000000 in
set_option maxRecDepth 100000 in
theorem lp_X8_firstToRight {Q : AO → HP → Prop} {h : HP} {a n : Nat} (hT : TT a = (0, 8)) (hW : rW (hA h (a + 1))) (hn : n ≤ 7) : ∀ (d k : Nat), k + d = n → Q (.inl (some (vi (srN (fun k => soN (fun j => if bAnd (roundF (hA h (a + 1)) n (k : Int) 0) (bShl 1 (j : Int)) = 0 then none else some (10 * (k : Int) + (j : Int))) (k + 1) (n - (k + 1))) (-1) k d)))) h → K mX8_firstToRight GK (ZK Q 0 0) 0 0 2 [(2, vi (k : Int)), (0, vr a), (1, vi (n : Int))] [] h := by
  intro d
  induction d with
  | zero =>
    intro k hk hq
    obtain rfl : k = n := by omega
    refine K_iload_n (dt_at dtX8_firstToRight 2 rfl) rfl rfl ?_
    refine K_iload_n (dt_at dtX8_firstToRight 3 rfl) rfl rfl ?_
    refine K_icmp_ge (tgt := 54) (dt_at dtX8_firstToRight 4 rfl) (by decide) (by first | assumption | exact ⟨by omega, by omega⟩) (by first | assumption | exact ⟨by omega, by omega⟩) (fun c1 => ?_) (fun c1 => absurd c1 (by omega))
    refine K_iconst (dt_at dtX8_firstToRight 33 rfl) ?_
    exact K_iret (dt_at dtX8_firstToRight 34 rfl) rfl rfl (by decide) (by decide) hq
  | succ d ih =>
    intro k hk hq
    refine K_iload_n (dt_at dtX8_firstToRight 2 rfl) rfl rfl ?_
    refine K_iload_n (dt_at dtX8_firstToRight 3 rfl) rfl rfl ?_
    refine K_icmp_ge (tgt := 54) (dt_at dtX8_firstToRight 4 rfl) (by decide) (by first | assumption | exact ⟨by omega, by omega⟩) (by first | assumption | exact ⟨by omega, by omega⟩) (fun c1 => absurd c1 (by omega)) (fun c1 => ?_)
    refine K_aload_n (dt_at dtX8_firstToRight 5 rfl) rfl rfl ?_
    refine K_iload_n (dt_at dtX8_firstToRight 6 rfl) rfl rfl ?_
    refine K_iload_n (dt_at dtX8_firstToRight 7 rfl) rfl rfl ?_
    refine K_callV (M' := mX8_round) (a := a) (ci := 8) (As := [vi (k : Int), vi (n : Int)]) (st := []) (dt_at dtX8_firstToRight 8 rfl) (sX8_round hT hW hn ⟨by omega, by omega⟩) hT rfl wL_X8_68 vX8_round rfl npX8_round (by decide) (by decide) (Nat.le_of_ble_eq_true rfl) (by decide) (by decide) GK_E (fun v9 h9 hq => ?_) (fun E h9 hq => by cases hq.1)
    obtain ⟨e9, e8⟩ := hq
    cases e9
    rw [e8]
    show K mX8_firstToRight _ _ 0 0 13 [(2, vi (k : Int)), (0, vr a), (1, vi (n : Int))] [vi (roundF (hA h (a + 1)) n (k : Int) 0)] h
    refine K_istore_n (ls' := [(3, vi (roundF (hA h (a + 1)) n (k : Int) 0)), (2, vi (k : Int)), (0, vr a), (1, vi (n : Int))]) (dt_at dtX8_firstToRight 9 rfl) rfl (by decide) rfl ?_
    refine K_iload_n (dt_at dtX8_firstToRight 10 rfl) rfl rfl ?_
    refine K_iconst (dt_at dtX8_firstToRight 11 rfl) ?_
    refine K_iadd (dt_at dtX8_firstToRight 12 rfl) ?_
    refine K_istore (ls' := [(4, vi ((k : Int) + 1)), (3, vi (roundF (hA h (a + 1)) n (k : Int) 0)), (2, vi (k : Int)), (0, vr a), (1, vi (n : Int))]) (dt_at dtX8_firstToRight 13 rfl) (by decide) rfl ?_
    refine K_pk [0, 1, 2, 3, 4] (ls' := [(4, vi ((k + 1 : Nat) : Int)), (3, vi (roundF (hA h (a + 1)) n (k : Int) 0)), (2, vi (k : Int)), (0, vr a), (1, vi (n : Int))]) rfl (li_X8_firstToRight hT hn (n - (k + 1)) (k + 1) (by omega) (fun v z => by have h9 := hq; rw [srN_s (g := (fun k => soN (fun j => if bAnd (roundF (hA h (a + 1)) n (k : Int) 0) (bShl 1 (j : Int)) = 0 then none else some (10 * (k : Int) + (j : Int))) (k + 1) (n - (k + 1)))) z] at h9; exact h9) (fun z => ?_))
    refine K_iinc (ls' := [(2, vi ((k : Int) + 1)), (4, vi (n : Int)), (3, vi (roundF (hA h (a + 1)) n (k : Int) 0)), (0, vr a), (1, vi (n : Int))]) (dt_at dtX8_firstToRight 31 rfl) rfl (by decide) rfl ?_
    refine K_goto (tgt := 2) (dt_at dtX8_firstToRight 32 rfl) (by decide) ?_
    exact K_pk [0, 3, 4] rfl (ih (k + 1) (by omega) (by rw [← srN_n (g := (fun k => soN (fun j => if bAnd (roundF (hA h (a + 1)) n (k : Int) 0) (bShl 1 (j : Int)) = 0 then none else some (10 * (k : Int) + (j : Int))) (k + 1) (n - (k + 1)))) (z := -1) (d := d) z]; exact hq))
set_option maxHeartbeats 4000000 in
set_option maxRecDepth 100000 in
theorem sX8_firstToRight {h : HP} {a n : Nat} (hT : TT a = (0, 8)) (hW : rW (hA h (a + 1))) (hn : n ≤ 7) : SpecK mX8_firstToRight [vr a, vi (n : Int)] h (fun o h' => o = .inl (some (vi (srN (fun k => soN (fun j => if bAnd (roundF (hA h (a + 1)) n (k : Int) 0) (bShl 1 (j : Int)) = 0 then none else some (10 * (k : Int) + (j : Int))) (k + 1) (n - (k + 1))) (-1) 0 n))) ∧ h' = h) := by
  refine Spec_of (by decide +kernel) (Nat.le_of_ble_eq_true rfl) ?_
  refine K_iconst (dt_at dtX8_firstToRight 0 rfl) ?_
  refine K_istore_n (ls' := [(2, vi 0), (0, vr a), (1, vi (n : Int))]) (dt_at dtX8_firstToRight 1 rfl) rfl (by decide) rfl ?_
  exact K_pk [0, 1, 2] rfl (lp_X8_firstToRight hT hW hn n 0 (by omega) ⟨rfl, rfl⟩)
def mX3_heaviest : MI := (yX3_heaviest, cX3_heaviest, 6, (some .int), rmK 3 0)
def tX3_heaviest : List (Nat × Instr × Nat) := [(0, .iconst 0, 1), (1, .istore_n 2, 1), (2, .iconst (-1), 1), (3, .istore_n 3, 1), (4, .iconst 0, 1), (5, .istore 4, 2), (7, .iload 4, 2), (9, .aload_n 0, 1), (10, .getfield 50, 3), (13, .if_icmp .ge 30, 3), (16, .aload_n 0, 1), (17, .aload_n 1, 1), (18, .iload 4, 2), (20, .invokevirtual 65, 3), (23, .istore 5, 2), (25, .iload 5, 2), (27, .iload_n 2, 1), (28, .if_icmp .le 9, 3), (31, .iload 5, 2), (33, .istore_n 2, 1), (34, .iload 4, 2), (36, .istore_n 3, 1), (37, .iinc 4 1, 3), (40, .goto (-33), 3), (43, .iload_n 3, 1), (44, .ireturn, 1)]
theorem dtX3_heaviest : tX3_heaviest.all (fun q => decide (decode cX3_heaviest q.1 = .ok (q.2.1, q.2.2))) = true := by decide +kernel
theorem npX3_heaviest : (parseMethodDescriptor (mY mX3_heaviest).desc).map (fun d => d.parameters.length) = some 1 := by decide +kernel
theorem vX3_heaviest : mV mX3_heaviest := ⟨wI_X3_heaviest, wS_X3_heaviest, wN_X3, wC_X3_heaviest, by decide +kernel, by decide +kernel⟩
set_option maxHeartbeats 4000000 in
set_option maxRecDepth 100000 in
theorem lp_X3_heaviest {Z : CT → State → Prop} {h : HP} {t a n np : Nat} {B : Int} (hH : TT t = (0, 3)) (hT : TT a = (0, 8)) (hR : rT B (hA h (a + 1))) (hn : n ≤ 6) (hnt : hI h t 10 = (n : Int)) (hnp : hI h t 11 = (np : Int)) (hn7 : np ≤ 7) (hw : ∀ i : Int, 0 ≤ i → i < n → 0 ≤ hA h (t + 1) i ∧ hA h (t + 1) i ≤ 20) (kx : K mX3_heaviest GK Z 0 0 43 [(4, vi (np : Int)), (2, vi (mxN 0 (fun k => (sumF (hA h (t + 1)) (hA h (a + 1)) (k : Int) n)) np)), (3, vi (fmN 0 0 (-1) (fun k => (sumF (hA h (t + 1)) (hA h (a + 1)) (k : Int) n)) np)), (0, vr t), (1, vr a)] [] h) : ∀ (d k : Nat), k + d = np → K mX3_heaviest GK Z 0 0 7 [(4, vi (k : Int)), (2, vi (mxN 0 (fun k => (sumF (hA h (t + 1)) (hA h (a + 1)) (k : Int) n)) k)), (3, vi (fmN 0 0 (-1) (fun k => (sumF (hA h (t + 1)) (hA h (a + 1)) (k : Int) n)) k)), (0, vr t), (1, vr a)] [] h := by
  intro d
  induction d with
  | zero =>
    intro k hk
    obtain rfl : np = k := by omega
    refine K_iload (dt_at dtX3_heaviest 6 rfl) rfl ?_
    refine K_aload_n (dt_at dtX3_heaviest 7 rfl) rfl rfl ?_
    refine K_get (a := t) (ci := 3) (k := 11) (v := vi (np : Int)) (dt_at dtX3_heaviest 8 rfl) hH rfl (by decide) wF_X3_50 (by show vi (hI h t 11) = vi (np : Int); rw [hnp]) ?_
    refine K_icmp_ge (tgt := 43) (dt_at dtX3_heaviest 9 rfl) (by decide) (by first | assumption | exact ⟨by omega, by omega⟩) (by first | assumption | exact ⟨by omega, by omega⟩) (fun c1 => ?_) (fun c1 => absurd c1 (by omega))
    exact K_pk [0, 1, 2, 3, 4] rfl kx
  | succ d ih =>
    intro k hk
    have w1 := sumF_rT (us := hA h (t + 1)) (p := (k : Int)) (n := n) hR ⟨by omega, by omega⟩ hn hw
    have w2 := mxN_b (s := 0) (M := 120000000) (u := (fun k => (sumF (hA h (t + 1)) (hA h (a + 1)) (k : Int) n))) (by omega) k (fun j hj => (sumF_rT (us := hA h (t + 1)) (p := (j : Int)) (n := n) hR ⟨by omega, by omega⟩ hn hw).2)
    refine K_iload (dt_at dtX3_heaviest 6 rfl) rfl ?_
    refine K_aload_n (dt_at dtX3_heaviest 7 rfl) rfl rfl ?_
    refine K_get (a := t) (ci := 3) (k := 11) (v := vi (np : Int)) (dt_at dtX3_heaviest 8 rfl) hH rfl (by decide) wF_X3_50 (by show vi (hI h t 11) = vi (np : Int); rw [hnp]) ?_
    refine K_icmp_ge (tgt := 43) (dt_at dtX3_heaviest 9 rfl) (by decide) (by first | assumption | exact ⟨by omega, by omega⟩) (by first | assumption | exact ⟨by omega, by omega⟩) (fun c1 => absurd c1 (by omega)) (fun c1 => ?_)
    refine K_aload_n (dt_at dtX3_heaviest 10 rfl) rfl rfl ?_
    refine K_aload_n (dt_at dtX3_heaviest 11 rfl) rfl rfl ?_
    refine K_iload (dt_at dtX3_heaviest 12 rfl) rfl ?_
    refine K_callV (M' := mX3_weightWith) (a := t) (ci := 3) (As := [vr a, vi (k : Int)]) (st := []) (dt_at dtX3_heaviest 13 rfl) (sX3_weightWith hH hT hR.1 hn hnt ⟨by omega, by omega⟩) hH rfl wL_X3_65 vX3_weightWith rfl npX3_weightWith (by decide) (by decide) (Nat.le_of_ble_eq_true rfl) (by decide) (by decide) GK_E (fun v9 h9 hq => ?_) (fun E h9 hq => by cases hq.1)
    obtain ⟨e9, e8⟩ := hq
    cases e9
    rw [e8]
    show K mX3_heaviest _ _ 0 0 23 [(4, vi (k : Int)), (2, vi (mxN 0 (fun k => (sumF (hA h (t + 1)) (hA h (a + 1)) (k : Int) n)) k)), (3, vi (fmN 0 0 (-1) (fun k => (sumF (hA h (t + 1)) (hA h (a + 1)) (k : Int) n)) k)), (0, vr t), (1, vr a)] [vi (sumF (hA h (t + 1)) (hA h (a + 1)) (k : Int) n)] h
    refine K_istore (ls' := [(5, vi (sumF (hA h (t + 1)) (hA h (a + 1)) (k : Int) n)), (4, vi (k : Int)), (2, vi (mxN 0 (fun k => (sumF (hA h (t + 1)) (hA h (a + 1)) (k : Int) n)) k)), (3, vi (fmN 0 0 (-1) (fun k => (sumF (hA h (t + 1)) (hA h (a + 1)) (k : Int) n)) k)), (0, vr t), (1, vr a)]) (dt_at dtX3_heaviest 14 rfl) (by decide) rfl ?_
    refine K_iload (dt_at dtX3_heaviest 15 rfl) rfl ?_
    refine K_iload_n (dt_at dtX3_heaviest 16 rfl) rfl rfl ?_
    refine K_icmp_le (tgt := 37) (dt_at dtX3_heaviest 17 rfl) (by decide) (by first | assumption | exact ⟨by omega, by omega⟩) (by first | assumption | exact ⟨by omega, by omega⟩) (fun c2 => ?_) (fun c2 => ?_)
    · refine K_iinc (ls' := [(4, vi ((k : Int) + 1)), (5, vi (sumF (hA h (t + 1)) (hA h (a + 1)) (k : Int) n)), (2, vi (mxN 0 (fun k => (sumF (hA h (t + 1)) (hA h (a + 1)) (k : Int) n)) k)), (3, vi (fmN 0 0 (-1) (fun k => (sumF (hA h (t + 1)) (hA h (a + 1)) (k : Int) n)) k)), (0, vr t), (1, vr a)]) (dt_at dtX3_heaviest 22 rfl) rfl (by decide) rfl ?_
      refine K_goto (tgt := 7) (dt_at dtX3_heaviest 23 rfl) (by decide) ?_
      refine K_pk [0, 2, 3, 4, 5] (ls' := [(4, vi ((k : Int) + 1)), (2, vi (mxN 0 (fun k => (sumF (hA h (t + 1)) (hA h (a + 1)) (k : Int) n)) k)), (3, vi (fmN 0 0 (-1) (fun k => (sumF (hA h (t + 1)) (hA h (a + 1)) (k : Int) n)) k)), (0, vr t), (1, vr a)]) rfl ?_
      exact K_cg (ls' := [(4, vi ((k + 1 : Nat) : Int)), (2, vi (mxN 0 (fun k => (sumF (hA h (t + 1)) (hA h (a + 1)) (k : Int) n)) (k + 1))), (3, vi (fmN 0 0 (-1) (fun k => (sumF (hA h (t + 1)) (hA h (a + 1)) (k : Int) n)) (k + 1))), (0, vr t), (1, vr a)]) (h' := h) (by rw [mxN_f (show ¬ mxN 0 (fun k => (sumF (hA h (t + 1)) (hA h (a + 1)) (k : Int) n)) k < (sumF (hA h (t + 1)) (hA h (a + 1)) (k : Int) n) by omega), fmN_f (show ¬ mxN 0 (fun k => (sumF (hA h (t + 1)) (hA h (a + 1)) (k : Int) n)) k < (sumF (hA h (t + 1)) (hA h (a + 1)) (k : Int) n) by omega)]; rfl) (by rfl) (ih (k + 1) (by omega))
    · refine K_iload (dt_at dtX3_heaviest 18 rfl) rfl ?_
      refine K_istore_n (ls' := [(2, vi (sumF (hA h (t + 1)) (hA h (a + 1)) (k : Int) n)), (5, vi (sumF (hA h (t + 1)) (hA h (a + 1)) (k : Int) n)), (4, vi (k : Int)), (3, vi (fmN 0 0 (-1) (fun k => (sumF (hA h (t + 1)) (hA h (a + 1)) (k : Int) n)) k)), (0, vr t), (1, vr a)]) (dt_at dtX3_heaviest 19 rfl) rfl (by decide) rfl ?_
      refine K_iload (dt_at dtX3_heaviest 20 rfl) rfl ?_
      refine K_istore_n (ls' := [(3, vi (k : Int)), (2, vi (sumF (hA h (t + 1)) (hA h (a + 1)) (k : Int) n)), (5, vi (sumF (hA h (t + 1)) (hA h (a + 1)) (k : Int) n)), (4, vi (k : Int)), (0, vr t), (1, vr a)]) (dt_at dtX3_heaviest 21 rfl) rfl (by decide) rfl ?_
      refine K_iinc (ls' := [(4, vi ((k : Int) + 1)), (3, vi (k : Int)), (2, vi (sumF (hA h (t + 1)) (hA h (a + 1)) (k : Int) n)), (5, vi (sumF (hA h (t + 1)) (hA h (a + 1)) (k : Int) n)), (0, vr t), (1, vr a)]) (dt_at dtX3_heaviest 22 rfl) rfl (by decide) rfl ?_
      refine K_goto (tgt := 7) (dt_at dtX3_heaviest 23 rfl) (by decide) ?_
      refine K_pk [0, 2, 1, 4, 5] (ls' := [(4, vi ((k : Int) + 1)), (2, vi (sumF (hA h (t + 1)) (hA h (a + 1)) (k : Int) n)), (3, vi (k : Int)), (0, vr t), (1, vr a)]) rfl ?_
      exact K_cg (ls' := [(4, vi ((k + 1 : Nat) : Int)), (2, vi (mxN 0 (fun k => (sumF (hA h (t + 1)) (hA h (a + 1)) (k : Int) n)) (k + 1))), (3, vi (fmN 0 0 (-1) (fun k => (sumF (hA h (t + 1)) (hA h (a + 1)) (k : Int) n)) (k + 1))), (0, vr t), (1, vr a)]) (h' := h) (by rw [mxN_t (show mxN 0 (fun k => (sumF (hA h (t + 1)) (hA h (a + 1)) (k : Int) n)) k < (sumF (hA h (t + 1)) (hA h (a + 1)) (k : Int) n) by omega), fmN_t (show mxN 0 (fun k => (sumF (hA h (t + 1)) (hA h (a + 1)) (k : Int) n)) k < (sumF (hA h (t + 1)) (hA h (a + 1)) (k : Int) n) by omega)]; rw [Int.add_zero]; rfl) (by rfl) (ih (k + 1) (by omega))
set_option maxHeartbeats 4000000 in
set_option maxRecDepth 100000 in
theorem sX3_heaviest {h : HP} {t a n np : Nat} {B : Int} (hH : TT t = (0, 3)) (hT : TT a = (0, 8)) (hR : rT B (hA h (a + 1))) (hn : n ≤ 6) (hnt : hI h t 10 = (n : Int)) (hnp : hI h t 11 = (np : Int)) (hn7 : np ≤ 7) (hw : ∀ i : Int, 0 ≤ i → i < n → 0 ≤ hA h (t + 1) i ∧ hA h (t + 1) i ≤ 20) : SpecK mX3_heaviest [vr t, vr a] h (fun o h' => o = .inl (some (vi (fmN 0 0 (-1) (fun k => (sumF (hA h (t + 1)) (hA h (a + 1)) (k : Int) n)) np))) ∧ h' = h) := by
  refine Spec_of (by decide +kernel) (Nat.le_of_ble_eq_true rfl) ?_
  refine K_iconst (dt_at dtX3_heaviest 0 rfl) ?_
  refine K_istore_n (ls' := [(2, vi 0), (0, vr t), (1, vr a)]) (dt_at dtX3_heaviest 1 rfl) rfl (by decide) rfl ?_
  refine K_iconst (dt_at dtX3_heaviest 2 rfl) ?_
  refine K_istore_n (ls' := [(3, vi (-1)), (2, vi 0), (0, vr t), (1, vr a)]) (dt_at dtX3_heaviest 3 rfl) rfl (by decide) rfl ?_
  refine K_iconst (dt_at dtX3_heaviest 4 rfl) ?_
  refine K_istore (ls' := [(4, vi 0), (3, vi (-1)), (2, vi 0), (0, vr t), (1, vr a)]) (dt_at dtX3_heaviest 5 rfl) (by decide) rfl ?_
  refine K_pk [0, 2, 1, 3, 4] rfl (lp_X3_heaviest hH hT hR hn hnt hnp hn7 hw ?_ np 0 (by omega))
  refine K_iload_n (dt_at dtX3_heaviest 24 rfl) rfl rfl ?_
  exact K_iret (dt_at dtX3_heaviest 25 rfl) rfl rfl (by decide) (by decide) ⟨rfl, rfl⟩
def mX3_mostWanted : MI := (yX3_mostWanted, cX3_mostWanted, 7, (some .int), rmK 2 0)
def tX3_mostWanted : List (Nat × Instr × Nat) := [(0, .iconst 0, 1), (1, .istore_n 2, 1), (2, .iconst (-1), 1), (3, .istore_n 3, 1), (4, .iconst 0, 1), (5, .istore 4, 2), (7, .iload 4, 2), (9, .aload_n 0, 1), (10, .getfield 46, 3), (13, .if_icmp .ge 55, 3), (16, .iconst 0, 1), (17, .istore 5, 2), (19, .iconst 0, 1), (20, .istore 6, 2), (22, .iload 6, 2), (24, .aload_n 0, 1), (25, .getfield 50, 3), (28, .if_icmp .ge 22, 3), (31, .iload 5, 2), (33, .aload_n 1, 1), (34, .iload 6, 2), (36, .iload 4, 2), (38, .invokevirtual 56, 3), (41, .iadd, 1), (42, .istore 5, 2), (44, .iinc 6 1, 3), (47, .goto (-25), 3), (50, .iload 5, 2), (52, .iload_n 2, 1), (53, .if_icmp .le 9, 3), (56, .iload 5, 2), (58, .istore_n 2, 1), (59, .iload 4, 2), (61, .istore_n 3, 1), (62, .iinc 4 1, 3), (65, .goto (-58), 3), (68, .iload_n 3, 1), (69, .ireturn, 1)]
theorem dtX3_mostWanted : tX3_mostWanted.all (fun q => decide (decode cX3_mostWanted q.1 = .ok (q.2.1, q.2.2))) = true := by decide +kernel
theorem npX3_mostWanted : (parseMethodDescriptor (mY mX3_mostWanted).desc).map (fun d => d.parameters.length) = some 1 := by decide +kernel
theorem vX3_mostWanted : mV mX3_mostWanted := ⟨wI_X3_mostWanted, wS_X3_mostWanted, wN_X3, wC_X3_mostWanted, by decide +kernel, by decide +kernel⟩
def pcF (f : Int → Int) (t : Int) (n : Nat) : Int := itN (fun k v => v + f (35 + f (8 + (k : Int)) * 6 + t)) 0 n
theorem pcF_b {B : Int} {f : Int → Int} {t : Int} (h : rT B f) (ht : 0 ≤ t ∧ t < 6) : ∀ n : Nat, n ≤ 7 → 0 ≤ pcF f t n ∧ pcF f t n ≤ B * n
  | 0, _ => ⟨Int.le_refl 0, by show (0 : Int) ≤ B * ((0 : Nat) : Int); omega⟩
  | k + 1, hk => by
    obtain ⟨a, b⟩ := pcF_b h ht k (by omega)
    have hc := (h.1.2 (k : Int) (by omega) (by omega)).2.1
    have e := rT_in h hc ht
    refine ⟨?_, ?_⟩
    · show 0 ≤ pcF f t k + f (35 + f (8 + (k : Int)) * 6 + t)
      omega
    · show pcF f t k + f (35 + f (8 + (k : Int)) * 6 + t) ≤ B * ((k + 1 : Nat) : Int)
      rw [show B * ((k + 1 : Nat) : Int) = B * (k : Int) + B by rw [show ((k + 1 : Nat) : Int) = (k : Int) + 1 by omega, Int.mul_add, Int.mul_one]]
      omega
theorem pcF_32 {B : Int} {f : Int → Int} {t : Int} {n : Nat} (h : rT B f) (ht : 0 ≤ t ∧ t < 6) (hn : n ≤ 7) : 0 ≤ pcF f t n ∧ pcF f t n ≤ 7000000 := by
  obtain ⟨a, b⟩ := pcF_b h ht n hn
  have h0 : 0 ≤ B := by
    have := rT_in h (c := 0) (t := 0) ⟨by omega, by omega⟩ ⟨by omega, by omega⟩
    omega
  have hB := h.2.2.2.2.2
  have h1 : B * (n : Int) ≤ 1000000 * 7 := Int.mul_le_mul hB (by omega) (by omega) (by omega)
  omega
set_option maxHeartbeats 4000000 in
set_option maxRecDepth 100000 in
theorem li_X3_mostWanted {Z : CT → State → Prop} {h : HP} {t a n np : Nat} {B : Int} {q x y : Int} (hH : TT t = (0, 3)) (hT : TT a = (0, 8)) (hR : rT B (hA h (a + 1))) (hn : n ≤ 6) (hnt : hI h t 10 = (n : Int)) (hnp : hI h t 11 = (np : Int)) (hn7 : np ≤ 7) (hw : ∀ i : Int, 0 ≤ i → i < n → 0 ≤ hA h (t + 1) i ∧ hA h (t + 1) i ≤ 20) (hq0 : 0 ≤ q ∧ q < 6) (kx : K mX3_mostWanted GK Z 0 0 50 [(6, vi (np : Int)), (5, vi (pcF (hA h (a + 1)) q np)), (4, vi q), (2, vi x), (3, vi y), (0, vr t), (1, vr a)] [] h) : ∀ (d k : Nat), k + d = np → K mX3_mostWanted GK Z 0 0 22 [(6, vi (k : Int)), (5, vi (pcF (hA h (a + 1)) q k)), (4, vi q), (2, vi x), (3, vi y), (0, vr t), (1, vr a)] [] h := by
  intro d
  induction d with
  | zero =>
    intro k hk
    obtain rfl : np = k := by omega
    refine K_iload (dt_at dtX3_mostWanted 14 rfl) rfl ?_
    refine K_aload_n (dt_at dtX3_mostWanted 15 rfl) rfl rfl ?_
    refine K_get (a := t) (ci := 3) (k := 11) (v := vi (np : Int)) (dt_at dtX3_mostWanted 16 rfl) hH rfl (by decide) wF_X3_50 (by show vi (hI h t 11) = vi (np : Int); rw [hnp]) ?_
    refine K_icmp_ge (tgt := 50) (dt_at dtX3_mostWanted 17 rfl) (by decide) (by first | assumption | exact ⟨by omega, by omega⟩) (by first | assumption | exact ⟨by omega, by omega⟩) (fun c1 => ?_) (fun c1 => absurd c1 (by omega))
    exact K_pk [0, 1, 2, 3, 4, 5, 6] rfl kx
  | succ d ih =>
    intro k hk
    refine K_iload (dt_at dtX3_mostWanted 14 rfl) rfl ?_
    refine K_aload_n (dt_at dtX3_mostWanted 15 rfl) rfl rfl ?_
    refine K_get (a := t) (ci := 3) (k := 11) (v := vi (np : Int)) (dt_at dtX3_mostWanted 16 rfl) hH rfl (by decide) wF_X3_50 (by show vi (hI h t 11) = vi (np : Int); rw [hnp]) ?_
    refine K_icmp_ge (tgt := 50) (dt_at dtX3_mostWanted 17 rfl) (by decide) (by first | assumption | exact ⟨by omega, by omega⟩) (by first | assumption | exact ⟨by omega, by omega⟩) (fun c1 => absurd c1 (by omega)) (fun c1 => ?_)
    refine K_iload (dt_at dtX3_mostWanted 18 rfl) rfl ?_
    refine K_aload_n (dt_at dtX3_mostWanted 19 rfl) rfl rfl ?_
    refine K_iload (dt_at dtX3_mostWanted 20 rfl) rfl ?_
    refine K_iload (dt_at dtX3_mostWanted 21 rfl) rfl ?_
    refine K_callV (M' := mX8_pieces) (a := a) (ci := 8) (As := [vi (k : Int), vi q]) (st := [vi (pcF (hA h (a + 1)) q k)]) (dt_at dtX3_mostWanted 22 rfl) (sX8_pieces hT ⟨by omega, by omega⟩ ⟨by omega, by omega⟩ (hR.1.2 (k : Int) (by omega) (by omega)).2.1) hT rfl wL_X3_56 vX8_pieces rfl npX8_pieces (by decide) (by decide) (Nat.le_of_ble_eq_true rfl) (by decide) (by decide) GK_E (fun v9 h9 hq => ?_) (fun E h9 hq => by cases hq.1)
    obtain ⟨e9, e8⟩ := hq
    cases e9
    rw [e8]
    show K mX3_mostWanted _ _ 0 0 41 [(6, vi (k : Int)), (5, vi (pcF (hA h (a + 1)) q k)), (4, vi q), (2, vi x), (3, vi y), (0, vr t), (1, vr a)] [vi (hA h (a + 1) (35 + hA h (a + 1) (8 + (k : Int)) * 6 + q)), vi (pcF (hA h (a + 1)) q k)] h
    refine K_iadd (dt_at dtX3_mostWanted 23 rfl) ?_
    refine K_istore (ls' := [(5, vi ((pcF (hA h (a + 1)) q k) + (hA h (a + 1) (35 + hA h (a + 1) (8 + (k : Int)) * 6 + q)))), (6, vi (k : Int)), (4, vi q), (2, vi x), (3, vi y), (0, vr t), (1, vr a)]) (dt_at dtX3_mostWanted 24 rfl) (by decide) rfl ?_
    refine K_iinc (ls' := [(6, vi ((k : Int) + 1)), (5, vi ((pcF (hA h (a + 1)) q k) + (hA h (a + 1) (35 + hA h (a + 1) (8 + (k : Int)) * 6 + q)))), (4, vi q), (2, vi x), (3, vi y), (0, vr t), (1, vr a)]) (dt_at dtX3_mostWanted 25 rfl) rfl (by decide) rfl ?_
    refine K_goto (tgt := 22) (dt_at dtX3_mostWanted 26 rfl) (by decide) ?_
    refine K_pk [0, 1, 2, 3, 4, 5, 6] (ls' := [(6, vi ((k : Int) + 1)), (5, vi ((pcF (hA h (a + 1)) q k) + (hA h (a + 1) (35 + hA h (a + 1) (8 + (k : Int)) * 6 + q)))), (4, vi q), (2, vi x), (3, vi y), (0, vr t), (1, vr a)]) rfl ?_
    exact K_cg (ls' := [(6, vi ((k + 1 : Nat) : Int)), (5, vi (pcF (hA h (a + 1)) q (k + 1))), (4, vi q), (2, vi x), (3, vi y), (0, vr t), (1, vr a)]) (h' := h) (by rfl) (by rfl) (ih (k + 1) (by omega))
set_option maxHeartbeats 4000000 in
set_option maxRecDepth 100000 in
theorem lp_X3_mostWanted {Z : CT → State → Prop} {h : HP} {t a n np : Nat} {B : Int} (hH : TT t = (0, 3)) (hT : TT a = (0, 8)) (hR : rT B (hA h (a + 1))) (hn : n ≤ 6) (hnt : hI h t 10 = (n : Int)) (hnp : hI h t 11 = (np : Int)) (hn7 : np ≤ 7) (hw : ∀ i : Int, 0 ≤ i → i < n → 0 ≤ hA h (t + 1) i ∧ hA h (t + 1) i ≤ 20) (kx : K mX3_mostWanted GK Z 0 0 68 [(4, vi (n : Int)), (2, vi (mxN 0 (fun k => (pcF (hA h (a + 1)) (k : Int) np)) n)), (3, vi (fmN 0 0 (-1) (fun k => (pcF (hA h (a + 1)) (k : Int) np)) n)), (0, vr t), (1, vr a)] [] h) : ∀ (d k : Nat), k + d = n → K mX3_mostWanted GK Z 0 0 7 [(4, vi (k : Int)), (2, vi (mxN 0 (fun k => (pcF (hA h (a + 1)) (k : Int) np)) k)), (3, vi (fmN 0 0 (-1) (fun k => (pcF (hA h (a + 1)) (k : Int) np)) k)), (0, vr t), (1, vr a)] [] h := by
  intro d
  induction d with
  | zero =>
    intro k hk
    obtain rfl : n = k := by omega
    refine K_iload (dt_at dtX3_mostWanted 6 rfl) rfl ?_
    refine K_aload_n (dt_at dtX3_mostWanted 7 rfl) rfl rfl ?_
    refine K_get (a := t) (ci := 3) (k := 10) (v := vi (n : Int)) (dt_at dtX3_mostWanted 8 rfl) hH rfl (by decide) wF_X3_46 (by show vi (hI h t 10) = vi (n : Int); rw [hnt]) ?_
    refine K_icmp_ge (tgt := 68) (dt_at dtX3_mostWanted 9 rfl) (by decide) (by first | assumption | exact ⟨by omega, by omega⟩) (by first | assumption | exact ⟨by omega, by omega⟩) (fun c1 => ?_) (fun c1 => absurd c1 (by omega))
    exact K_pk [0, 1, 2, 3, 4] rfl kx
  | succ d ih =>
    intro k hk
    have w1 := pcF_32 (t := (k : Int)) (n := np) hR ⟨by omega, by omega⟩ hn7
    have w2 := mxN_b (s := 0) (M := 7000000) (u := (fun k => (pcF (hA h (a + 1)) (k : Int) np))) (by omega) k (fun j hj => (pcF_32 (t := (j : Int)) (n := np) hR ⟨by omega, by omega⟩ hn7).2)
    refine K_iload (dt_at dtX3_mostWanted 6 rfl) rfl ?_
    refine K_aload_n (dt_at dtX3_mostWanted 7 rfl) rfl rfl ?_
    refine K_get (a := t) (ci := 3) (k := 10) (v := vi (n : Int)) (dt_at dtX3_mostWanted 8 rfl) hH rfl (by decide) wF_X3_46 (by show vi (hI h t 10) = vi (n : Int); rw [hnt]) ?_
    refine K_icmp_ge (tgt := 68) (dt_at dtX3_mostWanted 9 rfl) (by decide) (by first | assumption | exact ⟨by omega, by omega⟩) (by first | assumption | exact ⟨by omega, by omega⟩) (fun c1 => absurd c1 (by omega)) (fun c1 => ?_)
    refine K_iconst (dt_at dtX3_mostWanted 10 rfl) ?_
    refine K_istore (ls' := [(5, vi 0), (4, vi (k : Int)), (2, vi (mxN 0 (fun k => (pcF (hA h (a + 1)) (k : Int) np)) k)), (3, vi (fmN 0 0 (-1) (fun k => (pcF (hA h (a + 1)) (k : Int) np)) k)), (0, vr t), (1, vr a)]) (dt_at dtX3_mostWanted 11 rfl) (by decide) rfl ?_
    refine K_iconst (dt_at dtX3_mostWanted 12 rfl) ?_
    refine K_istore (ls' := [(6, vi 0), (5, vi 0), (4, vi (k : Int)), (2, vi (mxN 0 (fun k => (pcF (hA h (a + 1)) (k : Int) np)) k)), (3, vi (fmN 0 0 (-1) (fun k => (pcF (hA h (a + 1)) (k : Int) np)) k)), (0, vr t), (1, vr a)]) (dt_at dtX3_mostWanted 13 rfl) (by decide) rfl ?_
    refine K_pk [0, 1, 2, 3, 4, 5, 6] (ls' := [(6, vi ((0 : Nat) : Int)), (5, vi (pcF (hA h (a + 1)) (k : Int) 0)), (4, vi (k : Int)), (2, vi (mxN 0 (fun k => (pcF (hA h (a + 1)) (k : Int) np)) k)), (3, vi (fmN 0 0 (-1) (fun k => (pcF (hA h (a + 1)) (k : Int) np)) k)), (0, vr t), (1, vr a)]) rfl (li_X3_mostWanted hH hT hR hn hnt hnp hn7 hw ⟨by omega, by omega⟩ ?_ np 0 (by omega))
    refine K_iload (dt_at dtX3_mostWanted 27 rfl) rfl ?_
    refine K_iload_n (dt_at dtX3_mostWanted 28 rfl) rfl rfl ?_
    refine K_icmp_le (tgt := 62) (dt_at dtX3_mostWanted 29 rfl) (by decide) (by first | assumption | exact ⟨by omega, by omega⟩) (by first | assumption | exact ⟨by omega, by omega⟩) (fun c2 => ?_) (fun c2 => ?_)
    · refine K_iinc (ls' := [(4, vi ((k : Int) + 1)), (6, vi (np : Int)), (5, vi (pcF (hA h (a + 1)) (k : Int) np)), (2, vi (mxN 0 (fun k => (pcF (hA h (a + 1)) (k : Int) np)) k)), (3, vi (fmN 0 0 (-1) (fun k => (pcF (hA h (a + 1)) (k : Int) np)) k)), (0, vr t), (1, vr a)]) (dt_at dtX3_mostWanted 34 rfl) rfl (by decide) rfl ?_
      refine K_goto (tgt := 7) (dt_at dtX3_mostWanted 35 rfl) (by decide) ?_
      refine K_pk [0, 3, 4, 5, 6] (ls' := [(4, vi ((k : Int) + 1)), (2, vi (mxN 0 (fun k => (pcF (hA h (a + 1)) (k : Int) np)) k)), (3, vi (fmN 0 0 (-1) (fun k => (pcF (hA h (a + 1)) (k : Int) np)) k)), (0, vr t), (1, vr a)]) rfl ?_
      exact K_cg (ls' := [(4, vi ((k + 1 : Nat) : Int)), (2, vi (mxN 0 (fun k => (pcF (hA h (a + 1)) (k : Int) np)) (k + 1))), (3, vi (fmN 0 0 (-1) (fun k => (pcF (hA h (a + 1)) (k : Int) np)) (k + 1))), (0, vr t), (1, vr a)]) (h' := h) (by rw [mxN_f (show ¬ mxN 0 (fun k => (pcF (hA h (a + 1)) (k : Int) np)) k < (pcF (hA h (a + 1)) (k : Int) np) by omega), fmN_f (show ¬ mxN 0 (fun k => (pcF (hA h (a + 1)) (k : Int) np)) k < (pcF (hA h (a + 1)) (k : Int) np) by omega)]; rfl) (by rfl) (ih (k + 1) (by omega))
    · refine K_iload (dt_at dtX3_mostWanted 30 rfl) rfl ?_
      refine K_istore_n (ls' := [(2, vi (pcF (hA h (a + 1)) (k : Int) np)), (6, vi (np : Int)), (5, vi (pcF (hA h (a + 1)) (k : Int) np)), (4, vi (k : Int)), (3, vi (fmN 0 0 (-1) (fun k => (pcF (hA h (a + 1)) (k : Int) np)) k)), (0, vr t), (1, vr a)]) (dt_at dtX3_mostWanted 31 rfl) rfl (by decide) rfl ?_
      refine K_iload (dt_at dtX3_mostWanted 32 rfl) rfl ?_
      refine K_istore_n (ls' := [(3, vi (k : Int)), (2, vi (pcF (hA h (a + 1)) (k : Int) np)), (6, vi (np : Int)), (5, vi (pcF (hA h (a + 1)) (k : Int) np)), (4, vi (k : Int)), (0, vr t), (1, vr a)]) (dt_at dtX3_mostWanted 33 rfl) rfl (by decide) rfl ?_
      refine K_iinc (ls' := [(4, vi ((k : Int) + 1)), (3, vi (k : Int)), (2, vi (pcF (hA h (a + 1)) (k : Int) np)), (6, vi (np : Int)), (5, vi (pcF (hA h (a + 1)) (k : Int) np)), (0, vr t), (1, vr a)]) (dt_at dtX3_mostWanted 34 rfl) rfl (by decide) rfl ?_
      refine K_goto (tgt := 7) (dt_at dtX3_mostWanted 35 rfl) (by decide) ?_
      refine K_pk [0, 2, 1, 5, 6] (ls' := [(4, vi ((k : Int) + 1)), (2, vi (pcF (hA h (a + 1)) (k : Int) np)), (3, vi (k : Int)), (0, vr t), (1, vr a)]) rfl ?_
      exact K_cg (ls' := [(4, vi ((k + 1 : Nat) : Int)), (2, vi (mxN 0 (fun k => (pcF (hA h (a + 1)) (k : Int) np)) (k + 1))), (3, vi (fmN 0 0 (-1) (fun k => (pcF (hA h (a + 1)) (k : Int) np)) (k + 1))), (0, vr t), (1, vr a)]) (h' := h) (by rw [mxN_t (show mxN 0 (fun k => (pcF (hA h (a + 1)) (k : Int) np)) k < (pcF (hA h (a + 1)) (k : Int) np) by omega), fmN_t (show mxN 0 (fun k => (pcF (hA h (a + 1)) (k : Int) np)) k < (pcF (hA h (a + 1)) (k : Int) np) by omega)]; rw [Int.add_zero]; rfl) (by rfl) (ih (k + 1) (by omega))
set_option maxHeartbeats 4000000 in
set_option maxRecDepth 100000 in
theorem sX3_mostWanted {h : HP} {t a n np : Nat} {B : Int} (hH : TT t = (0, 3)) (hT : TT a = (0, 8)) (hR : rT B (hA h (a + 1))) (hn : n ≤ 6) (hnt : hI h t 10 = (n : Int)) (hnp : hI h t 11 = (np : Int)) (hn7 : np ≤ 7) (hw : ∀ i : Int, 0 ≤ i → i < n → 0 ≤ hA h (t + 1) i ∧ hA h (t + 1) i ≤ 20) : SpecK mX3_mostWanted [vr t, vr a] h (fun o h' => o = .inl (some (vi (fmN 0 0 (-1) (fun k => (pcF (hA h (a + 1)) (k : Int) np)) n))) ∧ h' = h) := by
  refine Spec_of (by decide +kernel) (Nat.le_of_ble_eq_true rfl) ?_
  refine K_iconst (dt_at dtX3_mostWanted 0 rfl) ?_
  refine K_istore_n (ls' := [(2, vi 0), (0, vr t), (1, vr a)]) (dt_at dtX3_mostWanted 1 rfl) rfl (by decide) rfl ?_
  refine K_iconst (dt_at dtX3_mostWanted 2 rfl) ?_
  refine K_istore_n (ls' := [(3, vi (-1)), (2, vi 0), (0, vr t), (1, vr a)]) (dt_at dtX3_mostWanted 3 rfl) rfl (by decide) rfl ?_
  refine K_iconst (dt_at dtX3_mostWanted 4 rfl) ?_
  refine K_istore (ls' := [(4, vi 0), (3, vi (-1)), (2, vi 0), (0, vr t), (1, vr a)]) (dt_at dtX3_mostWanted 5 rfl) (by decide) rfl ?_
  refine K_pk [0, 2, 1, 3, 4] rfl (lp_X3_mostWanted hH hT hR hn hnt hnp hn7 hw ?_ n 0 (by omega))
  refine K_iload_n (dt_at dtX3_mostWanted 36 rfl) rfl rfl ?_
  exact K_iret (dt_at dtX3_mostWanted 37 rfl) rfl rfl (by decide) (by decide) ⟨rfl, rfl⟩
