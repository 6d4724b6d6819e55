theorem GR_at {h : HP} {S : HS} {f : Int → Int} {H : Int} {n k a : Nat} (gr : GR h S f H n) (hk : k ≤ sNt S) (hn : sNt S - k ≤ n) (ha : a = 93 + k) : ∀ x : Int, 0 ≤ x → x ≤ H → hA h a x = bF S f (sNt S - k) x := by
  intro x h0 h1
  subst ha
  have := gr (sNt S - k) hn x h0 h1
  rw [show sNt S - (sNt S - k) = k by omega] at this
  exact this
theorem bF_at {S : HS} {f : Int → Int} {e : Nat} (he : e < sNt S) (r : Int) : bF S f (sNt S - e) r = mxA (gF S (bF S f (sNt S - (e + 1))) e r) (mpN S f e r + 1) := by
  rw [show sNt S - e = (sNt S - (e + 1)) + 1 by omega]
  show mxA (gF S (bF S f (sNt S - (e + 1))) (sNt S - (sNt S - (e + 1) + 1)) r) (mpN S f (sNt S - (sNt S - (e + 1) + 1)) r + 1) = _
  rw [show sNt S - (sNt S - (e + 1) + 1) = e by omega]
theorem GR_up {h : HP} {S : HS} {f : Int → Int} {H : Int} {e : Nat} (he : e < sNt S) (gr : GR h S f H (sNt S - (e + 1))) (hr : ∀ r : Int, 0 ≤ r → r ≤ H → hA h (93 + e) r = bF S f (sNt S - e) r) : GR h S f H (sNt S - e) := by
  intro j hj r h0 h1
  by_cases z : j = sNt S - e
  · subst z
    rw [show sNt S - (sNt S - e) = e by omega]
    exact hr r h0 h1
  · exact gr j (by omega) r h0 h1
theorem GR_keep {h g : HP} {S : HS} {f : Int → Int} {H : Int} {e a : Nat} {i x : Int} (he : e < sNt S) (gr : GR h S f H (sNt S - (e + 1))) (ha : a = 93 + e) (eq : g = sA h a i x) : GR g S f H (sNt S - (e + 1)) := by
  obtain ⟨a1, f1, i1, r1⟩ := sA_fx eq
  intro j hj r h0 h1
  rw [f1 _ (by omega)]
  exact gr j hj r h0 h1
def mX4_mostUse : MI := (yX4_mostUse, cX4_mostUse, 2, (some .int), rmK 1 0)
def tX4_mostUse : List (Nat × Instr × Nat) := [(0, .aload_n 0, 1), (1, .getfield 11, 3), (4, .iconst 0, 1), (5, .aaload, 1), (6, .iload_n 1, 1), (7, .iaload, 1), (8, .ireturn, 1)]
theorem dtX4_mostUse : tX4_mostUse.all (fun q => decide (decode cX4_mostUse q.1 = .ok (q.2.1, q.2.2))) = true := by decide +kernel
theorem npX4_mostUse : (parseMethodDescriptor (mY mX4_mostUse).desc).map (fun d => d.parameters.length) = some 1 := by decide +kernel
theorem vX4_mostUse : mV mX4_mostUse := ⟨wI_X4_mostUse, wS_X4_mostUse, wN_X4, wC_X4_mostUse, by decide +kernel, by decide +kernel⟩
set_option maxHeartbeats 4000000 in
set_option maxRecDepth 100000 in
theorem sX4_mostUse {h : HP} {H : Nat} (hH6 : H ≤ 60) : SpecK mX4_mostUse [vr 91, vi (H : Int)] h (fun o h' => o = .inl (some (vi (hA h 93 (H : Int)))) ∧ h' = h) := by
  refine Spec_of (by decide +kernel) (Nat.le_of_ble_eq_true rfl) ?_
  refine K_aload_n (dt_at dtX4_mostUse 0 rfl) rfl rfl ?_
  refine K_get (a := 91) (ci := 4) (k := 0) (v := vr 92) (dt_at dtX4_mostUse 1 rfl) (show TT 91 = (0, 4) from rfl) rfl (by decide) wF_X4_11 rfl ?_
  refine K_iconst (dt_at dtX4_mostUse 2 rfl) ?_
  refine K_aald (dt_at dtX4_mostUse 3 rfl) (show TT 92 = (5, 7) from rfl) (by omega) (by omega) ?_
  refine K_iload_n (dt_at dtX4_mostUse 4 rfl) rfl rfl ?_
  refine K_iald (dt_at dtX4_mostUse 5 rfl) (grid_7 (show TT 92 = (5, 7) from rfl) (by omega) (by omega)) (by omega) (by omega) ?_
  exact K_iret (dt_at dtX4_mostUse 6 rfl) rfl rfl (by decide) (by decide) ⟨rfl, rfl⟩
def mX4_manyOf : MI := (yX4_manyOf, cX4_manyOf, 5, (some .int), rmK 4 0)
def tX4_manyOf : List (Nat × Instr × Nat) := [(0, .iload_n 2, 1), (1, .istore_n 3, 1), (2, .iconst 0, 1), (3, .istore 4, 2), (5, .iload 4, 2), (7, .iload_n 1, 1), (8, .if_icmp .ge 30, 3), (11, .iload_n 3, 1), (12, .aload_n 0, 1), (13, .iload 4, 2), (15, .iload_n 3, 1), (16, .invokevirtual 62, 3), (19, .aload_n 0, 1), (20, .getfield 16, 3), (23, .getfield 46, 3), (26, .iload 4, 2), (28, .iaload, 1), (29, .imul, 1), (30, .isub, 1), (31, .istore_n 3, 1), (32, .iinc 4 1, 3), (35, .goto (-30), 3), (38, .aload_n 0, 1), (39, .iload_n 1, 1), (40, .iload_n 3, 1), (41, .invokevirtual 62, 3), (44, .ireturn, 1)]
theorem dtX4_manyOf : tX4_manyOf.all (fun q => decide (decode cX4_manyOf q.1 = .ok (q.2.1, q.2.2))) = true := by decide +kernel
theorem npX4_manyOf : (parseMethodDescriptor (mY mX4_manyOf).desc).map (fun d => d.parameters.length) = some 2 := by decide +kernel
theorem vX4_manyOf : mV mX4_manyOf := ⟨wI_X4_manyOf, wS_X4_manyOf, wN_X4, wC_X4_manyOf, by decide +kernel, by decide +kernel⟩
set_option maxHeartbeats 4000000 in
set_option maxRecDepth 100000 in
theorem lp_X4_manyOf {Z : CT → State → Prop} {h : HP} {t : Nat} {S : HS} {B : Int} {f : Int → Int} {q H : Nat} (pk : PK h t S B f) (hH6 : H ≤ 60) (gr : GR h S f (H : Int) (sNt S)) (hq0 : q < sNt S) (kx : K mX4_manyOf GK Z 0 0 38 [(4, vi (q : Int)), (3, vi (rmF S f (H : Int) q)), (0, vr 91), (1, vi (q : Int)), (2, vi (H : Int))] [] h) : ∀ (d k : Nat), k + d = q → K mX4_manyOf GK Z 0 0 5 [(4, vi (k : Int)), (3, vi (rmF S f (H : Int) k)), (0, vr 91), (1, vi (q : Int)), (2, vi (H : Int))] [] h := by
  intro d
  induction d with
  | zero =>
    intro k hk
    have c := pk.1
    have ht := c.1
    have hH := TTt ht
    have hB := c.2.2.2.1
    have hNt := hB.1
    have hNp := hB.2.1
    have hT := c.2.2.2.2.2.1
    have hC := c.2.2.2.2.2.2.1
    have h99 := c.2.2.2.2.2.2.2.1
    have G := c.2.2.2.2.2.2.2.2
    have hf0 := hT.2.2.2.1
    obtain rfl : q = k := by omega
    refine K_iload (dt_at dtX4_manyOf 4 rfl) rfl ?_
    refine K_iload_n (dt_at dtX4_manyOf 5 rfl) rfl rfl ?_
    refine K_icmp_ge (tgt := 38) (dt_at dtX4_manyOf 6 rfl) (by decide) (by first | assumption | exact ⟨by omega, by omega⟩) (by first | assumption | exact ⟨by omega, by omega⟩) (fun c1 => ?_) (fun c1 => absurd c1 (by omega))
    exact K_pk [0, 1, 2, 3, 4] rfl kx
  | succ d ih =>
    intro k hk
    have c := pk.1
    have ht := c.1
    have hH := TTt ht
    have hB := c.2.2.2.1
    have hNt := hB.1
    have hNp := hB.2.1
    have hT := c.2.2.2.2.2.1
    have hC := c.2.2.2.2.2.2.1
    have h99 := c.2.2.2.2.2.2.2.1
    have G := c.2.2.2.2.2.2.2.2
    have hf0 := hT.2.2.2.1
    have rb := rmF_b (H := (H : Int)) hB hT (by omega) (by omega) k (by omega)
    refine K_iload (dt_at dtX4_manyOf 4 rfl) rfl ?_
    refine K_iload_n (dt_at dtX4_manyOf 5 rfl) rfl rfl ?_
    refine K_icmp_ge (tgt := 38) (dt_at dtX4_manyOf 6 rfl) (by decide) (by first | assumption | exact ⟨by omega, by omega⟩) (by first | assumption | exact ⟨by omega, by omega⟩) (fun c1 => absurd c1 (by omega)) (fun c1 => ?_)
    refine K_iload_n (dt_at dtX4_manyOf 7 rfl) rfl rfl ?_
    refine K_aload_n (dt_at dtX4_manyOf 8 rfl) rfl rfl ?_
    refine K_iload (dt_at dtX4_manyOf 9 rfl) rfl ?_
    refine K_iload_n (dt_at dtX4_manyOf 10 rfl) rfl rfl ?_
    refine K_callV (M' := mX4_firstMany) (a := 91) (ci := 4) (As := [vi (k : Int), vi (rmF S f (H : Int) k)]) (st := [vi (rmF S f (H : Int) k)]) (dt_at dtX4_manyOf 11 rfl) (sX4_firstMany (q := k) pk (by omega) ⟨rb.1, by have := rb.2; omega⟩ (fun x h0 h1 => GR_at gr (by omega) (by omega) (by omega) x h0 (by have := rb.2; omega)) (GR_at gr (by omega) (by omega) (by omega) _ rb.1 rb.2)) (show TT 91 = (0, 4) from rfl) rfl wL_X4_62 vX4_firstMany rfl npX4_firstMany (by decide) (by decide) (Nat.le_of_ble_eq_true rfl) (by decide) (by decide) GK_E (fun v9 h9 hq => ?_) (fun E h9 hq => by cases hq.1)
    obtain ⟨e9, e8⟩ := hq
    cases e9
    rw [e8]
    show K mX4_manyOf _ _ 0 0 19 [(4, vi (k : Int)), (3, vi (rmF S f (H : Int) k)), (0, vr 91), (1, vi (q : Int)), (2, vi (H : Int))] [vi (fmQ S f k (rmF S f (H : Int) k) : Int), vi (rmF S f (H : Int) k)] h
    refine K_aload_n (dt_at dtX4_manyOf 12 rfl) rfl rfl ?_
    refine K_get (a := 91) (ci := 4) (k := 1) (v := vr t) (dt_at dtX4_manyOf 13 rfl) (show TT 91 = (0, 4) from rfl) rfl (by decide) wF_X4_16 (by show vr (hR h 91 1) = vr t; rw [pk.2.1]) ?_
    refine K_get (a := t) (ci := 3) (k := 0) (v := vr (t + 1)) (dt_at dtX4_manyOf 14 rfl) hH rfl (by decide) wF_X4_46 rfl ?_
    refine K_iload (dt_at dtX4_manyOf 15 rfl) rfl ?_
    refine K_iald (dt_at dtX4_manyOf 16 rfl) (lay_3_0 hH) (by omega) (by omega) ?_
    rw [pk.1.2.2.1.1.1]
    refine K_imul (dt_at dtX4_manyOf 17 rfl) ?_
    refine K_isub (dt_at dtX4_manyOf 18 rfl) ?_
    refine K_istore_n (ls' := [(3, vi ((rmF S f (H : Int) k) - ((fmQ S f k (rmF S f (H : Int) k) : Int) * ((sW S) (k : Int))))), (4, vi (k : Int)), (0, vr 91), (1, vi (q : Int)), (2, vi (H : Int))]) (dt_at dtX4_manyOf 19 rfl) rfl (by decide) rfl ?_
    refine K_iinc (ls' := [(4, vi ((k : Int) + 1)), (3, vi ((rmF S f (H : Int) k) - ((fmQ S f k (rmF S f (H : Int) k) : Int) * ((sW S) (k : Int))))), (0, vr 91), (1, vi (q : Int)), (2, vi (H : Int))]) (dt_at dtX4_manyOf 20 rfl) rfl (by decide) rfl ?_
    refine K_goto (tgt := 5) (dt_at dtX4_manyOf 21 rfl) (by decide) ?_
    refine K_pk [0, 1, 2, 3, 4] (ls' := [(4, vi ((k : Int) + 1)), (3, vi ((rmF S f (H : Int) k) - ((fmQ S f k (rmF S f (H : Int) k) : Int) * ((sW S) (k : Int))))), (0, vr 91), (1, vi (q : Int)), (2, vi (H : Int))]) rfl ?_
    exact K_cg (ls' := [(4, vi ((k + 1 : Nat) : Int)), (3, vi (rmF S f (H : Int) (k + 1))), (0, vr 91), (1, vi (q : Int)), (2, vi (H : Int))]) (h' := h) (by rfl) (by rfl) (ih (k + 1) (by omega))
set_option maxHeartbeats 4000000 in
set_option maxRecDepth 100000 in
theorem sX4_manyOf {h : HP} {t : Nat} {S : HS} {B : Int} {f : Int → Int} {q H : Nat} (pk : PK h t S B f) (hH6 : H ≤ 60) (gr : GR h S f (H : Int) (sNt S)) (hq0 : q < sNt S) : SpecK mX4_manyOf [vr 91, vi (q : Int), vi (H : Int)] h (fun o h' => o = .inl (some (vi (fmQ S f q (rmF S f (H : Int) q) : Int))) ∧ h' = h) := by
  refine Spec_of (by decide +kernel) (Nat.le_of_ble_eq_true rfl) ?_
  have c := pk.1
  have ht := c.1
  have hH := TTt ht
  have hB := c.2.2.2.1
  have hNt := hB.1
  have hNp := hB.2.1
  have hT := c.2.2.2.2.2.1
  have hC := c.2.2.2.2.2.2.1
  have h99 := c.2.2.2.2.2.2.2.1
  have G := c.2.2.2.2.2.2.2.2
  have hf0 := hT.2.2.2.1
  have rb := rmF_b (H := (H : Int)) hB hT (by omega) (by omega) q (by omega)
  refine K_iload_n (dt_at dtX4_manyOf 0 rfl) rfl rfl ?_
  refine K_istore_n (ls' := [(3, vi (H : Int)), (0, vr 91), (1, vi (q : Int)), (2, vi (H : Int))]) (dt_at dtX4_manyOf 1 rfl) rfl (by decide) rfl ?_
  refine K_iconst (dt_at dtX4_manyOf 2 rfl) ?_
  refine K_istore (ls' := [(4, vi 0), (3, vi (H : Int)), (0, vr 91), (1, vi (q : Int)), (2, vi (H : Int))]) (dt_at dtX4_manyOf 3 rfl) (by decide) rfl ?_
  refine K_pk [0, 1, 2, 3, 4] rfl (lp_X4_manyOf pk hH6 gr hq0 ?_ q 0 (by omega))
  refine K_aload_n (dt_at dtX4_manyOf 22 rfl) rfl rfl ?_
  refine K_iload_n (dt_at dtX4_manyOf 23 rfl) rfl rfl ?_
  refine K_iload_n (dt_at dtX4_manyOf 24 rfl) rfl rfl ?_
  refine K_callV (M' := mX4_firstMany) (a := 91) (ci := 4) (As := [vi (q : Int), vi (rmF S f (H : Int) q)]) (st := []) (dt_at dtX4_manyOf 25 rfl) (sX4_firstMany (q := q) pk (by omega) ⟨rb.1, by have := rb.2; omega⟩ (fun x h0 h1 => GR_at gr (by omega) (by omega) (by omega) x h0 (by have := rb.2; omega)) (GR_at gr (by omega) (by omega) (by omega) _ rb.1 rb.2)) (show TT 91 = (0, 4) from rfl) rfl wL_X4_62 vX4_firstMany rfl npX4_firstMany (by decide) (by decide) (Nat.le_of_ble_eq_true rfl) (by decide) (by decide) GK_E (fun v9 h9 hq => ?_) (fun E h9 hq => by cases hq.1)
  obtain ⟨e9, e8⟩ := hq
  cases e9
  rw [e8]
  show K mX4_manyOf _ _ 0 0 44 [(4, vi (q : Int)), (3, vi (rmF S f (H : Int) q)), (0, vr 91), (1, vi (q : Int)), (2, vi (H : Int))] [vi (fmQ S f q (rmF S f (H : Int) q) : Int)] h
  exact K_iret (dt_at dtX4_manyOf 26 rfl) rfl rfl (by decide) (by decide) ⟨rfl, rfl⟩
def mX4_fill : MI := (yX4_fill, cX4_fill, 6, none, rmK 4 0)
def tX4_fill : List (Nat × Instr × Nat) := [(0, .aload_n 0, 1), (1, .aload_n 1, 1), (2, .putfield 16, 3), (5, .aload_n 0, 1), (6, .aload_n 2, 1), (7, .putfield 20, 3), (10, .iconst 0, 1), (11, .istore 4, 2), (13, .iload 4, 2), (15, .iload_n 3, 1), (16, .if_icmp .gt 22, 3), (19, .aload_n 0, 1), (20, .getfield 11, 3), (23, .aload_n 1, 1), (24, .getfield 24, 3), (27, .aaload, 1), (28, .iload 4, 2), (30, .iconst 0, 1), (31, .iastore, 1), (32, .iinc 4 1, 3), (35, .goto (-22), 3), (38, .aload_n 1, 1), (39, .getfield 24, 3), (42, .iconst 1, 1), (43, .isub, 1), (44, .istore 4, 2), (46, .iload 4, 2), (48, .ifCond .lt 42, 3), (51, .iconst 0, 1), (52, .istore 5, 2), (54, .iload 5, 2), (56, .iload_n 3, 1), (57, .if_icmp .gt 27, 3), (60, .aload_n 0, 1), (61, .getfield 11, 3), (64, .iload 4, 2), (66, .aaload, 1), (67, .iload 5, 2), (69, .aload_n 0, 1), (70, .iload 4, 2), (72, .iload 5, 2), (74, .invokevirtual 30, 3), (77, .iastore, 1), (78, .iinc 5 1, 3), (81, .goto (-27), 3), (84, .iinc 4 (-1), 3), (87, .goto (-41), 3), (90, .return_, 1)]
theorem dtX4_fill : tX4_fill.all (fun q => decide (decode cX4_fill q.1 = .ok (q.2.1, q.2.2))) = true := by decide +kernel
theorem npX4_fill : (parseMethodDescriptor (mY mX4_fill).desc).map (fun d => d.parameters.length) = some 3 := by decide +kernel
theorem vX4_fill : mV mX4_fill := ⟨wI_X4_fill, wS_X4_fill, wN_X4, wC_X4_fill, by decide +kernel, by decide +kernel⟩
set_option maxHeartbeats 4000000 in
set_option maxRecDepth 100000 in
theorem la_X4_fill {Z : CT → State → Prop} {h : HP} {t : Nat} {S : HS} {B : Int} {f : Int → Int} {H : Nat} (c0 : CQ h t S B f) (hH6 : H ≤ 60) (kx : ∀ h2, FS h h2 → hR h2 91 1 = t → hR h2 91 2 = 66 → (∀ r : Int, 0 ≤ r → r ≤ (H : Int) → hA h2 (93 + sNt S) r = 0) → K mX4_fill GK Z 0 0 38 [(0, vr 91), (1, vr t), (2, vr 66), (3, vi (H : Int))] [] h2) : ∀ (d k : Nat) (hh : HP), k + d = H + 1 → FS h hh → hR hh 91 1 = t → hR hh 91 2 = 66 → (∀ r : Int, 0 ≤ r → r < (k : Int) → hA hh (93 + sNt S) r = 0) → K mX4_fill GK Z 0 0 13 [(4, vi (k : Int)), (0, vr 91), (1, vr t), (2, vr 66), (3, vi (H : Int))] [] hh := by
  intro d
  induction d with
  | zero =>
    intro k hh hk Fh r1h r2h zr
    have c := CQ_FS c0 Fh
    have pkh : PK hh t S B f := ⟨c, r1h, r2h⟩
    have ht := c.1
    have hH := TTt ht
    have hB := c.2.2.2.1
    have hNt := hB.1
    have hNp := hB.2.1
    have hT := c.2.2.2.2.2.1
    have hC := c.2.2.2.2.2.2.1
    have h99 := c.2.2.2.2.2.2.2.1
    have hf0 := hT.2.2.2.1
    refine K_iload (dt_at dtX4_fill 8 rfl) rfl ?_
    refine K_iload_n (dt_at dtX4_fill 9 rfl) rfl rfl ?_
    refine K_icmp_gt (tgt := 38) (dt_at dtX4_fill 10 rfl) (by decide) (by first | assumption | exact ⟨by omega, by omega⟩) (by first | assumption | exact ⟨by omega, by omega⟩) (fun c1 => ?_) (fun c1 => absurd c1 (by omega))
    exact K_pk [1, 2, 3, 4] rfl (kx hh Fh r1h r2h (fun r h0 h1 => zr r h0 (by omega)))
  | succ d ih =>
    intro k hh hk Fh r1h r2h zr
    have c := CQ_FS c0 Fh
    have pkh : PK hh t S B f := ⟨c, r1h, r2h⟩
    have ht := c.1
    have hH := TTt ht
    have hB := c.2.2.2.1
    have hNt := hB.1
    have hNp := hB.2.1
    have hT := c.2.2.2.2.2.1
    have hC := c.2.2.2.2.2.2.1
    have h99 := c.2.2.2.2.2.2.2.1
    have hf0 := hT.2.2.2.1
    refine K_iload (dt_at dtX4_fill 8 rfl) rfl ?_
    refine K_iload_n (dt_at dtX4_fill 9 rfl) rfl rfl ?_
    refine K_icmp_gt (tgt := 38) (dt_at dtX4_fill 10 rfl) (by decide) (by first | assumption | exact ⟨by omega, by omega⟩) (by first | assumption | exact ⟨by omega, by omega⟩) (fun c1 => absurd c1 (by omega)) (fun c1 => ?_)
    refine K_aload_n (dt_at dtX4_fill 11 rfl) rfl rfl ?_
    refine K_get (a := 91) (ci := 4) (k := 0) (v := vr 92) (dt_at dtX4_fill 12 rfl) (show TT 91 = (0, 4) from rfl) rfl (by decide) wF_X4_11 rfl ?_
    refine K_aload_n (dt_at dtX4_fill 13 rfl) rfl rfl ?_
    refine K_get (a := t) (ci := 3) (k := 10) (v := vi (sNt S : Int)) (dt_at dtX4_fill 14 rfl) hH rfl (by decide) wF_X4_24 (by show vi (hI hh t 10) = vi (sNt S : Int); rw [pkh.1.2.2.1.2.1.1]) ?_
    refine K_aald (dt_at dtX4_fill 15 rfl) (show TT 92 = (5, 7) from rfl) (by omega) (by omega) ?_
    refine K_iload (dt_at dtX4_fill 16 rfl) rfl ?_
    refine K_iconst (dt_at dtX4_fill 17 rfl) ?_
    refine K_iast (dt_at dtX4_fill 18 rfl) (grid_7 (show TT 92 = (5, 7) from rfl) (by omega) (by omega)) (by omega) (by omega) ?_
    obtain ⟨hq1, eq1⟩ : ∃ z, z = sA hh (92 + 1 + (sNt S : Int).toNat) (k : Int) 0 := ⟨_, rfl⟩
    rw [← eq1]
    obtain ⟨aq1, fq1, iq1, rq1⟩ := sA_fx eq1
    refine K_iinc (ls' := [(4, vi ((k : Int) + 1)), (0, vr 91), (1, vr t), (2, vr 66), (3, vi (H : Int))]) (dt_at dtX4_fill 19 rfl) rfl (by decide) rfl ?_
    refine K_goto (tgt := 13) (dt_at dtX4_fill 20 rfl) (by decide) ?_
    obtain ⟨F2, rr⟩ := FS_g Fh (by omega) (by omega) eq1
    exact K_pk [0, 1, 2, 3, 4] rfl (ih (k + 1) hq1 (by omega) F2 (by rw [rr]; exact r1h) (by rw [rr]; exact r2h) (fun r h0 h1 => by rw [show 93 + sNt S = (92 + 1 + (sNt S : Int).toNat) by omega, aq1]; unfold upI; by_cases z : r = (k : Int); rw [if_pos z]; rw [if_neg z, show (92 + 1 + (sNt S : Int).toNat) = 93 + sNt S by omega]; exact zr r h0 (by omega)))
set_option maxHeartbeats 4000000 in
set_option maxRecDepth 100000 in
theorem lc_X4_fill {Z : CT → State → Prop} {h : HP} {t : Nat} {S : HS} {B : Int} {f : Int → Int} {H : Nat} {e : Nat} (c0 : CQ h t S B f) (hH6 : H ≤ 60) (he : e < sNt S) (kx : ∀ h2, FS h h2 → hR h2 91 1 = t → hR h2 91 2 = 66 → GR h2 S f (H : Int) (sNt S - e) → K mX4_fill GK Z 0 0 84 [(4, vi (e : Int)), (0, vr 91), (1, vr t), (2, vr 66), (3, vi (H : Int))] [] h2) : ∀ (d k : Nat) (hh : HP), k + d = H + 1 → FS h hh → hR hh 91 1 = t → hR hh 91 2 = 66 → GR hh S f (H : Int) (sNt S - (e + 1)) → (∀ r : Int, 0 ≤ r → r < (k : Int) → hA hh (93 + e) r = bF S f (sNt S - e) r) → K mX4_fill GK Z 0 0 54 [(5, vi (k : Int)), (4, vi (e : Int)), (0, vr 91), (1, vr t), (2, vr 66), (3, vi (H : Int))] [] hh := by
  intro d
  induction d with
  | zero =>
    intro k hh hk Fh r1h r2h gr zr
    have c := CQ_FS c0 Fh
    have pkh : PK hh t S B f := ⟨c, r1h, r2h⟩
    have ht := c.1
    have hH := TTt ht
    have hB := c.2.2.2.1
    have hNt := hB.1
    have hNp := hB.2.1
    have hT := c.2.2.2.2.2.1
    have hC := c.2.2.2.2.2.2.1
    have h99 := c.2.2.2.2.2.2.2.1
    have hf0 := hT.2.2.2.1
    refine K_iload (dt_at dtX4_fill 30 rfl) rfl ?_
    refine K_iload_n (dt_at dtX4_fill 31 rfl) rfl rfl ?_
    refine K_icmp_gt (tgt := 84) (dt_at dtX4_fill 32 rfl) (by decide) (by first | assumption | exact ⟨by omega, by omega⟩) (by first | assumption | exact ⟨by omega, by omega⟩) (fun c1 => ?_) (fun c1 => absurd c1 (by omega))
    exact K_pk [1, 2, 3, 4, 5] rfl (kx hh Fh r1h r2h (GR_up he gr (fun r h0 h1 => zr r h0 (by omega))))
  | succ d ih =>
    intro k hh hk Fh r1h r2h gr zr
    have c := CQ_FS c0 Fh
    have pkh : PK hh t S B f := ⟨c, r1h, r2h⟩
    have ht := c.1
    have hH := TTt ht
    have hB := c.2.2.2.1
    have hNt := hB.1
    have hNp := hB.2.1
    have hT := c.2.2.2.2.2.1
    have hC := c.2.2.2.2.2.2.1
    have h99 := c.2.2.2.2.2.2.2.1
    have hf0 := hT.2.2.2.1
    refine K_iload (dt_at dtX4_fill 30 rfl) rfl ?_
    refine K_iload_n (dt_at dtX4_fill 31 rfl) rfl rfl ?_
    refine K_icmp_gt (tgt := 84) (dt_at dtX4_fill 32 rfl) (by decide) (by first | assumption | exact ⟨by omega, by omega⟩) (by first | assumption | exact ⟨by omega, by omega⟩) (fun c1 => absurd c1 (by omega)) (fun c1 => ?_)
    refine K_aload_n (dt_at dtX4_fill 33 rfl) rfl rfl ?_
    refine K_get (a := 91) (ci := 4) (k := 0) (v := vr 92) (dt_at dtX4_fill 34 rfl) (show TT 91 = (0, 4) from rfl) rfl (by decide) wF_X4_11 rfl ?_
    refine K_iload (dt_at dtX4_fill 35 rfl) rfl ?_
    refine K_aald (dt_at dtX4_fill 36 rfl) (show TT 92 = (5, 7) from rfl) (by omega) (by omega) ?_
    refine K_iload (dt_at dtX4_fill 37 rfl) rfl ?_
    refine K_aload_n (dt_at dtX4_fill 38 rfl) rfl rfl ?_
    refine K_iload (dt_at dtX4_fill 39 rfl) rfl ?_
    refine K_iload (dt_at dtX4_fill 40 rfl) rfl ?_
    refine K_callV (M' := mX4_mostFrom) (a := 91) (ci := 4) (As := [vi (e : Int), vi (k : Int)]) (st := [vi (k : Int), vr (92 + 1 + (e : Int).toNat)]) (dt_at dtX4_fill 41 rfl) (sX4_mostFrom (q := e) pkh he ⟨by omega, by omega⟩ (fun x h0 h1 => GR_at gr (k := e + 1) (by omega) (by omega) (by omega) x h0 (by omega))) (show TT 91 = (0, 4) from rfl) rfl wL_X4_30 vX4_mostFrom rfl npX4_mostFrom (by decide) (by decide) (Nat.le_of_ble_eq_true rfl) (by decide) (by decide) GK_E (fun v9 h9 hq => ?_) (fun E h9 hq => by cases hq.1)
    obtain ⟨e9, e8⟩ := hq
    cases e9
    rw [e8]
    show K mX4_fill _ _ 0 0 77 [(5, vi (k : Int)), (4, vi (e : Int)), (0, vr 91), (1, vr t), (2, vr 66), (3, vi (H : Int))] [vi (mxA (gF S (bF S f (sNt S - (e + 1))) e (k : Int)) (mpN S f e (k : Int) + 1)), vi (k : Int), vr (92 + 1 + (e : Int).toNat)] hh
    refine K_iast (dt_at dtX4_fill 42 rfl) (grid_7 (show TT 92 = (5, 7) from rfl) (by omega) (by omega)) (by omega) (by omega) ?_
    obtain ⟨hq1, eq1⟩ : ∃ z, z = sA hh (92 + 1 + (e : Int).toNat) (k : Int) (mxA (gF S (bF S f (sNt S - (e + 1))) e (k : Int)) (mpN S f e (k : Int) + 1)) := ⟨_, rfl⟩
    rw [← eq1]
    obtain ⟨aq1, fq1, iq1, rq1⟩ := sA_fx eq1
    refine K_iinc (ls' := [(5, vi ((k : Int) + 1)), (4, vi (e : Int)), (0, vr 91), (1, vr t), (2, vr 66), (3, vi (H : Int))]) (dt_at dtX4_fill 43 rfl) rfl (by decide) rfl ?_
    refine K_goto (tgt := 54) (dt_at dtX4_fill 44 rfl) (by decide) ?_
    obtain ⟨F2, rr⟩ := FS_g Fh (by omega) (by omega) eq1
    exact K_pk [0, 1, 2, 3, 4, 5] rfl (ih (k + 1) hq1 (by omega) F2 (by rw [rr]; exact r1h) (by rw [rr]; exact r2h) (GR_keep he gr (by omega) eq1) (fun r h0 h1 => by rw [show 93 + e = (92 + 1 + (e : Int).toNat) by omega, aq1]; unfold upI; by_cases z : r = (k : Int); rw [if_pos z, z, bF_at he]; rw [if_neg z, show (92 + 1 + (e : Int).toNat) = 93 + e by omega]; exact zr r h0 (by omega)))
set_option maxHeartbeats 4000000 in
set_option maxRecDepth 100000 in
theorem lb_X4_fill {Q : AO → HP → Prop} {h : HP} {t : Nat} {S : HS} {B : Int} {f : Int → Int} {H : Nat} (c0 : CQ h t S B f) (hH6 : H ≤ 60) (hQ : ∀ h2, FS h h2 → hR h2 91 1 = t → hR h2 91 2 = 66 → GR h2 S f (H : Int) (sNt S) → Q (.inl none) h2) : ∀ (d k : Nat) (x : Int) (hh : HP), x + 1 = (d : Int) → d ≤ sNt S → FS h hh → hR hh 91 1 = t → hR hh 91 2 = 66 → GR hh S f (H : Int) (sNt S - d) → K mX4_fill GK (ZK Q 0 0) 0 0 46 [(4, vi x), (0, vr 91), (1, vr t), (2, vr 66), (3, vi (H : Int))] [] hh := by
  intro d
  induction d with
  | zero =>
    intro k x hh hx hd Fh r1h r2h gr
    have c := CQ_FS c0 Fh
    have pkh : PK hh t S B f := ⟨c, r1h, r2h⟩
    have ht := c.1
    have hH := TTt ht
    have hB := c.2.2.2.1
    have hNt := hB.1
    have hNp := hB.2.1
    have hT := c.2.2.2.2.2.1
    have hC := c.2.2.2.2.2.2.1
    have h99 := c.2.2.2.2.2.2.2.1
    have hf0 := hT.2.2.2.1
    refine K_iload (dt_at dtX4_fill 26 rfl) rfl ?_
    refine K_if_lt (tgt := 90) (dt_at dtX4_fill 27 rfl) (by decide) (by first | assumption | exact ⟨by omega, by omega⟩) (fun c1 => ?_) (fun c1 => absurd c1 (by omega))
    exact K_vret (dt_at dtX4_fill 47 rfl) rfl (by decide) (by decide) (hQ hh Fh r1h r2h gr)
  | succ d ih =>
    intro k x hh hx hd Fh r1h r2h gr
    have c := CQ_FS c0 Fh
    have pkh : PK hh t S B f := ⟨c, r1h, r2h⟩
    have ht := c.1
    have hH := TTt ht
    have hB := c.2.2.2.1
    have hNt := hB.1
    have hNp := hB.2.1
    have hT := c.2.2.2.2.2.1
    have hC := c.2.2.2.2.2.2.1
    have h99 := c.2.2.2.2.2.2.2.1
    have hf0 := hT.2.2.2.1
    have ex : x = (d : Int) := by omega
    refine K_iload (dt_at dtX4_fill 26 rfl) rfl ?_
    refine K_if_lt (tgt := 90) (dt_at dtX4_fill 27 rfl) (by decide) (by first | assumption | exact ⟨by omega, by omega⟩) (fun c1 => absurd c1 (by omega)) (fun c1 => ?_)
    refine K_iconst (dt_at dtX4_fill 28 rfl) ?_
    refine K_istore (ls' := [(5, vi 0), (4, vi x), (0, vr 91), (1, vr t), (2, vr 66), (3, vi (H : Int))]) (dt_at dtX4_fill 29 rfl) (by decide) rfl ?_
    subst ex
    refine K_pk [0, 1, 2, 3, 4, 5] rfl (lc_X4_fill c0 hH6 (e := d) (by omega) (fun h2 F2 q1 q2 g2 => ?_) (H + 1) 0 hh (by omega) Fh r1h r2h (by rw [show sNt S - (d + 1) = sNt S - (d + 1) from rfl]; exact gr) (fun r h0 h1 => absurd h1 (by omega)))
    refine K_iinc (ls' := [(4, vi ((d : Int) + (-1))), (0, vr 91), (1, vr t), (2, vr 66), (3, vi (H : Int))]) (dt_at dtX4_fill 45 rfl) rfl (by decide) rfl ?_
    refine K_goto (tgt := 46) (dt_at dtX4_fill 46 rfl) (by decide) ?_
    exact K_pk [0, 1, 2, 3, 4] rfl (ih k ((d : Int) + (-1)) h2 (by omega) (by omega) F2 q1 q2 g2)
set_option maxHeartbeats 4000000 in
set_option maxRecDepth 100000 in
theorem sX4_fill {h : HP} {t : Nat} {S : HS} {B : Int} {f : Int → Int} {H : Nat} (c : CQ h t S B f) (hH6 : H ≤ 60) : SpecK mX4_fill [vr 91, vr t, vr 66, vi (H : Int)] h (fun o h' => o = .inl none ∧ FS h h' ∧ hR h' 91 1 = t ∧ hR h' 91 2 = 66 ∧ GR h' S f (H : Int) (sNt S)) := by
  refine Spec_of (by decide +kernel) (Nat.le_of_ble_eq_true rfl) ?_
  have ht := c.1
  have hH := TTt ht
  have hB := c.2.2.2.1
  have hNt := hB.1
  have hNp := hB.2.1
  have hT := c.2.2.2.2.2.1
  have hC := c.2.2.2.2.2.2.1
  have h99 := c.2.2.2.2.2.2.2.1
  have G := c.2.2.2.2.2.2.2.2
  have hf0 := hT.2.2.2.1
  refine K_aload_n (dt_at dtX4_fill 0 rfl) rfl rfl ?_
  refine K_aload_n (dt_at dtX4_fill 1 rfl) rfl rfl ?_
  refine K_putR (a := 91) (ci := 4) (k := 1) (dt_at dtX4_fill 2 rfl) (show TT 91 = (0, 4) from rfl) rfl (by decide) wF_X4_16 rfl rfl (fun _ => rfl) (fun _ => rfl) ?_
  obtain ⟨hq1, eq1⟩ : ∃ z, z = sR h 91 1 t := ⟨_, rfl⟩
  rw [← eq1]
  obtain ⟨rq1, fq1, aq1, iq1⟩ := sR_fx eq1
  refine K_aload_n (dt_at dtX4_fill 3 rfl) rfl rfl ?_
  refine K_aload_n (dt_at dtX4_fill 4 rfl) rfl rfl ?_
  refine K_putR (a := 91) (ci := 4) (k := 2) (dt_at dtX4_fill 5 rfl) (show TT 91 = (0, 4) from rfl) rfl (by decide) wF_X4_20 rfl rfl (fun _ => rfl) (fun _ => rfl) ?_
  obtain ⟨hq2, eq2⟩ : ∃ z, z = sR hq1 91 2 66 := ⟨_, rfl⟩
  rw [← eq2]
  obtain ⟨rq2, fq2, aq2, iq2⟩ := sR_fx eq2
  refine K_iconst (dt_at dtX4_fill 6 rfl) ?_
  refine K_istore (ls' := [(4, vi 0), (0, vr 91), (1, vr t), (2, vr 66), (3, vi (H : Int))]) (dt_at dtX4_fill 7 rfl) (by decide) rfl ?_
  have Fa := FS_r (FS_r (FS_rf G) (Or.inl rfl) eq1) (Or.inr rfl) eq2
  refine K_pk [0, 1, 2, 3, 4] rfl (la_X4_fill c hH6 (fun h2 F2 q1 q2 zr => ?_) (H + 1) 0 hq2 (by omega) Fa (by rw [fq2 _ _ (by decide)]; exact rq1) rq2 (fun r h0 h1 => absurd h1 (by omega)))
  have pkh : PK h2 t S B f := ⟨CQ_FS c F2, q1, q2⟩
  refine K_aload_n (dt_at dtX4_fill 21 rfl) rfl rfl ?_
  refine K_get (a := t) (ci := 3) (k := 10) (v := vi (sNt S : Int)) (dt_at dtX4_fill 22 rfl) hH rfl (by decide) wF_X4_24 (by show vi (hI h2 t 10) = vi (sNt S : Int); rw [pkh.1.2.2.1.2.1.1]) ?_
  refine K_iconst (dt_at dtX4_fill 23 rfl) ?_
  refine K_isub (dt_at dtX4_fill 24 rfl) ?_
  refine K_istore (ls' := [(4, vi ((sNt S : Int) - 1)), (0, vr 91), (1, vr t), (2, vr 66), (3, vi (H : Int))]) (dt_at dtX4_fill 25 rfl) (by decide) rfl ?_
  exact K_pk [0, 1, 2, 3, 4] rfl (lb_X4_fill c hH6 (fun h3 F3 q3 q4 g3 => ⟨rfl, F3, q3, q4, g3⟩) (sNt S) 0 _ h2 (by omega) (Nat.le_refl _) F2 q1 q2 (by rw [Nat.sub_self]; intro j hj r h0 h1; obtain rfl : j = 0 := (by omega); exact zr r h0 h1))
def mX11_best : MI := (yX11_best, cX11_best, 4, (some .int), rmK 8 2)
def tX11_best : List (Nat × Instr × Nat) := [(0, .aload_n 0, 1), (1, .iload_n 1, 1), (2, .invokevirtual 184, 3), (5, .iload_n 2, 1), (6, .iconst (-1), 1), (7, .if_icmp .eq 8, 3), (10, .aload_n 0, 1), (11, .iload_n 2, 1), (12, .invokevirtual 172, 3), (15, .aload_n 0, 1), (16, .getfield 20, 3), (19, .getfield 187, 3), (22, .aload_n 0, 1), (23, .getfield 39, 3), (26, .iload_n 1, 1), (27, .invokevirtual 202, 3), (30, .iaload, 1), (31, .istore_n 3, 1), (32, .aload_n 0, 1), (33, .getfield 78, 3), (36, .aload_n 0, 1), (37, .getfield 20, 3), (40, .aload_n 0, 1), (41, .getfield 39, 3), (44, .iload_n 3, 1), (45, .invokevirtual 325, 3), (48, .iload_n 2, 1), (49, .iconst (-1), 1), (50, .if_icmp .ne 14, 3), (53, .aload_n 0, 1), (54, .getfield 78, 3), (57, .iload_n 3, 1), (58, .invokevirtual 329, 3), (61, .goto 12, 3), (64, .aload_n 0, 1), (65, .getfield 78, 3), (68, .iload_n 2, 1), (69, .iload_n 3, 1), (70, .invokevirtual 332, 3), (73, .ireturn, 1)]
theorem dtX11_best : tX11_best.all (fun q => decide (decode cX11_best q.1 = .ok (q.2.1, q.2.2))) = true := by decide +kernel
theorem npX11_best : (parseMethodDescriptor (mY mX11_best).desc).map (fun d => d.parameters.length) = some 2 := by decide +kernel
theorem vX11_best : mV mX11_best := ⟨wI_X11_best, wS_X11_best, wN_X11, wC_X11_best, by decide +kernel, by decide +kernel⟩
set_option maxHeartbeats 4000000 in
set_option maxRecDepth 100000 in
theorem sX11_best_x1 {h : HP} {t : Nat} {S : HS} {B : Int} {f : Int → Int} {p q : Int} (c : CQ h t S B f) (hp_ : i32 p) (hq_ : i32 q) (kn : ¬ (0 ≤ p ∧ p < sNp S)) : SpecK mX11_best [vr 30, vi p, vi q] h (fun o h' => o = .inr eNS ∧ FS h h') := by
  refine Spec_of (by decide +kernel) (Nat.le_of_ble_eq_true rfl) ?_
  have ht := c.1
  have hH := TTt ht
  have hB := c.2.2.2.1
  have hNt := hB.1
  have hNp := hB.2.1
  have hT := c.2.2.2.2.2.1
  have hC := c.2.2.2.2.2.2.1
  have h99 := c.2.2.2.2.2.2.2.1
  have G := c.2.2.2.2.2.2.2.2
  have hf0 := hT.2.2.2.1
  refine K_aload_n (dt_at dtX11_best 0 rfl) rfl rfl ?_
  refine K_iload_n (dt_at dtX11_best 1 rfl) rfl rfl ?_
  exact K_callV (M' := mX11_needPerson) (a := 30) (ci := 11) (As := [vi p]) (st := []) (dt_at dtX11_best 2 rfl) (sX11_needPerson_no hH c.2.1 c.2.2.1.2.1.2 hNp (by assumption) (by omega)) (by decide) rfl wL_X11_184 vX11_needPerson rfl npX11_needPerson (by decide) (by decide) (Nat.le_of_ble_eq_true rfl) (by decide) (by decide) GK_E (fun v9 h9 hq => by cases hq.1) (fun E h9 hq => by obtain ⟨e9, e8⟩ := hq; cases e9; rw [e8]; exact KX_out (by decide) (by decide) ⟨rfl, FS_rf G⟩)
set_option maxHeartbeats 4000000 in
set_option maxRecDepth 100000 in
theorem sX11_best_x2 {h : HP} {t : Nat} {S : HS} {B : Int} {f : Int → Int} {p q : Int} (c : CQ h t S B f) (hp_ : i32 p) (hq_ : i32 q) (k0 : 0 ≤ p ∧ p < sNp S) (k1 : q ≠ -1) (kn : ¬ (0 ≤ q ∧ q < sNt S)) : SpecK mX11_best [vr 30, vi p, vi q] h (fun o h' => o = .inr eNS ∧ FS h h') := by
  refine Spec_of (by decide +kernel) (Nat.le_of_ble_eq_true rfl) ?_
  have ht := c.1
  have hH := TTt ht
  have hB := c.2.2.2.1
  have hNt := hB.1
  have hNp := hB.2.1
  have hT := c.2.2.2.2.2.1
  have hC := c.2.2.2.2.2.2.1
  have h99 := c.2.2.2.2.2.2.2.1
  have G := c.2.2.2.2.2.2.2.2
  have hf0 := hT.2.2.2.1
  refine K_aload_n (dt_at dtX11_best 0 rfl) rfl rfl ?_
  refine K_iload_n (dt_at dtX11_best 1 rfl) rfl rfl ?_
  refine K_callV (M' := mX11_needPerson) (a := 30) (ci := 11) (As := [vi p]) (st := []) (dt_at dtX11_best 2 rfl) (sX11_needPerson hH c.2.1 c.2.2.1.2.1.2 hNp (by first | assumption | exact ⟨by omega, by omega⟩) (by omega)) (by decide) rfl wL_X11_184 vX11_needPerson rfl npX11_needPerson (by decide) (by decide) (Nat.le_of_ble_eq_true rfl) (by decide) (by decide) GK_E (fun v9 h9 hq => ?_) (fun E h9 hq => by cases hq.1)
  obtain ⟨e9, e8⟩ := hq
  cases e9
  rw [e8]
  show K mX11_best _ _ 1 6 5 [(0, vr 30), (1, vi p), (2, vi q)] [] h
  refine K_iload_n (dt_at dtX11_best 3 rfl) rfl rfl ?_
  refine K_iconst (dt_at dtX11_best 4 rfl) ?_
  refine K_icmp_eq (tgt := 15) (dt_at dtX11_best 5 rfl) (by decide) (by first | assumption | exact ⟨by omega, by omega⟩) (by first | assumption | exact ⟨by omega, by omega⟩) (fun c1 => absurd c1 (by omega)) (fun c1 => ?_)
  refine K_aload_n (dt_at dtX11_best 6 rfl) rfl rfl ?_
  refine K_iload_n (dt_at dtX11_best 7 rfl) rfl rfl ?_
  exact K_callV (M' := mX11_needThing) (a := 30) (ci := 11) (As := [vi q]) (st := []) (dt_at dtX11_best 8 rfl) (sX11_needThing_no hH c.2.1 c.2.2.1.2.1.1 hNt (by assumption) (by omega)) (by decide) rfl wL_X11_172 vX11_needThing rfl npX11_needThing (by decide) (by decide) (Nat.le_of_ble_eq_true rfl) (by decide) (by decide) GK_E (fun v9 h9 hq => by cases hq.1) (fun E h9 hq => by obtain ⟨e9, e8⟩ := hq; cases e9; rw [e8]; exact KX_out (by decide) (by decide) ⟨rfl, FS_rf G⟩)
set_option maxHeartbeats 4000000 in
set_option maxRecDepth 100000 in
theorem sX11_best_n {h : HP} {t : Nat} {S : HS} {B : Int} {f : Int → Int} {p : Int} (c : CQ h t S B f) (hp : 0 ≤ p ∧ p < sNp S) : SpecK mX11_best [vr 30, vi p, vi (-1)] h (fun o h' => o = .inl (some (vi (bF S f (sNt S) (sH S (f (8 + p)))))) ∧ FS h h') := by
  refine Spec_of (by decide +kernel) (Nat.le_of_ble_eq_true rfl) ?_
  have ht := c.1
  have hH := TTt ht
  have hB := c.2.2.2.1
  have hNt := hB.1
  have hNp := hB.2.1
  have hT := c.2.2.2.2.2.1
  have hC := c.2.2.2.2.2.2.1
  have h99 := c.2.2.2.2.2.2.2.1
  have G := c.2.2.2.2.2.2.2.2
  have hf0 := hT.2.2.2.1
  have w8 := (hT.1.2 p (by omega) (by omega)).2.1
  have w9 := hC p (by omega) (by omega)
  have w7 := (hB.2.2.2.1 (f (8 + p)) w8.1 w9).1
  obtain ⟨H, eH⟩ : ∃ n : Nat, sH S (f (8 + p)) = (n : Int) := ⟨(sH S (f (8 + p))).toNat, by omega⟩
  rw [eH]
  refine K_aload_n (dt_at dtX11_best 0 rfl) rfl rfl ?_
  refine K_iload_n (dt_at dtX11_best 1 rfl) rfl rfl ?_
  refine K_callV (M' := mX11_needPerson) (a := 30) (ci := 11) (As := [vi p]) (st := []) (dt_at dtX11_best 2 rfl) (sX11_needPerson hH c.2.1 c.2.2.1.2.1.2 hNp (by first | assumption | exact ⟨by omega, by omega⟩) (by omega)) (by decide) rfl wL_X11_184 vX11_needPerson rfl npX11_needPerson (by decide) (by decide) (Nat.le_of_ble_eq_true rfl) (by decide) (by decide) GK_E (fun v9 h9 hq => ?_) (fun E h9 hq => by cases hq.1)
  obtain ⟨e9, e8⟩ := hq
  cases e9
  rw [e8]
  show K mX11_best _ _ 1 6 5 [(0, vr 30), (1, vi p), (2, vi (-1))] [] h
  refine K_iload_n (dt_at dtX11_best 3 rfl) rfl rfl ?_
  refine K_iconst (dt_at dtX11_best 4 rfl) ?_
  refine K_icmp_eq (tgt := 15) (dt_at dtX11_best 5 rfl) (by decide) (by first | assumption | exact ⟨by omega, by omega⟩) (by first | assumption | exact ⟨by omega, by omega⟩) (fun c1 => ?_) (fun c1 => absurd c1 (by omega))
  refine K_aload_n (dt_at dtX11_best 9 rfl) rfl rfl ?_
  refine K_get (a := 30) (ci := 11) (k := 2) (v := vr t) (dt_at dtX11_best 10 rfl) (by decide) rfl (by decide) wF_X11_20 (by show vr (hR h 30 2) = vr t; rw [c.2.1]) ?_
  refine K_get (a := t) (ci := 3) (k := 3) (v := vr (t + 4)) (dt_at dtX11_best 11 rfl) hH rfl (by decide) wF_X11_187 rfl ?_
  refine K_aload_n (dt_at dtX11_best 12 rfl) rfl rfl ?_
  refine K_get (a := 30) (ci := 11) (k := 5) (v := vr 66) (dt_at dtX11_best 13 rfl) (by decide) rfl (by decide) wF_X11_39 rfl ?_
  refine K_iload_n (dt_at dtX11_best 14 rfl) rfl rfl ?_
  refine K_callV (M' := mX8_caseOf) (a := 66) (ci := 8) (As := [vi p]) (st := [vr (t + 4)]) (dt_at dtX11_best 15 rfl) (sX8_caseOf (a := 66) (by decide) ⟨by omega, by omega⟩) (show TT 66 = (0, 8) from rfl) rfl wL_X11_202 vX8_caseOf rfl npX8_caseOf (by decide) (by decide) (Nat.le_of_ble_eq_true rfl) (by decide) (by decide) GK_E (fun v9 h9 hq => ?_) (fun E h9 hq => by cases hq.1)
  obtain ⟨e9, e8⟩ := hq
  cases e9
  rw [e8]
  show K mX11_best _ _ 1 6 30 [(0, vr 30), (1, vi p), (2, vi (-1))] [vi (hA h (66 + 1) (8 + p)), vr (t + 4)] h
  rw [show hA h (66 + 1) = f from c.2.2.2.2.1]
  refine K_iald (dt_at dtX11_best 16 rfl) (lay_3_3 hH) (by omega) (by omega) ?_
  rw [show hA h (t + 4) (f (8 + p)) = (H : Int) by rw [c.2.2.1.1.2.2.1]; exact eH]
  refine K_istore_n (ls' := [(3, vi (H : Int)), (0, vr 30), (1, vi p), (2, vi (-1))]) (dt_at dtX11_best 17 rfl) rfl (by decide) rfl ?_
  refine K_aload_n (dt_at dtX11_best 18 rfl) rfl rfl ?_
  refine K_get (a := 30) (ci := 11) (k := 12) (v := vr 91) (dt_at dtX11_best 19 rfl) (by decide) rfl (by decide) wF_X11_78 rfl ?_
  refine K_aload_n (dt_at dtX11_best 20 rfl) rfl rfl ?_
  refine K_get (a := 30) (ci := 11) (k := 2) (v := vr t) (dt_at dtX11_best 21 rfl) (by decide) rfl (by decide) wF_X11_20 (by show vr (hR h 30 2) = vr t; rw [c.2.1]) ?_
  refine K_aload_n (dt_at dtX11_best 22 rfl) rfl rfl ?_
  refine K_get (a := 30) (ci := 11) (k := 5) (v := vr 66) (dt_at dtX11_best 23 rfl) (by decide) rfl (by decide) wF_X11_39 rfl ?_
  refine K_iload_n (dt_at dtX11_best 24 rfl) rfl rfl ?_
  refine K_callV (M' := mX4_fill) (a := 91) (ci := 4) (As := [vr t, vr 66, vi (H : Int)]) (st := []) (dt_at dtX11_best 25 rfl) (sX4_fill c (H := H) (by omega)) (show TT 91 = (0, 4) from rfl) rfl wL_X11_325 vX4_fill rfl npX4_fill (by decide) (by decide) (Nat.le_of_ble_eq_true rfl) (by decide) (by decide) GK_E (fun v9 hc1 hq => ?_) (fun E h9 hq => by cases hq.1)
  have hqq2 := hq
  obtain ⟨e9q2, F1, q1, q2, gr⟩ := hqq2
  have pk : PK hc1 t S B f := ⟨CQ_FS c F1, q1, q2⟩
  cases e9q2
  show K mX11_best _ _ 1 6 48 [(3, vi (H : Int)), (0, vr 30), (1, vi p), (2, vi (-1))] [] hc1
  refine K_iload_n (dt_at dtX11_best 26 rfl) rfl rfl ?_
  refine K_iconst (dt_at dtX11_best 27 rfl) ?_
  refine K_icmp_ne (tgt := 64) (dt_at dtX11_best 28 rfl) (by decide) (by first | assumption | exact ⟨by omega, by omega⟩) (by first | assumption | exact ⟨by omega, by omega⟩) (fun c2 => absurd c2 (by omega)) (fun c2 => ?_)
  refine K_aload_n (dt_at dtX11_best 29 rfl) rfl rfl ?_
  refine K_get (a := 30) (ci := 11) (k := 12) (v := vr 91) (dt_at dtX11_best 30 rfl) (by decide) rfl (by decide) wF_X11_78 rfl ?_
  refine K_iload_n (dt_at dtX11_best 31 rfl) rfl rfl ?_
  refine K_callV (M' := mX4_mostUse) (a := 91) (ci := 4) (As := [vi (H : Int)]) (st := []) (dt_at dtX11_best 32 rfl) (sX4_mostUse (H := H) (by omega)) (show TT 91 = (0, 4) from rfl) rfl wL_X11_329 vX4_mostUse rfl npX4_mostUse (by decide) (by decide) (Nat.le_of_ble_eq_true rfl) (by decide) (by decide) GK_E (fun v9 h9 hq => ?_) (fun E h9 hq => by cases hq.1)
  obtain ⟨e9, e8⟩ := hq
  cases e9
  rw [e8]
  show K mX11_best _ _ 1 6 61 [(3, vi (H : Int)), (0, vr 30), (1, vi p), (2, vi (-1))] [vi (hA hc1 93 (H : Int))] hc1
  rw [show hA hc1 93 (H : Int) = bF S f (sNt S) (H : Int) from GR_at gr (k := 0) (by omega) (by omega) rfl _ (by omega) (Int.le_refl _)]
  refine K_goto (tgt := 73) (dt_at dtX11_best 33 rfl) (by decide) ?_
  exact K_iret (dt_at dtX11_best 39 rfl) rfl rfl (by decide) (by decide) ⟨rfl, F1⟩
set_option maxHeartbeats 4000000 in
set_option maxRecDepth 100000 in
theorem sX11_best {h : HP} {t : Nat} {S : HS} {B : Int} {f : Int → Int} {p : Int} {q : Nat} (c : CQ h t S B f) (hp : 0 ≤ p ∧ p < sNp S) (hqt : q < sNt S) : SpecK mX11_best [vr 30, vi p, vi (q : Int)] h (fun o h' => o = .inl (some (vi (fmQ S f q (rmF S f (sH S (f (8 + p))) q) : Int))) ∧ FS h h') := by
  refine Spec_of (by decide +kernel) (Nat.le_of_ble_eq_true rfl) ?_
  have ht := c.1
  have hH := TTt ht
  have hB := c.2.2.2.1
  have hNt := hB.1
  have hNp := hB.2.1
  have hT := c.2.2.2.2.2.1
  have hC := c.2.2.2.2.2.2.1
  have h99 := c.2.2.2.2.2.2.2.1
  have G := c.2.2.2.2.2.2.2.2
  have hf0 := hT.2.2.2.1
  have w8 := (hT.1.2 p (by omega) (by omega)).2.1
  have w9 := hC p (by omega) (by omega)
  have w7 := (hB.2.2.2.1 (f (8 + p)) w8.1 w9).1
  obtain ⟨H, eH⟩ : ∃ n : Nat, sH S (f (8 + p)) = (n : Int) := ⟨(sH S (f (8 + p))).toNat, by omega⟩
  rw [eH]
  refine K_aload_n (dt_at dtX11_best 0 rfl) rfl rfl ?_
  refine K_iload_n (dt_at dtX11_best 1 rfl) rfl rfl ?_
  refine K_callV (M' := mX11_needPerson) (a := 30) (ci := 11) (As := [vi p]) (st := []) (dt_at dtX11_best 2 rfl) (sX11_needPerson hH c.2.1 c.2.2.1.2.1.2 hNp (by first | assumption | exact ⟨by omega, by omega⟩) (by omega)) (by decide) rfl wL_X11_184 vX11_needPerson rfl npX11_needPerson (by decide) (by decide) (Nat.le_of_ble_eq_true rfl) (by decide) (by decide) GK_E (fun v9 h9 hq => ?_) (fun E h9 hq => by cases hq.1)
  obtain ⟨e9, e8⟩ := hq
  cases e9
  rw [e8]
  show K mX11_best _ _ 1 6 5 [(0, vr 30), (1, vi p), (2, vi (q : Int))] [] h
  refine K_iload_n (dt_at dtX11_best 3 rfl) rfl rfl ?_
  refine K_iconst (dt_at dtX11_best 4 rfl) ?_
  refine K_icmp_eq (tgt := 15) (dt_at dtX11_best 5 rfl) (by decide) (by first | assumption | exact ⟨by omega, by omega⟩) (by first | assumption | exact ⟨by omega, by omega⟩) (fun c1 => absurd c1 (by omega)) (fun c1 => ?_)
  refine K_aload_n (dt_at dtX11_best 6 rfl) rfl rfl ?_
  refine K_iload_n (dt_at dtX11_best 7 rfl) rfl rfl ?_
  refine K_callV (M' := mX11_needThing) (a := 30) (ci := 11) (As := [vi (q : Int)]) (st := []) (dt_at dtX11_best 8 rfl) (sX11_needThing hH c.2.1 c.2.2.1.2.1.1 hNt (by first | assumption | exact ⟨by omega, by omega⟩) (by omega)) (by decide) rfl wL_X11_172 vX11_needThing rfl npX11_needThing (by decide) (by decide) (Nat.le_of_ble_eq_true rfl) (by decide) (by decide) GK_E (fun v9 h9 hq => ?_) (fun E h9 hq => by cases hq.1)
  obtain ⟨e9, e8⟩ := hq
  cases e9
  rw [e8]
  show K mX11_best _ _ 2 12 15 [(0, vr 30), (1, vi p), (2, vi (q : Int))] [] h
  refine K_aload_n (dt_at dtX11_best 9 rfl) rfl rfl ?_
  refine K_get (a := 30) (ci := 11) (k := 2) (v := vr t) (dt_at dtX11_best 10 rfl) (by decide) rfl (by decide) wF_X11_20 (by show vr (hR h 30 2) = vr t; rw [c.2.1]) ?_
  refine K_get (a := t) (ci := 3) (k := 3) (v := vr (t + 4)) (dt_at dtX11_best 11 rfl) hH rfl (by decide) wF_X11_187 rfl ?_
  refine K_aload_n (dt_at dtX11_best 12 rfl) rfl rfl ?_
  refine K_get (a := 30) (ci := 11) (k := 5) (v := vr 66) (dt_at dtX11_best 13 rfl) (by decide) rfl (by decide) wF_X11_39 rfl ?_
  refine K_iload_n (dt_at dtX11_best 14 rfl) rfl rfl ?_
  refine K_callV (M' := mX8_caseOf) (a := 66) (ci := 8) (As := [vi p]) (st := [vr (t + 4)]) (dt_at dtX11_best 15 rfl) (sX8_caseOf (a := 66) (by decide) ⟨by omega, by omega⟩) (show TT 66 = (0, 8) from rfl) rfl wL_X11_202 vX8_caseOf rfl npX8_caseOf (by decide) (by decide) (Nat.le_of_ble_eq_true rfl) (by decide) (by decide) GK_E (fun v9 h9 hq => ?_) (fun E h9 hq => by cases hq.1)
  obtain ⟨e9, e8⟩ := hq
  cases e9
  rw [e8]
  show K mX11_best _ _ 2 12 30 [(0, vr 30), (1, vi p), (2, vi (q : Int))] [vi (hA h (66 + 1) (8 + p)), vr (t + 4)] h
  rw [show hA h (66 + 1) = f from c.2.2.2.2.1]
  refine K_iald (dt_at dtX11_best 16 rfl) (lay_3_3 hH) (by omega) (by omega) ?_
  rw [show hA h (t + 4) (f (8 + p)) = (H : Int) by rw [c.2.2.1.1.2.2.1]; exact eH]
  refine K_istore_n (ls' := [(3, vi (H : Int)), (0, vr 30), (1, vi p), (2, vi (q : Int))]) (dt_at dtX11_best 17 rfl) rfl (by decide) rfl ?_
  refine K_aload_n (dt_at dtX11_best 18 rfl) rfl rfl ?_
  refine K_get (a := 30) (ci := 11) (k := 12) (v := vr 91) (dt_at dtX11_best 19 rfl) (by decide) rfl (by decide) wF_X11_78 rfl ?_
  refine K_aload_n (dt_at dtX11_best 20 rfl) rfl rfl ?_
  refine K_get (a := 30) (ci := 11) (k := 2) (v := vr t) (dt_at dtX11_best 21 rfl) (by decide) rfl (by decide) wF_X11_20 (by show vr (hR h 30 2) = vr t; rw [c.2.1]) ?_
  refine K_aload_n (dt_at dtX11_best 22 rfl) rfl rfl ?_
  refine K_get (a := 30) (ci := 11) (k := 5) (v := vr 66) (dt_at dtX11_best 23 rfl) (by decide) rfl (by decide) wF_X11_39 rfl ?_
  refine K_iload_n (dt_at dtX11_best 24 rfl) rfl rfl ?_
  refine K_callV (M' := mX4_fill) (a := 91) (ci := 4) (As := [vr t, vr 66, vi (H : Int)]) (st := []) (dt_at dtX11_best 25 rfl) (sX4_fill c (H := H) (by omega)) (show TT 91 = (0, 4) from rfl) rfl wL_X11_325 vX4_fill rfl npX4_fill (by decide) (by decide) (Nat.le_of_ble_eq_true rfl) (by decide) (by decide) GK_E (fun v9 hc1 hq => ?_) (fun E h9 hq => by cases hq.1)
  have hqq2 := hq
  obtain ⟨e9q2, F1, q1, q2, gr⟩ := hqq2
  have pk : PK hc1 t S B f := ⟨CQ_FS c F1, q1, q2⟩
  cases e9q2
  show K mX11_best _ _ 2 12 48 [(3, vi (H : Int)), (0, vr 30), (1, vi p), (2, vi (q : Int))] [] hc1
  refine K_iload_n (dt_at dtX11_best 26 rfl) rfl rfl ?_
  refine K_iconst (dt_at dtX11_best 27 rfl) ?_
  refine K_icmp_ne (tgt := 64) (dt_at dtX11_best 28 rfl) (by decide) (by first | assumption | exact ⟨by omega, by omega⟩) (by first | assumption | exact ⟨by omega, by omega⟩) (fun c2 => ?_) (fun c2 => absurd c2 (by omega))
  refine K_aload_n (dt_at dtX11_best 34 rfl) rfl rfl ?_
  refine K_get (a := 30) (ci := 11) (k := 12) (v := vr 91) (dt_at dtX11_best 35 rfl) (by decide) rfl (by decide) wF_X11_78 rfl ?_
  refine K_iload_n (dt_at dtX11_best 36 rfl) rfl rfl ?_
  refine K_iload_n (dt_at dtX11_best 37 rfl) rfl rfl ?_
  refine K_callV (M' := mX4_manyOf) (a := 91) (ci := 4) (As := [vi (q : Int), vi (H : Int)]) (st := []) (dt_at dtX11_best 38 rfl) (sX4_manyOf (q := q) (H := H) pk (by omega) gr hqt) (show TT 91 = (0, 4) from rfl) rfl wL_X11_332 vX4_manyOf rfl npX4_manyOf (by decide) (by decide) (Nat.le_of_ble_eq_true rfl) (by decide) (by decide) GK_E (fun v9 h9 hq => ?_) (fun E h9 hq => by cases hq.1)
  obtain ⟨e9, e8⟩ := hq
  cases e9
  rw [e8]
  show K mX11_best _ _ 2 12 73 [(3, vi (H : Int)), (0, vr 30), (1, vi p), (2, vi (q : Int))] [vi (fmQ S f q (rmF S f (H : Int) q) : Int)] hc1
  exact K_iret (dt_at dtX11_best 39 rfl) rfl rfl (by decide) (by decide) ⟨rfl, F1⟩
