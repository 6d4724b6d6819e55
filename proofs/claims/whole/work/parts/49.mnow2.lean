def mX12_toRight : MI := (yX12_toRight, cX12_toRight, 4, (some .int), rmK 2 0)
def tX12_toRight : List (Nat × Instr × Nat) := [(0, .iconst 0, 1), (1, .istore_n 1, 1), (2, .iconst 0, 1), (3, .istore_n 2, 1), (4, .iconst 0, 1), (5, .istore_n 3, 1), (6, .iload_n 3, 1), (7, .aload_n 0, 1), (8, .getfield 270, 3), (11, .if_icmp .ge 42, 3), (14, .iload_n 2, 1), (15, .iload_n 3, 1), (16, .ishr, 1), (17, .iconst 1, 1), (18, .iand, 1), (19, .iconst 1, 1), (20, .if_icmp .ne 6, 3), (23, .goto 24, 3), (26, .iload_n 2, 1), (27, .aload_n 0, 1), (28, .iload_n 3, 1), (29, .invokevirtual 337, 3), (32, .ior, 1), (33, .istore_n 2, 1), (34, .iload_n 1, 1), (35, .aload_n 0, 1), (36, .iload_n 3, 1), (37, .invokevirtual 337, 3), (40, .invokestatic 340, 3), (43, .iconst 1, 1), (44, .isub, 1), (45, .iadd, 1), (46, .istore_n 1, 1), (47, .iinc 3 1, 3), (50, .goto (-44), 3), (53, .iload_n 1, 1), (54, .ireturn, 1)]
theorem dtX12_toRight : tX12_toRight.all (fun q => decide (decode cX12_toRight q.1 = .ok (q.2.1, q.2.2))) = true := by decide +kernel
theorem npX12_toRight : (parseMethodDescriptor (mY mX12_toRight).desc).map (fun d => d.parameters.length) = some 0 := by decide +kernel
theorem vX12_toRight : mV mX12_toRight := ⟨wI_X12_toRight, wS_X12_toRight, wN_X12, wC_X12_toRight, by decide +kernel, by decide +kernel⟩
set_option maxHeartbeats 4000000 in
set_option maxRecDepth 100000 in
theorem lp_X12_toRight {Z : CT → State → Prop} {h0 h : HP} {S : HS} {f : Int → Int} (d : MD h0 h 0 S f) (hW : rW f) (hC : rC S f) (hc : cP S f) (kx : K mX12_toRight GK Z 0 0 53 [(3, vi (sNp S : Int)), (2, vi ((trI (fun k => roundF f (sNp S) (k : Int) 0) (sNp S)).2)), (1, vi ((trI (fun k => roundF f (sNp S) (k : Int) 0) (sNp S)).1)), (0, vr 0)] [] h) : ∀ (dd k : Nat), k + dd = (sNp S) → K mX12_toRight GK Z 0 0 6 [(3, vi (k : Int)), (2, vi ((trI (fun k => roundF f (sNp S) (k : Int) 0) k).2)), (1, vi ((trI (fun k => roundF f (sNp S) (k : Int) 0) k).1)), (0, vr 0)] [] h := by
  intro dd
  induction dd with
  | zero =>
    intro k hk
    have hB := d.1.1
    have hNt := hB.1
    have hNp := hB.2.1
    have ek : k = (sNp S) := by omega
    subst ek
    refine K_iload_n (dt_at dtX12_toRight 6 rfl) rfl rfl ?_
    refine K_aload_n (dt_at dtX12_toRight 7 rfl) rfl rfl ?_
    refine K_get (a := 0) (ci := 12) (k := 2) (v := vi (sNp S : Int)) (dt_at dtX12_toRight 8 rfl) (show TT 0 = (0, 12) from rfl) rfl (by decide) wF_X12_270 (by show vi (hI h 0 2) = vi (sNp S : Int); rw [(MD_np d)]) ?_
    refine K_icmp_ge (tgt := 53) (dt_at dtX12_toRight 9 rfl) (by decide) (by first | assumption | exact ⟨by omega, by omega⟩) (by first | assumption | exact ⟨by omega, by omega⟩) (fun c1 => ?_) (fun c1 => absurd c1 (by omega))
    exact K_pk [0, 1, 2, 3] rfl kx
  | succ dd ih =>
    intro k hk
    have hB := d.1.1
    have hNt := hB.1
    have hNp := hB.2.1
    have wk := hW.2 (k : Int) (by omega) (by omega)
    refine K_iload_n (dt_at dtX12_toRight 6 rfl) rfl rfl ?_
    refine K_aload_n (dt_at dtX12_toRight 7 rfl) rfl rfl ?_
    refine K_get (a := 0) (ci := 12) (k := 2) (v := vi (sNp S : Int)) (dt_at dtX12_toRight 8 rfl) (show TT 0 = (0, 12) from rfl) rfl (by decide) wF_X12_270 (by show vi (hI h 0 2) = vi (sNp S : Int); rw [(MD_np d)]) ?_
    refine K_icmp_ge (tgt := 53) (dt_at dtX12_toRight 9 rfl) (by decide) (by first | assumption | exact ⟨by omega, by omega⟩) (by first | assumption | exact ⟨by omega, by omega⟩) (fun c1 => absurd c1 (by omega)) (fun c1 => ?_)
    refine K_iload_n (dt_at dtX12_toRight 10 rfl) rfl rfl ?_
    refine K_iload_n (dt_at dtX12_toRight 11 rfl) rfl rfl ?_
    refine K_ishr (dt_at dtX12_toRight 12 rfl) ?_
    refine K_iconst (dt_at dtX12_toRight 13 rfl) ?_
    refine K_iand (dt_at dtX12_toRight 14 rfl) ?_
    refine K_iconst (dt_at dtX12_toRight 15 rfl) ?_
    refine K_icmp_ne (tgt := 26) (dt_at dtX12_toRight 16 rfl) (by decide) (bAnd32 _ _) (by first | assumption | exact ⟨by omega, by omega⟩) (fun c2 => ?_) (fun c2 => ?_)
    · refine K_iload_n (dt_at dtX12_toRight 18 rfl) rfl rfl ?_
      refine K_aload_n (dt_at dtX12_toRight 19 rfl) rfl rfl ?_
      refine K_iload_n (dt_at dtX12_toRight 20 rfl) rfl rfl ?_
      refine K_callV (M' := mX12_roundOf) (a := 0) (ci := 12) (As := [vi (k : Int)]) (st := [vi ((trI (fun k => roundF f (sNp S) (k : Int) 0) k).2)]) (dt_at dtX12_toRight 21 rfl) (sX12_roundOf d hW (by omega) (rd_ws hB hW hC (p := (k : Int)) (by omega))) (show TT 0 = (0, 12) from rfl) rfl wL_X12_337 vX12_roundOf rfl npX12_roundOf (by decide) (by decide) (Nat.le_of_ble_eq_true rfl) (by decide) (by decide) GK_E (fun v9 h9 hq => ?_) (fun E h9 hq => by cases hq.1)
      obtain ⟨e9, e8⟩ := hq
      cases e9
      rw [e8]
      show K mX12_toRight _ _ 0 0 32 [(3, vi (k : Int)), (2, vi ((trI (fun k => roundF f (sNp S) (k : Int) 0) k).2)), (1, vi ((trI (fun k => roundF f (sNp S) (k : Int) 0) k).1)), (0, vr 0)] [vi (roundF f (sNp S) (k : Int) 0), vi ((trI (fun k => roundF f (sNp S) (k : Int) 0) k).2)] h
      refine K_ior (dt_at dtX12_toRight 22 rfl) ?_
      refine K_istore_n (ls' := [(2, vi (bOr ((trI (fun k => roundF f (sNp S) (k : Int) 0) k).2) (roundF f (sNp S) (k : Int) 0))), (3, vi (k : Int)), (1, vi ((trI (fun k => roundF f (sNp S) (k : Int) 0) k).1)), (0, vr 0)]) (dt_at dtX12_toRight 23 rfl) rfl (by decide) rfl ?_
      refine K_iload_n (dt_at dtX12_toRight 24 rfl) rfl rfl ?_
      refine K_aload_n (dt_at dtX12_toRight 25 rfl) rfl rfl ?_
      refine K_iload_n (dt_at dtX12_toRight 26 rfl) rfl rfl ?_
      refine K_callV (M' := mX12_roundOf) (a := 0) (ci := 12) (As := [vi (k : Int)]) (st := [vi ((trI (fun k => roundF f (sNp S) (k : Int) 0) k).1)]) (dt_at dtX12_toRight 27 rfl) (sX12_roundOf d hW (by omega) (rd_ws hB hW hC (p := (k : Int)) (by omega))) (show TT 0 = (0, 12) from rfl) rfl wL_X12_337 vX12_roundOf rfl npX12_roundOf (by decide) (by decide) (Nat.le_of_ble_eq_true rfl) (by decide) (by decide) GK_E (fun v9 h9 hq => ?_) (fun E h9 hq => by cases hq.1)
      obtain ⟨e9, e8⟩ := hq
      cases e9
      rw [e8]
      show K mX12_toRight _ _ 0 0 40 [(2, vi (bOr ((trI (fun k => roundF f (sNp S) (k : Int) 0) k).2) (roundF f (sNp S) (k : Int) 0))), (3, vi (k : Int)), (1, vi ((trI (fun k => roundF f (sNp S) (k : Int) 0) k).1)), (0, vr 0)] [vi (roundF f (sNp S) (k : Int) 0), vi ((trI (fun k => roundF f (sNp S) (k : Int) 0) k).1)] h
      refine K_callS (M' := mX12_bits) (As := [vi (roundF f (sNp S) (k : Int) 0)]) (st := [vi ((trI (fun k => roundF f (sNp S) (k : Int) 0) k).1)]) (dt_at dtX12_toRight 28 rfl) (sX12_bits) wL_X12_340 vX12_bits rfl npX12_bits (by decide) (by decide) (Nat.le_of_ble_eq_true rfl) (by decide) (by decide) GK_E (fun v9 h9 hq => ?_) (fun E h9 hq => by cases hq.1)
      obtain ⟨e9, e8⟩ := hq
      cases e9
      rw [e8]
      show K mX12_toRight _ _ 0 0 43 [(2, vi (bOr ((trI (fun k => roundF f (sNp S) (k : Int) 0) k).2) (roundF f (sNp S) (k : Int) 0))), (3, vi (k : Int)), (1, vi ((trI (fun k => roundF f (sNp S) (k : Int) 0) k).1)), (0, vr 0)] [vi (bitC (roundF f (sNp S) (k : Int) 0)), vi ((trI (fun k => roundF f (sNp S) (k : Int) 0) k).1)] h
      refine K_iconst (dt_at dtX12_toRight 29 rfl) ?_
      refine K_isub (dt_at dtX12_toRight 30 rfl) ?_
      refine K_iadd (dt_at dtX12_toRight 31 rfl) ?_
      refine K_istore_n (ls' := [(1, vi ((trI (fun k => roundF f (sNp S) (k : Int) 0) k).1 + ((bitC (roundF f (sNp S) (k : Int) 0)) - 1))), (2, vi (bOr ((trI (fun k => roundF f (sNp S) (k : Int) 0) k).2) (roundF f (sNp S) (k : Int) 0))), (3, vi (k : Int)), (0, vr 0)]) (dt_at dtX12_toRight 32 rfl) rfl (by decide) rfl ?_
      refine K_iinc (ls' := [(3, vi ((k : Int) + 1)), (1, vi ((trI (fun k => roundF f (sNp S) (k : Int) 0) k).1 + ((bitC (roundF f (sNp S) (k : Int) 0)) - 1))), (2, vi (bOr ((trI (fun k => roundF f (sNp S) (k : Int) 0) k).2) (roundF f (sNp S) (k : Int) 0))), (0, vr 0)]) (dt_at dtX12_toRight 33 rfl) rfl (by decide) rfl ?_
      refine K_goto (tgt := 6) (dt_at dtX12_toRight 34 rfl) (by decide) ?_
      refine K_pk [0, 2, 1, 3] (ls' := [(3, vi ((k : Int) + 1)), (2, vi (bOr ((trI (fun k => roundF f (sNp S) (k : Int) 0) k).2) (roundF f (sNp S) (k : Int) 0))), (1, vi ((trI (fun k => roundF f (sNp S) (k : Int) 0) k).1 + ((bitC (roundF f (sNp S) (k : Int) 0)) - 1))), (0, vr 0)]) rfl ?_
      exact K_cg (ls' := [(3, vi ((k + 1 : Nat) : Int)), (2, vi ((trI (fun k => roundF f (sNp S) (k : Int) 0) (k + 1)).2)), (1, vi ((trI (fun k => roundF f (sNp S) (k : Int) 0) (k + 1)).1)), (0, vr 0)]) (h' := h) (by rw [show trI (fun k => roundF f (sNp S) (k : Int) 0) (k + 1) = (if bAnd (bShr (trI (fun k => roundF f (sNp S) (k : Int) 0) k).2 (k : Int)) 1 = 1 then trI (fun k => roundF f (sNp S) (k : Int) 0) k else ((trI (fun k => roundF f (sNp S) (k : Int) 0) k).1 + (bitC (roundF f (sNp S) (k : Int) 0) - 1), bOr (trI (fun k => roundF f (sNp S) (k : Int) 0) k).2 (roundF f (sNp S) (k : Int) 0))) from rfl, if_neg (by assumption)]; rfl) (by rfl) (ih (k + 1) (by omega))
    · refine K_goto (tgt := 47) (dt_at dtX12_toRight 17 rfl) (by decide) ?_
      refine K_iinc (ls' := [(3, vi ((k : Int) + 1)), (2, vi ((trI (fun k => roundF f (sNp S) (k : Int) 0) k).2)), (1, vi ((trI (fun k => roundF f (sNp S) (k : Int) 0) k).1)), (0, vr 0)]) (dt_at dtX12_toRight 33 rfl) rfl (by decide) rfl ?_
      refine K_goto (tgt := 6) (dt_at dtX12_toRight 34 rfl) (by decide) ?_
      refine K_pk [0, 1, 2, 3] (ls' := [(3, vi ((k : Int) + 1)), (2, vi ((trI (fun k => roundF f (sNp S) (k : Int) 0) k).2)), (1, vi ((trI (fun k => roundF f (sNp S) (k : Int) 0) k).1)), (0, vr 0)]) rfl ?_
      exact K_cg (ls' := [(3, vi ((k + 1 : Nat) : Int)), (2, vi ((trI (fun k => roundF f (sNp S) (k : Int) 0) (k + 1)).2)), (1, vi ((trI (fun k => roundF f (sNp S) (k : Int) 0) (k + 1)).1)), (0, vr 0)]) (h' := h) (by rw [show trI (fun k => roundF f (sNp S) (k : Int) 0) (k + 1) = (if bAnd (bShr (trI (fun k => roundF f (sNp S) (k : Int) 0) k).2 (k : Int)) 1 = 1 then trI (fun k => roundF f (sNp S) (k : Int) 0) k else ((trI (fun k => roundF f (sNp S) (k : Int) 0) k).1 + (bitC (roundF f (sNp S) (k : Int) 0) - 1), bOr (trI (fun k => roundF f (sNp S) (k : Int) 0) k).2 (roundF f (sNp S) (k : Int) 0))) from rfl, if_pos (by assumption)]; rfl) (by rfl) (ih (k + 1) (by omega))
set_option maxHeartbeats 4000000 in
set_option maxRecDepth 100000 in
theorem sX12_toRight {h0 h : HP} {S : HS} {f : Int → Int} (d : MD h0 h 0 S f) (hW : rW f) (hC : rC S f) (hc : cP S f) : SpecK mX12_toRight [vr 0] h (fun o h' => o = .inl (some (vi (cntN (fun j => decide (bAnd (roundF f (sNp S) (j : Int) 0) (bShl 1 (j : Int) - 1) ≠ 0)) (sNp S)))) ∧ h' = h) := by
  refine Spec_of (by decide +kernel) (Nat.le_of_ble_eq_true rfl) ?_
  have hB := d.1.1
  have hNt := hB.1
  have hNp := hB.2.1
  refine K_iconst (dt_at dtX12_toRight 0 rfl) ?_
  refine K_istore_n (ls' := [(1, vi 0), (0, vr 0)]) (dt_at dtX12_toRight 1 rfl) rfl (by decide) rfl ?_
  refine K_iconst (dt_at dtX12_toRight 2 rfl) ?_
  refine K_istore_n (ls' := [(2, vi 0), (1, vi 0), (0, vr 0)]) (dt_at dtX12_toRight 3 rfl) rfl (by decide) rfl ?_
  refine K_iconst (dt_at dtX12_toRight 4 rfl) ?_
  refine K_istore_n (ls' := [(3, vi 0), (2, vi 0), (1, vi 0), (0, vr 0)]) (dt_at dtX12_toRight 5 rfl) rfl (by decide) rfl ?_
  refine K_pk [0, 1, 2, 3] rfl (lp_X12_toRight d hW hC hc ?_ (sNp S) 0 (by omega))
  refine K_iload_n (dt_at dtX12_toRight 35 rfl) rfl rfl ?_
  exact K_iret (dt_at dtX12_toRight 36 rfl) rfl rfl (by decide) (by decide) ⟨by rw [toRight_eq hB hW hC hc], rfl⟩
def mX12_firstSwap : MI := (yX12_firstSwap, cX12_firstSwap, 3, (some .int), rmK 2 0)
def tX12_firstSwap : List (Nat × Instr × Nat) := [(0, .iconst 0, 1), (1, .istore_n 1, 1), (2, .iload_n 1, 1), (3, .aload_n 0, 1), (4, .getfield 270, 3), (7, .if_icmp .ge 47, 3), (10, .iload_n 1, 1), (11, .iconst 1, 1), (12, .iadd, 1), (13, .istore_n 2, 1), (14, .iload_n 2, 1), (15, .aload_n 0, 1), (16, .getfield 270, 3), (19, .if_icmp .ge 29, 3), (22, .aload_n 0, 1), (23, .iload_n 1, 1), (24, .invokevirtual 337, 3), (27, .iload_n 2, 1), (28, .ishr, 1), (29, .iconst 1, 1), (30, .iand, 1), (31, .iconst 1, 1), (32, .if_icmp .ne 10, 3), (35, .bipush 10, 2), (37, .iload_n 1, 1), (38, .imul, 1), (39, .iload_n 2, 1), (40, .iadd, 1), (41, .ireturn, 1), (42, .iinc 2 1, 3), (45, .goto (-31), 3), (48, .iinc 1 1, 3), (51, .goto (-49), 3), (54, .iconst (-1), 1), (55, .ireturn, 1)]
theorem dtX12_firstSwap : tX12_firstSwap.all (fun q => decide (decode cX12_firstSwap q.1 = .ok (q.2.1, q.2.2))) = true := by decide +kernel
theorem npX12_firstSwap : (parseMethodDescriptor (mY mX12_firstSwap).desc).map (fun d => d.parameters.length) = some 0 := by decide +kernel
theorem vX12_firstSwap : mV mX12_firstSwap := ⟨wI_X12_firstSwap, wS_X12_firstSwap, wN_X12, wC_X12_firstSwap, by decide +kernel, by decide +kernel⟩
theorem fs_bit {f : Int → Int} {n : Nat} (hn : n ≤ 7) (hf : ∀ u : Int, 0 ≤ u → u < n → 0 ≤ f (8 + u) ∧ f (8 + u) < n) {p : Int} (hp : 0 ≤ p ∧ p < n) {j : Int} (hj : 0 ≤ j ∧ j < 7) : bAnd (bShr (roundF f n p 0) j) 1 = 1 ↔ ¬ bAnd (roundF f n p 0) (bShl 1 j) = 0 := by
  obtain ⟨Q, q1, -⟩ := rd_of hn hf hp
  rw [q1, at_1 hj]
  have k := (B7_11 (Q 0) (Q 1) (Q 2) (Q 3) (Q 4) (Q 5) (Q 6) ⟨j.toNat, by omega⟩).2.1
  rw [show ((⟨j.toNat, by omega⟩ : Fin 7).val : Int) = j by show ((j.toNat : Nat) : Int) = j; omega] at k
  have e : [Q 0, Q 1, Q 2, Q 3, Q 4, Q 5, Q 6].getD j.toNat false = Q j.toNat := by
    rcases (show j.toNat = 0 ∨ j.toNat = 1 ∨ j.toNat = 2 ∨ j.toNat = 3 ∨ j.toNat = 4 ∨ j.toNat = 5 ∨ j.toNat = 6 by omega) with e | e | e | e | e | e | e <;> (rw [e]; rfl)
  have k2 : decide (bAnd (bitN Q 7) (bShl 1 j) = 0) = !Q j.toNat := by rw [← e]; exact k
  cases z : Q j.toNat
  · rw [z] at k2
    have := of_decide_eq_true k2
    simp [this]
  · rw [z] at k2
    have := of_decide_eq_false k2
    simp [this]
set_option maxHeartbeats 4000000 in
set_option maxRecDepth 100000 in
theorem li_X12_firstSwap {Q : AO → HP → Prop} {h0 h : HP} {S : HS} {f : Int → Int} {p : Int} (d : MD h0 h 0 S f) (hW : rW f) (hC : rC S f) (hp : 0 ≤ p ∧ p < sNp S) : ∀ (dd k : Nat), k + dd = sNp S → (∀ v, soN (fun j => if bAnd (roundF f (sNp S) p 0) (bShl 1 (j : Int)) = 0 then none else some (10 * p + (j : Int))) k dd = some v → Q (.inl (some (vi v))) h) → (soN (fun j => if bAnd (roundF f (sNp S) p 0) (bShl 1 (j : Int)) = 0 then none else some (10 * p + (j : Int))) k dd = none → K mX12_firstSwap GK (ZK Q 0 0) 0 0 48 [(2, vi (sNp S : Int)), (1, vi p), (0, vr 0)] [] h) → K mX12_firstSwap GK (ZK Q 0 0) 0 0 14 [(2, vi (k : Int)), (1, vi p), (0, vr 0)] [] h := by
  intro dd
  induction dd with
  | zero =>
    intro k hk hq kx
    have hB := d.1.1
    have hNt := hB.1
    have hNp := hB.2.1
    have hf : ∀ u : Int, 0 ≤ u → u < sNp S → 0 ≤ f (8 + u) ∧ f (8 + u) < sNp S := fun u h0 h1 => ⟨(hW.2 u h0 (by omega)).2.1.1, hC u h0 h1⟩
    have ek : k = sNp S := by omega
    subst ek
    refine K_iload_n (dt_at dtX12_firstSwap 10 rfl) rfl rfl ?_
    refine K_aload_n (dt_at dtX12_firstSwap 11 rfl) rfl rfl ?_
    refine K_get (a := 0) (ci := 12) (k := 2) (v := vi (sNp S : Int)) (dt_at dtX12_firstSwap 12 rfl) (show TT 0 = (0, 12) from rfl) rfl (by decide) wF_X12_270 (by show vi (hI h 0 2) = vi (sNp S : Int); rw [(MD_np d)]) ?_
    refine K_icmp_ge (tgt := 48) (dt_at dtX12_firstSwap 13 rfl) (by decide) (by first | assumption | exact ⟨by omega, by omega⟩) (by first | assumption | exact ⟨by omega, by omega⟩) (fun c1 => ?_) (fun c1 => absurd c1 (by omega))
    exact K_pk [0, 1, 2] rfl (kx rfl)
  | succ dd ih =>
    intro k hk hq kx
    have hB := d.1.1
    have hNt := hB.1
    have hNp := hB.2.1
    have hf : ∀ u : Int, 0 ≤ u → u < sNp S → 0 ≤ f (8 + u) ∧ f (8 + u) < sNp S := fun u h0 h1 => ⟨(hW.2 u h0 (by omega)).2.1.1, hC u h0 h1⟩
    have fb := fs_bit hNp hf hp (j := (k : Int)) ⟨by omega, by omega⟩
    refine K_iload_n (dt_at dtX12_firstSwap 10 rfl) rfl rfl ?_
    refine K_aload_n (dt_at dtX12_firstSwap 11 rfl) rfl rfl ?_
    refine K_get (a := 0) (ci := 12) (k := 2) (v := vi (sNp S : Int)) (dt_at dtX12_firstSwap 12 rfl) (show TT 0 = (0, 12) from rfl) rfl (by decide) wF_X12_270 (by show vi (hI h 0 2) = vi (sNp S : Int); rw [(MD_np d)]) ?_
    refine K_icmp_ge (tgt := 48) (dt_at dtX12_firstSwap 13 rfl) (by decide) (by first | assumption | exact ⟨by omega, by omega⟩) (by first | assumption | exact ⟨by omega, by omega⟩) (fun c1 => absurd c1 (by omega)) (fun c1 => ?_)
    refine K_aload_n (dt_at dtX12_firstSwap 14 rfl) rfl rfl ?_
    refine K_iload_n (dt_at dtX12_firstSwap 15 rfl) rfl rfl ?_
    refine K_callV (M' := mX12_roundOf) (a := 0) (ci := 12) (As := [vi p]) (st := []) (dt_at dtX12_firstSwap 16 rfl) (sX12_roundOf d hW (by omega) (rd_ws hB hW hC (p := p) (by omega))) (show TT 0 = (0, 12) from rfl) rfl wL_X12_337 vX12_roundOf rfl npX12_roundOf (by decide) (by decide) (Nat.le_of_ble_eq_true rfl) (by decide) (by decide) GK_E (fun v9 h9 hq => ?_) (fun E h9 hq => by cases hq.1)
    obtain ⟨e9, e8⟩ := hq
    cases e9
    rw [e8]
    show K mX12_firstSwap _ _ 0 0 27 [(2, vi (k : Int)), (1, vi p), (0, vr 0)] [vi (roundF f (sNp S) p 0)] h
    refine K_iload_n (dt_at dtX12_firstSwap 17 rfl) rfl rfl ?_
    refine K_ishr (dt_at dtX12_firstSwap 18 rfl) ?_
    refine K_iconst (dt_at dtX12_firstSwap 19 rfl) ?_
    refine K_iand (dt_at dtX12_firstSwap 20 rfl) ?_
    refine K_iconst (dt_at dtX12_firstSwap 21 rfl) ?_
    refine K_icmp_ne (tgt := 42) (dt_at dtX12_firstSwap 22 rfl) (by decide) (bAnd32 _ _) (by first | assumption | exact ⟨by omega, by omega⟩) (fun c2 => ?_) (fun c2 => ?_)
    · refine K_iinc (ls' := [(2, vi ((k : Int) + 1)), (1, vi p), (0, vr 0)]) (dt_at dtX12_firstSwap 29 rfl) rfl (by decide) rfl ?_
      refine K_goto (tgt := 14) (dt_at dtX12_firstSwap 30 rfl) (by decide) ?_
      have nz : bAnd (roundF f (sNp S) p 0) (bShl 1 (k : Int)) = 0 := Classical.byContradiction (fun z => absurd (fb.mpr z) (by assumption))
      exact K_pk [0, 1, 2] rfl (ih (k + 1) (by omega) (fun v z => hq v (by rw [soN_n (g := (fun j => if bAnd (roundF f (sNp S) p 0) (bShl 1 (j : Int)) = 0 then none else some (10 * p + (j : Int)))) (if_pos nz)]; exact z)) (fun z => kx (by rw [soN_n (g := (fun j => if bAnd (roundF f (sNp S) p 0) (bShl 1 (j : Int)) = 0 then none else some (10 * p + (j : Int)))) (if_pos nz)]; exact z)))
    · refine K_bipush (dt_at dtX12_firstSwap 23 rfl) (by decide) ?_
      refine K_iload_n (dt_at dtX12_firstSwap 24 rfl) rfl rfl ?_
      refine K_imul (dt_at dtX12_firstSwap 25 rfl) ?_
      refine K_iload_n (dt_at dtX12_firstSwap 26 rfl) rfl rfl ?_
      refine K_iadd (dt_at dtX12_firstSwap 27 rfl) ?_
      exact K_iret (dt_at dtX12_firstSwap 28 rfl) rfl rfl (by decide) (by decide) (hq _ (soN_s (g := (fun j => if bAnd (roundF f (sNp S) p 0) (bShl 1 (j : Int)) = 0 then none else some (10 * p + (j : Int)))) (if_neg (fb.mp (by assumption)))))
set_option maxHeartbeats 4000000 in
set_option maxRecDepth 100000 in
theorem lp_X12_firstSwap {h0 h : HP} {S : HS} {f : Int → Int} {A : Int} (d : MD h0 h 0 S f) (hW : rW f) (hC : rC S f) : ∀ (dd k : Nat), k + dd = sNp S → A = srN (fun k => soN (fun j => if bAnd (roundF f (sNp S) (k : Int) 0) (bShl 1 (j : Int)) = 0 then none else some (10 * (k : Int) + (j : Int))) (k + 1) (sNp S - (k + 1))) (-1) k dd → K mX12_firstSwap GK (ZK (fun o h' => o = .inl (some (vi A)) ∧ h' = h) 0 0) 0 0 2 [(1, vi (k : Int)), (0, vr 0)] [] h := by
  intro dd
  induction dd with
  | zero =>
    intro k hk ea
    have hB := d.1.1
    have hNt := hB.1
    have hNp := hB.2.1
    refine K_iload_n (dt_at dtX12_firstSwap 2 rfl) rfl rfl ?_
    refine K_aload_n (dt_at dtX12_firstSwap 3 rfl) rfl rfl ?_
    refine K_get (a := 0) (ci := 12) (k := 2) (v := vi (sNp S : Int)) (dt_at dtX12_firstSwap 4 rfl) (show TT 0 = (0, 12) from rfl) rfl (by decide) wF_X12_270 (by show vi (hI h 0 2) = vi (sNp S : Int); rw [(MD_np d)]) ?_
    refine K_icmp_ge (tgt := 54) (dt_at dtX12_firstSwap 5 rfl) (by decide) (by first | assumption | exact ⟨by omega, by omega⟩) (by first | assumption | exact ⟨by omega, by omega⟩) (fun c1 => ?_) (fun c1 => absurd c1 (by omega))
    refine K_iconst (dt_at dtX12_firstSwap 33 rfl) ?_
    exact K_iret (dt_at dtX12_firstSwap 34 rfl) rfl rfl (by decide) (by decide) ⟨by rw [ea]; rfl, rfl⟩
  | succ dd ih =>
    intro k hk ea
    have hB := d.1.1
    have hNt := hB.1
    have hNp := hB.2.1
    refine K_iload_n (dt_at dtX12_firstSwap 2 rfl) rfl rfl ?_
    refine K_aload_n (dt_at dtX12_firstSwap 3 rfl) rfl rfl ?_
    refine K_get (a := 0) (ci := 12) (k := 2) (v := vi (sNp S : Int)) (dt_at dtX12_firstSwap 4 rfl) (show TT 0 = (0, 12) from rfl) rfl (by decide) wF_X12_270 (by show vi (hI h 0 2) = vi (sNp S : Int); rw [(MD_np d)]) ?_
    refine K_icmp_ge (tgt := 54) (dt_at dtX12_firstSwap 5 rfl) (by decide) (by first | assumption | exact ⟨by omega, by omega⟩) (by first | assumption | exact ⟨by omega, by omega⟩) (fun c1 => absurd c1 (by omega)) (fun c1 => ?_)
    refine K_iload_n (dt_at dtX12_firstSwap 6 rfl) rfl rfl ?_
    refine K_iconst (dt_at dtX12_firstSwap 7 rfl) ?_
    refine K_iadd (dt_at dtX12_firstSwap 8 rfl) ?_
    refine K_istore_n (ls' := [(2, vi ((k : Int) + 1)), (1, vi (k : Int)), (0, vr 0)]) (dt_at dtX12_firstSwap 9 rfl) rfl (by decide) rfl ?_
    refine K_pk [0, 1, 2] rfl (li_X12_firstSwap (p := (k : Int)) d hW hC (by omega) (sNp S - (k + 1)) (k + 1) (by omega) (fun v z => ?_) (fun z => ?_))
    · exact ⟨by rw [ea, srN_s (g := (fun k => soN (fun j => if bAnd (roundF f (sNp S) (k : Int) 0) (bShl 1 (j : Int)) = 0 then none else some (10 * (k : Int) + (j : Int))) (k + 1) (sNp S - (k + 1)))) z], rfl⟩
    · refine K_iinc (ls' := [(1, vi ((k : Int) + 1)), (2, vi (sNp S : Int)), (0, vr 0)]) (dt_at dtX12_firstSwap 31 rfl) rfl (by decide) rfl ?_
      refine K_goto (tgt := 2) (dt_at dtX12_firstSwap 32 rfl) (by decide) ?_
      exact K_pk [0, 2] rfl (ih (k + 1) (by omega) (by rw [ea, srN_n (g := (fun k => soN (fun j => if bAnd (roundF f (sNp S) (k : Int) 0) (bShl 1 (j : Int)) = 0 then none else some (10 * (k : Int) + (j : Int))) (k + 1) (sNp S - (k + 1)))) z]))
set_option maxHeartbeats 4000000 in
set_option maxRecDepth 100000 in
theorem sX12_firstSwap {h0 h : HP} {S : HS} {f : Int → Int} (d : MD h0 h 0 S f) (hW : rW f) (hC : rC S f) : SpecK mX12_firstSwap [vr 0] h (fun o h' => o = .inl (some (vi (srN (fun k => soN (fun j => if bAnd (roundF f (sNp S) (k : Int) 0) (bShl 1 (j : Int)) = 0 then none else some (10 * (k : Int) + (j : Int))) (k + 1) (sNp S - (k + 1))) (-1) 0 (sNp S)))) ∧ h' = h) := by
  refine Spec_of (by decide +kernel) (Nat.le_of_ble_eq_true rfl) ?_
  refine K_iconst (dt_at dtX12_firstSwap 0 rfl) ?_
  refine K_istore_n (ls' := [(1, vi 0), (0, vr 0)]) (dt_at dtX12_firstSwap 1 rfl) rfl (by decide) rfl ?_
  exact K_pk [0, 1] rfl (lp_X12_firstSwap d hW hC (sNp S) 0 (by omega) rfl)
def mX12_fault : MI := (yX12_fault, cX12_fault, 1, (some .int), rmK 1 0)
def tX12_fault : List (Nat × Instr × Nat) := [(0, .aload_n 0, 1), (1, .iconst 0, 1), (2, .putfield 105, 3), (5, .aload_n 0, 1), (6, .getfield 38, 3), (9, .ireturn, 1)]
theorem dtX12_fault : tX12_fault.all (fun q => decide (decode cX12_fault q.1 = .ok (q.2.1, q.2.2))) = true := by decide +kernel
theorem npX12_fault : (parseMethodDescriptor (mY mX12_fault).desc).map (fun d => d.parameters.length) = some 0 := by decide +kernel
theorem vX12_fault : mV mX12_fault := ⟨wI_X12_fault, wS_X12_fault, wN_X12, wC_X12_fault, by decide +kernel, by decide +kernel⟩
set_option maxHeartbeats 4000000 in
set_option maxRecDepth 100000 in
theorem sX12_fault {h : HP} {S : HS} {f : Int → Int} (Q0 : MAsk h S f) : SpecK mX12_fault [vr 0] h (fun o h' => o = .inl (some (vi (hI h 0 14))) ∧ FQ h h' ∧ hI h' 0 0 = 0) := by
  refine Spec_of (by decide +kernel) (Nat.le_of_ble_eq_true rfl) ?_
  have hB := Q0.1.1
  have hNt := hB.1
  have hNp := hB.2.1
  have R := Q0.2.2.2.2
  have hT := R.1
  have hW := hT.1
  refine K_aload_n (dt_at dtX12_fault 0 rfl) rfl rfl ?_
  refine K_iconst (dt_at dtX12_fault 1 rfl) ?_
  refine K_putI (a := 0) (ci := 12) (k := 0) (dt_at dtX12_fault 2 rfl) (show TT 0 = (0, 12) from rfl) rfl (by decide) wF_X12_105 rfl (Or.inl rfl) rfl rfl ?_
  obtain ⟨hu1, eu1⟩ : ∃ z, z = sI h 0 0 0 := ⟨_, rfl⟩
  rw [← eu1]
  obtain ⟨iu1, fu1, au1, ru1⟩ := sI_fx eu1
  have Gu1 := MG_0 Q0 eu1
  refine K_aload_n (dt_at dtX12_fault 3 rfl) rfl rfl ?_
  refine K_get (a := 0) (ci := 12) (k := 14) (v := vi (hI h 0 14)) (dt_at dtX12_fault 4 rfl) (show TT 0 = (0, 12) from rfl) rfl (by decide) wF_X12_38 (by show vi (hI hu1 0 14) = vi (hI h 0 14); rw [(fu1 0 14 (by omega))]) ?_
  exact K_iret (dt_at dtX12_fault 5 rfl) rfl rfl (by decide) (by decide) ⟨rfl, Gu1.2.1, Gu1.2.2.2⟩
def mX12_count : MI := (yX12_count, cX12_count, 2, (some .int), rmK 3 0)
def tX12_count : List (Nat × Instr × Nat) := [(0, .aload_n 0, 1), (1, .iconst 0, 1), (2, .putfield 105, 3), (5, .aload_n 0, 1), (6, .iload_n 1, 1), (7, .iconst 0, 1), (8, .bipush 14, 2), (10, .invokestatic 346, 3), (13, .iconst 1, 1), (14, .invokevirtual 260, 3), (17, .ifCond .ne 5, 3), (20, .iconst 0, 1), (21, .ireturn, 1), (22, .iload_n 1, 1), (23, .tableswitch 125 0 11 #[61, 66, 71, 78, 84, 90, 95, 100, 105, 110, 115, 120], 61), (84, .aload_n 0, 1), (85, .getfield 267, 3), (88, .ireturn, 1), (89, .aload_n 0, 1), (90, .getfield 270, 3), (93, .ireturn, 1), (94, .aload_n 0, 1), (95, .getfield 72, 3), (98, .iconst 0, 1), (99, .iaload, 1), (100, .ireturn, 1), (101, .aload_n 0, 1), (102, .iconst 0, 1), (103, .invokevirtual 350, 3), (106, .ireturn, 1), (107, .aload_n 0, 1), (108, .iconst 0, 1), (109, .invokevirtual 353, 3), (112, .ireturn, 1), (113, .aload_n 0, 1), (114, .invokevirtual 356, 3), (117, .ireturn, 1), (118, .aload_n 0, 1), (119, .invokevirtual 359, 3), (122, .ireturn, 1), (123, .aload_n 0, 1), (124, .invokevirtual 362, 3), (127, .ireturn, 1), (128, .aload_n 0, 1), (129, .invokevirtual 365, 3), (132, .ireturn, 1), (133, .aload_n 0, 1), (134, .getfield 277, 3), (137, .ireturn, 1), (138, .aload_n 0, 1), (139, .getfield 280, 3), (142, .ireturn, 1), (143, .aload_n 0, 1), (144, .getfield 108, 3), (147, .ireturn, 1), (148, .aload_n 0, 1), (149, .getfield 41, 3), (152, .iload_n 1, 1), (153, .bipush 12, 2), (155, .isub, 1), (156, .iaload, 1), (157, .ireturn, 1)]
theorem dtX12_count : tX12_count.all (fun q => decide (decode cX12_count q.1 = .ok (q.2.1, q.2.2))) = true := by decide +kernel
theorem npX12_count : (parseMethodDescriptor (mY mX12_count).desc).map (fun d => d.parameters.length) = some 1 := by decide +kernel
theorem vX12_count : mV mX12_count := ⟨wI_X12_count, wS_X12_count, wN_X12, wC_X12_count, by decide +kernel, by decide +kernel⟩
set_option maxHeartbeats 4000000 in
set_option maxRecDepth 100000 in
theorem sX12_count_x1 {h : HP} {S : HS} {f : Int → Int} {w : Int} (Q0 : MAsk h S f) (hw_ : i32 w) (kn : ¬ (0 ≤ w ∧ w ≤ 14)) : SpecK mX12_count [vr 0, vi w] h (fun o h' => o = .inl (some (vi 0)) ∧ FQ h h' ∧ hI h' 0 0 = 1) := by
  refine Spec_of (by decide +kernel) (Nat.le_of_ble_eq_true rfl) ?_
  have hB := Q0.1.1
  have hNt := hB.1
  have hNp := hB.2.1
  have R := Q0.2.2.2.2
  have hT := R.1
  have hW := hT.1
  refine K_aload_n (dt_at dtX12_count 0 rfl) rfl rfl ?_
  refine K_iconst (dt_at dtX12_count 1 rfl) ?_
  refine K_putI (a := 0) (ci := 12) (k := 0) (dt_at dtX12_count 2 rfl) (show TT 0 = (0, 12) from rfl) rfl (by decide) wF_X12_105 rfl (Or.inl rfl) rfl rfl ?_
  obtain ⟨hu1, eu1⟩ : ∃ z, z = sI h 0 0 0 := ⟨_, rfl⟩
  rw [← eu1]
  obtain ⟨iu1, fu1, au1, ru1⟩ := sI_fx eu1
  have Gu1 := MG_0 Q0 eu1
  refine K_aload_n (dt_at dtX12_count 3 rfl) rfl rfl ?_
  refine K_iload_n (dt_at dtX12_count 4 rfl) rfl rfl ?_
  refine K_iconst (dt_at dtX12_count 5 rfl) ?_
  refine K_bipush (dt_at dtX12_count 6 rfl) (by decide) ?_
  refine K_callS (M' := mX12_within) (As := [vi w, vi 0, vi 14]) (st := [vr 0]) (dt_at dtX12_count 7 rfl) (sX12_within (by first | assumption | exact ⟨by omega, by omega⟩) ⟨by omega, by omega⟩ ⟨by omega, by omega⟩) wL_X12_346 vX12_within rfl npX12_within (by decide) (by decide) (Nat.le_of_ble_eq_true rfl) (by decide) (by decide) GK_E (fun v9 h9 hq => ?_) (fun E h9 hq => by cases hq.1)
  obtain ⟨e9, e8⟩ := hq
  cases e9
  rw [e8]
  show K mX12_count _ _ 0 0 13 [(0, vr 0), (1, vi w)] [vi (if 0 ≤ w ∧ w ≤ 14 then 1 else 0), vr 0] hu1
  by_cases z1 : 0 ≤ w ∧ w ≤ 14
  · rw [if_pos z1]
    refine K_iconst (dt_at dtX12_count 8 rfl) ?_
    exact (by omega : False).elim
  · rw [if_neg z1]
    refine K_iconst (dt_at dtX12_count 8 rfl) ?_
    refine K_callV (M' := mX12_right) (a := 0) (ci := 12) (As := [vi 0, vi 1]) (st := []) (dt_at dtX12_count 9 rfl) (sX12_right_f Gu1.2.2.2 (by decide)) (show TT 0 = (0, 12) from rfl) rfl wL_X12_260 vX12_right rfl npX12_right (by decide) (by decide) (Nat.le_of_ble_eq_true rfl) (by decide) (by decide) GK_E (fun v9 hc2 hq => ?_) (fun E h9 hq => by cases hq.1)
    have hqq3 := hq
    obtain ⟨e9q3, e8q3⟩ := hqq3
    obtain ⟨iq3, fq3, aq3, rq3⟩ := sI_fx e8q3
    have Bq3 : FQ h hc2 := FQ_tr Gu1.2.1 (FQ_I e8q3 rfl Gu1.2.1.2.2.2.2)
    cases e9q3
    show K mX12_count _ _ 0 0 17 [(0, vr 0), (1, vi w)] [vi 0] hc2
    refine K_if_ne (tgt := 22) (dt_at dtX12_count 10 rfl) (by decide) (by first | assumption | exact ⟨by omega, by omega⟩) (fun c2 => absurd c2 (by omega)) (fun c2 => ?_)
    refine K_iconst (dt_at dtX12_count 11 rfl) ?_
    exact K_iret (dt_at dtX12_count 12 rfl) rfl rfl (by decide) (by decide) ⟨rfl, Bq3, iq3⟩
theorem in_eq {S : HS} {f : Int → Int} (hB : hsW S) : bAnd (bXor (bitN (fun j => decide ((f (1 + (j : Int))) ≠ 0)) (sNp S)) (-1)) (bShl 1 (sNp S : Int) - 1) = bitN (fun j => decide (f (1 + (j : Int)) = 0)) (sNp S) := bit_not hB.2.1 (fun k _ => by
  by_cases z : f (1 + (k : Int)) = 0
  · simp [z]
  · simp [z])
set_option maxHeartbeats 4000000 in
set_option maxRecDepth 100000 in
theorem sX12_count_0 {h : HP} {S : HS} {f : Int → Int} (Q0 : MAsk h S f) : SpecK mX12_count [vr 0, vi 0] h (fun o h' => o = .inl (some (vi (sNt S : Int))) ∧ FQ h h' ∧ hI h' 0 0 = 0) := by
  refine Spec_of (by decide +kernel) (Nat.le_of_ble_eq_true rfl) ?_
  have hB := Q0.1.1
  have hNt := hB.1
  have hNp := hB.2.1
  have R := Q0.2.2.2.2
  have hT := R.1
  have hW := hT.1
  have hC := R.2.1
  have hc := R.2.2.2.2.1
  refine K_aload_n (dt_at dtX12_count 0 rfl) rfl rfl ?_
  refine K_iconst (dt_at dtX12_count 1 rfl) ?_
  refine K_putI (a := 0) (ci := 12) (k := 0) (dt_at dtX12_count 2 rfl) (show TT 0 = (0, 12) from rfl) rfl (by decide) wF_X12_105 rfl (Or.inl rfl) rfl rfl ?_
  obtain ⟨hu1, eu1⟩ : ∃ z, z = sI h 0 0 0 := ⟨_, rfl⟩
  rw [← eu1]
  obtain ⟨iu1, fu1, au1, ru1⟩ := sI_fx eu1
  have Gu1 := MG_0 Q0 eu1
  refine K_aload_n (dt_at dtX12_count 3 rfl) rfl rfl ?_
  refine K_iload_n (dt_at dtX12_count 4 rfl) rfl rfl ?_
  refine K_iconst (dt_at dtX12_count 5 rfl) ?_
  refine K_bipush (dt_at dtX12_count 6 rfl) (by decide) ?_
  refine K_callS (M' := mX12_within) (As := [vi 0, vi 0, vi 14]) (st := [vr 0]) (dt_at dtX12_count 7 rfl) (sX12_within_t ⟨by omega, by omega⟩ ⟨by omega, by omega⟩ (by decide)) wL_X12_346 vX12_within rfl npX12_within (by decide) (by decide) (Nat.le_of_ble_eq_true rfl) (by decide) (by decide) GK_E (fun v9 h9 hq => ?_) (fun E h9 hq => by cases hq.1)
  obtain ⟨e9, e8⟩ := hq
  cases e9
  rw [e8]
  show K mX12_count _ _ 0 0 13 [(0, vr 0), (1, vi 0)] [vi 1, vr 0] hu1
  refine K_iconst (dt_at dtX12_count 8 rfl) ?_
  refine K_callV (M' := mX12_right) (a := 0) (ci := 12) (As := [vi 1, vi 1]) (st := []) (dt_at dtX12_count 9 rfl) (sX12_right_t Gu1.2.2.2) (show TT 0 = (0, 12) from rfl) rfl wL_X12_260 vX12_right rfl npX12_right (by decide) (by decide) (Nat.le_of_ble_eq_true rfl) (by decide) (by decide) GK_E (fun v9 h9 hq => ?_) (fun E h9 hq => by cases hq.1)
  obtain ⟨e9, e8⟩ := hq
  cases e9
  rw [e8]
  show K mX12_count _ _ 0 0 17 [(0, vr 0), (1, vi 0)] [vi 1] hu1
  refine K_if_ne (tgt := 22) (dt_at dtX12_count 10 rfl) (by decide) (by first | assumption | exact ⟨by omega, by omega⟩) (fun c1 => ?_) (fun c1 => absurd c1 (by omega))
  refine K_iload_n (dt_at dtX12_count 13 rfl) rfl rfl ?_
  refine K_tableIn (tgt := 84) (dt_at dtX12_count 14 rfl) ⟨by decide, by decide⟩ (by decide) (by decide) rfl (by decide) ?_
  refine K_aload_n (dt_at dtX12_count 15 rfl) rfl rfl ?_
  refine K_get (a := 0) (ci := 12) (k := 1) (v := vi (sNt S : Int)) (dt_at dtX12_count 16 rfl) (show TT 0 = (0, 12) from rfl) rfl (by decide) wF_X12_267 (by show vi (hI hu1 0 1) = vi (sNt S : Int); rw [(MD_nt (MG_D0 Gu1))]) ?_
  exact K_iret (dt_at dtX12_count 17 rfl) rfl rfl (by decide) (by decide) ⟨rfl, Gu1.2.1, Gu1.2.2.2⟩
set_option maxHeartbeats 4000000 in
set_option maxRecDepth 100000 in
theorem sX12_count_1 {h : HP} {S : HS} {f : Int → Int} (Q0 : MAsk h S f) : SpecK mX12_count [vr 0, vi 1] h (fun o h' => o = .inl (some (vi (sNp S : Int))) ∧ FQ h h' ∧ hI h' 0 0 = 0) := by
  refine Spec_of (by decide +kernel) (Nat.le_of_ble_eq_true rfl) ?_
  have hB := Q0.1.1
  have hNt := hB.1
  have hNp := hB.2.1
  have R := Q0.2.2.2.2
  have hT := R.1
  have hW := hT.1
  have hC := R.2.1
  have hc := R.2.2.2.2.1
  refine K_aload_n (dt_at dtX12_count 0 rfl) rfl rfl ?_
  refine K_iconst (dt_at dtX12_count 1 rfl) ?_
  refine K_putI (a := 0) (ci := 12) (k := 0) (dt_at dtX12_count 2 rfl) (show TT 0 = (0, 12) from rfl) rfl (by decide) wF_X12_105 rfl (Or.inl rfl) rfl rfl ?_
  obtain ⟨hu1, eu1⟩ : ∃ z, z = sI h 0 0 0 := ⟨_, rfl⟩
  rw [← eu1]
  obtain ⟨iu1, fu1, au1, ru1⟩ := sI_fx eu1
  have Gu1 := MG_0 Q0 eu1
  refine K_aload_n (dt_at dtX12_count 3 rfl) rfl rfl ?_
  refine K_iload_n (dt_at dtX12_count 4 rfl) rfl rfl ?_
  refine K_iconst (dt_at dtX12_count 5 rfl) ?_
  refine K_bipush (dt_at dtX12_count 6 rfl) (by decide) ?_
  refine K_callS (M' := mX12_within) (As := [vi 1, vi 0, vi 14]) (st := [vr 0]) (dt_at dtX12_count 7 rfl) (sX12_within_t ⟨by omega, by omega⟩ ⟨by omega, by omega⟩ (by decide)) wL_X12_346 vX12_within rfl npX12_within (by decide) (by decide) (Nat.le_of_ble_eq_true rfl) (by decide) (by decide) GK_E (fun v9 h9 hq => ?_) (fun E h9 hq => by cases hq.1)
  obtain ⟨e9, e8⟩ := hq
  cases e9
  rw [e8]
  show K mX12_count _ _ 0 0 13 [(0, vr 0), (1, vi 1)] [vi 1, vr 0] hu1
  refine K_iconst (dt_at dtX12_count 8 rfl) ?_
  refine K_callV (M' := mX12_right) (a := 0) (ci := 12) (As := [vi 1, vi 1]) (st := []) (dt_at dtX12_count 9 rfl) (sX12_right_t Gu1.2.2.2) (show TT 0 = (0, 12) from rfl) rfl wL_X12_260 vX12_right rfl npX12_right (by decide) (by decide) (Nat.le_of_ble_eq_true rfl) (by decide) (by decide) GK_E (fun v9 h9 hq => ?_) (fun E h9 hq => by cases hq.1)
  obtain ⟨e9, e8⟩ := hq
  cases e9
  rw [e8]
  show K mX12_count _ _ 0 0 17 [(0, vr 0), (1, vi 1)] [vi 1] hu1
  refine K_if_ne (tgt := 22) (dt_at dtX12_count 10 rfl) (by decide) (by first | assumption | exact ⟨by omega, by omega⟩) (fun c1 => ?_) (fun c1 => absurd c1 (by omega))
  refine K_iload_n (dt_at dtX12_count 13 rfl) rfl rfl ?_
  refine K_tableIn (tgt := 89) (dt_at dtX12_count 14 rfl) ⟨by decide, by decide⟩ (by decide) (by decide) rfl (by decide) ?_
  refine K_aload_n (dt_at dtX12_count 18 rfl) rfl rfl ?_
  refine K_get (a := 0) (ci := 12) (k := 2) (v := vi (sNp S : Int)) (dt_at dtX12_count 19 rfl) (show TT 0 = (0, 12) from rfl) rfl (by decide) wF_X12_270 (by show vi (hI hu1 0 2) = vi (sNp S : Int); rw [(MD_np (MG_D0 Gu1))]) ?_
  exact K_iret (dt_at dtX12_count 20 rfl) rfl rfl (by decide) (by decide) ⟨rfl, Gu1.2.1, Gu1.2.2.2⟩
set_option maxHeartbeats 4000000 in
set_option maxRecDepth 100000 in
theorem sX12_count_2 {h : HP} {S : HS} {f : Int → Int} (Q0 : MAsk h S f) : SpecK mX12_count [vr 0, vi 2] h (fun o h' => o = .inl (some (vi (f 0))) ∧ FQ h h' ∧ hI h' 0 0 = 0) := by
  refine Spec_of (by decide +kernel) (Nat.le_of_ble_eq_true rfl) ?_
  have hB := Q0.1.1
  have hNt := hB.1
  have hNp := hB.2.1
  have R := Q0.2.2.2.2
  have hT := R.1
  have hW := hT.1
  have hC := R.2.1
  have hc := R.2.2.2.2.1
  refine K_aload_n (dt_at dtX12_count 0 rfl) rfl rfl ?_
  refine K_iconst (dt_at dtX12_count 1 rfl) ?_
  refine K_putI (a := 0) (ci := 12) (k := 0) (dt_at dtX12_count 2 rfl) (show TT 0 = (0, 12) from rfl) rfl (by decide) wF_X12_105 rfl (Or.inl rfl) rfl rfl ?_
  obtain ⟨hu1, eu1⟩ : ∃ z, z = sI h 0 0 0 := ⟨_, rfl⟩
  rw [← eu1]
  obtain ⟨iu1, fu1, au1, ru1⟩ := sI_fx eu1
  have Gu1 := MG_0 Q0 eu1
  refine K_aload_n (dt_at dtX12_count 3 rfl) rfl rfl ?_
  refine K_iload_n (dt_at dtX12_count 4 rfl) rfl rfl ?_
  refine K_iconst (dt_at dtX12_count 5 rfl) ?_
  refine K_bipush (dt_at dtX12_count 6 rfl) (by decide) ?_
  refine K_callS (M' := mX12_within) (As := [vi 2, vi 0, vi 14]) (st := [vr 0]) (dt_at dtX12_count 7 rfl) (sX12_within_t ⟨by omega, by omega⟩ ⟨by omega, by omega⟩ (by decide)) wL_X12_346 vX12_within rfl npX12_within (by decide) (by decide) (Nat.le_of_ble_eq_true rfl) (by decide) (by decide) GK_E (fun v9 h9 hq => ?_) (fun E h9 hq => by cases hq.1)
  obtain ⟨e9, e8⟩ := hq
  cases e9
  rw [e8]
  show K mX12_count _ _ 0 0 13 [(0, vr 0), (1, vi 2)] [vi 1, vr 0] hu1
  refine K_iconst (dt_at dtX12_count 8 rfl) ?_
  refine K_callV (M' := mX12_right) (a := 0) (ci := 12) (As := [vi 1, vi 1]) (st := []) (dt_at dtX12_count 9 rfl) (sX12_right_t Gu1.2.2.2) (show TT 0 = (0, 12) from rfl) rfl wL_X12_260 vX12_right rfl npX12_right (by decide) (by decide) (Nat.le_of_ble_eq_true rfl) (by decide) (by decide) GK_E (fun v9 h9 hq => ?_) (fun E h9 hq => by cases hq.1)
  obtain ⟨e9, e8⟩ := hq
  cases e9
  rw [e8]
  show K mX12_count _ _ 0 0 17 [(0, vr 0), (1, vi 2)] [vi 1] hu1
  refine K_if_ne (tgt := 22) (dt_at dtX12_count 10 rfl) (by decide) (by first | assumption | exact ⟨by omega, by omega⟩) (fun c1 => ?_) (fun c1 => absurd c1 (by omega))
  refine K_iload_n (dt_at dtX12_count 13 rfl) rfl rfl ?_
  refine K_tableIn (tgt := 94) (dt_at dtX12_count 14 rfl) ⟨by decide, by decide⟩ (by decide) (by decide) rfl (by decide) ?_
  refine K_aload_n (dt_at dtX12_count 21 rfl) rfl rfl ?_
  refine K_get (a := 0) (ci := 12) (k := 42) (v := vr 18) (dt_at dtX12_count 22 rfl) (show TT 0 = (0, 12) from rfl) rfl (by decide) wF_X12_72 rfl ?_
  refine K_iconst (dt_at dtX12_count 23 rfl) ?_
  refine K_iald (dt_at dtX12_count 24 rfl) (show TT 18 = (1, 154) from rfl) (by omega) (by omega) ?_
  rw [show hA hu1 18 0 = (f 0) from RV_d (MG_D0 Gu1).2.2.2 (by omega)]
  exact K_iret (dt_at dtX12_count 25 rfl) rfl rfl (by decide) (by decide) ⟨rfl, Gu1.2.1, Gu1.2.2.2⟩
set_option maxHeartbeats 4000000 in
set_option maxRecDepth 100000 in
theorem sX12_count_3 {h : HP} {S : HS} {f : Int → Int} (Q0 : MAsk h S f) : SpecK mX12_count [vr 0, vi 3] h (fun o h' => o = .inl (some (vi (bAnd (bXor (bitN (fun j => decide ((f (1 + (j : Int))) ≠ 0)) (sNp S)) (-1)) (bShl 1 (sNp S : Int) - 1)))) ∧ FQ h h' ∧ hI h' 0 0 = 0) := by
  refine Spec_of (by decide +kernel) (Nat.le_of_ble_eq_true rfl) ?_
  have hB := Q0.1.1
  have hNt := hB.1
  have hNp := hB.2.1
  have R := Q0.2.2.2.2
  have hT := R.1
  have hW := hT.1
  have hC := R.2.1
  have hc := R.2.2.2.2.1
  refine K_aload_n (dt_at dtX12_count 0 rfl) rfl rfl ?_
  refine K_iconst (dt_at dtX12_count 1 rfl) ?_
  refine K_putI (a := 0) (ci := 12) (k := 0) (dt_at dtX12_count 2 rfl) (show TT 0 = (0, 12) from rfl) rfl (by decide) wF_X12_105 rfl (Or.inl rfl) rfl rfl ?_
  obtain ⟨hu1, eu1⟩ : ∃ z, z = sI h 0 0 0 := ⟨_, rfl⟩
  rw [← eu1]
  obtain ⟨iu1, fu1, au1, ru1⟩ := sI_fx eu1
  have Gu1 := MG_0 Q0 eu1
  refine K_aload_n (dt_at dtX12_count 3 rfl) rfl rfl ?_
  refine K_iload_n (dt_at dtX12_count 4 rfl) rfl rfl ?_
  refine K_iconst (dt_at dtX12_count 5 rfl) ?_
  refine K_bipush (dt_at dtX12_count 6 rfl) (by decide) ?_
  refine K_callS (M' := mX12_within) (As := [vi 3, vi 0, vi 14]) (st := [vr 0]) (dt_at dtX12_count 7 rfl) (sX12_within_t ⟨by omega, by omega⟩ ⟨by omega, by omega⟩ (by decide)) wL_X12_346 vX12_within rfl npX12_within (by decide) (by decide) (Nat.le_of_ble_eq_true rfl) (by decide) (by decide) GK_E (fun v9 h9 hq => ?_) (fun E h9 hq => by cases hq.1)
  obtain ⟨e9, e8⟩ := hq
  cases e9
  rw [e8]
  show K mX12_count _ _ 0 0 13 [(0, vr 0), (1, vi 3)] [vi 1, vr 0] hu1
  refine K_iconst (dt_at dtX12_count 8 rfl) ?_
  refine K_callV (M' := mX12_right) (a := 0) (ci := 12) (As := [vi 1, vi 1]) (st := []) (dt_at dtX12_count 9 rfl) (sX12_right_t Gu1.2.2.2) (show TT 0 = (0, 12) from rfl) rfl wL_X12_260 vX12_right rfl npX12_right (by decide) (by decide) (Nat.le_of_ble_eq_true rfl) (by decide) (by decide) GK_E (fun v9 h9 hq => ?_) (fun E h9 hq => by cases hq.1)
  obtain ⟨e9, e8⟩ := hq
  cases e9
  rw [e8]
  show K mX12_count _ _ 0 0 17 [(0, vr 0), (1, vi 3)] [vi 1] hu1
  refine K_if_ne (tgt := 22) (dt_at dtX12_count 10 rfl) (by decide) (by first | assumption | exact ⟨by omega, by omega⟩) (fun c1 => ?_) (fun c1 => absurd c1 (by omega))
  refine K_iload_n (dt_at dtX12_count 13 rfl) rfl rfl ?_
  refine K_tableIn (tgt := 101) (dt_at dtX12_count 14 rfl) ⟨by decide, by decide⟩ (by decide) (by decide) rfl (by decide) ?_
  refine K_aload_n (dt_at dtX12_count 26 rfl) rfl rfl ?_
  refine K_iconst (dt_at dtX12_count 27 rfl) ?_
  refine K_callV (M' := mX12_inOnes) (a := 0) (ci := 12) (As := [vi 0]) (st := []) (dt_at dtX12_count 28 rfl) (sX12_inOnes (MG_D0 Gu1) hW) (show TT 0 = (0, 12) from rfl) rfl wL_X12_350 vX12_inOnes rfl npX12_inOnes (by decide) (by decide) (Nat.le_of_ble_eq_true rfl) (by decide) (by decide) GK_E (fun v9 h9 hq => ?_) (fun E h9 hq => by cases hq.1)
  obtain ⟨e9, e8⟩ := hq
  cases e9
  rw [e8]
  show K mX12_count _ _ 0 0 106 [(0, vr 0), (1, vi 3)] [vi (bitN (fun j => decide (f (1 + (j : Int)) = 0)) (sNp S))] hu1
  exact K_iret (dt_at dtX12_count 29 rfl) rfl rfl (by decide) (by decide) ⟨by rw [in_eq hB], Gu1.2.1, Gu1.2.2.2⟩
set_option maxHeartbeats 4000000 in
set_option maxRecDepth 100000 in
theorem sX12_count_4 {h : HP} {S : HS} {f : Int → Int} (Q0 : MAsk h S f) : SpecK mX12_count [vr 0, vi 4] h (fun o h' => o = .inl (some (vi (bitN (fun j => decide ((f (8 + (j : Int))) ≠ (j : Int))) (sNp S)))) ∧ FQ h h' ∧ hI h' 0 0 = 0) := by
  refine Spec_of (by decide +kernel) (Nat.le_of_ble_eq_true rfl) ?_
  have hB := Q0.1.1
  have hNt := hB.1
  have hNp := hB.2.1
  have R := Q0.2.2.2.2
  have hT := R.1
  have hW := hT.1
  have hC := R.2.1
  have hc := R.2.2.2.2.1
  refine K_aload_n (dt_at dtX12_count 0 rfl) rfl rfl ?_
  refine K_iconst (dt_at dtX12_count 1 rfl) ?_
  refine K_putI (a := 0) (ci := 12) (k := 0) (dt_at dtX12_count 2 rfl) (show TT 0 = (0, 12) from rfl) rfl (by decide) wF_X12_105 rfl (Or.inl rfl) rfl rfl ?_
  obtain ⟨hu1, eu1⟩ : ∃ z, z = sI h 0 0 0 := ⟨_, rfl⟩
  rw [← eu1]
  obtain ⟨iu1, fu1, au1, ru1⟩ := sI_fx eu1
  have Gu1 := MG_0 Q0 eu1
  refine K_aload_n (dt_at dtX12_count 3 rfl) rfl rfl ?_
  refine K_iload_n (dt_at dtX12_count 4 rfl) rfl rfl ?_
  refine K_iconst (dt_at dtX12_count 5 rfl) ?_
  refine K_bipush (dt_at dtX12_count 6 rfl) (by decide) ?_
  refine K_callS (M' := mX12_within) (As := [vi 4, vi 0, vi 14]) (st := [vr 0]) (dt_at dtX12_count 7 rfl) (sX12_within_t ⟨by omega, by omega⟩ ⟨by omega, by omega⟩ (by decide)) wL_X12_346 vX12_within rfl npX12_within (by decide) (by decide) (Nat.le_of_ble_eq_true rfl) (by decide) (by decide) GK_E (fun v9 h9 hq => ?_) (fun E h9 hq => by cases hq.1)
  obtain ⟨e9, e8⟩ := hq
  cases e9
  rw [e8]
  show K mX12_count _ _ 0 0 13 [(0, vr 0), (1, vi 4)] [vi 1, vr 0] hu1
  refine K_iconst (dt_at dtX12_count 8 rfl) ?_
  refine K_callV (M' := mX12_right) (a := 0) (ci := 12) (As := [vi 1, vi 1]) (st := []) (dt_at dtX12_count 9 rfl) (sX12_right_t Gu1.2.2.2) (show TT 0 = (0, 12) from rfl) rfl wL_X12_260 vX12_right rfl npX12_right (by decide) (by decide) (Nat.le_of_ble_eq_true rfl) (by decide) (by decide) GK_E (fun v9 h9 hq => ?_) (fun E h9 hq => by cases hq.1)
  obtain ⟨e9, e8⟩ := hq
  cases e9
  rw [e8]
  show K mX12_count _ _ 0 0 17 [(0, vr 0), (1, vi 4)] [vi 1] hu1
  refine K_if_ne (tgt := 22) (dt_at dtX12_count 10 rfl) (by decide) (by first | assumption | exact ⟨by omega, by omega⟩) (fun c1 => ?_) (fun c1 => absurd c1 (by omega))
  refine K_iload_n (dt_at dtX12_count 13 rfl) rfl rfl ?_
  refine K_tableIn (tgt := 107) (dt_at dtX12_count 14 rfl) ⟨by decide, by decide⟩ (by decide) (by decide) rfl (by decide) ?_
  refine K_aload_n (dt_at dtX12_count 30 rfl) rfl rfl ?_
  refine K_iconst (dt_at dtX12_count 31 rfl) ?_
  refine K_callV (M' := mX12_mixed) (a := 0) (ci := 12) (As := [vi 0]) (st := []) (dt_at dtX12_count 32 rfl) (sX12_mixed (MG_D0 Gu1) hW) (show TT 0 = (0, 12) from rfl) rfl wL_X12_353 vX12_mixed rfl npX12_mixed (by decide) (by decide) (Nat.le_of_ble_eq_true rfl) (by decide) (by decide) GK_E (fun v9 h9 hq => ?_) (fun E h9 hq => by cases hq.1)
  obtain ⟨e9, e8⟩ := hq
  cases e9
  rw [e8]
  show K mX12_count _ _ 0 0 112 [(0, vr 0), (1, vi 4)] [vi (bitN (fun j => decide (f (8 + (j : Int)) ≠ (j : Int))) (sNp S))] hu1
  exact K_iret (dt_at dtX12_count 33 rfl) rfl rfl (by decide) (by decide) ⟨rfl, Gu1.2.1, Gu1.2.2.2⟩
set_option maxHeartbeats 4000000 in
set_option maxRecDepth 100000 in
theorem sX12_count_5 {h : HP} {S : HS} {f : Int → Int} (Q0 : MAsk h S f) : SpecK mX12_count [vr 0, vi 5] h (fun o h' => o = .inl (some (vi (cntN (fun j => decide (bAnd (roundF f (sNp S) (j : Int) 0) (bShl 1 (j : Int) - 1) ≠ 0)) (sNp S)))) ∧ FQ h h' ∧ hI h' 0 0 = 0) := by
  refine Spec_of (by decide +kernel) (Nat.le_of_ble_eq_true rfl) ?_
  have hB := Q0.1.1
  have hNt := hB.1
  have hNp := hB.2.1
  have R := Q0.2.2.2.2
  have hT := R.1
  have hW := hT.1
  have hC := R.2.1
  have hc := R.2.2.2.2.1
  refine K_aload_n (dt_at dtX12_count 0 rfl) rfl rfl ?_
  refine K_iconst (dt_at dtX12_count 1 rfl) ?_
  refine K_putI (a := 0) (ci := 12) (k := 0) (dt_at dtX12_count 2 rfl) (show TT 0 = (0, 12) from rfl) rfl (by decide) wF_X12_105 rfl (Or.inl rfl) rfl rfl ?_
  obtain ⟨hu1, eu1⟩ : ∃ z, z = sI h 0 0 0 := ⟨_, rfl⟩
  rw [← eu1]
  obtain ⟨iu1, fu1, au1, ru1⟩ := sI_fx eu1
  have Gu1 := MG_0 Q0 eu1
  refine K_aload_n (dt_at dtX12_count 3 rfl) rfl rfl ?_
  refine K_iload_n (dt_at dtX12_count 4 rfl) rfl rfl ?_
  refine K_iconst (dt_at dtX12_count 5 rfl) ?_
  refine K_bipush (dt_at dtX12_count 6 rfl) (by decide) ?_
  refine K_callS (M' := mX12_within) (As := [vi 5, vi 0, vi 14]) (st := [vr 0]) (dt_at dtX12_count 7 rfl) (sX12_within_t ⟨by omega, by omega⟩ ⟨by omega, by omega⟩ (by decide)) wL_X12_346 vX12_within rfl npX12_within (by decide) (by decide) (Nat.le_of_ble_eq_true rfl) (by decide) (by decide) GK_E (fun v9 h9 hq => ?_) (fun E h9 hq => by cases hq.1)
  obtain ⟨e9, e8⟩ := hq
  cases e9
  rw [e8]
  show K mX12_count _ _ 0 0 13 [(0, vr 0), (1, vi 5)] [vi 1, vr 0] hu1
  refine K_iconst (dt_at dtX12_count 8 rfl) ?_
  refine K_callV (M' := mX12_right) (a := 0) (ci := 12) (As := [vi 1, vi 1]) (st := []) (dt_at dtX12_count 9 rfl) (sX12_right_t Gu1.2.2.2) (show TT 0 = (0, 12) from rfl) rfl wL_X12_260 vX12_right rfl npX12_right (by decide) (by decide) (Nat.le_of_ble_eq_true rfl) (by decide) (by decide) GK_E (fun v9 h9 hq => ?_) (fun E h9 hq => by cases hq.1)
  obtain ⟨e9, e8⟩ := hq
  cases e9
  rw [e8]
  show K mX12_count _ _ 0 0 17 [(0, vr 0), (1, vi 5)] [vi 1] hu1
  refine K_if_ne (tgt := 22) (dt_at dtX12_count 10 rfl) (by decide) (by first | assumption | exact ⟨by omega, by omega⟩) (fun c1 => ?_) (fun c1 => absurd c1 (by omega))
  refine K_iload_n (dt_at dtX12_count 13 rfl) rfl rfl ?_
  refine K_tableIn (tgt := 113) (dt_at dtX12_count 14 rfl) ⟨by decide, by decide⟩ (by decide) (by decide) rfl (by decide) ?_
  refine K_aload_n (dt_at dtX12_count 34 rfl) rfl rfl ?_
  refine K_callV (M' := mX12_toRight) (a := 0) (ci := 12) (As := []) (st := []) (dt_at dtX12_count 35 rfl) (sX12_toRight (MG_D0 Gu1) hW hC hc) (show TT 0 = (0, 12) from rfl) rfl wL_X12_356 vX12_toRight rfl npX12_toRight (by decide) (by decide) (Nat.le_of_ble_eq_true rfl) (by decide) (by decide) GK_E (fun v9 h9 hq => ?_) (fun E h9 hq => by cases hq.1)
  obtain ⟨e9, e8⟩ := hq
  cases e9
  rw [e8]
  show K mX12_count _ _ 0 0 117 [(0, vr 0), (1, vi 5)] [vi (cntN (fun j => decide (bAnd (roundF f (sNp S) (j : Int) 0) (bShl 1 (j : Int) - 1) ≠ 0)) (sNp S))] hu1
  exact K_iret (dt_at dtX12_count 36 rfl) rfl rfl (by decide) (by decide) ⟨rfl, Gu1.2.1, Gu1.2.2.2⟩
set_option maxHeartbeats 4000000 in
set_option maxRecDepth 100000 in
theorem sX12_count_6 {h : HP} {S : HS} {f : Int → Int} (Q0 : MAsk h S f) : SpecK mX12_count [vr 0, vi 6] h (fun o h' => o = .inl (some (vi (srN (fun k => soN (fun j => if bAnd (roundF f (sNp S) (k : Int) 0) (bShl 1 (j : Int)) = 0 then none else some (10 * (k : Int) + (j : Int))) (k + 1) (sNp S - (k + 1))) (-1) 0 (sNp S)))) ∧ FQ h h' ∧ hI h' 0 0 = 0) := by
  refine Spec_of (by decide +kernel) (Nat.le_of_ble_eq_true rfl) ?_
  have hB := Q0.1.1
  have hNt := hB.1
  have hNp := hB.2.1
  have R := Q0.2.2.2.2
  have hT := R.1
  have hW := hT.1
  have hC := R.2.1
  have hc := R.2.2.2.2.1
  refine K_aload_n (dt_at dtX12_count 0 rfl) rfl rfl ?_
  refine K_iconst (dt_at dtX12_count 1 rfl) ?_
  refine K_putI (a := 0) (ci := 12) (k := 0) (dt_at dtX12_count 2 rfl) (show TT 0 = (0, 12) from rfl) rfl (by decide) wF_X12_105 rfl (Or.inl rfl) rfl rfl ?_
  obtain ⟨hu1, eu1⟩ : ∃ z, z = sI h 0 0 0 := ⟨_, rfl⟩
  rw [← eu1]
  obtain ⟨iu1, fu1, au1, ru1⟩ := sI_fx eu1
  have Gu1 := MG_0 Q0 eu1
  refine K_aload_n (dt_at dtX12_count 3 rfl) rfl rfl ?_
  refine K_iload_n (dt_at dtX12_count 4 rfl) rfl rfl ?_
  refine K_iconst (dt_at dtX12_count 5 rfl) ?_
  refine K_bipush (dt_at dtX12_count 6 rfl) (by decide) ?_
  refine K_callS (M' := mX12_within) (As := [vi 6, vi 0, vi 14]) (st := [vr 0]) (dt_at dtX12_count 7 rfl) (sX12_within_t ⟨by omega, by omega⟩ ⟨by omega, by omega⟩ (by decide)) wL_X12_346 vX12_within rfl npX12_within (by decide) (by decide) (Nat.le_of_ble_eq_true rfl) (by decide) (by decide) GK_E (fun v9 h9 hq => ?_) (fun E h9 hq => by cases hq.1)
  obtain ⟨e9, e8⟩ := hq
  cases e9
  rw [e8]
  show K mX12_count _ _ 0 0 13 [(0, vr 0), (1, vi 6)] [vi 1, vr 0] hu1
  refine K_iconst (dt_at dtX12_count 8 rfl) ?_
  refine K_callV (M' := mX12_right) (a := 0) (ci := 12) (As := [vi 1, vi 1]) (st := []) (dt_at dtX12_count 9 rfl) (sX12_right_t Gu1.2.2.2) (show TT 0 = (0, 12) from rfl) rfl wL_X12_260 vX12_right rfl npX12_right (by decide) (by decide) (Nat.le_of_ble_eq_true rfl) (by decide) (by decide) GK_E (fun v9 h9 hq => ?_) (fun E h9 hq => by cases hq.1)
  obtain ⟨e9, e8⟩ := hq
  cases e9
  rw [e8]
  show K mX12_count _ _ 0 0 17 [(0, vr 0), (1, vi 6)] [vi 1] hu1
  refine K_if_ne (tgt := 22) (dt_at dtX12_count 10 rfl) (by decide) (by first | assumption | exact ⟨by omega, by omega⟩) (fun c1 => ?_) (fun c1 => absurd c1 (by omega))
  refine K_iload_n (dt_at dtX12_count 13 rfl) rfl rfl ?_
  refine K_tableIn (tgt := 118) (dt_at dtX12_count 14 rfl) ⟨by decide, by decide⟩ (by decide) (by decide) rfl (by decide) ?_
  refine K_aload_n (dt_at dtX12_count 37 rfl) rfl rfl ?_
  refine K_callV (M' := mX12_firstSwap) (a := 0) (ci := 12) (As := []) (st := []) (dt_at dtX12_count 38 rfl) (sX12_firstSwap (MG_D0 Gu1) hW hC) (show TT 0 = (0, 12) from rfl) rfl wL_X12_359 vX12_firstSwap rfl npX12_firstSwap (by decide) (by decide) (Nat.le_of_ble_eq_true rfl) (by decide) (by decide) GK_E (fun v9 h9 hq => ?_) (fun E h9 hq => by cases hq.1)
  obtain ⟨e9, e8⟩ := hq
  cases e9
  rw [e8]
  show K mX12_count _ _ 0 0 122 [(0, vr 0), (1, vi 6)] [vi (srN (fun k => soN (fun j => if bAnd (roundF f (sNp S) (k : Int) 0) (bShl 1 (j : Int)) = 0 then none else some (10 * (k : Int) + (j : Int))) (k + 1) (sNp S - (k + 1))) (-1) 0 (sNp S))] hu1
  exact K_iret (dt_at dtX12_count 39 rfl) rfl rfl (by decide) (by decide) ⟨rfl, Gu1.2.1, Gu1.2.2.2⟩
set_option maxHeartbeats 4000000 in
set_option maxRecDepth 100000 in
theorem sX12_count_7 {h : HP} {S : HS} {f : Int → Int} (Q0 : MAsk h S f) : SpecK mX12_count [vr 0, vi 7] h (fun o h' => o = .inl (some (vi (itN (fun j v => v + sumF (sW S) f (j : Int) (sNt S)) (itN (fun j v => v + ((sW S) (j : Int)) * (f (29 + (j : Int)))) 0 (sNt S)) (sNp S)))) ∧ FQ h h' ∧ hI h' 0 0 = 0) := by
  refine Spec_of (by decide +kernel) (Nat.le_of_ble_eq_true rfl) ?_
  have hB := Q0.1.1
  have hNt := hB.1
  have hNp := hB.2.1
  have R := Q0.2.2.2.2
  have hT := R.1
  have hW := hT.1
  have hC := R.2.1
  have hc := R.2.2.2.2.1
  refine K_aload_n (dt_at dtX12_count 0 rfl) rfl rfl ?_
  refine K_iconst (dt_at dtX12_count 1 rfl) ?_
  refine K_putI (a := 0) (ci := 12) (k := 0) (dt_at dtX12_count 2 rfl) (show TT 0 = (0, 12) from rfl) rfl (by decide) wF_X12_105 rfl (Or.inl rfl) rfl rfl ?_
  obtain ⟨hu1, eu1⟩ : ∃ z, z = sI h 0 0 0 := ⟨_, rfl⟩
  rw [← eu1]
  obtain ⟨iu1, fu1, au1, ru1⟩ := sI_fx eu1
  have Gu1 := MG_0 Q0 eu1
  refine K_aload_n (dt_at dtX12_count 3 rfl) rfl rfl ?_
  refine K_iload_n (dt_at dtX12_count 4 rfl) rfl rfl ?_
  refine K_iconst (dt_at dtX12_count 5 rfl) ?_
  refine K_bipush (dt_at dtX12_count 6 rfl) (by decide) ?_
  refine K_callS (M' := mX12_within) (As := [vi 7, vi 0, vi 14]) (st := [vr 0]) (dt_at dtX12_count 7 rfl) (sX12_within_t ⟨by omega, by omega⟩ ⟨by omega, by omega⟩ (by decide)) wL_X12_346 vX12_within rfl npX12_within (by decide) (by decide) (Nat.le_of_ble_eq_true rfl) (by decide) (by decide) GK_E (fun v9 h9 hq => ?_) (fun E h9 hq => by cases hq.1)
  obtain ⟨e9, e8⟩ := hq
  cases e9
  rw [e8]
  show K mX12_count _ _ 0 0 13 [(0, vr 0), (1, vi 7)] [vi 1, vr 0] hu1
  refine K_iconst (dt_at dtX12_count 8 rfl) ?_
  refine K_callV (M' := mX12_right) (a := 0) (ci := 12) (As := [vi 1, vi 1]) (st := []) (dt_at dtX12_count 9 rfl) (sX12_right_t Gu1.2.2.2) (show TT 0 = (0, 12) from rfl) rfl wL_X12_260 vX12_right rfl npX12_right (by decide) (by decide) (Nat.le_of_ble_eq_true rfl) (by decide) (by decide) GK_E (fun v9 h9 hq => ?_) (fun E h9 hq => by cases hq.1)
  obtain ⟨e9, e8⟩ := hq
  cases e9
  rw [e8]
  show K mX12_count _ _ 0 0 17 [(0, vr 0), (1, vi 7)] [vi 1] hu1
  refine K_if_ne (tgt := 22) (dt_at dtX12_count 10 rfl) (by decide) (by first | assumption | exact ⟨by omega, by omega⟩) (fun c1 => ?_) (fun c1 => absurd c1 (by omega))
  refine K_iload_n (dt_at dtX12_count 13 rfl) rfl rfl ?_
  refine K_tableIn (tgt := 123) (dt_at dtX12_count 14 rfl) ⟨by decide, by decide⟩ (by decide) (by decide) rfl (by decide) ?_
  refine K_aload_n (dt_at dtX12_count 40 rfl) rfl rfl ?_
  refine K_callV (M' := mX12_inAll) (a := 0) (ci := 12) (As := []) (st := []) (dt_at dtX12_count 41 rfl) (sX12_inAll (MG_D0 Gu1) hW) (show TT 0 = (0, 12) from rfl) rfl wL_X12_362 vX12_inAll rfl npX12_inAll (by decide) (by decide) (Nat.le_of_ble_eq_true rfl) (by decide) (by decide) GK_E (fun v9 h9 hq => ?_) (fun E h9 hq => by cases hq.1)
  obtain ⟨e9, e8⟩ := hq
  cases e9
  rw [e8]
  show K mX12_count _ _ 0 0 127 [(0, vr 0), (1, vi 7)] [vi (itN (fun j v => v + sW S (j : Int) * (f (29 + (j : Int)) + poF f (j : Int) (sNp S))) 0 (sNt S))] hu1
  exact K_iret (dt_at dtX12_count 42 rfl) rfl rfl (by decide) (by decide) ⟨by rw [inAll_eq hB hW hC hc], Gu1.2.1, Gu1.2.2.2⟩
set_option maxHeartbeats 4000000 in
set_option maxRecDepth 100000 in
theorem sX12_count_8 {h : HP} {S : HS} {f : Int → Int} (Q0 : MAsk h S f) : SpecK mX12_count [vr 0, vi 8] h (fun o h' => o = .inl (some (vi (fmN 0 0 (-1) (fun j => pcF f (j : Int) (sNp S)) (sNt S)))) ∧ FQ h h' ∧ hI h' 0 0 = 0) := by
  refine Spec_of (by decide +kernel) (Nat.le_of_ble_eq_true rfl) ?_
  have hB := Q0.1.1
  have hNt := hB.1
  have hNp := hB.2.1
  have R := Q0.2.2.2.2
  have hT := R.1
  have hW := hT.1
  have hC := R.2.1
  have hc := R.2.2.2.2.1
  refine K_aload_n (dt_at dtX12_count 0 rfl) rfl rfl ?_
  refine K_iconst (dt_at dtX12_count 1 rfl) ?_
  refine K_putI (a := 0) (ci := 12) (k := 0) (dt_at dtX12_count 2 rfl) (show TT 0 = (0, 12) from rfl) rfl (by decide) wF_X12_105 rfl (Or.inl rfl) rfl rfl ?_
  obtain ⟨hu1, eu1⟩ : ∃ z, z = sI h 0 0 0 := ⟨_, rfl⟩
  rw [← eu1]
  obtain ⟨iu1, fu1, au1, ru1⟩ := sI_fx eu1
  have Gu1 := MG_0 Q0 eu1
  refine K_aload_n (dt_at dtX12_count 3 rfl) rfl rfl ?_
  refine K_iload_n (dt_at dtX12_count 4 rfl) rfl rfl ?_
  refine K_iconst (dt_at dtX12_count 5 rfl) ?_
  refine K_bipush (dt_at dtX12_count 6 rfl) (by decide) ?_
  refine K_callS (M' := mX12_within) (As := [vi 8, vi 0, vi 14]) (st := [vr 0]) (dt_at dtX12_count 7 rfl) (sX12_within_t ⟨by omega, by omega⟩ ⟨by omega, by omega⟩ (by decide)) wL_X12_346 vX12_within rfl npX12_within (by decide) (by decide) (Nat.le_of_ble_eq_true rfl) (by decide) (by decide) GK_E (fun v9 h9 hq => ?_) (fun E h9 hq => by cases hq.1)
  obtain ⟨e9, e8⟩ := hq
  cases e9
  rw [e8]
  show K mX12_count _ _ 0 0 13 [(0, vr 0), (1, vi 8)] [vi 1, vr 0] hu1
  refine K_iconst (dt_at dtX12_count 8 rfl) ?_
  refine K_callV (M' := mX12_right) (a := 0) (ci := 12) (As := [vi 1, vi 1]) (st := []) (dt_at dtX12_count 9 rfl) (sX12_right_t Gu1.2.2.2) (show TT 0 = (0, 12) from rfl) rfl wL_X12_260 vX12_right rfl npX12_right (by decide) (by decide) (Nat.le_of_ble_eq_true rfl) (by decide) (by decide) GK_E (fun v9 h9 hq => ?_) (fun E h9 hq => by cases hq.1)
  obtain ⟨e9, e8⟩ := hq
  cases e9
  rw [e8]
  show K mX12_count _ _ 0 0 17 [(0, vr 0), (1, vi 8)] [vi 1] hu1
  refine K_if_ne (tgt := 22) (dt_at dtX12_count 10 rfl) (by decide) (by first | assumption | exact ⟨by omega, by omega⟩) (fun c1 => ?_) (fun c1 => absurd c1 (by omega))
  refine K_iload_n (dt_at dtX12_count 13 rfl) rfl rfl ?_
  refine K_tableIn (tgt := 128) (dt_at dtX12_count 14 rfl) ⟨by decide, by decide⟩ (by decide) (by decide) rfl (by decide) ?_
  refine K_aload_n (dt_at dtX12_count 43 rfl) rfl rfl ?_
  refine K_callV (M' := mX12_mostWanted) (a := 0) (ci := 12) (As := []) (st := []) (dt_at dtX12_count 44 rfl) (sX12_mostWanted (MG_D0 Gu1) hW hT hC hc) (show TT 0 = (0, 12) from rfl) rfl wL_X12_365 vX12_mostWanted rfl npX12_mostWanted (by decide) (by decide) (Nat.le_of_ble_eq_true rfl) (by decide) (by decide) GK_E (fun v9 h9 hq => ?_) (fun E h9 hq => by cases hq.1)
  obtain ⟨e9, e8⟩ := hq
  cases e9
  rw [e8]
  show K mX12_count _ _ 0 0 132 [(0, vr 0), (1, vi 8)] [vi (fmN 0 0 (-1) (fun j => pcF f (j : Int) (sNp S)) (sNt S))] hu1
  exact K_iret (dt_at dtX12_count 45 rfl) rfl rfl (by decide) (by decide) ⟨rfl, Gu1.2.1, Gu1.2.2.2⟩
set_option maxHeartbeats 4000000 in
set_option maxRecDepth 100000 in
theorem sX12_count_9 {h : HP} {S : HS} {f : Int → Int} (Q0 : MAsk h S f) : SpecK mX12_count [vr 0, vi 9] h (fun o h' => o = .inl (some (vi (hI h 0 44))) ∧ FQ h h' ∧ hI h' 0 0 = 0) := by
  refine Spec_of (by decide +kernel) (Nat.le_of_ble_eq_true rfl) ?_
  have hB := Q0.1.1
  have hNt := hB.1
  have hNp := hB.2.1
  have R := Q0.2.2.2.2
  have hT := R.1
  have hW := hT.1
  have hC := R.2.1
  have hc := R.2.2.2.2.1
  refine K_aload_n (dt_at dtX12_count 0 rfl) rfl rfl ?_
  refine K_iconst (dt_at dtX12_count 1 rfl) ?_
  refine K_putI (a := 0) (ci := 12) (k := 0) (dt_at dtX12_count 2 rfl) (show TT 0 = (0, 12) from rfl) rfl (by decide) wF_X12_105 rfl (Or.inl rfl) rfl rfl ?_
  obtain ⟨hu1, eu1⟩ : ∃ z, z = sI h 0 0 0 := ⟨_, rfl⟩
  rw [← eu1]
  obtain ⟨iu1, fu1, au1, ru1⟩ := sI_fx eu1
  have Gu1 := MG_0 Q0 eu1
  refine K_aload_n (dt_at dtX12_count 3 rfl) rfl rfl ?_
  refine K_iload_n (dt_at dtX12_count 4 rfl) rfl rfl ?_
  refine K_iconst (dt_at dtX12_count 5 rfl) ?_
  refine K_bipush (dt_at dtX12_count 6 rfl) (by decide) ?_
  refine K_callS (M' := mX12_within) (As := [vi 9, vi 0, vi 14]) (st := [vr 0]) (dt_at dtX12_count 7 rfl) (sX12_within_t ⟨by omega, by omega⟩ ⟨by omega, by omega⟩ (by decide)) wL_X12_346 vX12_within rfl npX12_within (by decide) (by decide) (Nat.le_of_ble_eq_true rfl) (by decide) (by decide) GK_E (fun v9 h9 hq => ?_) (fun E h9 hq => by cases hq.1)
  obtain ⟨e9, e8⟩ := hq
  cases e9
  rw [e8]
  show K mX12_count _ _ 0 0 13 [(0, vr 0), (1, vi 9)] [vi 1, vr 0] hu1
  refine K_iconst (dt_at dtX12_count 8 rfl) ?_
  refine K_callV (M' := mX12_right) (a := 0) (ci := 12) (As := [vi 1, vi 1]) (st := []) (dt_at dtX12_count 9 rfl) (sX12_right_t Gu1.2.2.2) (show TT 0 = (0, 12) from rfl) rfl wL_X12_260 vX12_right rfl npX12_right (by decide) (by decide) (Nat.le_of_ble_eq_true rfl) (by decide) (by decide) GK_E (fun v9 h9 hq => ?_) (fun E h9 hq => by cases hq.1)
  obtain ⟨e9, e8⟩ := hq
  cases e9
  rw [e8]
  show K mX12_count _ _ 0 0 17 [(0, vr 0), (1, vi 9)] [vi 1] hu1
  refine K_if_ne (tgt := 22) (dt_at dtX12_count 10 rfl) (by decide) (by first | assumption | exact ⟨by omega, by omega⟩) (fun c1 => ?_) (fun c1 => absurd c1 (by omega))
  refine K_iload_n (dt_at dtX12_count 13 rfl) rfl rfl ?_
  refine K_tableIn (tgt := 133) (dt_at dtX12_count 14 rfl) ⟨by decide, by decide⟩ (by decide) (by decide) rfl (by decide) ?_
  refine K_aload_n (dt_at dtX12_count 46 rfl) rfl rfl ?_
  refine K_get (a := 0) (ci := 12) (k := 44) (v := vi (hI h 0 44)) (dt_at dtX12_count 47 rfl) (show TT 0 = (0, 12) from rfl) rfl (by decide) wF_X12_277 (by show vi (hI hu1 0 44) = vi (hI h 0 44); rw [(fu1 0 44 (by omega))]) ?_
  exact K_iret (dt_at dtX12_count 48 rfl) rfl rfl (by decide) (by decide) ⟨rfl, Gu1.2.1, Gu1.2.2.2⟩
set_option maxHeartbeats 4000000 in
set_option maxRecDepth 100000 in
theorem sX12_count_10 {h : HP} {S : HS} {f : Int → Int} (Q0 : MAsk h S f) : SpecK mX12_count [vr 0, vi 10] h (fun o h' => o = .inl (some (vi (hI h 0 51))) ∧ FQ h h' ∧ hI h' 0 0 = 0) := by
  refine Spec_of (by decide +kernel) (Nat.le_of_ble_eq_true rfl) ?_
  have hB := Q0.1.1
  have hNt := hB.1
  have hNp := hB.2.1
  have R := Q0.2.2.2.2
  have hT := R.1
  have hW := hT.1
  have hC := R.2.1
  have hc := R.2.2.2.2.1
  refine K_aload_n (dt_at dtX12_count 0 rfl) rfl rfl ?_
  refine K_iconst (dt_at dtX12_count 1 rfl) ?_
  refine K_putI (a := 0) (ci := 12) (k := 0) (dt_at dtX12_count 2 rfl) (show TT 0 = (0, 12) from rfl) rfl (by decide) wF_X12_105 rfl (Or.inl rfl) rfl rfl ?_
  obtain ⟨hu1, eu1⟩ : ∃ z, z = sI h 0 0 0 := ⟨_, rfl⟩
  rw [← eu1]
  obtain ⟨iu1, fu1, au1, ru1⟩ := sI_fx eu1
  have Gu1 := MG_0 Q0 eu1
  refine K_aload_n (dt_at dtX12_count 3 rfl) rfl rfl ?_
  refine K_iload_n (dt_at dtX12_count 4 rfl) rfl rfl ?_
  refine K_iconst (dt_at dtX12_count 5 rfl) ?_
  refine K_bipush (dt_at dtX12_count 6 rfl) (by decide) ?_
  refine K_callS (M' := mX12_within) (As := [vi 10, vi 0, vi 14]) (st := [vr 0]) (dt_at dtX12_count 7 rfl) (sX12_within_t ⟨by omega, by omega⟩ ⟨by omega, by omega⟩ (by decide)) wL_X12_346 vX12_within rfl npX12_within (by decide) (by decide) (Nat.le_of_ble_eq_true rfl) (by decide) (by decide) GK_E (fun v9 h9 hq => ?_) (fun E h9 hq => by cases hq.1)
  obtain ⟨e9, e8⟩ := hq
  cases e9
  rw [e8]
  show K mX12_count _ _ 0 0 13 [(0, vr 0), (1, vi 10)] [vi 1, vr 0] hu1
  refine K_iconst (dt_at dtX12_count 8 rfl) ?_
  refine K_callV (M' := mX12_right) (a := 0) (ci := 12) (As := [vi 1, vi 1]) (st := []) (dt_at dtX12_count 9 rfl) (sX12_right_t Gu1.2.2.2) (show TT 0 = (0, 12) from rfl) rfl wL_X12_260 vX12_right rfl npX12_right (by decide) (by decide) (Nat.le_of_ble_eq_true rfl) (by decide) (by decide) GK_E (fun v9 h9 hq => ?_) (fun E h9 hq => by cases hq.1)
  obtain ⟨e9, e8⟩ := hq
  cases e9
  rw [e8]
  show K mX12_count _ _ 0 0 17 [(0, vr 0), (1, vi 10)] [vi 1] hu1
  refine K_if_ne (tgt := 22) (dt_at dtX12_count 10 rfl) (by decide) (by first | assumption | exact ⟨by omega, by omega⟩) (fun c1 => ?_) (fun c1 => absurd c1 (by omega))
  refine K_iload_n (dt_at dtX12_count 13 rfl) rfl rfl ?_
  refine K_tableIn (tgt := 138) (dt_at dtX12_count 14 rfl) ⟨by decide, by decide⟩ (by decide) (by decide) rfl (by decide) ?_
  refine K_aload_n (dt_at dtX12_count 49 rfl) rfl rfl ?_
  refine K_get (a := 0) (ci := 12) (k := 51) (v := vi (hI h 0 51)) (dt_at dtX12_count 50 rfl) (show TT 0 = (0, 12) from rfl) rfl (by decide) wF_X12_280 (by show vi (hI hu1 0 51) = vi (hI h 0 51); rw [(fu1 0 51 (by omega))]) ?_
  exact K_iret (dt_at dtX12_count 51 rfl) rfl rfl (by decide) (by decide) ⟨rfl, Gu1.2.1, Gu1.2.2.2⟩
set_option maxHeartbeats 4000000 in
set_option maxRecDepth 100000 in
theorem sX12_count_11 {h : HP} {S : HS} {f : Int → Int} (Q0 : MAsk h S f) : SpecK mX12_count [vr 0, vi 11] h (fun o h' => o = .inl (some (vi (hI h 0 12))) ∧ FQ h h' ∧ hI h' 0 0 = 0) := by
  refine Spec_of (by decide +kernel) (Nat.le_of_ble_eq_true rfl) ?_
  have hB := Q0.1.1
  have hNt := hB.1
  have hNp := hB.2.1
  have R := Q0.2.2.2.2
  have hT := R.1
  have hW := hT.1
  have hC := R.2.1
  have hc := R.2.2.2.2.1
  refine K_aload_n (dt_at dtX12_count 0 rfl) rfl rfl ?_
  refine K_iconst (dt_at dtX12_count 1 rfl) ?_
  refine K_putI (a := 0) (ci := 12) (k := 0) (dt_at dtX12_count 2 rfl) (show TT 0 = (0, 12) from rfl) rfl (by decide) wF_X12_105 rfl (Or.inl rfl) rfl rfl ?_
  obtain ⟨hu1, eu1⟩ : ∃ z, z = sI h 0 0 0 := ⟨_, rfl⟩
  rw [← eu1]
  obtain ⟨iu1, fu1, au1, ru1⟩ := sI_fx eu1
  have Gu1 := MG_0 Q0 eu1
  refine K_aload_n (dt_at dtX12_count 3 rfl) rfl rfl ?_
  refine K_iload_n (dt_at dtX12_count 4 rfl) rfl rfl ?_
  refine K_iconst (dt_at dtX12_count 5 rfl) ?_
  refine K_bipush (dt_at dtX12_count 6 rfl) (by decide) ?_
  refine K_callS (M' := mX12_within) (As := [vi 11, vi 0, vi 14]) (st := [vr 0]) (dt_at dtX12_count 7 rfl) (sX12_within_t ⟨by omega, by omega⟩ ⟨by omega, by omega⟩ (by decide)) wL_X12_346 vX12_within rfl npX12_within (by decide) (by decide) (Nat.le_of_ble_eq_true rfl) (by decide) (by decide) GK_E (fun v9 h9 hq => ?_) (fun E h9 hq => by cases hq.1)
  obtain ⟨e9, e8⟩ := hq
  cases e9
  rw [e8]
  show K mX12_count _ _ 0 0 13 [(0, vr 0), (1, vi 11)] [vi 1, vr 0] hu1
  refine K_iconst (dt_at dtX12_count 8 rfl) ?_
  refine K_callV (M' := mX12_right) (a := 0) (ci := 12) (As := [vi 1, vi 1]) (st := []) (dt_at dtX12_count 9 rfl) (sX12_right_t Gu1.2.2.2) (show TT 0 = (0, 12) from rfl) rfl wL_X12_260 vX12_right rfl npX12_right (by decide) (by decide) (Nat.le_of_ble_eq_true rfl) (by decide) (by decide) GK_E (fun v9 h9 hq => ?_) (fun E h9 hq => by cases hq.1)
  obtain ⟨e9, e8⟩ := hq
  cases e9
  rw [e8]
  show K mX12_count _ _ 0 0 17 [(0, vr 0), (1, vi 11)] [vi 1] hu1
  refine K_if_ne (tgt := 22) (dt_at dtX12_count 10 rfl) (by decide) (by first | assumption | exact ⟨by omega, by omega⟩) (fun c1 => ?_) (fun c1 => absurd c1 (by omega))
  refine K_iload_n (dt_at dtX12_count 13 rfl) rfl rfl ?_
  refine K_tableIn (tgt := 143) (dt_at dtX12_count 14 rfl) ⟨by decide, by decide⟩ (by decide) (by decide) rfl (by decide) ?_
  refine K_aload_n (dt_at dtX12_count 52 rfl) rfl rfl ?_
  refine K_get (a := 0) (ci := 12) (k := 12) (v := vi (hI h 0 12)) (dt_at dtX12_count 53 rfl) (show TT 0 = (0, 12) from rfl) rfl (by decide) wF_X12_108 (by show vi (hI hu1 0 12) = vi (hI h 0 12); rw [(fu1 0 12 (by omega))]) ?_
  exact K_iret (dt_at dtX12_count 54 rfl) rfl rfl (by decide) (by decide) ⟨rfl, Gu1.2.1, Gu1.2.2.2⟩
set_option maxHeartbeats 4000000 in
set_option maxRecDepth 100000 in
theorem sX12_count_12 {h : HP} {S : HS} {f : Int → Int} (Q0 : MAsk h S f) : SpecK mX12_count [vr 0, vi 12] h (fun o h' => o = .inl (some (vi (hA h 8 0))) ∧ FQ h h' ∧ hI h' 0 0 = 0) := by
  refine Spec_of (by decide +kernel) (Nat.le_of_ble_eq_true rfl) ?_
  have hB := Q0.1.1
  have hNt := hB.1
  have hNp := hB.2.1
  have R := Q0.2.2.2.2
  have hT := R.1
  have hW := hT.1
  have hC := R.2.1
  have hc := R.2.2.2.2.1
  refine K_aload_n (dt_at dtX12_count 0 rfl) rfl rfl ?_
  refine K_iconst (dt_at dtX12_count 1 rfl) ?_
  refine K_putI (a := 0) (ci := 12) (k := 0) (dt_at dtX12_count 2 rfl) (show TT 0 = (0, 12) from rfl) rfl (by decide) wF_X12_105 rfl (Or.inl rfl) rfl rfl ?_
  obtain ⟨hu1, eu1⟩ : ∃ z, z = sI h 0 0 0 := ⟨_, rfl⟩
  rw [← eu1]
  obtain ⟨iu1, fu1, au1, ru1⟩ := sI_fx eu1
  have Gu1 := MG_0 Q0 eu1
  refine K_aload_n (dt_at dtX12_count 3 rfl) rfl rfl ?_
  refine K_iload_n (dt_at dtX12_count 4 rfl) rfl rfl ?_
  refine K_iconst (dt_at dtX12_count 5 rfl) ?_
  refine K_bipush (dt_at dtX12_count 6 rfl) (by decide) ?_
  refine K_callS (M' := mX12_within) (As := [vi 12, vi 0, vi 14]) (st := [vr 0]) (dt_at dtX12_count 7 rfl) (sX12_within_t ⟨by omega, by omega⟩ ⟨by omega, by omega⟩ (by decide)) wL_X12_346 vX12_within rfl npX12_within (by decide) (by decide) (Nat.le_of_ble_eq_true rfl) (by decide) (by decide) GK_E (fun v9 h9 hq => ?_) (fun E h9 hq => by cases hq.1)
  obtain ⟨e9, e8⟩ := hq
  cases e9
  rw [e8]
  show K mX12_count _ _ 0 0 13 [(0, vr 0), (1, vi 12)] [vi 1, vr 0] hu1
  refine K_iconst (dt_at dtX12_count 8 rfl) ?_
  refine K_callV (M' := mX12_right) (a := 0) (ci := 12) (As := [vi 1, vi 1]) (st := []) (dt_at dtX12_count 9 rfl) (sX12_right_t Gu1.2.2.2) (show TT 0 = (0, 12) from rfl) rfl wL_X12_260 vX12_right rfl npX12_right (by decide) (by decide) (Nat.le_of_ble_eq_true rfl) (by decide) (by decide) GK_E (fun v9 h9 hq => ?_) (fun E h9 hq => by cases hq.1)
  obtain ⟨e9, e8⟩ := hq
  cases e9
  rw [e8]
  show K mX12_count _ _ 0 0 17 [(0, vr 0), (1, vi 12)] [vi 1] hu1
  refine K_if_ne (tgt := 22) (dt_at dtX12_count 10 rfl) (by decide) (by first | assumption | exact ⟨by omega, by omega⟩) (fun c1 => ?_) (fun c1 => absurd c1 (by omega))
  refine K_iload_n (dt_at dtX12_count 13 rfl) rfl rfl ?_
  refine K_tableOut (tgt := 148) (dt_at dtX12_count 14 rfl) ⟨by decide, by decide⟩ (by decide) (by decide) ?_
  refine K_aload_n (dt_at dtX12_count 55 rfl) rfl rfl ?_
  refine K_get (a := 0) (ci := 12) (k := 15) (v := vr 8) (dt_at dtX12_count 56 rfl) (show TT 0 = (0, 12) from rfl) rfl (by decide) wF_X12_41 rfl ?_
  refine K_iload_n (dt_at dtX12_count 57 rfl) rfl rfl ?_
  refine K_bipush (dt_at dtX12_count 58 rfl) (by decide) ?_
  refine K_isub (dt_at dtX12_count 59 rfl) ?_
  refine K_iald (dt_at dtX12_count 60 rfl) (show TT 8 = (1, 3) from rfl) (by omega) (by omega) ?_
  rw [au1]
  exact K_iret (dt_at dtX12_count 61 rfl) rfl rfl (by decide) (by decide) ⟨rfl, Gu1.2.1, Gu1.2.2.2⟩
set_option maxHeartbeats 4000000 in
set_option maxRecDepth 100000 in
theorem sX12_count_13 {h : HP} {S : HS} {f : Int → Int} (Q0 : MAsk h S f) : SpecK mX12_count [vr 0, vi 13] h (fun o h' => o = .inl (some (vi (hA h 8 1))) ∧ FQ h h' ∧ hI h' 0 0 = 0) := by
  refine Spec_of (by decide +kernel) (Nat.le_of_ble_eq_true rfl) ?_
  have hB := Q0.1.1
  have hNt := hB.1
  have hNp := hB.2.1
  have R := Q0.2.2.2.2
  have hT := R.1
  have hW := hT.1
  have hC := R.2.1
  have hc := R.2.2.2.2.1
  refine K_aload_n (dt_at dtX12_count 0 rfl) rfl rfl ?_
  refine K_iconst (dt_at dtX12_count 1 rfl) ?_
  refine K_putI (a := 0) (ci := 12) (k := 0) (dt_at dtX12_count 2 rfl) (show TT 0 = (0, 12) from rfl) rfl (by decide) wF_X12_105 rfl (Or.inl rfl) rfl rfl ?_
  obtain ⟨hu1, eu1⟩ : ∃ z, z = sI h 0 0 0 := ⟨_, rfl⟩
  rw [← eu1]
  obtain ⟨iu1, fu1, au1, ru1⟩ := sI_fx eu1
  have Gu1 := MG_0 Q0 eu1
  refine K_aload_n (dt_at dtX12_count 3 rfl) rfl rfl ?_
  refine K_iload_n (dt_at dtX12_count 4 rfl) rfl rfl ?_
  refine K_iconst (dt_at dtX12_count 5 rfl) ?_
  refine K_bipush (dt_at dtX12_count 6 rfl) (by decide) ?_
  refine K_callS (M' := mX12_within) (As := [vi 13, vi 0, vi 14]) (st := [vr 0]) (dt_at dtX12_count 7 rfl) (sX12_within_t ⟨by omega, by omega⟩ ⟨by omega, by omega⟩ (by decide)) wL_X12_346 vX12_within rfl npX12_within (by decide) (by decide) (Nat.le_of_ble_eq_true rfl) (by decide) (by decide) GK_E (fun v9 h9 hq => ?_) (fun E h9 hq => by cases hq.1)
  obtain ⟨e9, e8⟩ := hq
  cases e9
  rw [e8]
  show K mX12_count _ _ 0 0 13 [(0, vr 0), (1, vi 13)] [vi 1, vr 0] hu1
  refine K_iconst (dt_at dtX12_count 8 rfl) ?_
  refine K_callV (M' := mX12_right) (a := 0) (ci := 12) (As := [vi 1, vi 1]) (st := []) (dt_at dtX12_count 9 rfl) (sX12_right_t Gu1.2.2.2) (show TT 0 = (0, 12) from rfl) rfl wL_X12_260 vX12_right rfl npX12_right (by decide) (by decide) (Nat.le_of_ble_eq_true rfl) (by decide) (by decide) GK_E (fun v9 h9 hq => ?_) (fun E h9 hq => by cases hq.1)
  obtain ⟨e9, e8⟩ := hq
  cases e9
  rw [e8]
  show K mX12_count _ _ 0 0 17 [(0, vr 0), (1, vi 13)] [vi 1] hu1
  refine K_if_ne (tgt := 22) (dt_at dtX12_count 10 rfl) (by decide) (by first | assumption | exact ⟨by omega, by omega⟩) (fun c1 => ?_) (fun c1 => absurd c1 (by omega))
  refine K_iload_n (dt_at dtX12_count 13 rfl) rfl rfl ?_
  refine K_tableOut (tgt := 148) (dt_at dtX12_count 14 rfl) ⟨by decide, by decide⟩ (by decide) (by decide) ?_
  refine K_aload_n (dt_at dtX12_count 55 rfl) rfl rfl ?_
  refine K_get (a := 0) (ci := 12) (k := 15) (v := vr 8) (dt_at dtX12_count 56 rfl) (show TT 0 = (0, 12) from rfl) rfl (by decide) wF_X12_41 rfl ?_
  refine K_iload_n (dt_at dtX12_count 57 rfl) rfl rfl ?_
  refine K_bipush (dt_at dtX12_count 58 rfl) (by decide) ?_
  refine K_isub (dt_at dtX12_count 59 rfl) ?_
  refine K_iald (dt_at dtX12_count 60 rfl) (show TT 8 = (1, 3) from rfl) (by omega) (by omega) ?_
  rw [au1]
  exact K_iret (dt_at dtX12_count 61 rfl) rfl rfl (by decide) (by decide) ⟨rfl, Gu1.2.1, Gu1.2.2.2⟩
set_option maxHeartbeats 4000000 in
set_option maxRecDepth 100000 in
theorem sX12_count_14 {h : HP} {S : HS} {f : Int → Int} (Q0 : MAsk h S f) : SpecK mX12_count [vr 0, vi 14] h (fun o h' => o = .inl (some (vi (hA h 8 2))) ∧ FQ h h' ∧ hI h' 0 0 = 0) := by
  refine Spec_of (by decide +kernel) (Nat.le_of_ble_eq_true rfl) ?_
  have hB := Q0.1.1
  have hNt := hB.1
  have hNp := hB.2.1
  have R := Q0.2.2.2.2
  have hT := R.1
  have hW := hT.1
  have hC := R.2.1
  have hc := R.2.2.2.2.1
  refine K_aload_n (dt_at dtX12_count 0 rfl) rfl rfl ?_
  refine K_iconst (dt_at dtX12_count 1 rfl) ?_
  refine K_putI (a := 0) (ci := 12) (k := 0) (dt_at dtX12_count 2 rfl) (show TT 0 = (0, 12) from rfl) rfl (by decide) wF_X12_105 rfl (Or.inl rfl) rfl rfl ?_
  obtain ⟨hu1, eu1⟩ : ∃ z, z = sI h 0 0 0 := ⟨_, rfl⟩
  rw [← eu1]
  obtain ⟨iu1, fu1, au1, ru1⟩ := sI_fx eu1
  have Gu1 := MG_0 Q0 eu1
  refine K_aload_n (dt_at dtX12_count 3 rfl) rfl rfl ?_
  refine K_iload_n (dt_at dtX12_count 4 rfl) rfl rfl ?_
  refine K_iconst (dt_at dtX12_count 5 rfl) ?_
  refine K_bipush (dt_at dtX12_count 6 rfl) (by decide) ?_
  refine K_callS (M' := mX12_within) (As := [vi 14, vi 0, vi 14]) (st := [vr 0]) (dt_at dtX12_count 7 rfl) (sX12_within_t ⟨by omega, by omega⟩ ⟨by omega, by omega⟩ (by decide)) wL_X12_346 vX12_within rfl npX12_within (by decide) (by decide) (Nat.le_of_ble_eq_true rfl) (by decide) (by decide) GK_E (fun v9 h9 hq => ?_) (fun E h9 hq => by cases hq.1)
  obtain ⟨e9, e8⟩ := hq
  cases e9
  rw [e8]
  show K mX12_count _ _ 0 0 13 [(0, vr 0), (1, vi 14)] [vi 1, vr 0] hu1
  refine K_iconst (dt_at dtX12_count 8 rfl) ?_
  refine K_callV (M' := mX12_right) (a := 0) (ci := 12) (As := [vi 1, vi 1]) (st := []) (dt_at dtX12_count 9 rfl) (sX12_right_t Gu1.2.2.2) (show TT 0 = (0, 12) from rfl) rfl wL_X12_260 vX12_right rfl npX12_right (by decide) (by decide) (Nat.le_of_ble_eq_true rfl) (by decide) (by decide) GK_E (fun v9 h9 hq => ?_) (fun E h9 hq => by cases hq.1)
  obtain ⟨e9, e8⟩ := hq
  cases e9
  rw [e8]
  show K mX12_count _ _ 0 0 17 [(0, vr 0), (1, vi 14)] [vi 1] hu1
  refine K_if_ne (tgt := 22) (dt_at dtX12_count 10 rfl) (by decide) (by first | assumption | exact ⟨by omega, by omega⟩) (fun c1 => ?_) (fun c1 => absurd c1 (by omega))
  refine K_iload_n (dt_at dtX12_count 13 rfl) rfl rfl ?_
  refine K_tableOut (tgt := 148) (dt_at dtX12_count 14 rfl) ⟨by decide, by decide⟩ (by decide) (by decide) ?_
  refine K_aload_n (dt_at dtX12_count 55 rfl) rfl rfl ?_
  refine K_get (a := 0) (ci := 12) (k := 15) (v := vr 8) (dt_at dtX12_count 56 rfl) (show TT 0 = (0, 12) from rfl) rfl (by decide) wF_X12_41 rfl ?_
  refine K_iload_n (dt_at dtX12_count 57 rfl) rfl rfl ?_
  refine K_bipush (dt_at dtX12_count 58 rfl) (by decide) ?_
  refine K_isub (dt_at dtX12_count 59 rfl) ?_
  refine K_iald (dt_at dtX12_count 60 rfl) (show TT 8 = (1, 3) from rfl) (by omega) (by omega) ?_
  rw [au1]
  exact K_iret (dt_at dtX12_count 61 rfl) rfl rfl (by decide) (by decide) ⟨rfl, Gu1.2.1, Gu1.2.2.2⟩
def mX12_thing : MI := (yX12_thing, cX12_thing, 3, (some .int), rmK 3 0)
def tX12_thing : List (Nat × Instr × Nat) := [(0, .aload_n 0, 1), (1, .iconst 0, 1), (2, .putfield 105, 3), (5, .aload_n 0, 1), (6, .iload_n 1, 1), (7, .invokevirtual 368, 3), (10, .ifCond .eq 12, 3), (13, .aload_n 0, 1), (14, .iload_n 2, 1), (15, .iconst 2, 1), (16, .invokevirtual 371, 3), (19, .ifCond .ne 5, 3), (22, .iconst 0, 1), (23, .ireturn, 1), (24, .iload_n 2, 1), (25, .ifCond .ne 12, 3), (28, .aload_n 0, 1), (29, .getfield 16, 3), (32, .iload_n 1, 1), (33, .iaload, 1), (34, .goto 26, 3), (37, .iload_n 2, 1), (38, .iconst 1, 1), (39, .if_icmp .ne 12, 3), (42, .aload_n 0, 1), (43, .getfield 20, 3), (46, .iload_n 1, 1), (47, .iaload, 1), (48, .goto 12, 3), (51, .aload_n 0, 1), (52, .getfield 72, 3), (55, .bipush 57, 2), (57, .iload_n 1, 1), (58, .iadd, 1), (59, .iaload, 1), (60, .ireturn, 1)]
theorem dtX12_thing : tX12_thing.all (fun q => decide (decode cX12_thing q.1 = .ok (q.2.1, q.2.2))) = true := by decide +kernel
theorem npX12_thing : (parseMethodDescriptor (mY mX12_thing).desc).map (fun d => d.parameters.length) = some 2 := by decide +kernel
theorem vX12_thing : mV mX12_thing := ⟨wI_X12_thing, wS_X12_thing, wN_X12, wC_X12_thing, by decide +kernel, by decide +kernel⟩
set_option maxHeartbeats 4000000 in
set_option maxRecDepth 100000 in
theorem sX12_thing_x1 {h : HP} {S : HS} {f : Int → Int} {q w : Int} (Q0 : MAsk h S f) (hq_ : i32 q) (hw_ : i32 w) (kn : ¬ (0 ≤ q ∧ q < sNt S)) : SpecK mX12_thing [vr 0, vi q, vi w] h (fun o h' => o = .inl (some (vi 0)) ∧ FQ h h' ∧ hI h' 0 0 = 1) := by
  refine Spec_of (by decide +kernel) (Nat.le_of_ble_eq_true rfl) ?_
  have hB := Q0.1.1
  have hNt := hB.1
  have hNp := hB.2.1
  have R := Q0.2.2.2.2
  have hT := R.1
  have hW := hT.1
  refine K_aload_n (dt_at dtX12_thing 0 rfl) rfl rfl ?_
  refine K_iconst (dt_at dtX12_thing 1 rfl) ?_
  refine K_putI (a := 0) (ci := 12) (k := 0) (dt_at dtX12_thing 2 rfl) (show TT 0 = (0, 12) from rfl) rfl (by decide) wF_X12_105 rfl (Or.inl rfl) rfl rfl ?_
  obtain ⟨hu1, eu1⟩ : ∃ z, z = sI h 0 0 0 := ⟨_, rfl⟩
  rw [← eu1]
  obtain ⟨iu1, fu1, au1, ru1⟩ := sI_fx eu1
  have Gu1 := MG_0 Q0 eu1
  refine K_aload_n (dt_at dtX12_thing 3 rfl) rfl rfl ?_
  refine K_iload_n (dt_at dtX12_thing 4 rfl) rfl rfl ?_
  refine K_callV (M' := mX12_isThing) (a := 0) (ci := 12) (As := [vi q]) (st := []) (dt_at dtX12_thing 5 rfl) (sX12_isThing_f (MD_nt (MG_D0 Gu1)) hNt Gu1.2.2.2 (by assumption) (by omega)) (show TT 0 = (0, 12) from rfl) rfl wL_X12_368 vX12_isThing rfl npX12_isThing (by decide) (by decide) (Nat.le_of_ble_eq_true rfl) (by decide) (by decide) GK_E (fun v9 hc2 hq => ?_) (fun E h9 hq => by cases hq.1)
  have hqq3 := hq
  obtain ⟨e9q3, e8q3⟩ := hqq3
  obtain ⟨iq3, fq3, aq3, rq3⟩ := sI_fx e8q3
  have Bq3 : FQ h hc2 := FQ_tr Gu1.2.1 (FQ_I e8q3 rfl Gu1.2.1.2.2.2.2)
  cases e9q3
  show K mX12_thing _ _ 0 0 10 [(0, vr 0), (1, vi q), (2, vi w)] [vi 0] hc2
  refine K_if_eq (tgt := 22) (dt_at dtX12_thing 6 rfl) (by decide) (by first | assumption | exact ⟨by omega, by omega⟩) (fun c1 => ?_) (fun c1 => absurd c1 (by omega))
  refine K_iconst (dt_at dtX12_thing 12 rfl) ?_
  exact K_iret (dt_at dtX12_thing 13 rfl) rfl rfl (by decide) (by decide) ⟨rfl, Bq3, iq3⟩
set_option maxHeartbeats 4000000 in
set_option maxRecDepth 100000 in
theorem sX12_thing_x2 {h : HP} {S : HS} {f : Int → Int} {q w : Int} (Q0 : MAsk h S f) (hq_ : i32 q) (hw_ : i32 w) (k0 : 0 ≤ q ∧ q < sNt S) (kn : ¬ (0 ≤ w ∧ w ≤ 2)) : SpecK mX12_thing [vr 0, vi q, vi w] h (fun o h' => o = .inl (some (vi 0)) ∧ FQ h h' ∧ hI h' 0 0 = 1) := by
  refine Spec_of (by decide +kernel) (Nat.le_of_ble_eq_true rfl) ?_
  have hB := Q0.1.1
  have hNt := hB.1
  have hNp := hB.2.1
  have R := Q0.2.2.2.2
  have hT := R.1
  have hW := hT.1
  refine K_aload_n (dt_at dtX12_thing 0 rfl) rfl rfl ?_
  refine K_iconst (dt_at dtX12_thing 1 rfl) ?_
  refine K_putI (a := 0) (ci := 12) (k := 0) (dt_at dtX12_thing 2 rfl) (show TT 0 = (0, 12) from rfl) rfl (by decide) wF_X12_105 rfl (Or.inl rfl) rfl rfl ?_
  obtain ⟨hu1, eu1⟩ : ∃ z, z = sI h 0 0 0 := ⟨_, rfl⟩
  rw [← eu1]
  obtain ⟨iu1, fu1, au1, ru1⟩ := sI_fx eu1
  have Gu1 := MG_0 Q0 eu1
  refine K_aload_n (dt_at dtX12_thing 3 rfl) rfl rfl ?_
  refine K_iload_n (dt_at dtX12_thing 4 rfl) rfl rfl ?_
  refine K_callV (M' := mX12_isThing) (a := 0) (ci := 12) (As := [vi q]) (st := []) (dt_at dtX12_thing 5 rfl) (sX12_isThing_t (MD_nt (MG_D0 Gu1)) hNt Gu1.2.2.2 (by omega)) (show TT 0 = (0, 12) from rfl) rfl wL_X12_368 vX12_isThing rfl npX12_isThing (by decide) (by decide) (Nat.le_of_ble_eq_true rfl) (by decide) (by decide) GK_E (fun v9 h9 hq => ?_) (fun E h9 hq => by cases hq.1)
  obtain ⟨e9, e8⟩ := hq
  cases e9
  rw [e8]
  show K mX12_thing _ _ 0 0 10 [(0, vr 0), (1, vi q), (2, vi w)] [vi 1] hu1
  refine K_if_eq (tgt := 22) (dt_at dtX12_thing 6 rfl) (by decide) (by first | assumption | exact ⟨by omega, by omega⟩) (fun c1 => absurd c1 (by omega)) (fun c1 => ?_)
  refine K_aload_n (dt_at dtX12_thing 7 rfl) rfl rfl ?_
  refine K_iload_n (dt_at dtX12_thing 8 rfl) rfl rfl ?_
  refine K_iconst (dt_at dtX12_thing 9 rfl) ?_
  refine K_callV (M' := mX12_isWhat) (a := 0) (ci := 12) (As := [vi w, vi 2]) (st := []) (dt_at dtX12_thing 10 rfl) (sX12_isWhat_f Gu1.2.2.2 (by decide) (by assumption) (by omega)) (show TT 0 = (0, 12) from rfl) rfl wL_X12_371 vX12_isWhat rfl npX12_isWhat (by decide) (by decide) (Nat.le_of_ble_eq_true rfl) (by decide) (by decide) GK_E (fun v9 hc2 hq => ?_) (fun E h9 hq => by cases hq.1)
  have hqq3 := hq
  obtain ⟨e9q3, e8q3⟩ := hqq3
  obtain ⟨iq3, fq3, aq3, rq3⟩ := sI_fx e8q3
  have Bq3 : FQ h hc2 := FQ_tr Gu1.2.1 (FQ_I e8q3 rfl Gu1.2.1.2.2.2.2)
  cases e9q3
  show K mX12_thing _ _ 0 0 19 [(0, vr 0), (1, vi q), (2, vi w)] [vi 0] hc2
  refine K_if_ne (tgt := 24) (dt_at dtX12_thing 11 rfl) (by decide) (by first | assumption | exact ⟨by omega, by omega⟩) (fun c2 => absurd c2 (by omega)) (fun c2 => ?_)
  refine K_iconst (dt_at dtX12_thing 12 rfl) ?_
  exact K_iret (dt_at dtX12_thing 13 rfl) rfl rfl (by decide) (by decide) ⟨rfl, Bq3, iq3⟩
set_option maxHeartbeats 4000000 in
set_option maxRecDepth 100000 in
theorem sX12_thing_0 {h : HP} {S : HS} {f : Int → Int} {q : Int} (Q0 : MAsk h S f) (hqt : 0 ≤ q ∧ q < sNt S) : SpecK mX12_thing [vr 0, vi q, vi 0] h (fun o h' => o = .inl (some (vi (sW S q))) ∧ FQ h h' ∧ hI h' 0 0 = 0) := by
  refine Spec_of (by decide +kernel) (Nat.le_of_ble_eq_true rfl) ?_
  have hB := Q0.1.1
  have hNt := hB.1
  have hNp := hB.2.1
  have R := Q0.2.2.2.2
  have hT := R.1
  have hW := hT.1
  refine K_aload_n (dt_at dtX12_thing 0 rfl) rfl rfl ?_
  refine K_iconst (dt_at dtX12_thing 1 rfl) ?_
  refine K_putI (a := 0) (ci := 12) (k := 0) (dt_at dtX12_thing 2 rfl) (show TT 0 = (0, 12) from rfl) rfl (by decide) wF_X12_105 rfl (Or.inl rfl) rfl rfl ?_
  obtain ⟨hu1, eu1⟩ : ∃ z, z = sI h 0 0 0 := ⟨_, rfl⟩
  rw [← eu1]
  obtain ⟨iu1, fu1, au1, ru1⟩ := sI_fx eu1
  have Gu1 := MG_0 Q0 eu1
  refine K_aload_n (dt_at dtX12_thing 3 rfl) rfl rfl ?_
  refine K_iload_n (dt_at dtX12_thing 4 rfl) rfl rfl ?_
  refine K_callV (M' := mX12_isThing) (a := 0) (ci := 12) (As := [vi q]) (st := []) (dt_at dtX12_thing 5 rfl) (sX12_isThing_t (MD_nt (MG_D0 Gu1)) hNt Gu1.2.2.2 (by omega)) (show TT 0 = (0, 12) from rfl) rfl wL_X12_368 vX12_isThing rfl npX12_isThing (by decide) (by decide) (Nat.le_of_ble_eq_true rfl) (by decide) (by decide) GK_E (fun v9 h9 hq => ?_) (fun E h9 hq => by cases hq.1)
  obtain ⟨e9, e8⟩ := hq
  cases e9
  rw [e8]
  show K mX12_thing _ _ 0 0 10 [(0, vr 0), (1, vi q), (2, vi 0)] [vi 1] hu1
  refine K_if_eq (tgt := 22) (dt_at dtX12_thing 6 rfl) (by decide) (by first | assumption | exact ⟨by omega, by omega⟩) (fun c1 => absurd c1 (by omega)) (fun c1 => ?_)
  refine K_aload_n (dt_at dtX12_thing 7 rfl) rfl rfl ?_
  refine K_iload_n (dt_at dtX12_thing 8 rfl) rfl rfl ?_
  refine K_iconst (dt_at dtX12_thing 9 rfl) ?_
  refine K_callV (M' := mX12_isWhat) (a := 0) (ci := 12) (As := [vi 0, vi 2]) (st := []) (dt_at dtX12_thing 10 rfl) (sX12_isWhat_t Gu1.2.2.2 (by omega) (by omega)) (show TT 0 = (0, 12) from rfl) rfl wL_X12_371 vX12_isWhat rfl npX12_isWhat (by decide) (by decide) (Nat.le_of_ble_eq_true rfl) (by decide) (by decide) GK_E (fun v9 h9 hq => ?_) (fun E h9 hq => by cases hq.1)
  obtain ⟨e9, e8⟩ := hq
  cases e9
  rw [e8]
  show K mX12_thing _ _ 0 0 19 [(0, vr 0), (1, vi q), (2, vi 0)] [vi 1] hu1
  refine K_if_ne (tgt := 24) (dt_at dtX12_thing 11 rfl) (by decide) (by first | assumption | exact ⟨by omega, by omega⟩) (fun c2 => ?_) (fun c2 => absurd c2 (by omega))
  refine K_iload_n (dt_at dtX12_thing 14 rfl) rfl rfl ?_
  refine K_if_ne (tgt := 37) (dt_at dtX12_thing 15 rfl) (by decide) (by first | assumption | exact ⟨by omega, by omega⟩) (fun c3 => absurd c3 (by omega)) (fun c3 => ?_)
  refine K_aload_n (dt_at dtX12_thing 16 rfl) rfl rfl ?_
  refine K_get (a := 0) (ci := 12) (k := 5) (v := vr 1) (dt_at dtX12_thing 17 rfl) (show TT 0 = (0, 12) from rfl) rfl (by decide) wF_X12_16 rfl ?_
  refine K_iload_n (dt_at dtX12_thing 18 rfl) rfl rfl ?_
  refine K_iald (dt_at dtX12_thing 19 rfl) (show TT 1 = (1, 6) from rfl) (by omega) (by omega) ?_
  rw [show hA hu1 1 q = sW S q from MD_w (MG_D0 Gu1) (by omega)]
  refine K_goto (tgt := 60) (dt_at dtX12_thing 20 rfl) (by decide) ?_
  exact K_iret (dt_at dtX12_thing 35 rfl) rfl rfl (by decide) (by decide) ⟨rfl, Gu1.2.1, Gu1.2.2.2⟩
set_option maxHeartbeats 4000000 in
set_option maxRecDepth 100000 in
theorem sX12_thing_1 {h : HP} {S : HS} {f : Int → Int} {q : Int} (Q0 : MAsk h S f) (hqt : 0 ≤ q ∧ q < sNt S) : SpecK mX12_thing [vr 0, vi q, vi 1] h (fun o h' => o = .inl (some (vi (sU S q))) ∧ FQ h h' ∧ hI h' 0 0 = 0) := by
  refine Spec_of (by decide +kernel) (Nat.le_of_ble_eq_true rfl) ?_
  have hB := Q0.1.1
  have hNt := hB.1
  have hNp := hB.2.1
  have R := Q0.2.2.2.2
  have hT := R.1
  have hW := hT.1
  refine K_aload_n (dt_at dtX12_thing 0 rfl) rfl rfl ?_
  refine K_iconst (dt_at dtX12_thing 1 rfl) ?_
  refine K_putI (a := 0) (ci := 12) (k := 0) (dt_at dtX12_thing 2 rfl) (show TT 0 = (0, 12) from rfl) rfl (by decide) wF_X12_105 rfl (Or.inl rfl) rfl rfl ?_
  obtain ⟨hu1, eu1⟩ : ∃ z, z = sI h 0 0 0 := ⟨_, rfl⟩
  rw [← eu1]
  obtain ⟨iu1, fu1, au1, ru1⟩ := sI_fx eu1
  have Gu1 := MG_0 Q0 eu1
  refine K_aload_n (dt_at dtX12_thing 3 rfl) rfl rfl ?_
  refine K_iload_n (dt_at dtX12_thing 4 rfl) rfl rfl ?_
  refine K_callV (M' := mX12_isThing) (a := 0) (ci := 12) (As := [vi q]) (st := []) (dt_at dtX12_thing 5 rfl) (sX12_isThing_t (MD_nt (MG_D0 Gu1)) hNt Gu1.2.2.2 (by omega)) (show TT 0 = (0, 12) from rfl) rfl wL_X12_368 vX12_isThing rfl npX12_isThing (by decide) (by decide) (Nat.le_of_ble_eq_true rfl) (by decide) (by decide) GK_E (fun v9 h9 hq => ?_) (fun E h9 hq => by cases hq.1)
  obtain ⟨e9, e8⟩ := hq
  cases e9
  rw [e8]
  show K mX12_thing _ _ 0 0 10 [(0, vr 0), (1, vi q), (2, vi 1)] [vi 1] hu1
  refine K_if_eq (tgt := 22) (dt_at dtX12_thing 6 rfl) (by decide) (by first | assumption | exact ⟨by omega, by omega⟩) (fun c1 => absurd c1 (by omega)) (fun c1 => ?_)
  refine K_aload_n (dt_at dtX12_thing 7 rfl) rfl rfl ?_
  refine K_iload_n (dt_at dtX12_thing 8 rfl) rfl rfl ?_
  refine K_iconst (dt_at dtX12_thing 9 rfl) ?_
  refine K_callV (M' := mX12_isWhat) (a := 0) (ci := 12) (As := [vi 1, vi 2]) (st := []) (dt_at dtX12_thing 10 rfl) (sX12_isWhat_t Gu1.2.2.2 (by omega) (by omega)) (show TT 0 = (0, 12) from rfl) rfl wL_X12_371 vX12_isWhat rfl npX12_isWhat (by decide) (by decide) (Nat.le_of_ble_eq_true rfl) (by decide) (by decide) GK_E (fun v9 h9 hq => ?_) (fun E h9 hq => by cases hq.1)
  obtain ⟨e9, e8⟩ := hq
  cases e9
  rw [e8]
  show K mX12_thing _ _ 0 0 19 [(0, vr 0), (1, vi q), (2, vi 1)] [vi 1] hu1
  refine K_if_ne (tgt := 24) (dt_at dtX12_thing 11 rfl) (by decide) (by first | assumption | exact ⟨by omega, by omega⟩) (fun c2 => ?_) (fun c2 => absurd c2 (by omega))
  refine K_iload_n (dt_at dtX12_thing 14 rfl) rfl rfl ?_
  refine K_if_ne (tgt := 37) (dt_at dtX12_thing 15 rfl) (by decide) (by first | assumption | exact ⟨by omega, by omega⟩) (fun c3 => ?_) (fun c3 => absurd c3 (by omega))
  refine K_iload_n (dt_at dtX12_thing 21 rfl) rfl rfl ?_
  refine K_iconst (dt_at dtX12_thing 22 rfl) ?_
  refine K_icmp_ne (tgt := 51) (dt_at dtX12_thing 23 rfl) (by decide) (by first | assumption | exact ⟨by omega, by omega⟩) (by first | assumption | exact ⟨by omega, by omega⟩) (fun c4 => absurd c4 (by omega)) (fun c4 => ?_)
  refine K_aload_n (dt_at dtX12_thing 24 rfl) rfl rfl ?_
  refine K_get (a := 0) (ci := 12) (k := 6) (v := vr 2) (dt_at dtX12_thing 25 rfl) (show TT 0 = (0, 12) from rfl) rfl (by decide) wF_X12_20 rfl ?_
  refine K_iload_n (dt_at dtX12_thing 26 rfl) rfl rfl ?_
  refine K_iald (dt_at dtX12_thing 27 rfl) (show TT 2 = (1, 6) from rfl) (by omega) (by omega) ?_
  rw [show hA hu1 2 q = sU S q from MD_u (MG_D0 Gu1) (by omega)]
  refine K_goto (tgt := 60) (dt_at dtX12_thing 28 rfl) (by decide) ?_
  exact K_iret (dt_at dtX12_thing 35 rfl) rfl rfl (by decide) (by decide) ⟨rfl, Gu1.2.1, Gu1.2.2.2⟩
set_option maxHeartbeats 4000000 in
set_option maxRecDepth 100000 in
theorem sX12_thing_2 {h : HP} {S : HS} {f : Int → Int} {q : Int} (Q0 : MAsk h S f) (hqt : 0 ≤ q ∧ q < sNt S) : SpecK mX12_thing [vr 0, vi q, vi 2] h (fun o h' => o = .inl (some (vi (f (29 + q)))) ∧ FQ h h' ∧ hI h' 0 0 = 0) := by
  refine Spec_of (by decide +kernel) (Nat.le_of_ble_eq_true rfl) ?_
  have hB := Q0.1.1
  have hNt := hB.1
  have hNp := hB.2.1
  have R := Q0.2.2.2.2
  have hT := R.1
  have hW := hT.1
  refine K_aload_n (dt_at dtX12_thing 0 rfl) rfl rfl ?_
  refine K_iconst (dt_at dtX12_thing 1 rfl) ?_
  refine K_putI (a := 0) (ci := 12) (k := 0) (dt_at dtX12_thing 2 rfl) (show TT 0 = (0, 12) from rfl) rfl (by decide) wF_X12_105 rfl (Or.inl rfl) rfl rfl ?_
  obtain ⟨hu1, eu1⟩ : ∃ z, z = sI h 0 0 0 := ⟨_, rfl⟩
  rw [← eu1]
  obtain ⟨iu1, fu1, au1, ru1⟩ := sI_fx eu1
  have Gu1 := MG_0 Q0 eu1
  refine K_aload_n (dt_at dtX12_thing 3 rfl) rfl rfl ?_
  refine K_iload_n (dt_at dtX12_thing 4 rfl) rfl rfl ?_
  refine K_callV (M' := mX12_isThing) (a := 0) (ci := 12) (As := [vi q]) (st := []) (dt_at dtX12_thing 5 rfl) (sX12_isThing_t (MD_nt (MG_D0 Gu1)) hNt Gu1.2.2.2 (by omega)) (show TT 0 = (0, 12) from rfl) rfl wL_X12_368 vX12_isThing rfl npX12_isThing (by decide) (by decide) (Nat.le_of_ble_eq_true rfl) (by decide) (by decide) GK_E (fun v9 h9 hq => ?_) (fun E h9 hq => by cases hq.1)
  obtain ⟨e9, e8⟩ := hq
  cases e9
  rw [e8]
  show K mX12_thing _ _ 0 0 10 [(0, vr 0), (1, vi q), (2, vi 2)] [vi 1] hu1
  refine K_if_eq (tgt := 22) (dt_at dtX12_thing 6 rfl) (by decide) (by first | assumption | exact ⟨by omega, by omega⟩) (fun c1 => absurd c1 (by omega)) (fun c1 => ?_)
  refine K_aload_n (dt_at dtX12_thing 7 rfl) rfl rfl ?_
  refine K_iload_n (dt_at dtX12_thing 8 rfl) rfl rfl ?_
  refine K_iconst (dt_at dtX12_thing 9 rfl) ?_
  refine K_callV (M' := mX12_isWhat) (a := 0) (ci := 12) (As := [vi 2, vi 2]) (st := []) (dt_at dtX12_thing 10 rfl) (sX12_isWhat_t Gu1.2.2.2 (by omega) (by omega)) (show TT 0 = (0, 12) from rfl) rfl wL_X12_371 vX12_isWhat rfl npX12_isWhat (by decide) (by decide) (Nat.le_of_ble_eq_true rfl) (by decide) (by decide) GK_E (fun v9 h9 hq => ?_) (fun E h9 hq => by cases hq.1)
  obtain ⟨e9, e8⟩ := hq
  cases e9
  rw [e8]
  show K mX12_thing _ _ 0 0 19 [(0, vr 0), (1, vi q), (2, vi 2)] [vi 1] hu1
  refine K_if_ne (tgt := 24) (dt_at dtX12_thing 11 rfl) (by decide) (by first | assumption | exact ⟨by omega, by omega⟩) (fun c2 => ?_) (fun c2 => absurd c2 (by omega))
  refine K_iload_n (dt_at dtX12_thing 14 rfl) rfl rfl ?_
  refine K_if_ne (tgt := 37) (dt_at dtX12_thing 15 rfl) (by decide) (by first | assumption | exact ⟨by omega, by omega⟩) (fun c3 => ?_) (fun c3 => absurd c3 (by omega))
  refine K_iload_n (dt_at dtX12_thing 21 rfl) rfl rfl ?_
  refine K_iconst (dt_at dtX12_thing 22 rfl) ?_
  refine K_icmp_ne (tgt := 51) (dt_at dtX12_thing 23 rfl) (by decide) (by first | assumption | exact ⟨by omega, by omega⟩) (by first | assumption | exact ⟨by omega, by omega⟩) (fun c4 => ?_) (fun c4 => absurd c4 (by omega))
  refine K_aload_n (dt_at dtX12_thing 29 rfl) rfl rfl ?_
  refine K_get (a := 0) (ci := 12) (k := 42) (v := vr 18) (dt_at dtX12_thing 30 rfl) (show TT 0 = (0, 12) from rfl) rfl (by decide) wF_X12_72 rfl ?_
  refine K_bipush (dt_at dtX12_thing 31 rfl) (by decide) ?_
  refine K_iload_n (dt_at dtX12_thing 32 rfl) rfl rfl ?_
  refine K_iadd (dt_at dtX12_thing 33 rfl) ?_
  refine K_iald (dt_at dtX12_thing 34 rfl) (show TT 18 = (1, 154) from rfl) (by omega) (by omega) ?_
  rw [show hA hu1 18 (57 + q) = (f (29 + q)) from RV_s (MG_D0 Gu1).2.2.2 (p := q) (by omega) (by omega)]
  exact K_iret (dt_at dtX12_thing 35 rfl) rfl rfl (by decide) (by decide) ⟨rfl, Gu1.2.1, Gu1.2.2.2⟩
def mX12_person : MI := (yX12_person, cX12_person, 3, (some .int), rmK 3 0)
def tX12_person : List (Nat × Instr × Nat) := [(0, .aload_n 0, 1), (1, .iconst 0, 1), (2, .putfield 105, 3), (5, .aload_n 0, 1), (6, .iload_n 1, 1), (7, .invokevirtual 375, 3), (10, .ifCond .eq 13, 3), (13, .aload_n 0, 1), (14, .iload_n 2, 1), (15, .bipush 9, 2), (17, .invokevirtual 371, 3), (20, .ifCond .ne 5, 3), (23, .iconst 0, 1), (24, .ireturn, 1), (25, .iload_n 2, 1), (26, .tableswitch 122 0 8 #[50, 57, 64, 71, 81, 91, 101, 110, 116], 50), (76, .aload_n 0, 1), (77, .getfield 23, 3), (80, .iload_n 1, 1), (81, .iaload, 1), (82, .ireturn, 1), (83, .aload_n 0, 1), (84, .getfield 26, 3), (87, .iload_n 1, 1), (88, .iaload, 1), (89, .ireturn, 1), (90, .aload_n 0, 1), (91, .getfield 29, 3), (94, .iload_n 1, 1), (95, .iaload, 1), (96, .ireturn, 1), (97, .aload_n 0, 1), (98, .getfield 72, 3), (101, .bipush 63, 2), (103, .iload_n 1, 1), (104, .iadd, 1), (105, .iaload, 1), (106, .ireturn, 1), (107, .aload_n 0, 1), (108, .getfield 72, 3), (111, .bipush 70, 2), (113, .iload_n 1, 1), (114, .iadd, 1), (115, .iaload, 1), (116, .ireturn, 1), (117, .aload_n 0, 1), (118, .getfield 72, 3), (121, .bipush 8, 2), (123, .iload_n 1, 1), (124, .iadd, 1), (125, .iaload, 1), (126, .ireturn, 1), (127, .aload_n 0, 1), (128, .getfield 72, 3), (131, .iconst 1, 1), (132, .iload_n 1, 1), (133, .iadd, 1), (134, .iaload, 1), (135, .ireturn, 1), (136, .aload_n 0, 1), (137, .iload_n 1, 1), (138, .invokevirtual 378, 3), (141, .ireturn, 1), (142, .aload_n 0, 1), (143, .iload_n 1, 1), (144, .invokevirtual 381, 3), (147, .ireturn, 1), (148, .aload_n 0, 1), (149, .iload_n 1, 1), (150, .invokevirtual 384, 3), (153, .ireturn, 1)]
theorem dtX12_person : tX12_person.all (fun q => decide (decode cX12_person q.1 = .ok (q.2.1, q.2.2))) = true := by decide +kernel
theorem npX12_person : (parseMethodDescriptor (mY mX12_person).desc).map (fun d => d.parameters.length) = some 2 := by decide +kernel
theorem vX12_person : mV mX12_person := ⟨wI_X12_person, wS_X12_person, wN_X12, wC_X12_person, by decide +kernel, by decide +kernel⟩
set_option maxHeartbeats 4000000 in
set_option maxRecDepth 100000 in
theorem sX12_person_x1 {h : HP} {S : HS} {f : Int → Int} {p w : Int} (Q0 : MAsk h S f) (hp_ : i32 p) (hw_ : i32 w) (kn : ¬ (0 ≤ p ∧ p < sNp S)) : SpecK mX12_person [vr 0, vi p, vi w] h (fun o h' => o = .inl (some (vi 0)) ∧ FQ h h' ∧ hI h' 0 0 = 1) := by
  refine Spec_of (by decide +kernel) (Nat.le_of_ble_eq_true rfl) ?_
  have hB := Q0.1.1
  have hNt := hB.1
  have hNp := hB.2.1
  have R := Q0.2.2.2.2
  have hT := R.1
  have hW := hT.1
  refine K_aload_n (dt_at dtX12_person 0 rfl) rfl rfl ?_
  refine K_iconst (dt_at dtX12_person 1 rfl) ?_
  refine K_putI (a := 0) (ci := 12) (k := 0) (dt_at dtX12_person 2 rfl) (show TT 0 = (0, 12) from rfl) rfl (by decide) wF_X12_105 rfl (Or.inl rfl) rfl rfl ?_
  obtain ⟨hu1, eu1⟩ : ∃ z, z = sI h 0 0 0 := ⟨_, rfl⟩
  rw [← eu1]
  obtain ⟨iu1, fu1, au1, ru1⟩ := sI_fx eu1
  have Gu1 := MG_0 Q0 eu1
  refine K_aload_n (dt_at dtX12_person 3 rfl) rfl rfl ?_
  refine K_iload_n (dt_at dtX12_person 4 rfl) rfl rfl ?_
  refine K_callV (M' := mX12_isPerson) (a := 0) (ci := 12) (As := [vi p]) (st := []) (dt_at dtX12_person 5 rfl) (sX12_isPerson_f (MD_np (MG_D0 Gu1)) hNp Gu1.2.2.2 (by assumption) (by omega)) (show TT 0 = (0, 12) from rfl) rfl wL_X12_375 vX12_isPerson rfl npX12_isPerson (by decide) (by decide) (Nat.le_of_ble_eq_true rfl) (by decide) (by decide) GK_E (fun v9 hc2 hq => ?_) (fun E h9 hq => by cases hq.1)
  have hqq3 := hq
  obtain ⟨e9q3, e8q3⟩ := hqq3
  obtain ⟨iq3, fq3, aq3, rq3⟩ := sI_fx e8q3
  have Bq3 : FQ h hc2 := FQ_tr Gu1.2.1 (FQ_I e8q3 rfl Gu1.2.1.2.2.2.2)
  cases e9q3
  show K mX12_person _ _ 0 0 10 [(0, vr 0), (1, vi p), (2, vi w)] [vi 0] hc2
  refine K_if_eq (tgt := 23) (dt_at dtX12_person 6 rfl) (by decide) (by first | assumption | exact ⟨by omega, by omega⟩) (fun c1 => ?_) (fun c1 => absurd c1 (by omega))
  refine K_iconst (dt_at dtX12_person 12 rfl) ?_
  exact K_iret (dt_at dtX12_person 13 rfl) rfl rfl (by decide) (by decide) ⟨rfl, Bq3, iq3⟩
set_option maxHeartbeats 4000000 in
set_option maxRecDepth 100000 in
theorem sX12_person_x2 {h : HP} {S : HS} {f : Int → Int} {p w : Int} (Q0 : MAsk h S f) (hp_ : i32 p) (hw_ : i32 w) (k0 : 0 ≤ p ∧ p < sNp S) (kn : ¬ (0 ≤ w ∧ w ≤ 9)) : SpecK mX12_person [vr 0, vi p, vi w] h (fun o h' => o = .inl (some (vi 0)) ∧ FQ h h' ∧ hI h' 0 0 = 1) := by
  refine Spec_of (by decide +kernel) (Nat.le_of_ble_eq_true rfl) ?_
  have hB := Q0.1.1
  have hNt := hB.1
  have hNp := hB.2.1
  have R := Q0.2.2.2.2
  have hT := R.1
  have hW := hT.1
  refine K_aload_n (dt_at dtX12_person 0 rfl) rfl rfl ?_
  refine K_iconst (dt_at dtX12_person 1 rfl) ?_
  refine K_putI (a := 0) (ci := 12) (k := 0) (dt_at dtX12_person 2 rfl) (show TT 0 = (0, 12) from rfl) rfl (by decide) wF_X12_105 rfl (Or.inl rfl) rfl rfl ?_
  obtain ⟨hu1, eu1⟩ : ∃ z, z = sI h 0 0 0 := ⟨_, rfl⟩
  rw [← eu1]
  obtain ⟨iu1, fu1, au1, ru1⟩ := sI_fx eu1
  have Gu1 := MG_0 Q0 eu1
  refine K_aload_n (dt_at dtX12_person 3 rfl) rfl rfl ?_
  refine K_iload_n (dt_at dtX12_person 4 rfl) rfl rfl ?_
  refine K_callV (M' := mX12_isPerson) (a := 0) (ci := 12) (As := [vi p]) (st := []) (dt_at dtX12_person 5 rfl) (sX12_isPerson_t (MD_np (MG_D0 Gu1)) hNp Gu1.2.2.2 (by omega)) (show TT 0 = (0, 12) from rfl) rfl wL_X12_375 vX12_isPerson rfl npX12_isPerson (by decide) (by decide) (Nat.le_of_ble_eq_true rfl) (by decide) (by decide) GK_E (fun v9 h9 hq => ?_) (fun E h9 hq => by cases hq.1)
  obtain ⟨e9, e8⟩ := hq
  cases e9
  rw [e8]
  show K mX12_person _ _ 0 0 10 [(0, vr 0), (1, vi p), (2, vi w)] [vi 1] hu1
  refine K_if_eq (tgt := 23) (dt_at dtX12_person 6 rfl) (by decide) (by first | assumption | exact ⟨by omega, by omega⟩) (fun c1 => absurd c1 (by omega)) (fun c1 => ?_)
  refine K_aload_n (dt_at dtX12_person 7 rfl) rfl rfl ?_
  refine K_iload_n (dt_at dtX12_person 8 rfl) rfl rfl ?_
  refine K_bipush (dt_at dtX12_person 9 rfl) (by decide) ?_
  refine K_callV (M' := mX12_isWhat) (a := 0) (ci := 12) (As := [vi w, vi 9]) (st := []) (dt_at dtX12_person 10 rfl) (sX12_isWhat_f Gu1.2.2.2 (by decide) (by assumption) (by omega)) (show TT 0 = (0, 12) from rfl) rfl wL_X12_371 vX12_isWhat rfl npX12_isWhat (by decide) (by decide) (Nat.le_of_ble_eq_true rfl) (by decide) (by decide) GK_E (fun v9 hc2 hq => ?_) (fun E h9 hq => by cases hq.1)
  have hqq3 := hq
  obtain ⟨e9q3, e8q3⟩ := hqq3
  obtain ⟨iq3, fq3, aq3, rq3⟩ := sI_fx e8q3
  have Bq3 : FQ h hc2 := FQ_tr Gu1.2.1 (FQ_I e8q3 rfl Gu1.2.1.2.2.2.2)
  cases e9q3
  show K mX12_person _ _ 0 0 20 [(0, vr 0), (1, vi p), (2, vi w)] [vi 0] hc2
  refine K_if_ne (tgt := 25) (dt_at dtX12_person 11 rfl) (by decide) (by first | assumption | exact ⟨by omega, by omega⟩) (fun c2 => absurd c2 (by omega)) (fun c2 => ?_)
  refine K_iconst (dt_at dtX12_person 12 rfl) ?_
  exact K_iret (dt_at dtX12_person 13 rfl) rfl rfl (by decide) (by decide) ⟨rfl, Bq3, iq3⟩
set_option maxHeartbeats 4000000 in
set_option maxRecDepth 100000 in
theorem sX12_person_0 {h : HP} {S : HS} {f : Int → Int} {p : Int} (Q0 : MAsk h S f) (hp : 0 ≤ p ∧ p < sNp S) : SpecK mX12_person [vr 0, vi p, vi 0] h (fun o h' => o = .inl (some (vi (sH S p))) ∧ FQ h h' ∧ hI h' 0 0 = 0) := by
  refine Spec_of (by decide +kernel) (Nat.le_of_ble_eq_true rfl) ?_
  have hB := Q0.1.1
  have hNt := hB.1
  have hNp := hB.2.1
  have R := Q0.2.2.2.2
  have hT := R.1
  have hW := hT.1
  refine K_aload_n (dt_at dtX12_person 0 rfl) rfl rfl ?_
  refine K_iconst (dt_at dtX12_person 1 rfl) ?_
  refine K_putI (a := 0) (ci := 12) (k := 0) (dt_at dtX12_person 2 rfl) (show TT 0 = (0, 12) from rfl) rfl (by decide) wF_X12_105 rfl (Or.inl rfl) rfl rfl ?_
  obtain ⟨hu1, eu1⟩ : ∃ z, z = sI h 0 0 0 := ⟨_, rfl⟩
  rw [← eu1]
  obtain ⟨iu1, fu1, au1, ru1⟩ := sI_fx eu1
  have Gu1 := MG_0 Q0 eu1
  refine K_aload_n (dt_at dtX12_person 3 rfl) rfl rfl ?_
  refine K_iload_n (dt_at dtX12_person 4 rfl) rfl rfl ?_
  refine K_callV (M' := mX12_isPerson) (a := 0) (ci := 12) (As := [vi p]) (st := []) (dt_at dtX12_person 5 rfl) (sX12_isPerson_t (MD_np (MG_D0 Gu1)) hNp Gu1.2.2.2 (by omega)) (show TT 0 = (0, 12) from rfl) rfl wL_X12_375 vX12_isPerson rfl npX12_isPerson (by decide) (by decide) (Nat.le_of_ble_eq_true rfl) (by decide) (by decide) GK_E (fun v9 h9 hq => ?_) (fun E h9 hq => by cases hq.1)
  obtain ⟨e9, e8⟩ := hq
  cases e9
  rw [e8]
  show K mX12_person _ _ 0 0 10 [(0, vr 0), (1, vi p), (2, vi 0)] [vi 1] hu1
  refine K_if_eq (tgt := 23) (dt_at dtX12_person 6 rfl) (by decide) (by first | assumption | exact ⟨by omega, by omega⟩) (fun c1 => absurd c1 (by omega)) (fun c1 => ?_)
  refine K_aload_n (dt_at dtX12_person 7 rfl) rfl rfl ?_
  refine K_iload_n (dt_at dtX12_person 8 rfl) rfl rfl ?_
  refine K_bipush (dt_at dtX12_person 9 rfl) (by decide) ?_
  refine K_callV (M' := mX12_isWhat) (a := 0) (ci := 12) (As := [vi 0, vi 9]) (st := []) (dt_at dtX12_person 10 rfl) (sX12_isWhat_t Gu1.2.2.2 (by omega) (by omega)) (show TT 0 = (0, 12) from rfl) rfl wL_X12_371 vX12_isWhat rfl npX12_isWhat (by decide) (by decide) (Nat.le_of_ble_eq_true rfl) (by decide) (by decide) GK_E (fun v9 h9 hq => ?_) (fun E h9 hq => by cases hq.1)
  obtain ⟨e9, e8⟩ := hq
  cases e9
  rw [e8]
  show K mX12_person _ _ 0 0 20 [(0, vr 0), (1, vi p), (2, vi 0)] [vi 1] hu1
  refine K_if_ne (tgt := 25) (dt_at dtX12_person 11 rfl) (by decide) (by first | assumption | exact ⟨by omega, by omega⟩) (fun c2 => ?_) (fun c2 => absurd c2 (by omega))
  refine K_iload_n (dt_at dtX12_person 14 rfl) rfl rfl ?_
  refine K_tableIn (tgt := 76) (dt_at dtX12_person 15 rfl) ⟨by decide, by decide⟩ (by decide) (by decide) rfl (by decide) ?_
  refine K_aload_n (dt_at dtX12_person 16 rfl) rfl rfl ?_
  refine K_get (a := 0) (ci := 12) (k := 7) (v := vr 3) (dt_at dtX12_person 17 rfl) (show TT 0 = (0, 12) from rfl) rfl (by decide) wF_X12_23 rfl ?_
  refine K_iload_n (dt_at dtX12_person 18 rfl) rfl rfl ?_
  refine K_iald (dt_at dtX12_person 19 rfl) (show TT 3 = (1, 7) from rfl) (by omega) (by omega) ?_
  rw [show hA hu1 3 p = sH S p from MD_h (MG_D0 Gu1) (by omega)]
  exact K_iret (dt_at dtX12_person 20 rfl) rfl rfl (by decide) (by decide) ⟨rfl, Gu1.2.1, Gu1.2.2.2⟩
set_option maxHeartbeats 4000000 in
set_option maxRecDepth 100000 in
theorem sX12_person_1 {h : HP} {S : HS} {f : Int → Int} {p : Int} (Q0 : MAsk h S f) (hp : 0 ≤ p ∧ p < sNp S) : SpecK mX12_person [vr 0, vi p, vi 1] h (fun o h' => o = .inl (some (vi (sE S p))) ∧ FQ h h' ∧ hI h' 0 0 = 0) := by
  refine Spec_of (by decide +kernel) (Nat.le_of_ble_eq_true rfl) ?_
  have hB := Q0.1.1
  have hNt := hB.1
  have hNp := hB.2.1
  have R := Q0.2.2.2.2
  have hT := R.1
  have hW := hT.1
  refine K_aload_n (dt_at dtX12_person 0 rfl) rfl rfl ?_
  refine K_iconst (dt_at dtX12_person 1 rfl) ?_
  refine K_putI (a := 0) (ci := 12) (k := 0) (dt_at dtX12_person 2 rfl) (show TT 0 = (0, 12) from rfl) rfl (by decide) wF_X12_105 rfl (Or.inl rfl) rfl rfl ?_
  obtain ⟨hu1, eu1⟩ : ∃ z, z = sI h 0 0 0 := ⟨_, rfl⟩
  rw [← eu1]
  obtain ⟨iu1, fu1, au1, ru1⟩ := sI_fx eu1
  have Gu1 := MG_0 Q0 eu1
  refine K_aload_n (dt_at dtX12_person 3 rfl) rfl rfl ?_
  refine K_iload_n (dt_at dtX12_person 4 rfl) rfl rfl ?_
  refine K_callV (M' := mX12_isPerson) (a := 0) (ci := 12) (As := [vi p]) (st := []) (dt_at dtX12_person 5 rfl) (sX12_isPerson_t (MD_np (MG_D0 Gu1)) hNp Gu1.2.2.2 (by omega)) (show TT 0 = (0, 12) from rfl) rfl wL_X12_375 vX12_isPerson rfl npX12_isPerson (by decide) (by decide) (Nat.le_of_ble_eq_true rfl) (by decide) (by decide) GK_E (fun v9 h9 hq => ?_) (fun E h9 hq => by cases hq.1)
  obtain ⟨e9, e8⟩ := hq
  cases e9
  rw [e8]
  show K mX12_person _ _ 0 0 10 [(0, vr 0), (1, vi p), (2, vi 1)] [vi 1] hu1
  refine K_if_eq (tgt := 23) (dt_at dtX12_person 6 rfl) (by decide) (by first | assumption | exact ⟨by omega, by omega⟩) (fun c1 => absurd c1 (by omega)) (fun c1 => ?_)
  refine K_aload_n (dt_at dtX12_person 7 rfl) rfl rfl ?_
  refine K_iload_n (dt_at dtX12_person 8 rfl) rfl rfl ?_
  refine K_bipush (dt_at dtX12_person 9 rfl) (by decide) ?_
  refine K_callV (M' := mX12_isWhat) (a := 0) (ci := 12) (As := [vi 1, vi 9]) (st := []) (dt_at dtX12_person 10 rfl) (sX12_isWhat_t Gu1.2.2.2 (by omega) (by omega)) (show TT 0 = (0, 12) from rfl) rfl wL_X12_371 vX12_isWhat rfl npX12_isWhat (by decide) (by decide) (Nat.le_of_ble_eq_true rfl) (by decide) (by decide) GK_E (fun v9 h9 hq => ?_) (fun E h9 hq => by cases hq.1)
  obtain ⟨e9, e8⟩ := hq
  cases e9
  rw [e8]
  show K mX12_person _ _ 0 0 20 [(0, vr 0), (1, vi p), (2, vi 1)] [vi 1] hu1
  refine K_if_ne (tgt := 25) (dt_at dtX12_person 11 rfl) (by decide) (by first | assumption | exact ⟨by omega, by omega⟩) (fun c2 => ?_) (fun c2 => absurd c2 (by omega))
  refine K_iload_n (dt_at dtX12_person 14 rfl) rfl rfl ?_
  refine K_tableIn (tgt := 83) (dt_at dtX12_person 15 rfl) ⟨by decide, by decide⟩ (by decide) (by decide) rfl (by decide) ?_
  refine K_aload_n (dt_at dtX12_person 21 rfl) rfl rfl ?_
  refine K_get (a := 0) (ci := 12) (k := 8) (v := vr 4) (dt_at dtX12_person 22 rfl) (show TT 0 = (0, 12) from rfl) rfl (by decide) wF_X12_26 rfl ?_
  refine K_iload_n (dt_at dtX12_person 23 rfl) rfl rfl ?_
  refine K_iald (dt_at dtX12_person 24 rfl) (show TT 4 = (1, 7) from rfl) (by omega) (by omega) ?_
  rw [show hA hu1 4 p = sE S p from MD_e (MG_D0 Gu1) (by omega)]
  exact K_iret (dt_at dtX12_person 25 rfl) rfl rfl (by decide) (by decide) ⟨rfl, Gu1.2.1, Gu1.2.2.2⟩
set_option maxHeartbeats 4000000 in
set_option maxRecDepth 100000 in
theorem sX12_person_2 {h : HP} {S : HS} {f : Int → Int} {p : Int} (Q0 : MAsk h S f) (hp : 0 ≤ p ∧ p < sNp S) : SpecK mX12_person [vr 0, vi p, vi 2] h (fun o h' => o = .inl (some (vi (sAw S p))) ∧ FQ h h' ∧ hI h' 0 0 = 0) := by
  refine Spec_of (by decide +kernel) (Nat.le_of_ble_eq_true rfl) ?_
  have hB := Q0.1.1
  have hNt := hB.1
  have hNp := hB.2.1
  have R := Q0.2.2.2.2
  have hT := R.1
  have hW := hT.1
  refine K_aload_n (dt_at dtX12_person 0 rfl) rfl rfl ?_
  refine K_iconst (dt_at dtX12_person 1 rfl) ?_
  refine K_putI (a := 0) (ci := 12) (k := 0) (dt_at dtX12_person 2 rfl) (show TT 0 = (0, 12) from rfl) rfl (by decide) wF_X12_105 rfl (Or.inl rfl) rfl rfl ?_
  obtain ⟨hu1, eu1⟩ : ∃ z, z = sI h 0 0 0 := ⟨_, rfl⟩
  rw [← eu1]
  obtain ⟨iu1, fu1, au1, ru1⟩ := sI_fx eu1
  have Gu1 := MG_0 Q0 eu1
  refine K_aload_n (dt_at dtX12_person 3 rfl) rfl rfl ?_
  refine K_iload_n (dt_at dtX12_person 4 rfl) rfl rfl ?_
  refine K_callV (M' := mX12_isPerson) (a := 0) (ci := 12) (As := [vi p]) (st := []) (dt_at dtX12_person 5 rfl) (sX12_isPerson_t (MD_np (MG_D0 Gu1)) hNp Gu1.2.2.2 (by omega)) (show TT 0 = (0, 12) from rfl) rfl wL_X12_375 vX12_isPerson rfl npX12_isPerson (by decide) (by decide) (Nat.le_of_ble_eq_true rfl) (by decide) (by decide) GK_E (fun v9 h9 hq => ?_) (fun E h9 hq => by cases hq.1)
  obtain ⟨e9, e8⟩ := hq
  cases e9
  rw [e8]
  show K mX12_person _ _ 0 0 10 [(0, vr 0), (1, vi p), (2, vi 2)] [vi 1] hu1
  refine K_if_eq (tgt := 23) (dt_at dtX12_person 6 rfl) (by decide) (by first | assumption | exact ⟨by omega, by omega⟩) (fun c1 => absurd c1 (by omega)) (fun c1 => ?_)
  refine K_aload_n (dt_at dtX12_person 7 rfl) rfl rfl ?_
  refine K_iload_n (dt_at dtX12_person 8 rfl) rfl rfl ?_
  refine K_bipush (dt_at dtX12_person 9 rfl) (by decide) ?_
  refine K_callV (M' := mX12_isWhat) (a := 0) (ci := 12) (As := [vi 2, vi 9]) (st := []) (dt_at dtX12_person 10 rfl) (sX12_isWhat_t Gu1.2.2.2 (by omega) (by omega)) (show TT 0 = (0, 12) from rfl) rfl wL_X12_371 vX12_isWhat rfl npX12_isWhat (by decide) (by decide) (Nat.le_of_ble_eq_true rfl) (by decide) (by decide) GK_E (fun v9 h9 hq => ?_) (fun E h9 hq => by cases hq.1)
  obtain ⟨e9, e8⟩ := hq
  cases e9
  rw [e8]
  show K mX12_person _ _ 0 0 20 [(0, vr 0), (1, vi p), (2, vi 2)] [vi 1] hu1
  refine K_if_ne (tgt := 25) (dt_at dtX12_person 11 rfl) (by decide) (by first | assumption | exact ⟨by omega, by omega⟩) (fun c2 => ?_) (fun c2 => absurd c2 (by omega))
  refine K_iload_n (dt_at dtX12_person 14 rfl) rfl rfl ?_
  refine K_tableIn (tgt := 90) (dt_at dtX12_person 15 rfl) ⟨by decide, by decide⟩ (by decide) (by decide) rfl (by decide) ?_
  refine K_aload_n (dt_at dtX12_person 26 rfl) rfl rfl ?_
  refine K_get (a := 0) (ci := 12) (k := 9) (v := vr 5) (dt_at dtX12_person 27 rfl) (show TT 0 = (0, 12) from rfl) rfl (by decide) wF_X12_29 rfl ?_
  refine K_iload_n (dt_at dtX12_person 28 rfl) rfl rfl ?_
  refine K_iald (dt_at dtX12_person 29 rfl) (show TT 5 = (1, 7) from rfl) (by omega) (by omega) ?_
  rw [show hA hu1 5 p = sAw S p from MD_a (MG_D0 Gu1) (by omega)]
  exact K_iret (dt_at dtX12_person 30 rfl) rfl rfl (by decide) (by decide) ⟨rfl, Gu1.2.1, Gu1.2.2.2⟩
set_option maxHeartbeats 4000000 in
set_option maxRecDepth 100000 in
theorem sX12_person_3 {h : HP} {S : HS} {f : Int → Int} {p : Int} (Q0 : MAsk h S f) (hp : 0 ≤ p ∧ p < sNp S) : SpecK mX12_person [vr 0, vi p, vi 3] h (fun o h' => o = .inl (some (vi (f (15 + p)))) ∧ FQ h h' ∧ hI h' 0 0 = 0) := by
  refine Spec_of (by decide +kernel) (Nat.le_of_ble_eq_true rfl) ?_
  have hB := Q0.1.1
  have hNt := hB.1
  have hNp := hB.2.1
  have R := Q0.2.2.2.2
  have hT := R.1
  have hW := hT.1
  refine K_aload_n (dt_at dtX12_person 0 rfl) rfl rfl ?_
  refine K_iconst (dt_at dtX12_person 1 rfl) ?_
  refine K_putI (a := 0) (ci := 12) (k := 0) (dt_at dtX12_person 2 rfl) (show TT 0 = (0, 12) from rfl) rfl (by decide) wF_X12_105 rfl (Or.inl rfl) rfl rfl ?_
  obtain ⟨hu1, eu1⟩ : ∃ z, z = sI h 0 0 0 := ⟨_, rfl⟩
  rw [← eu1]
  obtain ⟨iu1, fu1, au1, ru1⟩ := sI_fx eu1
  have Gu1 := MG_0 Q0 eu1
  refine K_aload_n (dt_at dtX12_person 3 rfl) rfl rfl ?_
  refine K_iload_n (dt_at dtX12_person 4 rfl) rfl rfl ?_
  refine K_callV (M' := mX12_isPerson) (a := 0) (ci := 12) (As := [vi p]) (st := []) (dt_at dtX12_person 5 rfl) (sX12_isPerson_t (MD_np (MG_D0 Gu1)) hNp Gu1.2.2.2 (by omega)) (show TT 0 = (0, 12) from rfl) rfl wL_X12_375 vX12_isPerson rfl npX12_isPerson (by decide) (by decide) (Nat.le_of_ble_eq_true rfl) (by decide) (by decide) GK_E (fun v9 h9 hq => ?_) (fun E h9 hq => by cases hq.1)
  obtain ⟨e9, e8⟩ := hq
  cases e9
  rw [e8]
  show K mX12_person _ _ 0 0 10 [(0, vr 0), (1, vi p), (2, vi 3)] [vi 1] hu1
  refine K_if_eq (tgt := 23) (dt_at dtX12_person 6 rfl) (by decide) (by first | assumption | exact ⟨by omega, by omega⟩) (fun c1 => absurd c1 (by omega)) (fun c1 => ?_)
  refine K_aload_n (dt_at dtX12_person 7 rfl) rfl rfl ?_
  refine K_iload_n (dt_at dtX12_person 8 rfl) rfl rfl ?_
  refine K_bipush (dt_at dtX12_person 9 rfl) (by decide) ?_
  refine K_callV (M' := mX12_isWhat) (a := 0) (ci := 12) (As := [vi 3, vi 9]) (st := []) (dt_at dtX12_person 10 rfl) (sX12_isWhat_t Gu1.2.2.2 (by omega) (by omega)) (show TT 0 = (0, 12) from rfl) rfl wL_X12_371 vX12_isWhat rfl npX12_isWhat (by decide) (by decide) (Nat.le_of_ble_eq_true rfl) (by decide) (by decide) GK_E (fun v9 h9 hq => ?_) (fun E h9 hq => by cases hq.1)
  obtain ⟨e9, e8⟩ := hq
  cases e9
  rw [e8]
  show K mX12_person _ _ 0 0 20 [(0, vr 0), (1, vi p), (2, vi 3)] [vi 1] hu1
  refine K_if_ne (tgt := 25) (dt_at dtX12_person 11 rfl) (by decide) (by first | assumption | exact ⟨by omega, by omega⟩) (fun c2 => ?_) (fun c2 => absurd c2 (by omega))
  refine K_iload_n (dt_at dtX12_person 14 rfl) rfl rfl ?_
  refine K_tableIn (tgt := 97) (dt_at dtX12_person 15 rfl) ⟨by decide, by decide⟩ (by decide) (by decide) rfl (by decide) ?_
  refine K_aload_n (dt_at dtX12_person 31 rfl) rfl rfl ?_
  refine K_get (a := 0) (ci := 12) (k := 42) (v := vr 18) (dt_at dtX12_person 32 rfl) (show TT 0 = (0, 12) from rfl) rfl (by decide) wF_X12_72 rfl ?_
  refine K_bipush (dt_at dtX12_person 33 rfl) (by decide) ?_
  refine K_iload_n (dt_at dtX12_person 34 rfl) rfl rfl ?_
  refine K_iadd (dt_at dtX12_person 35 rfl) ?_
  refine K_iald (dt_at dtX12_person 36 rfl) (show TT 18 = (1, 154) from rfl) (by omega) (by omega) ?_
  rw [show hA hu1 18 (63 + p) = (f (15 + p)) from RV_f (MG_D0 Gu1).2.2.2 (p := p) (by omega) (by omega)]
  exact K_iret (dt_at dtX12_person 37 rfl) rfl rfl (by decide) (by decide) ⟨rfl, Gu1.2.1, Gu1.2.2.2⟩
set_option maxHeartbeats 4000000 in
set_option maxRecDepth 100000 in
theorem sX12_person_4 {h : HP} {S : HS} {f : Int → Int} {p : Int} (Q0 : MAsk h S f) (hp : 0 ≤ p ∧ p < sNp S) : SpecK mX12_person [vr 0, vi p, vi 4] h (fun o h' => o = .inl (some (vi (f (22 + p)))) ∧ FQ h h' ∧ hI h' 0 0 = 0) := by
  refine Spec_of (by decide +kernel) (Nat.le_of_ble_eq_true rfl) ?_
  have hB := Q0.1.1
  have hNt := hB.1
  have hNp := hB.2.1
  have R := Q0.2.2.2.2
  have hT := R.1
  have hW := hT.1
  refine K_aload_n (dt_at dtX12_person 0 rfl) rfl rfl ?_
  refine K_iconst (dt_at dtX12_person 1 rfl) ?_
  refine K_putI (a := 0) (ci := 12) (k := 0) (dt_at dtX12_person 2 rfl) (show TT 0 = (0, 12) from rfl) rfl (by decide) wF_X12_105 rfl (Or.inl rfl) rfl rfl ?_
  obtain ⟨hu1, eu1⟩ : ∃ z, z = sI h 0 0 0 := ⟨_, rfl⟩
  rw [← eu1]
  obtain ⟨iu1, fu1, au1, ru1⟩ := sI_fx eu1
  have Gu1 := MG_0 Q0 eu1
  refine K_aload_n (dt_at dtX12_person 3 rfl) rfl rfl ?_
  refine K_iload_n (dt_at dtX12_person 4 rfl) rfl rfl ?_
  refine K_callV (M' := mX12_isPerson) (a := 0) (ci := 12) (As := [vi p]) (st := []) (dt_at dtX12_person 5 rfl) (sX12_isPerson_t (MD_np (MG_D0 Gu1)) hNp Gu1.2.2.2 (by omega)) (show TT 0 = (0, 12) from rfl) rfl wL_X12_375 vX12_isPerson rfl npX12_isPerson (by decide) (by decide) (Nat.le_of_ble_eq_true rfl) (by decide) (by decide) GK_E (fun v9 h9 hq => ?_) (fun E h9 hq => by cases hq.1)
  obtain ⟨e9, e8⟩ := hq
  cases e9
  rw [e8]
  show K mX12_person _ _ 0 0 10 [(0, vr 0), (1, vi p), (2, vi 4)] [vi 1] hu1
  refine K_if_eq (tgt := 23) (dt_at dtX12_person 6 rfl) (by decide) (by first | assumption | exact ⟨by omega, by omega⟩) (fun c1 => absurd c1 (by omega)) (fun c1 => ?_)
  refine K_aload_n (dt_at dtX12_person 7 rfl) rfl rfl ?_
  refine K_iload_n (dt_at dtX12_person 8 rfl) rfl rfl ?_
  refine K_bipush (dt_at dtX12_person 9 rfl) (by decide) ?_
  refine K_callV (M' := mX12_isWhat) (a := 0) (ci := 12) (As := [vi 4, vi 9]) (st := []) (dt_at dtX12_person 10 rfl) (sX12_isWhat_t Gu1.2.2.2 (by omega) (by omega)) (show TT 0 = (0, 12) from rfl) rfl wL_X12_371 vX12_isWhat rfl npX12_isWhat (by decide) (by decide) (Nat.le_of_ble_eq_true rfl) (by decide) (by decide) GK_E (fun v9 h9 hq => ?_) (fun E h9 hq => by cases hq.1)
  obtain ⟨e9, e8⟩ := hq
  cases e9
  rw [e8]
  show K mX12_person _ _ 0 0 20 [(0, vr 0), (1, vi p), (2, vi 4)] [vi 1] hu1
  refine K_if_ne (tgt := 25) (dt_at dtX12_person 11 rfl) (by decide) (by first | assumption | exact ⟨by omega, by omega⟩) (fun c2 => ?_) (fun c2 => absurd c2 (by omega))
  refine K_iload_n (dt_at dtX12_person 14 rfl) rfl rfl ?_
  refine K_tableIn (tgt := 107) (dt_at dtX12_person 15 rfl) ⟨by decide, by decide⟩ (by decide) (by decide) rfl (by decide) ?_
  refine K_aload_n (dt_at dtX12_person 38 rfl) rfl rfl ?_
  refine K_get (a := 0) (ci := 12) (k := 42) (v := vr 18) (dt_at dtX12_person 39 rfl) (show TT 0 = (0, 12) from rfl) rfl (by decide) wF_X12_72 rfl ?_
  refine K_bipush (dt_at dtX12_person 40 rfl) (by decide) ?_
  refine K_iload_n (dt_at dtX12_person 41 rfl) rfl rfl ?_
  refine K_iadd (dt_at dtX12_person 42 rfl) ?_
  refine K_iald (dt_at dtX12_person 43 rfl) (show TT 18 = (1, 154) from rfl) (by omega) (by omega) ?_
  rw [show hA hu1 18 (70 + p) = (f (22 + p)) from RV_k (MG_D0 Gu1).2.2.2 (p := p) (by omega) (by omega)]
  exact K_iret (dt_at dtX12_person 44 rfl) rfl rfl (by decide) (by decide) ⟨rfl, Gu1.2.1, Gu1.2.2.2⟩
set_option maxHeartbeats 4000000 in
set_option maxRecDepth 100000 in
theorem sX12_person_5 {h : HP} {S : HS} {f : Int → Int} {p : Int} (Q0 : MAsk h S f) (hp : 0 ≤ p ∧ p < sNp S) : SpecK mX12_person [vr 0, vi p, vi 5] h (fun o h' => o = .inl (some (vi (f (8 + p)))) ∧ FQ h h' ∧ hI h' 0 0 = 0) := by
  refine Spec_of (by decide +kernel) (Nat.le_of_ble_eq_true rfl) ?_
  have hB := Q0.1.1
  have hNt := hB.1
  have hNp := hB.2.1
  have R := Q0.2.2.2.2
  have hT := R.1
  have hW := hT.1
  refine K_aload_n (dt_at dtX12_person 0 rfl) rfl rfl ?_
  refine K_iconst (dt_at dtX12_person 1 rfl) ?_
  refine K_putI (a := 0) (ci := 12) (k := 0) (dt_at dtX12_person 2 rfl) (show TT 0 = (0, 12) from rfl) rfl (by decide) wF_X12_105 rfl (Or.inl rfl) rfl rfl ?_
  obtain ⟨hu1, eu1⟩ : ∃ z, z = sI h 0 0 0 := ⟨_, rfl⟩
  rw [← eu1]
  obtain ⟨iu1, fu1, au1, ru1⟩ := sI_fx eu1
  have Gu1 := MG_0 Q0 eu1
  refine K_aload_n (dt_at dtX12_person 3 rfl) rfl rfl ?_
  refine K_iload_n (dt_at dtX12_person 4 rfl) rfl rfl ?_
  refine K_callV (M' := mX12_isPerson) (a := 0) (ci := 12) (As := [vi p]) (st := []) (dt_at dtX12_person 5 rfl) (sX12_isPerson_t (MD_np (MG_D0 Gu1)) hNp Gu1.2.2.2 (by omega)) (show TT 0 = (0, 12) from rfl) rfl wL_X12_375 vX12_isPerson rfl npX12_isPerson (by decide) (by decide) (Nat.le_of_ble_eq_true rfl) (by decide) (by decide) GK_E (fun v9 h9 hq => ?_) (fun E h9 hq => by cases hq.1)
  obtain ⟨e9, e8⟩ := hq
  cases e9
  rw [e8]
  show K mX12_person _ _ 0 0 10 [(0, vr 0), (1, vi p), (2, vi 5)] [vi 1] hu1
  refine K_if_eq (tgt := 23) (dt_at dtX12_person 6 rfl) (by decide) (by first | assumption | exact ⟨by omega, by omega⟩) (fun c1 => absurd c1 (by omega)) (fun c1 => ?_)
  refine K_aload_n (dt_at dtX12_person 7 rfl) rfl rfl ?_
  refine K_iload_n (dt_at dtX12_person 8 rfl) rfl rfl ?_
  refine K_bipush (dt_at dtX12_person 9 rfl) (by decide) ?_
  refine K_callV (M' := mX12_isWhat) (a := 0) (ci := 12) (As := [vi 5, vi 9]) (st := []) (dt_at dtX12_person 10 rfl) (sX12_isWhat_t Gu1.2.2.2 (by omega) (by omega)) (show TT 0 = (0, 12) from rfl) rfl wL_X12_371 vX12_isWhat rfl npX12_isWhat (by decide) (by decide) (Nat.le_of_ble_eq_true rfl) (by decide) (by decide) GK_E (fun v9 h9 hq => ?_) (fun E h9 hq => by cases hq.1)
  obtain ⟨e9, e8⟩ := hq
  cases e9
  rw [e8]
  show K mX12_person _ _ 0 0 20 [(0, vr 0), (1, vi p), (2, vi 5)] [vi 1] hu1
  refine K_if_ne (tgt := 25) (dt_at dtX12_person 11 rfl) (by decide) (by first | assumption | exact ⟨by omega, by omega⟩) (fun c2 => ?_) (fun c2 => absurd c2 (by omega))
  refine K_iload_n (dt_at dtX12_person 14 rfl) rfl rfl ?_
  refine K_tableIn (tgt := 117) (dt_at dtX12_person 15 rfl) ⟨by decide, by decide⟩ (by decide) (by decide) rfl (by decide) ?_
  refine K_aload_n (dt_at dtX12_person 45 rfl) rfl rfl ?_
  refine K_get (a := 0) (ci := 12) (k := 42) (v := vr 18) (dt_at dtX12_person 46 rfl) (show TT 0 = (0, 12) from rfl) rfl (by decide) wF_X12_72 rfl ?_
  refine K_bipush (dt_at dtX12_person 47 rfl) (by decide) ?_
  refine K_iload_n (dt_at dtX12_person 48 rfl) rfl rfl ?_
  refine K_iadd (dt_at dtX12_person 49 rfl) ?_
  refine K_iald (dt_at dtX12_person 50 rfl) (show TT 18 = (1, 154) from rfl) (by omega) (by omega) ?_
  rw [show hA hu1 18 (8 + p) = (f (8 + p)) from RV_c (MG_D0 Gu1).2.2.2 (p := p) (by omega) (by omega)]
  exact K_iret (dt_at dtX12_person 51 rfl) rfl rfl (by decide) (by decide) ⟨rfl, Gu1.2.1, Gu1.2.2.2⟩
set_option maxHeartbeats 4000000 in
set_option maxRecDepth 100000 in
theorem sX12_person_6 {h : HP} {S : HS} {f : Int → Int} {p : Int} (Q0 : MAsk h S f) (hp : 0 ≤ p ∧ p < sNp S) : SpecK mX12_person [vr 0, vi p, vi 6] h (fun o h' => o = .inl (some (vi (f (1 + p)))) ∧ FQ h h' ∧ hI h' 0 0 = 0) := by
  refine Spec_of (by decide +kernel) (Nat.le_of_ble_eq_true rfl) ?_
  have hB := Q0.1.1
  have hNt := hB.1
  have hNp := hB.2.1
  have R := Q0.2.2.2.2
  have hT := R.1
  have hW := hT.1
  refine K_aload_n (dt_at dtX12_person 0 rfl) rfl rfl ?_
  refine K_iconst (dt_at dtX12_person 1 rfl) ?_
  refine K_putI (a := 0) (ci := 12) (k := 0) (dt_at dtX12_person 2 rfl) (show TT 0 = (0, 12) from rfl) rfl (by decide) wF_X12_105 rfl (Or.inl rfl) rfl rfl ?_
  obtain ⟨hu1, eu1⟩ : ∃ z, z = sI h 0 0 0 := ⟨_, rfl⟩
  rw [← eu1]
  obtain ⟨iu1, fu1, au1, ru1⟩ := sI_fx eu1
  have Gu1 := MG_0 Q0 eu1
  refine K_aload_n (dt_at dtX12_person 3 rfl) rfl rfl ?_
  refine K_iload_n (dt_at dtX12_person 4 rfl) rfl rfl ?_
  refine K_callV (M' := mX12_isPerson) (a := 0) (ci := 12) (As := [vi p]) (st := []) (dt_at dtX12_person 5 rfl) (sX12_isPerson_t (MD_np (MG_D0 Gu1)) hNp Gu1.2.2.2 (by omega)) (show TT 0 = (0, 12) from rfl) rfl wL_X12_375 vX12_isPerson rfl npX12_isPerson (by decide) (by decide) (Nat.le_of_ble_eq_true rfl) (by decide) (by decide) GK_E (fun v9 h9 hq => ?_) (fun E h9 hq => by cases hq.1)
  obtain ⟨e9, e8⟩ := hq
  cases e9
  rw [e8]
  show K mX12_person _ _ 0 0 10 [(0, vr 0), (1, vi p), (2, vi 6)] [vi 1] hu1
  refine K_if_eq (tgt := 23) (dt_at dtX12_person 6 rfl) (by decide) (by first | assumption | exact ⟨by omega, by omega⟩) (fun c1 => absurd c1 (by omega)) (fun c1 => ?_)
  refine K_aload_n (dt_at dtX12_person 7 rfl) rfl rfl ?_
  refine K_iload_n (dt_at dtX12_person 8 rfl) rfl rfl ?_
  refine K_bipush (dt_at dtX12_person 9 rfl) (by decide) ?_
  refine K_callV (M' := mX12_isWhat) (a := 0) (ci := 12) (As := [vi 6, vi 9]) (st := []) (dt_at dtX12_person 10 rfl) (sX12_isWhat_t Gu1.2.2.2 (by omega) (by omega)) (show TT 0 = (0, 12) from rfl) rfl wL_X12_371 vX12_isWhat rfl npX12_isWhat (by decide) (by decide) (Nat.le_of_ble_eq_true rfl) (by decide) (by decide) GK_E (fun v9 h9 hq => ?_) (fun E h9 hq => by cases hq.1)
  obtain ⟨e9, e8⟩ := hq
  cases e9
  rw [e8]
  show K mX12_person _ _ 0 0 20 [(0, vr 0), (1, vi p), (2, vi 6)] [vi 1] hu1
  refine K_if_ne (tgt := 25) (dt_at dtX12_person 11 rfl) (by decide) (by first | assumption | exact ⟨by omega, by omega⟩) (fun c2 => ?_) (fun c2 => absurd c2 (by omega))
  refine K_iload_n (dt_at dtX12_person 14 rfl) rfl rfl ?_
  refine K_tableIn (tgt := 127) (dt_at dtX12_person 15 rfl) ⟨by decide, by decide⟩ (by decide) (by decide) rfl (by decide) ?_
  refine K_aload_n (dt_at dtX12_person 52 rfl) rfl rfl ?_
  refine K_get (a := 0) (ci := 12) (k := 42) (v := vr 18) (dt_at dtX12_person 53 rfl) (show TT 0 = (0, 12) from rfl) rfl (by decide) wF_X12_72 rfl ?_
  refine K_iconst (dt_at dtX12_person 54 rfl) ?_
  refine K_iload_n (dt_at dtX12_person 55 rfl) rfl rfl ?_
  refine K_iadd (dt_at dtX12_person 56 rfl) ?_
  refine K_iald (dt_at dtX12_person 57 rfl) (show TT 18 = (1, 154) from rfl) (by omega) (by omega) ?_
  rw [show hA hu1 18 (1 + p) = (f (1 + p)) from RV_o (MG_D0 Gu1).2.2.2 (p := p) (by omega) (by omega)]
  exact K_iret (dt_at dtX12_person 58 rfl) rfl rfl (by decide) (by decide) ⟨rfl, Gu1.2.1, Gu1.2.2.2⟩
set_option maxHeartbeats 4000000 in
set_option maxRecDepth 100000 in
theorem sX12_person_7 {h : HP} {S : HS} {f : Int → Int} {p : Int} (Q0 : MAsk h S f) (hp : 0 ≤ p ∧ p < sNp S) : SpecK mX12_person [vr 0, vi p, vi 7] h (fun o h' => o = .inl (some (vi (bitN (fun j => decide (f (22 + (j : Int)) = p)) (sNp S)))) ∧ FQ h h' ∧ hI h' 0 0 = 0) := by
  refine Spec_of (by decide +kernel) (Nat.le_of_ble_eq_true rfl) ?_
  have hB := Q0.1.1
  have hNt := hB.1
  have hNp := hB.2.1
  have R := Q0.2.2.2.2
  have hT := R.1
  have hW := hT.1
  refine K_aload_n (dt_at dtX12_person 0 rfl) rfl rfl ?_
  refine K_iconst (dt_at dtX12_person 1 rfl) ?_
  refine K_putI (a := 0) (ci := 12) (k := 0) (dt_at dtX12_person 2 rfl) (show TT 0 = (0, 12) from rfl) rfl (by decide) wF_X12_105 rfl (Or.inl rfl) rfl rfl ?_
  obtain ⟨hu1, eu1⟩ : ∃ z, z = sI h 0 0 0 := ⟨_, rfl⟩
  rw [← eu1]
  obtain ⟨iu1, fu1, au1, ru1⟩ := sI_fx eu1
  have Gu1 := MG_0 Q0 eu1
  refine K_aload_n (dt_at dtX12_person 3 rfl) rfl rfl ?_
  refine K_iload_n (dt_at dtX12_person 4 rfl) rfl rfl ?_
  refine K_callV (M' := mX12_isPerson) (a := 0) (ci := 12) (As := [vi p]) (st := []) (dt_at dtX12_person 5 rfl) (sX12_isPerson_t (MD_np (MG_D0 Gu1)) hNp Gu1.2.2.2 (by omega)) (show TT 0 = (0, 12) from rfl) rfl wL_X12_375 vX12_isPerson rfl npX12_isPerson (by decide) (by decide) (Nat.le_of_ble_eq_true rfl) (by decide) (by decide) GK_E (fun v9 h9 hq => ?_) (fun E h9 hq => by cases hq.1)
  obtain ⟨e9, e8⟩ := hq
  cases e9
  rw [e8]
  show K mX12_person _ _ 0 0 10 [(0, vr 0), (1, vi p), (2, vi 7)] [vi 1] hu1
  refine K_if_eq (tgt := 23) (dt_at dtX12_person 6 rfl) (by decide) (by first | assumption | exact ⟨by omega, by omega⟩) (fun c1 => absurd c1 (by omega)) (fun c1 => ?_)
  refine K_aload_n (dt_at dtX12_person 7 rfl) rfl rfl ?_
  refine K_iload_n (dt_at dtX12_person 8 rfl) rfl rfl ?_
  refine K_bipush (dt_at dtX12_person 9 rfl) (by decide) ?_
  refine K_callV (M' := mX12_isWhat) (a := 0) (ci := 12) (As := [vi 7, vi 9]) (st := []) (dt_at dtX12_person 10 rfl) (sX12_isWhat_t Gu1.2.2.2 (by omega) (by omega)) (show TT 0 = (0, 12) from rfl) rfl wL_X12_371 vX12_isWhat rfl npX12_isWhat (by decide) (by decide) (Nat.le_of_ble_eq_true rfl) (by decide) (by decide) GK_E (fun v9 h9 hq => ?_) (fun E h9 hq => by cases hq.1)
  obtain ⟨e9, e8⟩ := hq
  cases e9
  rw [e8]
  show K mX12_person _ _ 0 0 20 [(0, vr 0), (1, vi p), (2, vi 7)] [vi 1] hu1
  refine K_if_ne (tgt := 25) (dt_at dtX12_person 11 rfl) (by decide) (by first | assumption | exact ⟨by omega, by omega⟩) (fun c2 => ?_) (fun c2 => absurd c2 (by omega))
  refine K_iload_n (dt_at dtX12_person 14 rfl) rfl rfl ?_
  refine K_tableIn (tgt := 136) (dt_at dtX12_person 15 rfl) ⟨by decide, by decide⟩ (by decide) (by decide) rfl (by decide) ?_
  refine K_aload_n (dt_at dtX12_person 59 rfl) rfl rfl ?_
  refine K_iload_n (dt_at dtX12_person 60 rfl) rfl rfl ?_
  refine K_callV (M' := mX12_packsFor) (a := 0) (ci := 12) (As := [vi p]) (st := []) (dt_at dtX12_person 61 rfl) (sX12_packsFor (MG_D0 Gu1) hW ⟨by omega, by omega⟩) (show TT 0 = (0, 12) from rfl) rfl wL_X12_378 vX12_packsFor rfl npX12_packsFor (by decide) (by decide) (Nat.le_of_ble_eq_true rfl) (by decide) (by decide) GK_E (fun v9 h9 hq => ?_) (fun E h9 hq => by cases hq.1)
  obtain ⟨e9, e8⟩ := hq
  cases e9
  rw [e8]
  show K mX12_person _ _ 0 0 141 [(0, vr 0), (1, vi p), (2, vi 7)] [vi (bitN (fun j => decide (f (22 + (j : Int)) = p)) (sNp S))] hu1
  exact K_iret (dt_at dtX12_person 62 rfl) rfl rfl (by decide) (by decide) ⟨rfl, Gu1.2.1, Gu1.2.2.2⟩
set_option maxHeartbeats 4000000 in
set_option maxRecDepth 100000 in
theorem sX12_person_8 {h : HP} {S : HS} {f : Int → Int} {p : Int} (Q0 : MAsk h S f) (hp : 0 ≤ p ∧ p < sNp S) : SpecK mX12_person [vr 0, vi p, vi 8] h (fun o h' => o = .inl (some (vi (ringF f p (sNp S) (f (22 + p)) 0))) ∧ FQ h h' ∧ hI h' 0 0 = 0) := by
  refine Spec_of (by decide +kernel) (Nat.le_of_ble_eq_true rfl) ?_
  have hB := Q0.1.1
  have hNt := hB.1
  have hNp := hB.2.1
  have R := Q0.2.2.2.2
  have hT := R.1
  have hW := hT.1
  obtain ⟨A, a1, a2⟩ := rg_of hB hW R.2.2.2.2.2 hp
  refine K_aload_n (dt_at dtX12_person 0 rfl) rfl rfl ?_
  refine K_iconst (dt_at dtX12_person 1 rfl) ?_
  refine K_putI (a := 0) (ci := 12) (k := 0) (dt_at dtX12_person 2 rfl) (show TT 0 = (0, 12) from rfl) rfl (by decide) wF_X12_105 rfl (Or.inl rfl) rfl rfl ?_
  obtain ⟨hu1, eu1⟩ : ∃ z, z = sI h 0 0 0 := ⟨_, rfl⟩
  rw [← eu1]
  obtain ⟨iu1, fu1, au1, ru1⟩ := sI_fx eu1
  have Gu1 := MG_0 Q0 eu1
  refine K_aload_n (dt_at dtX12_person 3 rfl) rfl rfl ?_
  refine K_iload_n (dt_at dtX12_person 4 rfl) rfl rfl ?_
  refine K_callV (M' := mX12_isPerson) (a := 0) (ci := 12) (As := [vi p]) (st := []) (dt_at dtX12_person 5 rfl) (sX12_isPerson_t (MD_np (MG_D0 Gu1)) hNp Gu1.2.2.2 (by omega)) (show TT 0 = (0, 12) from rfl) rfl wL_X12_375 vX12_isPerson rfl npX12_isPerson (by decide) (by decide) (Nat.le_of_ble_eq_true rfl) (by decide) (by decide) GK_E (fun v9 h9 hq => ?_) (fun E h9 hq => by cases hq.1)
  obtain ⟨e9, e8⟩ := hq
  cases e9
  rw [e8]
  show K mX12_person _ _ 0 0 10 [(0, vr 0), (1, vi p), (2, vi 8)] [vi 1] hu1
  refine K_if_eq (tgt := 23) (dt_at dtX12_person 6 rfl) (by decide) (by first | assumption | exact ⟨by omega, by omega⟩) (fun c1 => absurd c1 (by omega)) (fun c1 => ?_)
  refine K_aload_n (dt_at dtX12_person 7 rfl) rfl rfl ?_
  refine K_iload_n (dt_at dtX12_person 8 rfl) rfl rfl ?_
  refine K_bipush (dt_at dtX12_person 9 rfl) (by decide) ?_
  refine K_callV (M' := mX12_isWhat) (a := 0) (ci := 12) (As := [vi 8, vi 9]) (st := []) (dt_at dtX12_person 10 rfl) (sX12_isWhat_t Gu1.2.2.2 (by omega) (by omega)) (show TT 0 = (0, 12) from rfl) rfl wL_X12_371 vX12_isWhat rfl npX12_isWhat (by decide) (by decide) (Nat.le_of_ble_eq_true rfl) (by decide) (by decide) GK_E (fun v9 h9 hq => ?_) (fun E h9 hq => by cases hq.1)
  obtain ⟨e9, e8⟩ := hq
  cases e9
  rw [e8]
  show K mX12_person _ _ 0 0 20 [(0, vr 0), (1, vi p), (2, vi 8)] [vi 1] hu1
  refine K_if_ne (tgt := 25) (dt_at dtX12_person 11 rfl) (by decide) (by first | assumption | exact ⟨by omega, by omega⟩) (fun c2 => ?_) (fun c2 => absurd c2 (by omega))
  refine K_iload_n (dt_at dtX12_person 14 rfl) rfl rfl ?_
  refine K_tableIn (tgt := 142) (dt_at dtX12_person 15 rfl) ⟨by decide, by decide⟩ (by decide) (by decide) rfl (by decide) ?_
  refine K_aload_n (dt_at dtX12_person 63 rfl) rfl rfl ?_
  refine K_iload_n (dt_at dtX12_person 64 rfl) rfl rfl ?_
  refine K_callV (M' := mX12_ring) (a := 0) (ci := 12) (As := [vi p]) (st := []) (dt_at dtX12_person 65 rfl) (sX12_ring (MG_D0 Gu1) hW (by omega) a1) (show TT 0 = (0, 12) from rfl) rfl wL_X12_381 vX12_ring rfl npX12_ring (by decide) (by decide) (Nat.le_of_ble_eq_true rfl) (by decide) (by decide) GK_E (fun v9 h9 hq => ?_) (fun E h9 hq => by cases hq.1)
  obtain ⟨e9, e8⟩ := hq
  cases e9
  rw [e8]
  show K mX12_person _ _ 0 0 147 [(0, vr 0), (1, vi p), (2, vi 8)] [vi (if bAnd (bShr A p) 1 = 1 then A else 0)] hu1
  exact K_iret (dt_at dtX12_person 66 rfl) rfl rfl (by decide) (by decide) ⟨by rw [a2], Gu1.2.1, Gu1.2.2.2⟩
set_option maxHeartbeats 4000000 in
set_option maxRecDepth 100000 in
theorem sX12_person_9 {h : HP} {S : HS} {f : Int → Int} {p : Int} (Q0 : MAsk h S f) (hp : 0 ≤ p ∧ p < sNp S) : SpecK mX12_person [vr 0, vi p, vi 9] h (fun o h' => o = .inl (some (vi (chainF f (sNp S) (f (22 + p)) 0))) ∧ FQ h h' ∧ hI h' 0 0 = 0) := by
  refine Spec_of (by decide +kernel) (Nat.le_of_ble_eq_true rfl) ?_
  have hB := Q0.1.1
  have hNt := hB.1
  have hNp := hB.2.1
  have R := Q0.2.2.2.2
  have hT := R.1
  have hW := hT.1
  refine K_aload_n (dt_at dtX12_person 0 rfl) rfl rfl ?_
  refine K_iconst (dt_at dtX12_person 1 rfl) ?_
  refine K_putI (a := 0) (ci := 12) (k := 0) (dt_at dtX12_person 2 rfl) (show TT 0 = (0, 12) from rfl) rfl (by decide) wF_X12_105 rfl (Or.inl rfl) rfl rfl ?_
  obtain ⟨hu1, eu1⟩ : ∃ z, z = sI h 0 0 0 := ⟨_, rfl⟩
  rw [← eu1]
  obtain ⟨iu1, fu1, au1, ru1⟩ := sI_fx eu1
  have Gu1 := MG_0 Q0 eu1
  refine K_aload_n (dt_at dtX12_person 3 rfl) rfl rfl ?_
  refine K_iload_n (dt_at dtX12_person 4 rfl) rfl rfl ?_
  refine K_callV (M' := mX12_isPerson) (a := 0) (ci := 12) (As := [vi p]) (st := []) (dt_at dtX12_person 5 rfl) (sX12_isPerson_t (MD_np (MG_D0 Gu1)) hNp Gu1.2.2.2 (by omega)) (show TT 0 = (0, 12) from rfl) rfl wL_X12_375 vX12_isPerson rfl npX12_isPerson (by decide) (by decide) (Nat.le_of_ble_eq_true rfl) (by decide) (by decide) GK_E (fun v9 h9 hq => ?_) (fun E h9 hq => by cases hq.1)
  obtain ⟨e9, e8⟩ := hq
  cases e9
  rw [e8]
  show K mX12_person _ _ 0 0 10 [(0, vr 0), (1, vi p), (2, vi 9)] [vi 1] hu1
  refine K_if_eq (tgt := 23) (dt_at dtX12_person 6 rfl) (by decide) (by first | assumption | exact ⟨by omega, by omega⟩) (fun c1 => absurd c1 (by omega)) (fun c1 => ?_)
  refine K_aload_n (dt_at dtX12_person 7 rfl) rfl rfl ?_
  refine K_iload_n (dt_at dtX12_person 8 rfl) rfl rfl ?_
  refine K_bipush (dt_at dtX12_person 9 rfl) (by decide) ?_
  refine K_callV (M' := mX12_isWhat) (a := 0) (ci := 12) (As := [vi 9, vi 9]) (st := []) (dt_at dtX12_person 10 rfl) (sX12_isWhat_t Gu1.2.2.2 (by omega) (by omega)) (show TT 0 = (0, 12) from rfl) rfl wL_X12_371 vX12_isWhat rfl npX12_isWhat (by decide) (by decide) (Nat.le_of_ble_eq_true rfl) (by decide) (by decide) GK_E (fun v9 h9 hq => ?_) (fun E h9 hq => by cases hq.1)
  obtain ⟨e9, e8⟩ := hq
  cases e9
  rw [e8]
  show K mX12_person _ _ 0 0 20 [(0, vr 0), (1, vi p), (2, vi 9)] [vi 1] hu1
  refine K_if_ne (tgt := 25) (dt_at dtX12_person 11 rfl) (by decide) (by first | assumption | exact ⟨by omega, by omega⟩) (fun c2 => ?_) (fun c2 => absurd c2 (by omega))
  refine K_iload_n (dt_at dtX12_person 14 rfl) rfl rfl ?_
  refine K_tableOut (tgt := 148) (dt_at dtX12_person 15 rfl) ⟨by decide, by decide⟩ (by decide) (by decide) ?_
  refine K_aload_n (dt_at dtX12_person 67 rfl) rfl rfl ?_
  refine K_iload_n (dt_at dtX12_person 68 rfl) rfl rfl ?_
  refine K_callV (M' := mX12_chain) (a := 0) (ci := 12) (As := [vi p]) (st := []) (dt_at dtX12_person 69 rfl) (sX12_chain (MG_D0 Gu1) hW (by omega)) (show TT 0 = (0, 12) from rfl) rfl wL_X12_384 vX12_chain rfl npX12_chain (by decide) (by decide) (Nat.le_of_ble_eq_true rfl) (by decide) (by decide) GK_E (fun v9 h9 hq => ?_) (fun E h9 hq => by cases hq.1)
  obtain ⟨e9, e8⟩ := hq
  cases e9
  rw [e8]
  show K mX12_person _ _ 0 0 153 [(0, vr 0), (1, vi p), (2, vi 9)] [vi (chainF f (sNp S) (f (22 + p)) 0)] hu1
  exact K_iret (dt_at dtX12_person 70 rfl) rfl rfl (by decide) (by decide) ⟨rfl, Gu1.2.1, Gu1.2.2.2⟩
def mX12_in : MI := (yX12_in, cX12_in, 3, (some .int), rmK 3 0)
def tX12_in : List (Nat × Instr × Nat) := [(0, .aload_n 0, 1), (1, .iconst 0, 1), (2, .putfield 105, 3), (5, .aload_n 0, 1), (6, .iload_n 1, 1), (7, .invokevirtual 375, 3), (10, .ifCond .eq 26, 3), (13, .aload_n 0, 1), (14, .iload_n 2, 1), (15, .invokevirtual 368, 3), (18, .ifCond .eq 18, 3), (21, .aload_n 0, 1), (22, .getfield 72, 3), (25, .aload_n 0, 1), (26, .iconst 0, 1), (27, .iload_n 1, 1), (28, .iload_n 2, 1), (29, .invokevirtual 291, 3), (32, .iaload, 1), (33, .goto 4, 3), (36, .iconst 0, 1), (37, .ireturn, 1)]
theorem dtX12_in : tX12_in.all (fun q => decide (decode cX12_in q.1 = .ok (q.2.1, q.2.2))) = true := by decide +kernel
theorem npX12_in : (parseMethodDescriptor (mY mX12_in).desc).map (fun d => d.parameters.length) = some 2 := by decide +kernel
theorem vX12_in : mV mX12_in := ⟨wI_X12_in, wS_X12_in, wN_X12, wC_X12_in, by decide +kernel, by decide +kernel⟩
set_option maxHeartbeats 4000000 in
set_option maxRecDepth 100000 in
theorem sX12_in_x1 {h : HP} {S : HS} {f : Int → Int} {p q : Int} (Q0 : MAsk h S f) (hp_ : i32 p) (hq_ : i32 q) (kn : ¬ (0 ≤ p ∧ p < sNp S)) : SpecK mX12_in [vr 0, vi p, vi q] h (fun o h' => o = .inl (some (vi 0)) ∧ FQ h h' ∧ hI h' 0 0 = 1) := by
  refine Spec_of (by decide +kernel) (Nat.le_of_ble_eq_true rfl) ?_
  have hB := Q0.1.1
  have hNt := hB.1
  have hNp := hB.2.1
  have R := Q0.2.2.2.2
  have hT := R.1
  have hW := hT.1
  refine K_aload_n (dt_at dtX12_in 0 rfl) rfl rfl ?_
  refine K_iconst (dt_at dtX12_in 1 rfl) ?_
  refine K_putI (a := 0) (ci := 12) (k := 0) (dt_at dtX12_in 2 rfl) (show TT 0 = (0, 12) from rfl) rfl (by decide) wF_X12_105 rfl (Or.inl rfl) rfl rfl ?_
  obtain ⟨hu1, eu1⟩ : ∃ z, z = sI h 0 0 0 := ⟨_, rfl⟩
  rw [← eu1]
  obtain ⟨iu1, fu1, au1, ru1⟩ := sI_fx eu1
  have Gu1 := MG_0 Q0 eu1
  refine K_aload_n (dt_at dtX12_in 3 rfl) rfl rfl ?_
  refine K_iload_n (dt_at dtX12_in 4 rfl) rfl rfl ?_
  refine K_callV (M' := mX12_isPerson) (a := 0) (ci := 12) (As := [vi p]) (st := []) (dt_at dtX12_in 5 rfl) (sX12_isPerson_f (MD_np (MG_D0 Gu1)) hNp Gu1.2.2.2 (by assumption) (by omega)) (show TT 0 = (0, 12) from rfl) rfl wL_X12_375 vX12_isPerson rfl npX12_isPerson (by decide) (by decide) (Nat.le_of_ble_eq_true rfl) (by decide) (by decide) GK_E (fun v9 hc2 hq => ?_) (fun E h9 hq => by cases hq.1)
  have hqq3 := hq
  obtain ⟨e9q3, e8q3⟩ := hqq3
  obtain ⟨iq3, fq3, aq3, rq3⟩ := sI_fx e8q3
  have Bq3 : FQ h hc2 := FQ_tr Gu1.2.1 (FQ_I e8q3 rfl Gu1.2.1.2.2.2.2)
  cases e9q3
  show K mX12_in _ _ 0 0 10 [(0, vr 0), (1, vi p), (2, vi q)] [vi 0] hc2
  refine K_if_eq (tgt := 36) (dt_at dtX12_in 6 rfl) (by decide) (by first | assumption | exact ⟨by omega, by omega⟩) (fun c1 => ?_) (fun c1 => absurd c1 (by omega))
  refine K_iconst (dt_at dtX12_in 20 rfl) ?_
  exact K_iret (dt_at dtX12_in 21 rfl) rfl rfl (by decide) (by decide) ⟨rfl, Bq3, iq3⟩
set_option maxHeartbeats 4000000 in
set_option maxRecDepth 100000 in
theorem sX12_in_x2 {h : HP} {S : HS} {f : Int → Int} {p q : Int} (Q0 : MAsk h S f) (hp_ : i32 p) (hq_ : i32 q) (k0 : 0 ≤ p ∧ p < sNp S) (kn : ¬ (0 ≤ q ∧ q < sNt S)) : SpecK mX12_in [vr 0, vi p, vi q] h (fun o h' => o = .inl (some (vi 0)) ∧ FQ h h' ∧ hI h' 0 0 = 1) := by
  refine Spec_of (by decide +kernel) (Nat.le_of_ble_eq_true rfl) ?_
  have hB := Q0.1.1
  have hNt := hB.1
  have hNp := hB.2.1
  have R := Q0.2.2.2.2
  have hT := R.1
  have hW := hT.1
  refine K_aload_n (dt_at dtX12_in 0 rfl) rfl rfl ?_
  refine K_iconst (dt_at dtX12_in 1 rfl) ?_
  refine K_putI (a := 0) (ci := 12) (k := 0) (dt_at dtX12_in 2 rfl) (show TT 0 = (0, 12) from rfl) rfl (by decide) wF_X12_105 rfl (Or.inl rfl) rfl rfl ?_
  obtain ⟨hu1, eu1⟩ : ∃ z, z = sI h 0 0 0 := ⟨_, rfl⟩
  rw [← eu1]
  obtain ⟨iu1, fu1, au1, ru1⟩ := sI_fx eu1
  have Gu1 := MG_0 Q0 eu1
  refine K_aload_n (dt_at dtX12_in 3 rfl) rfl rfl ?_
  refine K_iload_n (dt_at dtX12_in 4 rfl) rfl rfl ?_
  refine K_callV (M' := mX12_isPerson) (a := 0) (ci := 12) (As := [vi p]) (st := []) (dt_at dtX12_in 5 rfl) (sX12_isPerson_t (MD_np (MG_D0 Gu1)) hNp Gu1.2.2.2 (by omega)) (show TT 0 = (0, 12) from rfl) rfl wL_X12_375 vX12_isPerson rfl npX12_isPerson (by decide) (by decide) (Nat.le_of_ble_eq_true rfl) (by decide) (by decide) GK_E (fun v9 h9 hq => ?_) (fun E h9 hq => by cases hq.1)
  obtain ⟨e9, e8⟩ := hq
  cases e9
  rw [e8]
  show K mX12_in _ _ 0 0 10 [(0, vr 0), (1, vi p), (2, vi q)] [vi 1] hu1
  refine K_if_eq (tgt := 36) (dt_at dtX12_in 6 rfl) (by decide) (by first | assumption | exact ⟨by omega, by omega⟩) (fun c1 => absurd c1 (by omega)) (fun c1 => ?_)
  refine K_aload_n (dt_at dtX12_in 7 rfl) rfl rfl ?_
  refine K_iload_n (dt_at dtX12_in 8 rfl) rfl rfl ?_
  refine K_callV (M' := mX12_isThing) (a := 0) (ci := 12) (As := [vi q]) (st := []) (dt_at dtX12_in 9 rfl) (sX12_isThing_f (MD_nt (MG_D0 Gu1)) hNt Gu1.2.2.2 (by assumption) (by omega)) (show TT 0 = (0, 12) from rfl) rfl wL_X12_368 vX12_isThing rfl npX12_isThing (by decide) (by decide) (Nat.le_of_ble_eq_true rfl) (by decide) (by decide) GK_E (fun v9 hc2 hq => ?_) (fun E h9 hq => by cases hq.1)
  have hqq3 := hq
  obtain ⟨e9q3, e8q3⟩ := hqq3
  obtain ⟨iq3, fq3, aq3, rq3⟩ := sI_fx e8q3
  have Bq3 : FQ h hc2 := FQ_tr Gu1.2.1 (FQ_I e8q3 rfl Gu1.2.1.2.2.2.2)
  cases e9q3
  show K mX12_in _ _ 0 0 18 [(0, vr 0), (1, vi p), (2, vi q)] [vi 0] hc2
  refine K_if_eq (tgt := 36) (dt_at dtX12_in 10 rfl) (by decide) (by first | assumption | exact ⟨by omega, by omega⟩) (fun c2 => ?_) (fun c2 => absurd c2 (by omega))
  refine K_iconst (dt_at dtX12_in 20 rfl) ?_
  exact K_iret (dt_at dtX12_in 21 rfl) rfl rfl (by decide) (by decide) ⟨rfl, Bq3, iq3⟩
set_option maxHeartbeats 4000000 in
set_option maxRecDepth 100000 in
theorem sX12_in {h : HP} {S : HS} {f : Int → Int} {p q : Int} (Q0 : MAsk h S f) (hp : 0 ≤ p ∧ p < sNp S) (hqt : 0 ≤ q ∧ q < sNt S) : SpecK mX12_in [vr 0, vi p, vi q] h (fun o h' => o = .inl (some (vi (f (35 + f (8 + p) * 6 + q)))) ∧ FQ h h' ∧ hI h' 0 0 = 0) := by
  refine Spec_of (by decide +kernel) (Nat.le_of_ble_eq_true rfl) ?_
  have hB := Q0.1.1
  have hNt := hB.1
  have hNp := hB.2.1
  have R := Q0.2.2.2.2
  have hT := R.1
  have hW := hT.1
  have wc := (hW.2 p (by omega) (by omega)).2.1
  refine K_aload_n (dt_at dtX12_in 0 rfl) rfl rfl ?_
  refine K_iconst (dt_at dtX12_in 1 rfl) ?_
  refine K_putI (a := 0) (ci := 12) (k := 0) (dt_at dtX12_in 2 rfl) (show TT 0 = (0, 12) from rfl) rfl (by decide) wF_X12_105 rfl (Or.inl rfl) rfl rfl ?_
  obtain ⟨hu1, eu1⟩ : ∃ z, z = sI h 0 0 0 := ⟨_, rfl⟩
  rw [← eu1]
  obtain ⟨iu1, fu1, au1, ru1⟩ := sI_fx eu1
  have Gu1 := MG_0 Q0 eu1
  refine K_aload_n (dt_at dtX12_in 3 rfl) rfl rfl ?_
  refine K_iload_n (dt_at dtX12_in 4 rfl) rfl rfl ?_
  refine K_callV (M' := mX12_isPerson) (a := 0) (ci := 12) (As := [vi p]) (st := []) (dt_at dtX12_in 5 rfl) (sX12_isPerson_t (MD_np (MG_D0 Gu1)) hNp Gu1.2.2.2 (by omega)) (show TT 0 = (0, 12) from rfl) rfl wL_X12_375 vX12_isPerson rfl npX12_isPerson (by decide) (by decide) (Nat.le_of_ble_eq_true rfl) (by decide) (by decide) GK_E (fun v9 h9 hq => ?_) (fun E h9 hq => by cases hq.1)
  obtain ⟨e9, e8⟩ := hq
  cases e9
  rw [e8]
  show K mX12_in _ _ 0 0 10 [(0, vr 0), (1, vi p), (2, vi q)] [vi 1] hu1
  refine K_if_eq (tgt := 36) (dt_at dtX12_in 6 rfl) (by decide) (by first | assumption | exact ⟨by omega, by omega⟩) (fun c1 => absurd c1 (by omega)) (fun c1 => ?_)
  refine K_aload_n (dt_at dtX12_in 7 rfl) rfl rfl ?_
  refine K_iload_n (dt_at dtX12_in 8 rfl) rfl rfl ?_
  refine K_callV (M' := mX12_isThing) (a := 0) (ci := 12) (As := [vi q]) (st := []) (dt_at dtX12_in 9 rfl) (sX12_isThing_t (MD_nt (MG_D0 Gu1)) hNt Gu1.2.2.2 (by omega)) (show TT 0 = (0, 12) from rfl) rfl wL_X12_368 vX12_isThing rfl npX12_isThing (by decide) (by decide) (Nat.le_of_ble_eq_true rfl) (by decide) (by decide) GK_E (fun v9 h9 hq => ?_) (fun E h9 hq => by cases hq.1)
  obtain ⟨e9, e8⟩ := hq
  cases e9
  rw [e8]
  show K mX12_in _ _ 0 0 18 [(0, vr 0), (1, vi p), (2, vi q)] [vi 1] hu1
  refine K_if_eq (tgt := 36) (dt_at dtX12_in 10 rfl) (by decide) (by first | assumption | exact ⟨by omega, by omega⟩) (fun c2 => absurd c2 (by omega)) (fun c2 => ?_)
  refine K_aload_n (dt_at dtX12_in 11 rfl) rfl rfl ?_
  refine K_get (a := 0) (ci := 12) (k := 42) (v := vr 18) (dt_at dtX12_in 12 rfl) (show TT 0 = (0, 12) from rfl) rfl (by decide) wF_X12_72 rfl ?_
  refine K_aload_n (dt_at dtX12_in 13 rfl) rfl rfl ?_
  refine K_iconst (dt_at dtX12_in 14 rfl) ?_
  refine K_iload_n (dt_at dtX12_in 15 rfl) rfl rfl ?_
  refine K_iload_n (dt_at dtX12_in 16 rfl) rfl rfl ?_
  refine K_callV (M' := mX12_pieceAt) (a := 0) (ci := 12) (As := [vi 0, vi p, vi q]) (st := [vr 18]) (dt_at dtX12_in 17 rfl) (sX12_pieceAt (MG_D0 Gu1) hW (by omega)) (show TT 0 = (0, 12) from rfl) rfl wL_X12_291 vX12_pieceAt rfl npX12_pieceAt (by decide) (by decide) (Nat.le_of_ble_eq_true rfl) (by decide) (by decide) GK_E (fun v9 h9 hq => ?_) (fun E h9 hq => by cases hq.1)
  obtain ⟨e9, e8⟩ := hq
  cases e9
  rw [e8]
  show K mX12_in _ _ 0 0 32 [(0, vr 0), (1, vi p), (2, vi q)] [vi (0 + 15 + 6 * f (8 + p) + q), vr 18] hu1
  refine K_iald (dt_at dtX12_in 18 rfl) (show TT 18 = (1, 154) from rfl) (by omega) (by omega) ?_
  rw [show hA hu1 18 (0 + 15 + 6 * f (8 + p) + q) = (f (35 + f (8 + p) * 6 + q)) from RV_i (MG_D0 Gu1).2.2.2 (c := f (8 + p)) (t := q) (by omega) (by omega) (by omega)]
  refine K_goto (tgt := 37) (dt_at dtX12_in 19 rfl) (by decide) ?_
  exact K_iret (dt_at dtX12_in 21 rfl) rfl rfl (by decide) (by decide) ⟨rfl, Gu1.2.1, Gu1.2.2.2⟩
def mX12_toHold : MI := (yX12_toHold, cX12_toHold, 3, (some .int), rmK 1 0)
def tX12_toHold : List (Nat × Instr × Nat) := [(0, .aload_n 0, 1), (1, .iconst 0, 1), (2, .putfield 105, 3), (5, .iconst 0, 1), (6, .istore_n 1, 1), (7, .iconst 0, 1), (8, .istore_n 2, 1), (9, .iload_n 2, 1), (10, .aload_n 0, 1), (11, .getfield 267, 3), (14, .if_icmp .ge 41, 3), (17, .iload_n 1, 1), (18, .aload_n 0, 1), (19, .getfield 20, 3), (22, .iload_n 2, 1), (23, .iaload, 1), (24, .ifCond .ne 7, 3), (27, .iconst 0, 1), (28, .goto 19, 3), (31, .aload_n 0, 1), (32, .getfield 16, 3), (35, .iload_n 2, 1), (36, .iaload, 1), (37, .aload_n 0, 1), (38, .getfield 72, 3), (41, .bipush 57, 2), (43, .iload_n 2, 1), (44, .iadd, 1), (45, .iaload, 1), (46, .imul, 1), (47, .iadd, 1), (48, .istore_n 1, 1), (49, .iinc 2 1, 3), (52, .goto (-43), 3), (55, .iload_n 1, 1), (56, .ireturn, 1)]
theorem dtX12_toHold : tX12_toHold.all (fun q => decide (decode cX12_toHold q.1 = .ok (q.2.1, q.2.2))) = true := by decide +kernel
theorem npX12_toHold : (parseMethodDescriptor (mY mX12_toHold).desc).map (fun d => d.parameters.length) = some 0 := by decide +kernel
theorem vX12_toHold : mV mX12_toHold := ⟨wI_X12_toHold, wS_X12_toHold, wN_X12, wC_X12_toHold, by decide +kernel, by decide +kernel⟩
set_option maxHeartbeats 4000000 in
set_option maxRecDepth 100000 in
theorem lp_X12_toHold {h hh : HP} {S : HS} {f g : Int → Int} (Q0 : MAsk h S f) (G : MG h hh S f g) : ∀ (dd k : Nat), k + dd = (sNt S) → K mX12_toHold GK (ZK (fun o h' => o = .inl (some (vi (itN (fun k v => if sU S (k : Int) = 0 then v else v + sW S (k : Int) * f (29 + (k : Int))) 0 (sNt S)))) ∧ FQ h h' ∧ hI h' 0 0 = 0) 0 0) 0 0 9 [(2, vi (k : Int)), (1, vi (itN (fun k v => if sU S (k : Int) = 0 then v else v + sW S (k : Int) * f (29 + (k : Int))) 0 k)), (0, vr 0)] [] hh := by
  intro dd
  induction dd with
  | zero =>
    intro k hk
    have hB := Q0.1.1
    have hNt := hB.1
    have hNp := hB.2.1
    have R := Q0.2.2.2.2
    have hT := R.1
    have hW := hT.1
    have ek : k = (sNt S) := by omega
    subst ek
    refine K_iload_n (dt_at dtX12_toHold 7 rfl) rfl rfl ?_
    refine K_aload_n (dt_at dtX12_toHold 8 rfl) rfl rfl ?_
    refine K_get (a := 0) (ci := 12) (k := 1) (v := vi (sNt S : Int)) (dt_at dtX12_toHold 9 rfl) (show TT 0 = (0, 12) from rfl) rfl (by decide) wF_X12_267 (by show vi (hI hh 0 1) = vi (sNt S : Int); rw [(MD_nt (MG_D0 G))]) ?_
    refine K_icmp_ge (tgt := 55) (dt_at dtX12_toHold 10 rfl) (by decide) (by first | assumption | exact ⟨by omega, by omega⟩) (by first | assumption | exact ⟨by omega, by omega⟩) (fun c1 => ?_) (fun c1 => absurd c1 (by omega))
    refine K_iload_n (dt_at dtX12_toHold 34 rfl) rfl rfl ?_
    exact K_iret (dt_at dtX12_toHold 35 rfl) rfl rfl (by decide) (by decide) ⟨rfl, G.2.1, G.2.2.2⟩
  | succ dd ih =>
    intro k hk
    have hB := Q0.1.1
    have hNt := hB.1
    have hNp := hB.2.1
    have R := Q0.2.2.2.2
    have hT := R.1
    have hW := hT.1
    have wu := (hB.2.2.1 (k : Int) (by omega) (by omega)).2
    refine K_iload_n (dt_at dtX12_toHold 7 rfl) rfl rfl ?_
    refine K_aload_n (dt_at dtX12_toHold 8 rfl) rfl rfl ?_
    refine K_get (a := 0) (ci := 12) (k := 1) (v := vi (sNt S : Int)) (dt_at dtX12_toHold 9 rfl) (show TT 0 = (0, 12) from rfl) rfl (by decide) wF_X12_267 (by show vi (hI hh 0 1) = vi (sNt S : Int); rw [(MD_nt (MG_D0 G))]) ?_
    refine K_icmp_ge (tgt := 55) (dt_at dtX12_toHold 10 rfl) (by decide) (by first | assumption | exact ⟨by omega, by omega⟩) (by first | assumption | exact ⟨by omega, by omega⟩) (fun c1 => absurd c1 (by omega)) (fun c1 => ?_)
    refine K_iload_n (dt_at dtX12_toHold 11 rfl) rfl rfl ?_
    refine K_aload_n (dt_at dtX12_toHold 12 rfl) rfl rfl ?_
    refine K_get (a := 0) (ci := 12) (k := 6) (v := vr 2) (dt_at dtX12_toHold 13 rfl) (show TT 0 = (0, 12) from rfl) rfl (by decide) wF_X12_20 rfl ?_
    refine K_iload_n (dt_at dtX12_toHold 14 rfl) rfl rfl ?_
    refine K_iald (dt_at dtX12_toHold 15 rfl) (show TT 2 = (1, 6) from rfl) (by omega) (by omega) ?_
    rw [show hA hh 2 (k : Int) = sU S (k : Int) from MD_u (MG_D0 G) (by omega)]
    refine K_if_ne (tgt := 31) (dt_at dtX12_toHold 16 rfl) (by decide) (by first | assumption | exact ⟨by omega, by omega⟩) (fun c2 => ?_) (fun c2 => ?_)
    · refine K_aload_n (dt_at dtX12_toHold 19 rfl) rfl rfl ?_
      refine K_get (a := 0) (ci := 12) (k := 5) (v := vr 1) (dt_at dtX12_toHold 20 rfl) (show TT 0 = (0, 12) from rfl) rfl (by decide) wF_X12_16 rfl ?_
      refine K_iload_n (dt_at dtX12_toHold 21 rfl) rfl rfl ?_
      refine K_iald (dt_at dtX12_toHold 22 rfl) (show TT 1 = (1, 6) from rfl) (by omega) (by omega) ?_
      rw [show hA hh 1 (k : Int) = sW S (k : Int) from MD_w (MG_D0 G) (by omega)]
      refine K_aload_n (dt_at dtX12_toHold 23 rfl) rfl rfl ?_
      refine K_get (a := 0) (ci := 12) (k := 42) (v := vr 18) (dt_at dtX12_toHold 24 rfl) (show TT 0 = (0, 12) from rfl) rfl (by decide) wF_X12_72 rfl ?_
      refine K_bipush (dt_at dtX12_toHold 25 rfl) (by decide) ?_
      refine K_iload_n (dt_at dtX12_toHold 26 rfl) rfl rfl ?_
      refine K_iadd (dt_at dtX12_toHold 27 rfl) ?_
      refine K_iald (dt_at dtX12_toHold 28 rfl) (show TT 18 = (1, 154) from rfl) (by omega) (by omega) ?_
      rw [show hA hh 18 (57 + (k : Int)) = (f (29 + (k : Int))) from RV_s (MG_D0 G).2.2.2 (p := (k : Int)) (by omega) (by omega)]
      refine K_imul (dt_at dtX12_toHold 29 rfl) ?_
      refine K_iadd (dt_at dtX12_toHold 30 rfl) ?_
      refine K_istore_n (ls' := [(1, vi ((itN (fun k v => if sU S (k : Int) = 0 then v else v + sW S (k : Int) * f (29 + (k : Int))) 0 k) + ((sW S (k : Int)) * (f (29 + (k : Int)))))), (2, vi (k : Int)), (0, vr 0)]) (dt_at dtX12_toHold 31 rfl) rfl (by decide) rfl ?_
      refine K_iinc (ls' := [(2, vi ((k : Int) + 1)), (1, vi ((itN (fun k v => if sU S (k : Int) = 0 then v else v + sW S (k : Int) * f (29 + (k : Int))) 0 k) + ((sW S (k : Int)) * (f (29 + (k : Int)))))), (0, vr 0)]) (dt_at dtX12_toHold 32 rfl) rfl (by decide) rfl ?_
      refine K_goto (tgt := 9) (dt_at dtX12_toHold 33 rfl) (by decide) ?_
      refine K_pk [0, 1, 2] (ls' := [(2, vi ((k : Int) + 1)), (1, vi ((itN (fun k v => if sU S (k : Int) = 0 then v else v + sW S (k : Int) * f (29 + (k : Int))) 0 k) + ((sW S (k : Int)) * (f (29 + (k : Int)))))), (0, vr 0)]) rfl ?_
      exact K_cg (ls' := [(2, vi ((k + 1 : Nat) : Int)), (1, vi (itN (fun k v => if sU S (k : Int) = 0 then v else v + sW S (k : Int) * f (29 + (k : Int))) 0 (k + 1))), (0, vr 0)]) (h' := hh) (by rw [itN_f (c := fun k : Nat => sU S (k : Int) = 0) (g := fun k v => v + sW S (k : Int) * f (29 + (k : Int))) (by assumption)]; rfl) (by rfl) (ih (k + 1) (by omega))
    · refine K_iconst (dt_at dtX12_toHold 17 rfl) ?_
      refine K_goto (tgt := 47) (dt_at dtX12_toHold 18 rfl) (by decide) ?_
      refine K_iadd (dt_at dtX12_toHold 30 rfl) ?_
      refine K_istore_n (ls' := [(1, vi ((itN (fun k v => if sU S (k : Int) = 0 then v else v + sW S (k : Int) * f (29 + (k : Int))) 0 k) + 0)), (2, vi (k : Int)), (0, vr 0)]) (dt_at dtX12_toHold 31 rfl) rfl (by decide) rfl ?_
      refine K_iinc (ls' := [(2, vi ((k : Int) + 1)), (1, vi ((itN (fun k v => if sU S (k : Int) = 0 then v else v + sW S (k : Int) * f (29 + (k : Int))) 0 k) + 0)), (0, vr 0)]) (dt_at dtX12_toHold 32 rfl) rfl (by decide) rfl ?_
      refine K_goto (tgt := 9) (dt_at dtX12_toHold 33 rfl) (by decide) ?_
      refine K_pk [0, 1, 2] (ls' := [(2, vi ((k : Int) + 1)), (1, vi ((itN (fun k v => if sU S (k : Int) = 0 then v else v + sW S (k : Int) * f (29 + (k : Int))) 0 k) + 0)), (0, vr 0)]) rfl ?_
      exact K_cg (ls' := [(2, vi ((k + 1 : Nat) : Int)), (1, vi (itN (fun k v => if sU S (k : Int) = 0 then v else v + sW S (k : Int) * f (29 + (k : Int))) 0 (k + 1))), (0, vr 0)]) (h' := hh) (by rw [itN_t (c := fun k : Nat => sU S (k : Int) = 0) (g := fun k v => v + sW S (k : Int) * f (29 + (k : Int))) (by assumption)]; rw [show (itN (fun k v => if sU S (k : Int) = 0 then v else v + sW S (k : Int) * f (29 + (k : Int))) 0 k) + 0 = (itN (fun k v => if sU S (k : Int) = 0 then v else v + sW S (k : Int) * f (29 + (k : Int))) 0 k) by omega]; rfl) (by rfl) (ih (k + 1) (by omega))
set_option maxHeartbeats 4000000 in
set_option maxRecDepth 100000 in
theorem sX12_toHold {h : HP} {S : HS} {f : Int → Int} (Q0 : MAsk h S f) : SpecK mX12_toHold [vr 0] h (fun o h' => o = .inl (some (vi (itN (fun k v => if sU S (k : Int) = 0 then v else v + sW S (k : Int) * f (29 + (k : Int))) 0 (sNt S)))) ∧ FQ h h' ∧ hI h' 0 0 = 0) := by
  refine Spec_of (by decide +kernel) (Nat.le_of_ble_eq_true rfl) ?_
  have hB := Q0.1.1
  have hNt := hB.1
  have hNp := hB.2.1
  have R := Q0.2.2.2.2
  have hT := R.1
  have hW := hT.1
  refine K_aload_n (dt_at dtX12_toHold 0 rfl) rfl rfl ?_
  refine K_iconst (dt_at dtX12_toHold 1 rfl) ?_
  refine K_putI (a := 0) (ci := 12) (k := 0) (dt_at dtX12_toHold 2 rfl) (show TT 0 = (0, 12) from rfl) rfl (by decide) wF_X12_105 rfl (Or.inl rfl) rfl rfl ?_
  obtain ⟨hu1, eu1⟩ : ∃ z, z = sI h 0 0 0 := ⟨_, rfl⟩
  rw [← eu1]
  obtain ⟨iu1, fu1, au1, ru1⟩ := sI_fx eu1
  have Gu1 := MG_0 Q0 eu1
  refine K_iconst (dt_at dtX12_toHold 3 rfl) ?_
  refine K_istore_n (ls' := [(1, vi 0), (0, vr 0)]) (dt_at dtX12_toHold 4 rfl) rfl (by decide) rfl ?_
  refine K_iconst (dt_at dtX12_toHold 5 rfl) ?_
  refine K_istore_n (ls' := [(2, vi 0), (1, vi 0), (0, vr 0)]) (dt_at dtX12_toHold 6 rfl) rfl (by decide) rfl ?_
  exact K_pk [0, 1, 2] rfl (lp_X12_toHold Q0 Gu1 (sNt S) 0 (by omega))
def mX12_near : MI := (yX12_near, cX12_near, 5, (some .int), rmK 3 0)
def tX12_near : List (Nat × Instr × Nat) := [(0, .aload_n 0, 1), (1, .iconst 0, 1), (2, .putfield 105, 3), (5, .aload_n 0, 1), (6, .iload_n 1, 1), (7, .invokevirtual 375, 3), (10, .ifCond .eq 12, 3), (13, .aload_n 0, 1), (14, .iload_n 2, 1), (15, .iconst 1, 1), (16, .invokevirtual 371, 3), (19, .ifCond .ne 5, 3), (22, .iconst 0, 1), (23, .ireturn, 1), (24, .iconst (-1), 1), (25, .istore_n 3, 1), (26, .iconst 0, 1), (27, .istore 4, 2), (29, .iload 4, 2), (31, .aload_n 0, 1), (32, .getfield 270, 3), (35, .if_icmp .ge 79, 3), (38, .iload_n 2, 1), (39, .iconst 1, 1), (40, .if_icmp .ne 20, 3), (43, .aload_n 0, 1), (44, .getfield 72, 3), (47, .bipush 8, 2), (49, .iload 4, 2), (51, .iadd, 1), (52, .iaload, 1), (53, .iload_n 1, 1), (54, .if_icmp .ne 6, 3), (57, .iload 4, 2), (59, .istore_n 3, 1), (60, .iload_n 2, 1), (61, .ifCond .ne 47, 3), (64, .aload_n 0, 1), (65, .getfield 72, 3), (68, .bipush 70, 2), (70, .iload 4, 2), (72, .iadd, 1), (73, .iaload, 1), (74, .iload_n 1, 1), (75, .if_icmp .ne 33, 3), (78, .iload_n 3, 1), (79, .iconst (-1), 1), (80, .if_icmp .eq 25, 3), (83, .aload_n 0, 1), (84, .getfield 72, 3), (87, .bipush 63, 2), (89, .iload 4, 2), (91, .iadd, 1), (92, .iaload, 1), (93, .aload_n 0, 1), (94, .getfield 72, 3), (97, .bipush 63, 2), (99, .iload_n 3, 1), (100, .iadd, 1), (101, .iaload, 1), (102, .if_icmp .le 6, 3), (105, .iload 4, 2), (107, .istore_n 3, 1), (108, .iinc 4 1, 3), (111, .goto (-82), 3), (114, .iload_n 3, 1), (115, .ireturn, 1)]
theorem dtX12_near : tX12_near.all (fun q => decide (decode cX12_near q.1 = .ok (q.2.1, q.2.2))) = true := by decide +kernel
theorem npX12_near : (parseMethodDescriptor (mY mX12_near).desc).map (fun d => d.parameters.length) = some 2 := by decide +kernel
theorem vX12_near : mV mX12_near := ⟨wI_X12_near, wS_X12_near, wN_X12, wC_X12_near, by decide +kernel, by decide +kernel⟩
set_option maxHeartbeats 4000000 in
set_option maxRecDepth 100000 in
theorem sX12_near_x1 {h : HP} {S : HS} {f : Int → Int} {p w : Int} (Q0 : MAsk h S f) (hp_ : i32 p) (hw_ : i32 w) (kn : ¬ (0 ≤ p ∧ p < sNp S)) : SpecK mX12_near [vr 0, vi p, vi w] h (fun o h' => o = .inl (some (vi 0)) ∧ FQ h h' ∧ hI h' 0 0 = 1) := by
  refine Spec_of (by decide +kernel) (Nat.le_of_ble_eq_true rfl) ?_
  have hB := Q0.1.1
  have hNt := hB.1
  have hNp := hB.2.1
  have R := Q0.2.2.2.2
  have hT := R.1
  have hW := hT.1
  refine K_aload_n (dt_at dtX12_near 0 rfl) rfl rfl ?_
  refine K_iconst (dt_at dtX12_near 1 rfl) ?_
  refine K_putI (a := 0) (ci := 12) (k := 0) (dt_at dtX12_near 2 rfl) (show TT 0 = (0, 12) from rfl) rfl (by decide) wF_X12_105 rfl (Or.inl rfl) rfl rfl ?_
  obtain ⟨hu1, eu1⟩ : ∃ z, z = sI h 0 0 0 := ⟨_, rfl⟩
  rw [← eu1]
  obtain ⟨iu1, fu1, au1, ru1⟩ := sI_fx eu1
  have Gu1 := MG_0 Q0 eu1
  refine K_aload_n (dt_at dtX12_near 3 rfl) rfl rfl ?_
  refine K_iload_n (dt_at dtX12_near 4 rfl) rfl rfl ?_
  refine K_callV (M' := mX12_isPerson) (a := 0) (ci := 12) (As := [vi p]) (st := []) (dt_at dtX12_near 5 rfl) (sX12_isPerson_f (MD_np (MG_D0 Gu1)) hNp Gu1.2.2.2 (by assumption) (by omega)) (show TT 0 = (0, 12) from rfl) rfl wL_X12_375 vX12_isPerson rfl npX12_isPerson (by decide) (by decide) (Nat.le_of_ble_eq_true rfl) (by decide) (by decide) GK_E (fun v9 hc2 hq => ?_) (fun E h9 hq => by cases hq.1)
  have hqq3 := hq
  obtain ⟨e9q3, e8q3⟩ := hqq3
  obtain ⟨iq3, fq3, aq3, rq3⟩ := sI_fx e8q3
  have Bq3 : FQ h hc2 := FQ_tr Gu1.2.1 (FQ_I e8q3 rfl Gu1.2.1.2.2.2.2)
  cases e9q3
  show K mX12_near _ _ 0 0 10 [(0, vr 0), (1, vi p), (2, vi w)] [vi 0] hc2
  refine K_if_eq (tgt := 22) (dt_at dtX12_near 6 rfl) (by decide) (by first | assumption | exact ⟨by omega, by omega⟩) (fun c1 => ?_) (fun c1 => absurd c1 (by omega))
  refine K_iconst (dt_at dtX12_near 12 rfl) ?_
  exact K_iret (dt_at dtX12_near 13 rfl) rfl rfl (by decide) (by decide) ⟨rfl, Bq3, iq3⟩
set_option maxHeartbeats 4000000 in
set_option maxRecDepth 100000 in
theorem sX12_near_x2 {h : HP} {S : HS} {f : Int → Int} {p w : Int} (Q0 : MAsk h S f) (hp_ : i32 p) (hw_ : i32 w) (k0 : 0 ≤ p ∧ p < sNp S) (kn : ¬ (0 ≤ w ∧ w ≤ 1)) : SpecK mX12_near [vr 0, vi p, vi w] h (fun o h' => o = .inl (some (vi 0)) ∧ FQ h h' ∧ hI h' 0 0 = 1) := by
  refine Spec_of (by decide +kernel) (Nat.le_of_ble_eq_true rfl) ?_
  have hB := Q0.1.1
  have hNt := hB.1
  have hNp := hB.2.1
  have R := Q0.2.2.2.2
  have hT := R.1
  have hW := hT.1
  refine K_aload_n (dt_at dtX12_near 0 rfl) rfl rfl ?_
  refine K_iconst (dt_at dtX12_near 1 rfl) ?_
  refine K_putI (a := 0) (ci := 12) (k := 0) (dt_at dtX12_near 2 rfl) (show TT 0 = (0, 12) from rfl) rfl (by decide) wF_X12_105 rfl (Or.inl rfl) rfl rfl ?_
  obtain ⟨hu1, eu1⟩ : ∃ z, z = sI h 0 0 0 := ⟨_, rfl⟩
  rw [← eu1]
  obtain ⟨iu1, fu1, au1, ru1⟩ := sI_fx eu1
  have Gu1 := MG_0 Q0 eu1
  refine K_aload_n (dt_at dtX12_near 3 rfl) rfl rfl ?_
  refine K_iload_n (dt_at dtX12_near 4 rfl) rfl rfl ?_
  refine K_callV (M' := mX12_isPerson) (a := 0) (ci := 12) (As := [vi p]) (st := []) (dt_at dtX12_near 5 rfl) (sX12_isPerson_t (MD_np (MG_D0 Gu1)) hNp Gu1.2.2.2 (by omega)) (show TT 0 = (0, 12) from rfl) rfl wL_X12_375 vX12_isPerson rfl npX12_isPerson (by decide) (by decide) (Nat.le_of_ble_eq_true rfl) (by decide) (by decide) GK_E (fun v9 h9 hq => ?_) (fun E h9 hq => by cases hq.1)
  obtain ⟨e9, e8⟩ := hq
  cases e9
  rw [e8]
  show K mX12_near _ _ 0 0 10 [(0, vr 0), (1, vi p), (2, vi w)] [vi 1] hu1
  refine K_if_eq (tgt := 22) (dt_at dtX12_near 6 rfl) (by decide) (by first | assumption | exact ⟨by omega, by omega⟩) (fun c1 => absurd c1 (by omega)) (fun c1 => ?_)
  refine K_aload_n (dt_at dtX12_near 7 rfl) rfl rfl ?_
  refine K_iload_n (dt_at dtX12_near 8 rfl) rfl rfl ?_
  refine K_iconst (dt_at dtX12_near 9 rfl) ?_
  refine K_callV (M' := mX12_isWhat) (a := 0) (ci := 12) (As := [vi w, vi 1]) (st := []) (dt_at dtX12_near 10 rfl) (sX12_isWhat_f Gu1.2.2.2 (by decide) (by assumption) (by omega)) (show TT 0 = (0, 12) from rfl) rfl wL_X12_371 vX12_isWhat rfl npX12_isWhat (by decide) (by decide) (Nat.le_of_ble_eq_true rfl) (by decide) (by decide) GK_E (fun v9 hc2 hq => ?_) (fun E h9 hq => by cases hq.1)
  have hqq3 := hq
  obtain ⟨e9q3, e8q3⟩ := hqq3
  obtain ⟨iq3, fq3, aq3, rq3⟩ := sI_fx e8q3
  have Bq3 : FQ h hc2 := FQ_tr Gu1.2.1 (FQ_I e8q3 rfl Gu1.2.1.2.2.2.2)
  cases e9q3
  show K mX12_near _ _ 0 0 19 [(0, vr 0), (1, vi p), (2, vi w)] [vi 0] hc2
  refine K_if_ne (tgt := 24) (dt_at dtX12_near 11 rfl) (by decide) (by first | assumption | exact ⟨by omega, by omega⟩) (fun c2 => absurd c2 (by omega)) (fun c2 => ?_)
  refine K_iconst (dt_at dtX12_near 12 rfl) ?_
  exact K_iret (dt_at dtX12_near 13 rfl) rfl rfl (by decide) (by decide) ⟨rfl, Bq3, iq3⟩
set_option maxHeartbeats 4000000 in
set_option maxRecDepth 100000 in
theorem lp_X12_near_0 {h hh : HP} {S : HS} {f g : Int → Int} {p : Int} (Q0 : MAsk h S f) (G : MG h hh S f g) (hp : 0 ≤ p ∧ p < sNp S) : ∀ (dd k : Nat), k + dd = (sNp S) → K mX12_near GK (ZK (fun o h' => o = .inl (some (vi (selN (fun j v => decide ((f (22 + (j : Int))) = p) && (decide (v = -1) || decide ((f (15 + v)) < (f (15 + (j : Int)))))) (sNp S)))) ∧ FQ h h' ∧ hI h' 0 0 = 0) 0 0) 0 0 29 [(4, vi (k : Int)), (3, vi (selN (fun j v => decide ((f (22 + (j : Int))) = p) && (decide (v = -1) || decide ((f (15 + v)) < (f (15 + (j : Int)))))) k)), (0, vr 0), (1, vi p), (2, vi 0)] [] hh := by
  intro dd
  induction dd with
  | zero =>
    intro k hk
    have hB := Q0.1.1
    have hNt := hB.1
    have hNp := hB.2.1
    have R := Q0.2.2.2.2
    have hT := R.1
    have hW := hT.1
    have ek : k = (sNp S) := by omega
    subst ek
    refine K_iload (dt_at dtX12_near 18 rfl) rfl ?_
    refine K_aload_n (dt_at dtX12_near 19 rfl) rfl rfl ?_
    refine K_get (a := 0) (ci := 12) (k := 2) (v := vi (sNp S : Int)) (dt_at dtX12_near 20 rfl) (show TT 0 = (0, 12) from rfl) rfl (by decide) wF_X12_270 (by show vi (hI hh 0 2) = vi (sNp S : Int); rw [(MD_np (MG_D0 G))]) ?_
    refine K_icmp_ge (tgt := 114) (dt_at dtX12_near 21 rfl) (by decide) (by first | assumption | exact ⟨by omega, by omega⟩) (by first | assumption | exact ⟨by omega, by omega⟩) (fun c1 => ?_) (fun c1 => absurd c1 (by omega))
    refine K_iload_n (dt_at dtX12_near 65 rfl) rfl rfl ?_
    exact K_iret (dt_at dtX12_near 66 rfl) rfl rfl (by decide) (by decide) ⟨rfl, G.2.1, G.2.2.2⟩
  | succ dd ih =>
    intro k hk
    have hB := Q0.1.1
    have hNt := hB.1
    have hNp := hB.2.1
    have R := Q0.2.2.2.2
    have hT := R.1
    have hW := hT.1
    have wk := hW.2 (k : Int) (by omega) (by omega)
    have sb := selN_b (fun j v => decide ((f (22 + (j : Int))) = p) && (decide (v = -1) || decide ((f (15 + v)) < (f (15 + (j : Int)))))) k
    have ws : (selN (fun j v => decide ((f (22 + (j : Int))) = p) && (decide (v = -1) || decide ((f (15 + v)) < (f (15 + (j : Int)))))) k) ≠ -1 → 0 ≤ f (15 + (selN (fun j v => decide ((f (22 + (j : Int))) = p) && (decide (v = -1) || decide ((f (15 + v)) < (f (15 + (j : Int)))))) k)) ∧ f (15 + (selN (fun j v => decide ((f (22 + (j : Int))) = p) && (decide (v = -1) || decide ((f (15 + v)) < (f (15 + (j : Int)))))) k)) ≤ 9 := fun z => (hW.2 (selN (fun j v => decide ((f (22 + (j : Int))) = p) && (decide (v = -1) || decide ((f (15 + v)) < (f (15 + (j : Int)))))) k) (by omega) (by omega)).2.2.1
    refine K_iload (dt_at dtX12_near 18 rfl) rfl ?_
    refine K_aload_n (dt_at dtX12_near 19 rfl) rfl rfl ?_
    refine K_get (a := 0) (ci := 12) (k := 2) (v := vi (sNp S : Int)) (dt_at dtX12_near 20 rfl) (show TT 0 = (0, 12) from rfl) rfl (by decide) wF_X12_270 (by show vi (hI hh 0 2) = vi (sNp S : Int); rw [(MD_np (MG_D0 G))]) ?_
    refine K_icmp_ge (tgt := 114) (dt_at dtX12_near 21 rfl) (by decide) (by first | assumption | exact ⟨by omega, by omega⟩) (by first | assumption | exact ⟨by omega, by omega⟩) (fun c1 => absurd c1 (by omega)) (fun c1 => ?_)
    refine K_iload_n (dt_at dtX12_near 22 rfl) rfl rfl ?_
    refine K_iconst (dt_at dtX12_near 23 rfl) ?_
    refine K_icmp_ne (tgt := 60) (dt_at dtX12_near 24 rfl) (by decide) (by first | assumption | exact ⟨by omega, by omega⟩) (by first | assumption | exact ⟨by omega, by omega⟩) (fun c2 => ?_) (fun c2 => absurd c2 (by omega))
    refine K_iload_n (dt_at dtX12_near 35 rfl) rfl rfl ?_
    refine K_if_ne (tgt := 108) (dt_at dtX12_near 36 rfl) (by decide) (by first | assumption | exact ⟨by omega, by omega⟩) (fun c3 => absurd c3 (by omega)) (fun c3 => ?_)
    refine K_aload_n (dt_at dtX12_near 37 rfl) rfl rfl ?_
    refine K_get (a := 0) (ci := 12) (k := 42) (v := vr 18) (dt_at dtX12_near 38 rfl) (show TT 0 = (0, 12) from rfl) rfl (by decide) wF_X12_72 rfl ?_
    refine K_bipush (dt_at dtX12_near 39 rfl) (by decide) ?_
    refine K_iload (dt_at dtX12_near 40 rfl) rfl ?_
    refine K_iadd (dt_at dtX12_near 41 rfl) ?_
    refine K_iald (dt_at dtX12_near 42 rfl) (show TT 18 = (1, 154) from rfl) (by omega) (by omega) ?_
    rw [show hA hh 18 (70 + (k : Int)) = (f (22 + (k : Int))) from RV_k (MG_D0 G).2.2.2 (p := (k : Int)) (by omega) (by omega)]
    refine K_iload_n (dt_at dtX12_near 43 rfl) rfl rfl ?_
    refine K_icmp_ne (tgt := 108) (dt_at dtX12_near 44 rfl) (by decide) (by first | assumption | exact ⟨by omega, by omega⟩) (by first | assumption | exact ⟨by omega, by omega⟩) (fun c4 => ?_) (fun c4 => ?_)
    · refine K_iinc (ls' := [(4, vi ((k : Int) + 1)), (3, vi (selN (fun j v => decide ((f (22 + (j : Int))) = p) && (decide (v = -1) || decide ((f (15 + v)) < (f (15 + (j : Int)))))) k)), (0, vr 0), (1, vi p), (2, vi 0)]) (dt_at dtX12_near 63 rfl) rfl (by decide) rfl ?_
      refine K_goto (tgt := 29) (dt_at dtX12_near 64 rfl) (by decide) ?_
      refine K_pk [0, 1, 2, 3, 4] (ls' := [(4, vi ((k : Int) + 1)), (3, vi (selN (fun j v => decide ((f (22 + (j : Int))) = p) && (decide (v = -1) || decide ((f (15 + v)) < (f (15 + (j : Int)))))) k)), (0, vr 0), (1, vi p), (2, vi 0)]) rfl ?_
      exact K_cg (ls' := [(4, vi ((k + 1 : Nat) : Int)), (3, vi (selN (fun j v => decide ((f (22 + (j : Int))) = p) && (decide (v = -1) || decide ((f (15 + v)) < (f (15 + (j : Int)))))) (k + 1))), (0, vr 0), (1, vi p), (2, vi 0)]) (h' := hh) (by rw [selN_f (by simp only [Bool.and_eq_true, Bool.or_eq_true, Bool.and_eq_false_iff, Bool.or_eq_false_iff, decide_eq_true_eq, decide_eq_false_iff_not]; omega)]; rfl) (by rfl) (ih (k + 1) (by omega))
    · refine K_iload_n (dt_at dtX12_near 45 rfl) rfl rfl ?_
      refine K_iconst (dt_at dtX12_near 46 rfl) ?_
      refine K_icmp_eq (tgt := 105) (dt_at dtX12_near 47 rfl) (by decide) (by first | assumption | exact ⟨by omega, by omega⟩) (by first | assumption | exact ⟨by omega, by omega⟩) (fun c5 => ?_) (fun c5 => ?_)
      · refine K_iload (dt_at dtX12_near 61 rfl) rfl ?_
        refine K_istore_n (ls' := [(3, vi (k : Int)), (4, vi (k : Int)), (0, vr 0), (1, vi p), (2, vi 0)]) (dt_at dtX12_near 62 rfl) rfl (by decide) rfl ?_
        refine K_iinc (ls' := [(4, vi ((k : Int) + 1)), (3, vi (k : Int)), (0, vr 0), (1, vi p), (2, vi 0)]) (dt_at dtX12_near 63 rfl) rfl (by decide) rfl ?_
        refine K_goto (tgt := 29) (dt_at dtX12_near 64 rfl) (by decide) ?_
        refine K_pk [0, 1, 2, 3, 4] (ls' := [(4, vi ((k : Int) + 1)), (3, vi (k : Int)), (0, vr 0), (1, vi p), (2, vi 0)]) rfl ?_
        exact K_cg (ls' := [(4, vi ((k + 1 : Nat) : Int)), (3, vi (selN (fun j v => decide ((f (22 + (j : Int))) = p) && (decide (v = -1) || decide ((f (15 + v)) < (f (15 + (j : Int)))))) (k + 1))), (0, vr 0), (1, vi p), (2, vi 0)]) (h' := hh) (by rw [selN_t (by simp only [Bool.and_eq_true, Bool.or_eq_true, Bool.and_eq_false_iff, Bool.or_eq_false_iff, decide_eq_true_eq, decide_eq_false_iff_not]; omega)]; rfl) (by rfl) (ih (k + 1) (by omega))
      · refine K_aload_n (dt_at dtX12_near 48 rfl) rfl rfl ?_
        refine K_get (a := 0) (ci := 12) (k := 42) (v := vr 18) (dt_at dtX12_near 49 rfl) (show TT 0 = (0, 12) from rfl) rfl (by decide) wF_X12_72 rfl ?_
        refine K_bipush (dt_at dtX12_near 50 rfl) (by decide) ?_
        refine K_iload (dt_at dtX12_near 51 rfl) rfl ?_
        refine K_iadd (dt_at dtX12_near 52 rfl) ?_
        refine K_iald (dt_at dtX12_near 53 rfl) (show TT 18 = (1, 154) from rfl) (by omega) (by omega) ?_
        rw [show hA hh 18 (63 + (k : Int)) = (f (15 + (k : Int))) from RV_f (MG_D0 G).2.2.2 (p := (k : Int)) (by omega) (by omega)]
        refine K_aload_n (dt_at dtX12_near 54 rfl) rfl rfl ?_
        refine K_get (a := 0) (ci := 12) (k := 42) (v := vr 18) (dt_at dtX12_near 55 rfl) (show TT 0 = (0, 12) from rfl) rfl (by decide) wF_X12_72 rfl ?_
        refine K_bipush (dt_at dtX12_near 56 rfl) (by decide) ?_
        refine K_iload_n (dt_at dtX12_near 57 rfl) rfl rfl ?_
        refine K_iadd (dt_at dtX12_near 58 rfl) ?_
        refine K_iald (dt_at dtX12_near 59 rfl) (show TT 18 = (1, 154) from rfl) (by omega) (by omega) ?_
        rw [show hA hh 18 (63 + (selN (fun j v => decide ((f (22 + (j : Int))) = p) && (decide (v = -1) || decide ((f (15 + v)) < (f (15 + (j : Int)))))) k)) = (f (15 + selN (fun j v => decide ((f (22 + (j : Int))) = p) && (decide (v = -1) || decide ((f (15 + v)) < (f (15 + (j : Int)))))) k)) from RV_f (MG_D0 G).2.2.2 (p := selN (fun j v => decide ((f (22 + (j : Int))) = p) && (decide (v = -1) || decide ((f (15 + v)) < (f (15 + (j : Int)))))) k) (by omega) (by omega)]
        refine K_icmp_le (tgt := 108) (dt_at dtX12_near 60 rfl) (by decide) (by first | assumption | exact ⟨by omega, by omega⟩) (by first | assumption | exact ⟨by omega, by omega⟩) (fun c6 => ?_) (fun c6 => ?_)
        · refine K_iinc (ls' := [(4, vi ((k : Int) + 1)), (3, vi (selN (fun j v => decide ((f (22 + (j : Int))) = p) && (decide (v = -1) || decide ((f (15 + v)) < (f (15 + (j : Int)))))) k)), (0, vr 0), (1, vi p), (2, vi 0)]) (dt_at dtX12_near 63 rfl) rfl (by decide) rfl ?_
          refine K_goto (tgt := 29) (dt_at dtX12_near 64 rfl) (by decide) ?_
          refine K_pk [0, 1, 2, 3, 4] (ls' := [(4, vi ((k : Int) + 1)), (3, vi (selN (fun j v => decide ((f (22 + (j : Int))) = p) && (decide (v = -1) || decide ((f (15 + v)) < (f (15 + (j : Int)))))) k)), (0, vr 0), (1, vi p), (2, vi 0)]) rfl ?_
          exact K_cg (ls' := [(4, vi ((k + 1 : Nat) : Int)), (3, vi (selN (fun j v => decide ((f (22 + (j : Int))) = p) && (decide (v = -1) || decide ((f (15 + v)) < (f (15 + (j : Int)))))) (k + 1))), (0, vr 0), (1, vi p), (2, vi 0)]) (h' := hh) (by rw [selN_f (by simp only [Bool.and_eq_true, Bool.or_eq_true, Bool.and_eq_false_iff, Bool.or_eq_false_iff, decide_eq_true_eq, decide_eq_false_iff_not]; omega)]; rfl) (by rfl) (ih (k + 1) (by omega))
        · refine K_iload (dt_at dtX12_near 61 rfl) rfl ?_
          refine K_istore_n (ls' := [(3, vi (k : Int)), (4, vi (k : Int)), (0, vr 0), (1, vi p), (2, vi 0)]) (dt_at dtX12_near 62 rfl) rfl (by decide) rfl ?_
          refine K_iinc (ls' := [(4, vi ((k : Int) + 1)), (3, vi (k : Int)), (0, vr 0), (1, vi p), (2, vi 0)]) (dt_at dtX12_near 63 rfl) rfl (by decide) rfl ?_
          refine K_goto (tgt := 29) (dt_at dtX12_near 64 rfl) (by decide) ?_
          refine K_pk [0, 1, 2, 3, 4] (ls' := [(4, vi ((k : Int) + 1)), (3, vi (k : Int)), (0, vr 0), (1, vi p), (2, vi 0)]) rfl ?_
          exact K_cg (ls' := [(4, vi ((k + 1 : Nat) : Int)), (3, vi (selN (fun j v => decide ((f (22 + (j : Int))) = p) && (decide (v = -1) || decide ((f (15 + v)) < (f (15 + (j : Int)))))) (k + 1))), (0, vr 0), (1, vi p), (2, vi 0)]) (h' := hh) (by rw [selN_t (by simp only [Bool.and_eq_true, Bool.or_eq_true, Bool.and_eq_false_iff, Bool.or_eq_false_iff, decide_eq_true_eq, decide_eq_false_iff_not]; omega)]; rfl) (by rfl) (ih (k + 1) (by omega))
set_option maxHeartbeats 4000000 in
set_option maxRecDepth 100000 in
theorem sX12_near_0 {h : HP} {S : HS} {f : Int → Int} {p : Int} (Q0 : MAsk h S f) (hp : 0 ≤ p ∧ p < sNp S) : SpecK mX12_near [vr 0, vi p, vi 0] h (fun o h' => o = .inl (some (vi (selN (fun j v => decide ((f (22 + (j : Int))) = p) && (decide (v = -1) || decide ((f (15 + v)) < (f (15 + (j : Int)))))) (sNp S)))) ∧ FQ h h' ∧ hI h' 0 0 = 0) := by
  refine Spec_of (by decide +kernel) (Nat.le_of_ble_eq_true rfl) ?_
  have hB := Q0.1.1
  have hNt := hB.1
  have hNp := hB.2.1
  have R := Q0.2.2.2.2
  have hT := R.1
  have hW := hT.1
  refine K_aload_n (dt_at dtX12_near 0 rfl) rfl rfl ?_
  refine K_iconst (dt_at dtX12_near 1 rfl) ?_
  refine K_putI (a := 0) (ci := 12) (k := 0) (dt_at dtX12_near 2 rfl) (show TT 0 = (0, 12) from rfl) rfl (by decide) wF_X12_105 rfl (Or.inl rfl) rfl rfl ?_
  obtain ⟨hu1, eu1⟩ : ∃ z, z = sI h 0 0 0 := ⟨_, rfl⟩
  rw [← eu1]
  obtain ⟨iu1, fu1, au1, ru1⟩ := sI_fx eu1
  have Gu1 := MG_0 Q0 eu1
  refine K_aload_n (dt_at dtX12_near 3 rfl) rfl rfl ?_
  refine K_iload_n (dt_at dtX12_near 4 rfl) rfl rfl ?_
  refine K_callV (M' := mX12_isPerson) (a := 0) (ci := 12) (As := [vi p]) (st := []) (dt_at dtX12_near 5 rfl) (sX12_isPerson_t (MD_np (MG_D0 Gu1)) hNp Gu1.2.2.2 (by omega)) (show TT 0 = (0, 12) from rfl) rfl wL_X12_375 vX12_isPerson rfl npX12_isPerson (by decide) (by decide) (Nat.le_of_ble_eq_true rfl) (by decide) (by decide) GK_E (fun v9 h9 hq => ?_) (fun E h9 hq => by cases hq.1)
  obtain ⟨e9, e8⟩ := hq
  cases e9
  rw [e8]
  show K mX12_near _ _ 0 0 10 [(0, vr 0), (1, vi p), (2, vi 0)] [vi 1] hu1
  refine K_if_eq (tgt := 22) (dt_at dtX12_near 6 rfl) (by decide) (by first | assumption | exact ⟨by omega, by omega⟩) (fun c1 => absurd c1 (by omega)) (fun c1 => ?_)
  refine K_aload_n (dt_at dtX12_near 7 rfl) rfl rfl ?_
  refine K_iload_n (dt_at dtX12_near 8 rfl) rfl rfl ?_
  refine K_iconst (dt_at dtX12_near 9 rfl) ?_
  refine K_callV (M' := mX12_isWhat) (a := 0) (ci := 12) (As := [vi 0, vi 1]) (st := []) (dt_at dtX12_near 10 rfl) (sX12_isWhat_t Gu1.2.2.2 (by omega) (by omega)) (show TT 0 = (0, 12) from rfl) rfl wL_X12_371 vX12_isWhat rfl npX12_isWhat (by decide) (by decide) (Nat.le_of_ble_eq_true rfl) (by decide) (by decide) GK_E (fun v9 h9 hq => ?_) (fun E h9 hq => by cases hq.1)
  obtain ⟨e9, e8⟩ := hq
  cases e9
  rw [e8]
  show K mX12_near _ _ 0 0 19 [(0, vr 0), (1, vi p), (2, vi 0)] [vi 1] hu1
  refine K_if_ne (tgt := 24) (dt_at dtX12_near 11 rfl) (by decide) (by first | assumption | exact ⟨by omega, by omega⟩) (fun c2 => ?_) (fun c2 => absurd c2 (by omega))
  refine K_iconst (dt_at dtX12_near 14 rfl) ?_
  refine K_istore_n (ls' := [(3, vi (-1)), (0, vr 0), (1, vi p), (2, vi 0)]) (dt_at dtX12_near 15 rfl) rfl (by decide) rfl ?_
  refine K_iconst (dt_at dtX12_near 16 rfl) ?_
  refine K_istore (ls' := [(4, vi 0), (3, vi (-1)), (0, vr 0), (1, vi p), (2, vi 0)]) (dt_at dtX12_near 17 rfl) (by decide) rfl ?_
  exact K_pk [0, 1, 2, 3, 4] rfl (lp_X12_near_0 Q0 Gu1 hp (sNp S) 0 (by omega))
theorem last_eq {f : Int → Int} {p : Int} {n : Nat} (hj : ∀ a b : Nat, a < n → b < n → f (8 + (a : Int)) = p → f (8 + (b : Int)) = p → a = b) : selN (fun j _ => decide (f (8 + (j : Int)) = p)) n = srN (fun j => if (f (8 + (j : Int))) = p then some (j : Int) else none) (-1) 0 n := by
  have key : ∀ (d k : Nat), k + d = n → (∀ j, j < k → f (8 + (j : Int)) ≠ p) → selN (fun j _ => decide (f (8 + (j : Int)) = p)) k = -1 → selN (fun j _ => decide (f (8 + (j : Int)) = p)) n = srN (fun j => if (f (8 + (j : Int))) = p then some (j : Int) else none) (-1) k d := by
    intro d
    induction d with
    | zero => intro k hk _ e; rw [show n = k by omega, e]; rfl
    | succ d ih =>
      intro k hk hn e
      by_cases z : f (8 + (k : Int)) = p
      · rw [srN_s (g := fun j => if (f (8 + (j : Int))) = p then some (j : Int) else none) (if_pos z)]
        have rest : ∀ m : Nat, k + 1 + m ≤ n → selN (fun j _ => decide (f (8 + (j : Int)) = p)) (k + 1 + m) = (k : Int) := by
          intro m
          induction m with
          | zero => intro _; exact selN_t (decide_eq_true z)
          | succ m im =>
            intro hm
            rw [show k + 1 + (m + 1) = (k + 1 + m) + 1 by omega, selN_f (p := fun j _ => decide (f (8 + (j : Int)) = p)) (decide_eq_false (fun w => by have := hj k (k + 1 + m) (by omega) (by omega) z w; omega))]
            exact im (by omega)
        have := rest d (by omega)
        rw [show k + 1 + d = n by omega] at this
        exact this
      · rw [srN_n (g := fun j => if (f (8 + (j : Int))) = p then some (j : Int) else none) (if_neg z)]
        refine ih (k + 1) (by omega) (fun j hj2 => ?_) ?_
        · by_cases w : j = k
          · rw [w]; exact z
          · exact hn j (by omega)
        · rw [selN_f (p := fun j _ => decide (f (8 + (j : Int)) = p)) (decide_eq_false z)]; exact e
  exact key n 0 (by omega) (fun j hj => by omega) rfl
set_option maxHeartbeats 4000000 in
set_option maxRecDepth 100000 in
theorem lp_X12_near_1 {h hh : HP} {S : HS} {f g : Int → Int} {p : Int} (Q0 : MAsk h S f) (G : MG h hh S f g) (hp : 0 ≤ p ∧ p < sNp S) : ∀ (dd k : Nat), k + dd = (sNp S) → K mX12_near GK (ZK (fun o h' => o = .inl (some (vi (srN (fun j => if (f (8 + (j : Int))) = p then some (j : Int) else none) (-1) 0 (sNp S)))) ∧ FQ h h' ∧ hI h' 0 0 = 0) 0 0) 0 0 29 [(4, vi (k : Int)), (3, vi (selN (fun j _ => decide (f (8 + (j : Int)) = p)) k)), (0, vr 0), (1, vi p), (2, vi 1)] [] hh := by
  intro dd
  induction dd with
  | zero =>
    intro k hk
    have hB := Q0.1.1
    have hNt := hB.1
    have hNp := hB.2.1
    have R := Q0.2.2.2.2
    have hT := R.1
    have hW := hT.1
    have ek : k = (sNp S) := by omega
    subst ek
    refine K_iload (dt_at dtX12_near 18 rfl) rfl ?_
    refine K_aload_n (dt_at dtX12_near 19 rfl) rfl rfl ?_
    refine K_get (a := 0) (ci := 12) (k := 2) (v := vi (sNp S : Int)) (dt_at dtX12_near 20 rfl) (show TT 0 = (0, 12) from rfl) rfl (by decide) wF_X12_270 (by show vi (hI hh 0 2) = vi (sNp S : Int); rw [(MD_np (MG_D0 G))]) ?_
    refine K_icmp_ge (tgt := 114) (dt_at dtX12_near 21 rfl) (by decide) (by first | assumption | exact ⟨by omega, by omega⟩) (by first | assumption | exact ⟨by omega, by omega⟩) (fun c1 => ?_) (fun c1 => absurd c1 (by omega))
    refine K_iload_n (dt_at dtX12_near 65 rfl) rfl rfl ?_
    exact K_iret (dt_at dtX12_near 66 rfl) rfl rfl (by decide) (by decide) ⟨by rw [last_eq (fun a b ha hb e1 e2 => by have := R.2.2.2.2.1 (a : Int) (b : Int) (by omega) (by omega) (by omega) (by omega) (by rw [e1, e2]); omega)], G.2.1, G.2.2.2⟩
  | succ dd ih =>
    intro k hk
    have hB := Q0.1.1
    have hNt := hB.1
    have hNp := hB.2.1
    have R := Q0.2.2.2.2
    have hT := R.1
    have hW := hT.1
    have wk := hW.2 (k : Int) (by omega) (by omega)
    refine K_iload (dt_at dtX12_near 18 rfl) rfl ?_
    refine K_aload_n (dt_at dtX12_near 19 rfl) rfl rfl ?_
    refine K_get (a := 0) (ci := 12) (k := 2) (v := vi (sNp S : Int)) (dt_at dtX12_near 20 rfl) (show TT 0 = (0, 12) from rfl) rfl (by decide) wF_X12_270 (by show vi (hI hh 0 2) = vi (sNp S : Int); rw [(MD_np (MG_D0 G))]) ?_
    refine K_icmp_ge (tgt := 114) (dt_at dtX12_near 21 rfl) (by decide) (by first | assumption | exact ⟨by omega, by omega⟩) (by first | assumption | exact ⟨by omega, by omega⟩) (fun c1 => absurd c1 (by omega)) (fun c1 => ?_)
    refine K_iload_n (dt_at dtX12_near 22 rfl) rfl rfl ?_
    refine K_iconst (dt_at dtX12_near 23 rfl) ?_
    refine K_icmp_ne (tgt := 60) (dt_at dtX12_near 24 rfl) (by decide) (by first | assumption | exact ⟨by omega, by omega⟩) (by first | assumption | exact ⟨by omega, by omega⟩) (fun c2 => absurd c2 (by omega)) (fun c2 => ?_)
    refine K_aload_n (dt_at dtX12_near 25 rfl) rfl rfl ?_
    refine K_get (a := 0) (ci := 12) (k := 42) (v := vr 18) (dt_at dtX12_near 26 rfl) (show TT 0 = (0, 12) from rfl) rfl (by decide) wF_X12_72 rfl ?_
    refine K_bipush (dt_at dtX12_near 27 rfl) (by decide) ?_
    refine K_iload (dt_at dtX12_near 28 rfl) rfl ?_
    refine K_iadd (dt_at dtX12_near 29 rfl) ?_
    refine K_iald (dt_at dtX12_near 30 rfl) (show TT 18 = (1, 154) from rfl) (by omega) (by omega) ?_
    rw [show hA hh 18 (8 + (k : Int)) = (f (8 + (k : Int))) from RV_c (MG_D0 G).2.2.2 (p := (k : Int)) (by omega) (by omega)]
    refine K_iload_n (dt_at dtX12_near 31 rfl) rfl rfl ?_
    refine K_icmp_ne (tgt := 60) (dt_at dtX12_near 32 rfl) (by decide) (by first | assumption | exact ⟨by omega, by omega⟩) (by first | assumption | exact ⟨by omega, by omega⟩) (fun c3 => ?_) (fun c3 => ?_)
    · refine K_iload_n (dt_at dtX12_near 35 rfl) rfl rfl ?_
      refine K_if_ne (tgt := 108) (dt_at dtX12_near 36 rfl) (by decide) (by first | assumption | exact ⟨by omega, by omega⟩) (fun c4 => ?_) (fun c4 => absurd c4 (by omega))
      refine K_iinc (ls' := [(4, vi ((k : Int) + 1)), (3, vi (selN (fun j _ => decide (f (8 + (j : Int)) = p)) k)), (0, vr 0), (1, vi p), (2, vi 1)]) (dt_at dtX12_near 63 rfl) rfl (by decide) rfl ?_
      refine K_goto (tgt := 29) (dt_at dtX12_near 64 rfl) (by decide) ?_
      refine K_pk [0, 1, 2, 3, 4] (ls' := [(4, vi ((k : Int) + 1)), (3, vi (selN (fun j _ => decide (f (8 + (j : Int)) = p)) k)), (0, vr 0), (1, vi p), (2, vi 1)]) rfl ?_
      exact K_cg (ls' := [(4, vi ((k + 1 : Nat) : Int)), (3, vi (selN (fun j _ => decide (f (8 + (j : Int)) = p)) (k + 1))), (0, vr 0), (1, vi p), (2, vi 1)]) (h' := hh) (by rw [selN_f (p := fun j _ => decide (f (8 + (j : Int)) = p)) (decide_eq_false (by assumption))]; rfl) (by rfl) (ih (k + 1) (by omega))
    · refine K_iload (dt_at dtX12_near 33 rfl) rfl ?_
      refine K_istore_n (ls' := [(3, vi (k : Int)), (4, vi (k : Int)), (0, vr 0), (1, vi p), (2, vi 1)]) (dt_at dtX12_near 34 rfl) rfl (by decide) rfl ?_
      refine K_iload_n (dt_at dtX12_near 35 rfl) rfl rfl ?_
      refine K_if_ne (tgt := 108) (dt_at dtX12_near 36 rfl) (by decide) (by first | assumption | exact ⟨by omega, by omega⟩) (fun c5 => ?_) (fun c5 => absurd c5 (by omega))
      refine K_iinc (ls' := [(4, vi ((k : Int) + 1)), (3, vi (k : Int)), (0, vr 0), (1, vi p), (2, vi 1)]) (dt_at dtX12_near 63 rfl) rfl (by decide) rfl ?_
      refine K_goto (tgt := 29) (dt_at dtX12_near 64 rfl) (by decide) ?_
      refine K_pk [0, 1, 2, 3, 4] (ls' := [(4, vi ((k : Int) + 1)), (3, vi (k : Int)), (0, vr 0), (1, vi p), (2, vi 1)]) rfl ?_
      exact K_cg (ls' := [(4, vi ((k + 1 : Nat) : Int)), (3, vi (selN (fun j _ => decide (f (8 + (j : Int)) = p)) (k + 1))), (0, vr 0), (1, vi p), (2, vi 1)]) (h' := hh) (by rw [selN_t (p := fun j _ => decide (f (8 + (j : Int)) = p)) (decide_eq_true (by assumption))]; rfl) (by rfl) (ih (k + 1) (by omega))
set_option maxHeartbeats 4000000 in
set_option maxRecDepth 100000 in
theorem sX12_near_1 {h : HP} {S : HS} {f : Int → Int} {p : Int} (Q0 : MAsk h S f) (hp : 0 ≤ p ∧ p < sNp S) : SpecK mX12_near [vr 0, vi p, vi 1] h (fun o h' => o = .inl (some (vi (srN (fun j => if (f (8 + (j : Int))) = p then some (j : Int) else none) (-1) 0 (sNp S)))) ∧ FQ h h' ∧ hI h' 0 0 = 0) := by
  refine Spec_of (by decide +kernel) (Nat.le_of_ble_eq_true rfl) ?_
  have hB := Q0.1.1
  have hNt := hB.1
  have hNp := hB.2.1
  have R := Q0.2.2.2.2
  have hT := R.1
  have hW := hT.1
  refine K_aload_n (dt_at dtX12_near 0 rfl) rfl rfl ?_
  refine K_iconst (dt_at dtX12_near 1 rfl) ?_
  refine K_putI (a := 0) (ci := 12) (k := 0) (dt_at dtX12_near 2 rfl) (show TT 0 = (0, 12) from rfl) rfl (by decide) wF_X12_105 rfl (Or.inl rfl) rfl rfl ?_
  obtain ⟨hu1, eu1⟩ : ∃ z, z = sI h 0 0 0 := ⟨_, rfl⟩
  rw [← eu1]
  obtain ⟨iu1, fu1, au1, ru1⟩ := sI_fx eu1
  have Gu1 := MG_0 Q0 eu1
  refine K_aload_n (dt_at dtX12_near 3 rfl) rfl rfl ?_
  refine K_iload_n (dt_at dtX12_near 4 rfl) rfl rfl ?_
  refine K_callV (M' := mX12_isPerson) (a := 0) (ci := 12) (As := [vi p]) (st := []) (dt_at dtX12_near 5 rfl) (sX12_isPerson_t (MD_np (MG_D0 Gu1)) hNp Gu1.2.2.2 (by omega)) (show TT 0 = (0, 12) from rfl) rfl wL_X12_375 vX12_isPerson rfl npX12_isPerson (by decide) (by decide) (Nat.le_of_ble_eq_true rfl) (by decide) (by decide) GK_E (fun v9 h9 hq => ?_) (fun E h9 hq => by cases hq.1)
  obtain ⟨e9, e8⟩ := hq
  cases e9
  rw [e8]
  show K mX12_near _ _ 0 0 10 [(0, vr 0), (1, vi p), (2, vi 1)] [vi 1] hu1
  refine K_if_eq (tgt := 22) (dt_at dtX12_near 6 rfl) (by decide) (by first | assumption | exact ⟨by omega, by omega⟩) (fun c1 => absurd c1 (by omega)) (fun c1 => ?_)
  refine K_aload_n (dt_at dtX12_near 7 rfl) rfl rfl ?_
  refine K_iload_n (dt_at dtX12_near 8 rfl) rfl rfl ?_
  refine K_iconst (dt_at dtX12_near 9 rfl) ?_
  refine K_callV (M' := mX12_isWhat) (a := 0) (ci := 12) (As := [vi 1, vi 1]) (st := []) (dt_at dtX12_near 10 rfl) (sX12_isWhat_t Gu1.2.2.2 (by omega) (by omega)) (show TT 0 = (0, 12) from rfl) rfl wL_X12_371 vX12_isWhat rfl npX12_isWhat (by decide) (by decide) (Nat.le_of_ble_eq_true rfl) (by decide) (by decide) GK_E (fun v9 h9 hq => ?_) (fun E h9 hq => by cases hq.1)
  obtain ⟨e9, e8⟩ := hq
  cases e9
  rw [e8]
  show K mX12_near _ _ 0 0 19 [(0, vr 0), (1, vi p), (2, vi 1)] [vi 1] hu1
  refine K_if_ne (tgt := 24) (dt_at dtX12_near 11 rfl) (by decide) (by first | assumption | exact ⟨by omega, by omega⟩) (fun c2 => ?_) (fun c2 => absurd c2 (by omega))
  refine K_iconst (dt_at dtX12_near 14 rfl) ?_
  refine K_istore_n (ls' := [(3, vi (-1)), (0, vr 0), (1, vi p), (2, vi 1)]) (dt_at dtX12_near 15 rfl) rfl (by decide) rfl ?_
  refine K_iconst (dt_at dtX12_near 16 rfl) ?_
  refine K_istore (ls' := [(4, vi 0), (3, vi (-1)), (0, vr 0), (1, vi p), (2, vi 1)]) (dt_at dtX12_near 17 rfl) (by decide) rfl ?_
  exact K_pk [0, 1, 2, 3, 4] rfl (lp_X12_near_1 Q0 Gu1 hp (sNp S) 0 (by omega))
