def mX12_comesBack : MI := (yX12_comesBack, cX12_comesBack, 4, none, rmK 4 0)
def tX12_comesBack : List (Nat × Instr × Nat) := [(0, .aload_n 0, 1), (1, .getfield 72, 3), (4, .iload_n 1, 1), (5, .bipush 63, 2), (7, .iadd, 1), (8, .iload_n 2, 1), (9, .iadd, 1), (10, .aload_n 0, 1), (11, .iload_n 1, 1), (12, .iload_n 2, 1), (13, .invokevirtual 322, 3), (16, .iconst 0, 1), (17, .bipush 9, 2), (19, .invokestatic 297, 3), (22, .iastore, 1), (23, .iconst 0, 1), (24, .istore_n 3, 1), (25, .iload_n 3, 1), (26, .aload_n 0, 1), (27, .getfield 267, 3), (30, .if_icmp .ge 48, 3), (33, .aload_n 0, 1), (34, .getfield 72, 3), (37, .iload_n 1, 1), (38, .bipush 57, 2), (40, .iadd, 1), (41, .iload_n 3, 1), (42, .iadd, 1), (43, .dup2, 1), (44, .iaload, 1), (45, .aload_n 0, 1), (46, .getfield 72, 3), (49, .aload_n 0, 1), (50, .iload_n 1, 1), (51, .iload_n 2, 1), (52, .iload_n 3, 1), (53, .invokevirtual 291, 3), (56, .iaload, 1), (57, .iadd, 1), (58, .iastore, 1), (59, .aload_n 0, 1), (60, .getfield 72, 3), (63, .aload_n 0, 1), (64, .iload_n 1, 1), (65, .iload_n 2, 1), (66, .iload_n 3, 1), (67, .invokevirtual 291, 3), (70, .iconst 0, 1), (71, .iastore, 1), (72, .iinc 3 1, 3), (75, .goto (-50), 3), (78, .return_, 1)]
theorem dtX12_comesBack : tX12_comesBack.all (fun q => decide (decode cX12_comesBack q.1 = .ok (q.2.1, q.2.2))) = true := by decide +kernel
theorem npX12_comesBack : (parseMethodDescriptor (mY mX12_comesBack).desc).map (fun d => d.parameters.length) = some 2 := by decide +kernel
theorem vX12_comesBack : mV mX12_comesBack := ⟨wI_X12_comesBack, wS_X12_comesBack, wN_X12, wC_X12_comesBack, by decide +kernel, by decide +kernel⟩
set_option maxHeartbeats 4000000 in
set_option maxRecDepth 100000 in
theorem lp_X12_comesBack {Q : AO → HP → Prop} {h0 h : HP} {b B : Int} {S : HS} {f : Int → Int} {p : Int} (hT : rT B f) (hp : 0 ≤ p ∧ p < sNp S) (hQ : ∀ h2, MD h0 h2 b S (cbF S f p) → hI h2 = hI h → Q (.inl none) h2) : ∀ (dd k : Nat) (hh : HP), k + dd = sNt S → MD h0 hh b S (unI (upI f (15 + p) (max 0 (min 9 (fondB S f p)))) (f (8 + p)) k) → hI hh = hI h → K mX12_comesBack GK (ZK Q 0 0) 0 0 25 [(3, vi (k : Int)), (0, vr 0), (1, vi b), (2, vi p)] [] hh := by
  intro dd
  induction dd with
  | zero =>
    intro k hh hk dh ii
    have hB := dh.1.1
    have hNt := hB.1
    have hNp := hB.2.1
    have hb := dh.2.1
    have hW := hT.1
    have wc := (hW.2 p (by omega) (by omega)).2.1
    have hG := fond_rT (p := p) (x := max 0 (min 9 (fondB S f p))) hT ⟨by omega, by omega⟩ (by omega)
    obtain ⟨hTk, hlo⟩ := unI_ok hG wc k (by omega)
    have hWk := hTk.1
    have ec : (unI (upI f (15 + p) (max 0 (min 9 (fondB S f p)))) (f (8 + p)) k) (8 + p) = f (8 + p) := by rw [hlo (8 + p) (by omega), upI_n (by omega)]
    have ek : k = sNt S := by omega
    refine K_iload_n (dt_at dtX12_comesBack 17 rfl) rfl rfl ?_
    refine K_aload_n (dt_at dtX12_comesBack 18 rfl) rfl rfl ?_
    refine K_get (a := 0) (ci := 12) (k := 1) (v := vi (sNt S : Int)) (dt_at dtX12_comesBack 19 rfl) (show TT 0 = (0, 12) from rfl) rfl (by decide) wF_X12_267 (by show vi (hI hh 0 1) = vi (sNt S : Int); rw [(MD_nt dh)]) ?_
    refine K_icmp_ge (tgt := 78) (dt_at dtX12_comesBack 20 rfl) (by decide) (by first | assumption | exact ⟨by omega, by omega⟩) (by first | assumption | exact ⟨by omega, by omega⟩) (fun c1 => ?_) (fun c1 => absurd c1 (by omega))
    exact K_vret (dt_at dtX12_comesBack 51 rfl) rfl (by decide) (by decide) (hQ hh (by rw [ek] at dh; exact dh) ii)
  | succ dd ih =>
    intro k hh hk dh ii
    have hB := dh.1.1
    have hNt := hB.1
    have hNp := hB.2.1
    have hb := dh.2.1
    have hW := hT.1
    have wc := (hW.2 p (by omega) (by omega)).2.1
    have hG := fond_rT (p := p) (x := max 0 (min 9 (fondB S f p))) hT ⟨by omega, by omega⟩ (by omega)
    obtain ⟨hTk, hlo⟩ := unI_ok hG wc k (by omega)
    have hWk := hTk.1
    have ec : (unI (upI f (15 + p) (max 0 (min 9 (fondB S f p)))) (f (8 + p)) k) (8 + p) = f (8 + p) := by rw [hlo (8 + p) (by omega), upI_n (by omega)]
    have nn := rT_in hTk wc (t := (k : Int)) ⟨by omega, by omega⟩
    have bb := hTk.2.2.2.2.2
    have w9 := hWk.1 (35 + f (8 + p) * 6 + (k : Int)) (by omega) (by omega)
    have w8 := hWk.1 (29 + (k : Int)) (by omega) (by omega)
    refine K_iload_n (dt_at dtX12_comesBack 17 rfl) rfl rfl ?_
    refine K_aload_n (dt_at dtX12_comesBack 18 rfl) rfl rfl ?_
    refine K_get (a := 0) (ci := 12) (k := 1) (v := vi (sNt S : Int)) (dt_at dtX12_comesBack 19 rfl) (show TT 0 = (0, 12) from rfl) rfl (by decide) wF_X12_267 (by show vi (hI hh 0 1) = vi (sNt S : Int); rw [(MD_nt dh)]) ?_
    refine K_icmp_ge (tgt := 78) (dt_at dtX12_comesBack 20 rfl) (by decide) (by first | assumption | exact ⟨by omega, by omega⟩) (by first | assumption | exact ⟨by omega, by omega⟩) (fun c1 => absurd c1 (by omega)) (fun c1 => ?_)
    refine K_aload_n (dt_at dtX12_comesBack 21 rfl) rfl rfl ?_
    refine K_get (a := 0) (ci := 12) (k := 42) (v := vr 18) (dt_at dtX12_comesBack 22 rfl) (show TT 0 = (0, 12) from rfl) rfl (by decide) wF_X12_72 rfl ?_
    refine K_iload_n (dt_at dtX12_comesBack 23 rfl) rfl rfl ?_
    refine K_bipush (dt_at dtX12_comesBack 24 rfl) (by decide) ?_
    refine K_iadd (dt_at dtX12_comesBack 25 rfl) ?_
    refine K_iload_n (dt_at dtX12_comesBack 26 rfl) rfl rfl ?_
    refine K_iadd (dt_at dtX12_comesBack 27 rfl) ?_
    refine K_dup2 (dt_at dtX12_comesBack 28 rfl) rfl rfl ?_
    refine K_iald (dt_at dtX12_comesBack 29 rfl) (show TT 18 = (1, 154) from rfl) (by omega) (by omega) ?_
    rw [show hA hh 18 ((b + 57) + (k : Int)) = ((unI (upI f (15 + p) (max 0 (min 9 (fondB S f p)))) (f (8 + p)) k) (29 + (k : Int))) from RV_s dh.2.2.2 (p := (k : Int)) (by omega) (by omega)]
    refine K_aload_n (dt_at dtX12_comesBack 30 rfl) rfl rfl ?_
    refine K_get (a := 0) (ci := 12) (k := 42) (v := vr 18) (dt_at dtX12_comesBack 31 rfl) (show TT 0 = (0, 12) from rfl) rfl (by decide) wF_X12_72 rfl ?_
    refine K_aload_n (dt_at dtX12_comesBack 32 rfl) rfl rfl ?_
    refine K_iload_n (dt_at dtX12_comesBack 33 rfl) rfl rfl ?_
    refine K_iload_n (dt_at dtX12_comesBack 34 rfl) rfl rfl ?_
    refine K_iload_n (dt_at dtX12_comesBack 35 rfl) rfl rfl ?_
    refine K_callV (M' := mX12_pieceAt) (a := 0) (ci := 12) (As := [vi b, vi p, vi (k : Int)]) (st := [vr 18, vi ((unI (upI f (15 + p) (max 0 (min 9 (fondB S f p)))) (f (8 + p)) k) (29 + (k : Int))), vi ((b + 57) + (k : Int)), vr 18]) (dt_at dtX12_comesBack 36 rfl) (sX12_pieceAt dh hWk ⟨by omega, by omega⟩) (show TT 0 = (0, 12) from rfl) rfl wL_X12_291 vX12_pieceAt rfl npX12_pieceAt (by decide) (by decide) (Nat.le_of_ble_eq_true rfl) (by decide) (by decide) GK_E (fun v9 h9 hq => ?_) (fun E h9 hq => by cases hq.1)
    obtain ⟨e9, e8⟩ := hq
    cases e9
    rw [e8]
    show K mX12_comesBack _ _ 0 0 56 [(3, vi (k : Int)), (0, vr 0), (1, vi b), (2, vi p)] [vi (b + 15 + 6 * (unI (upI f (15 + p) (max 0 (min 9 (fondB S f p)))) (f (8 + p)) k) (8 + p) + (k : Int)), vr 18, vi ((unI (upI f (15 + p) (max 0 (min 9 (fondB S f p)))) (f (8 + p)) k) (29 + (k : Int))), vi ((b + 57) + (k : Int)), vr 18] hh
    rw [ec]
    refine K_iald (dt_at dtX12_comesBack 37 rfl) (show TT 18 = (1, 154) from rfl) (by omega) (by omega) ?_
    rw [show hA hh 18 (b + 15 + 6 * f (8 + p) + (k : Int)) = ((unI (upI f (15 + p) (max 0 (min 9 (fondB S f p)))) (f (8 + p)) k) (35 + f (8 + p) * 6 + (k : Int))) from RV_i dh.2.2.2 (c := f (8 + p)) (t := (k : Int)) (by omega) (by omega) (by omega)]
    refine K_iadd (dt_at dtX12_comesBack 38 rfl) ?_
    refine K_iast (dt_at dtX12_comesBack 39 rfl) (show TT 18 = (1, 154) from rfl) (by omega) (by omega) ?_
    obtain ⟨hu1, eu1⟩ : ∃ z, z = sA hh 18 ((b + 57) + (k : Int)) (((unI (upI f (15 + p) (max 0 (min 9 (fondB S f p)))) (f (8 + p)) k) (29 + (k : Int))) + ((unI (upI f (15 + p) (max 0 (min 9 (fondB S f p)))) (f (8 + p)) k) (35 + f (8 + p) * 6 + (k : Int)))) := ⟨_, rfl⟩
    rw [← eu1]
    obtain ⟨au1, fu1, iu1, ru1⟩ := sA_fx eu1
    have du1 : MD h0 hu1 b S (upI (unI (upI f (15 + p) (max 0 (min 9 (fondB S f p)))) (f (8 + p)) k) (29 + (k : Int)) (((unI (upI f (15 + p) (max 0 (min 9 (fondB S f p)))) (f (8 + p)) k) (29 + (k : Int))) + ((unI (upI f (15 + p) (max 0 (min 9 (fondB S f p)))) (f (8 + p)) k) (35 + f (8 + p) * 6 + (k : Int))))) := MD_up dh (j := 29 + (k : Int)) (by omega) (by omega) (by rw [pm_s (by omega)]; omega) eu1
    refine K_aload_n (dt_at dtX12_comesBack 40 rfl) rfl rfl ?_
    refine K_get (a := 0) (ci := 12) (k := 42) (v := vr 18) (dt_at dtX12_comesBack 41 rfl) (show TT 0 = (0, 12) from rfl) rfl (by decide) wF_X12_72 rfl ?_
    refine K_aload_n (dt_at dtX12_comesBack 42 rfl) rfl rfl ?_
    refine K_iload_n (dt_at dtX12_comesBack 43 rfl) rfl rfl ?_
    refine K_iload_n (dt_at dtX12_comesBack 44 rfl) rfl rfl ?_
    refine K_iload_n (dt_at dtX12_comesBack 45 rfl) rfl rfl ?_
    refine K_callV (M' := mX12_pieceAt) (a := 0) (ci := 12) (As := [vi b, vi p, vi (k : Int)]) (st := [vr 18]) (dt_at dtX12_comesBack 46 rfl) (sX12_pieceAt du1 (by refine upI_rW hWk (by omega) (by omega) (by omega) (by omega) (by omega)) ⟨by omega, by omega⟩) (show TT 0 = (0, 12) from rfl) rfl wL_X12_291 vX12_pieceAt rfl npX12_pieceAt (by decide) (by decide) (Nat.le_of_ble_eq_true rfl) (by decide) (by decide) GK_E (fun v9 h9 hq => ?_) (fun E h9 hq => by cases hq.1)
    obtain ⟨e9, e8⟩ := hq
    cases e9
    rw [e8]
    show K mX12_comesBack _ _ 0 0 70 [(3, vi (k : Int)), (0, vr 0), (1, vi b), (2, vi p)] [vi (b + 15 + 6 * (upI (unI (upI f (15 + p) (max 0 (min 9 (fondB S f p)))) (f (8 + p)) k) (29 + (k : Int)) (((unI (upI f (15 + p) (max 0 (min 9 (fondB S f p)))) (f (8 + p)) k) (29 + (k : Int))) + ((unI (upI f (15 + p) (max 0 (min 9 (fondB S f p)))) (f (8 + p)) k) (35 + f (8 + p) * 6 + (k : Int))))) (8 + p) + (k : Int)), vr 18] hu1
    rw [upI_n (show (8 + p) ≠ 29 + (k : Int) by omega), ec]
    refine K_iconst (dt_at dtX12_comesBack 47 rfl) ?_
    refine K_iast (dt_at dtX12_comesBack 48 rfl) (show TT 18 = (1, 154) from rfl) (by omega) (by omega) ?_
    obtain ⟨hu2, eu2⟩ : ∃ z, z = sA hu1 18 (b + 15 + 6 * f (8 + p) + (k : Int)) 0 := ⟨_, rfl⟩
    rw [← eu2]
    obtain ⟨au2, fu2, iu2, ru2⟩ := sA_fx eu2
    have du2 : MD h0 hu2 b S (upI (upI (unI (upI f (15 + p) (max 0 (min 9 (fondB S f p)))) (f (8 + p)) k) (29 + (k : Int)) (((unI (upI f (15 + p) (max 0 (min 9 (fondB S f p)))) (f (8 + p)) k) (29 + (k : Int))) + ((unI (upI f (15 + p) (max 0 (min 9 (fondB S f p)))) (f (8 + p)) k) (35 + f (8 + p) * 6 + (k : Int))))) (35 + f (8 + p) * 6 + (k : Int)) 0) := MD_up du1 (j := 35 + f (8 + p) * 6 + (k : Int)) (by omega) (by omega) (by rw [pm_i (by omega) (by omega)]; omega) eu2
    refine K_iinc (ls' := [(3, vi ((k : Int) + 1)), (0, vr 0), (1, vi b), (2, vi p)]) (dt_at dtX12_comesBack 49 rfl) rfl (by decide) rfl ?_
    refine K_goto (tgt := 25) (dt_at dtX12_comesBack 50 rfl) (by decide) ?_
    have dn : MD h0 hu2 b S (unI (upI f (15 + p) (max 0 (min 9 (fondB S f p)))) (f (8 + p)) (k + 1)) := by have e9 := un_stp (g := (unI (upI f (15 + p) (max 0 (min 9 (fondB S f p)))) (f (8 + p)) k)) (c := f (8 + p)) (t := (k : Int)) wc ⟨by omega, by omega⟩; show MD h0 _ b S (mvC _ _ _ _); rw [← e9]; exact du2
    exact K_pk [0, 1, 2, 3] rfl (ih (k + 1) hu2 (by omega) dn (by rw [iu2, iu1, ii]))
set_option maxHeartbeats 4000000 in
set_option maxRecDepth 100000 in
theorem sX12_comesBack {h0 h : HP} {b B : Int} {S : HS} {f : Int → Int} {p : Int} (d : MD h0 h b S f) (hT : rT B f) (hp : 0 ≤ p ∧ p < sNp S) : SpecK mX12_comesBack [vr 0, vi b, vi p] h (fun o h' => o = .inl (none) ∧ MD h0 h' b S (cbF S f p) ∧ hI h' = hI h) := by
  refine Spec_of (by decide +kernel) (Nat.le_of_ble_eq_true rfl) ?_
  have hB := d.1.1
  have hNt := hB.1
  have hNp := hB.2.1
  have hb := d.2.1
  have hW := hT.1
  have f32 : i32 (fondB S f p) := by unfold fondB; cases hfe : sFe S with | none => have w := hW.2 p (by omega) (by omega); dsimp only; exact i32_if ⟨by omega, by omega⟩ ⟨by omega, by omega⟩ | some F => exact hB.2.2.2.2.2 F hfe _
  refine K_aload_n (dt_at dtX12_comesBack 0 rfl) rfl rfl ?_
  refine K_get (a := 0) (ci := 12) (k := 42) (v := vr 18) (dt_at dtX12_comesBack 1 rfl) (show TT 0 = (0, 12) from rfl) rfl (by decide) wF_X12_72 rfl ?_
  refine K_iload_n (dt_at dtX12_comesBack 2 rfl) rfl rfl ?_
  refine K_bipush (dt_at dtX12_comesBack 3 rfl) (by decide) ?_
  refine K_iadd (dt_at dtX12_comesBack 4 rfl) ?_
  refine K_iload_n (dt_at dtX12_comesBack 5 rfl) rfl rfl ?_
  refine K_iadd (dt_at dtX12_comesBack 6 rfl) ?_
  refine K_aload_n (dt_at dtX12_comesBack 7 rfl) rfl rfl ?_
  refine K_iload_n (dt_at dtX12_comesBack 8 rfl) rfl rfl ?_
  refine K_iload_n (dt_at dtX12_comesBack 9 rfl) rfl rfl ?_
  refine K_callV (M' := mX12_feels) (a := 0) (ci := 12) (As := [vi b, vi p]) (st := [vi ((b + 63) + p), vr 18]) (dt_at dtX12_comesBack 10 rfl) (sX12_feels d hT hp) (show TT 0 = (0, 12) from rfl) rfl wL_X12_322 vX12_feels rfl npX12_feels (by decide) (by decide) (Nat.le_of_ble_eq_true rfl) (by decide) (by decide) GK_E (fun v9 hc1 hq => ?_) (fun E h9 hq => by cases hq.1)
  have hqq2 := hq
  obtain ⟨e9q2, dq2, iq2⟩ := hqq2
  cases e9q2
  show K mX12_comesBack _ _ 0 0 16 [(0, vr 0), (1, vi b), (2, vi p)] [vi (fondB S f p), vi ((b + 63) + p), vr 18] hc1
  refine K_iconst (dt_at dtX12_comesBack 11 rfl) ?_
  refine K_bipush (dt_at dtX12_comesBack 12 rfl) (by decide) ?_
  refine K_callS (M' := mX12_bounded) (As := [vi (fondB S f p), vi 0, vi 9]) (st := [vi ((b + 63) + p), vr 18]) (dt_at dtX12_comesBack 13 rfl) (sX12_bounded f32) wL_X12_297 vX12_bounded rfl npX12_bounded (by decide) (by decide) (Nat.le_of_ble_eq_true rfl) (by decide) (by decide) GK_E (fun v9 h9 hq => ?_) (fun E h9 hq => by cases hq.1)
  obtain ⟨e9, e8⟩ := hq
  cases e9
  rw [e8]
  show K mX12_comesBack _ _ 0 0 22 [(0, vr 0), (1, vi b), (2, vi p)] [vi (max 0 (min 9 (fondB S f p))), vi ((b + 63) + p), vr 18] hc1
  refine K_iast (dt_at dtX12_comesBack 14 rfl) (show TT 18 = (1, 154) from rfl) (by omega) (by omega) ?_
  obtain ⟨hu3, eu3⟩ : ∃ z, z = sA hc1 18 ((b + 63) + p) (max 0 (min 9 (fondB S f p))) := ⟨_, rfl⟩
  rw [← eu3]
  obtain ⟨au3, fu3, iu3, ru3⟩ := sA_fx eu3
  have du3 : MD h0 hu3 b S (upI f (15 + p) (max 0 (min 9 (fondB S f p)))) := MD_up dq2 (j := 15 + p) (by omega) (by omega) (by rw [pm_f (by omega)]; omega) eu3
  refine K_iconst (dt_at dtX12_comesBack 15 rfl) ?_
  refine K_istore_n (ls' := [(3, vi 0), (0, vr 0), (1, vi b), (2, vi p)]) (dt_at dtX12_comesBack 16 rfl) rfl (by decide) rfl ?_
  exact K_pk [0, 1, 2, 3] rfl (lp_X12_comesBack hT hp (fun h2 q1 q2 => ⟨rfl, q1, q2⟩) (sNt S) 0 hu3 (by omega) du3 (by rw [iu3, iq2]))
def mX12_leaves : MI := (yX12_leaves, cX12_leaves, 4, none, rmK 5 0)
def tX12_leaves : List (Nat × Instr × Nat) := [(0, .aload_n 0, 1), (1, .getfield 72, 3), (4, .iload_n 1, 1), (5, .bipush 70, 2), (7, .iadd, 1), (8, .iload_n 2, 1), (9, .iadd, 1), (10, .iaload, 1), (11, .istore_n 3, 1), (12, .iload_n 3, 1), (13, .iconst (-1), 1), (14, .if_icmp .eq 22, 3), (17, .aload_n 0, 1), (18, .getfield 72, 3), (21, .iload_n 1, 1), (22, .iconst 1, 1), (23, .iadd, 1), (24, .iload_n 3, 1), (25, .iadd, 1), (26, .iaload, 1), (27, .ifCond .ne 9, 3), (30, .aload_n 0, 1), (31, .iload_n 1, 1), (32, .iload_n 2, 1), (33, .invokevirtual 310, 3), (36, .aload_n 0, 1), (37, .getfield 72, 3), (40, .iload_n 1, 1), (41, .iconst 1, 1), (42, .iadd, 1), (43, .iload_n 2, 1), (44, .iadd, 1), (45, .aload_n 0, 1), (46, .getfield 29, 3), (49, .iload_n 2, 1), (50, .iaload, 1), (51, .iastore, 1), (52, .aload_n 0, 1), (53, .dup, 1), (54, .getfield 313, 3), (57, .iconst 1, 1), (58, .iload_n 2, 1), (59, .ishl, 1), (60, .ior, 1), (61, .putfield 313, 3), (64, .aload_n 0, 1), (65, .dup, 1), (66, .getfield 316, 3), (69, .aload_n 0, 1), (70, .iload_n 1, 1), (71, .iload_n 2, 1), (72, .invokevirtual 300, 3), (75, .ifCond .ne 9, 3), (78, .iconst 1, 1), (79, .iload_n 2, 1), (80, .ishl, 1), (81, .goto 4, 3), (84, .iconst 0, 1), (85, .ior, 1), (86, .putfield 316, 3), (89, .return_, 1)]
theorem dtX12_leaves : tX12_leaves.all (fun q => decide (decode cX12_leaves q.1 = .ok (q.2.1, q.2.2))) = true := by decide +kernel
theorem npX12_leaves : (parseMethodDescriptor (mY mX12_leaves).desc).map (fun d => d.parameters.length) = some 2 := by decide +kernel
theorem vX12_leaves : mV mX12_leaves := ⟨wI_X12_leaves, wS_X12_leaves, wN_X12, wC_X12_leaves, by decide +kernel, by decide +kernel⟩
set_option maxHeartbeats 4000000 in
set_option maxRecDepth 100000 in
theorem sX12_leaves {h0 h : HP} {b B : Int} {S : HS} {f : Int → Int} {p lf em : Int} (d : MD h0 h b S f) (hT : rT B f) (hp : 0 ≤ p ∧ p < sNp S) (hC : f (8 + p) < sNp S) (hr : 0 ≤ sH S (f (8 + p)) - sumF (sW S) f p (sNt S)) (h47 : hI h 0 47 = lf) (h48 : hI h 0 48 = em) (hk : pkP S f) (he : i32 em) : SpecK mX12_leaves [vr 0, vi b, vi p] h (fun o h' => o = .inl none ∧ MD h0 h' b S (upI (pkW S f p) (1 + p) (sAw S p)) ∧ (hI h' 0 47 = bOr lf (bShl 1 p) ∧ hI h' 0 48 = (if sumF (sW S) (pkW S f p) p (sNt S) = 0 then bOr em (bShl 1 p) else em)) ∧ ∀ a k, (a ≠ 0 ∨ (k ≠ 47 ∧ k ≠ 48)) → hI h' a k = hI h a k) := by
  refine Spec_of (by decide +kernel) (Nat.le_of_ble_eq_true rfl) ?_
  have hB := d.1.1
  have hNt := hB.1
  have hNp := hB.2.1
  have hb := d.2.1
  have hW := hT.1
  have wk := hW.2 p (by omega) (by omega)
  have wk2 := hk p hp.1 hp.2
  have wa := (hB.2.2.2.1 p hp.1 hp.2).2.2
  obtain ⟨hTp, -⟩ := pkW_ok (p := p) hB hT hp hC
  have ws := sumF_rT (us := sW S) (p := p) (n := sNt S) hTp ⟨by omega, by omega⟩ hNt (fun i a b => by have := (hB.2.2.1 i a b).1; constructor <;> omega)
  have wo : f (22 + p) ≠ -1 → 0 ≤ f (1 + f (22 + p)) ∧ f (1 + f (22 + p)) ≤ 8 := fun z => (hW.2 (f (22 + p)) (by omega) (by omega)).1
  refine K_aload_n (dt_at dtX12_leaves 0 rfl) rfl rfl ?_
  refine K_get (a := 0) (ci := 12) (k := 42) (v := vr 18) (dt_at dtX12_leaves 1 rfl) (show TT 0 = (0, 12) from rfl) rfl (by decide) wF_X12_72 rfl ?_
  refine K_iload_n (dt_at dtX12_leaves 2 rfl) rfl rfl ?_
  refine K_bipush (dt_at dtX12_leaves 3 rfl) (by decide) ?_
  refine K_iadd (dt_at dtX12_leaves 4 rfl) ?_
  refine K_iload_n (dt_at dtX12_leaves 5 rfl) rfl rfl ?_
  refine K_iadd (dt_at dtX12_leaves 6 rfl) ?_
  refine K_iald (dt_at dtX12_leaves 7 rfl) (show TT 18 = (1, 154) from rfl) (by omega) (by omega) ?_
  rw [show hA h 18 ((b + 70) + p) = (f (22 + p)) from RV_k d.2.2.2 (p := p) (by omega) (by omega)]
  refine K_istore_n (ls' := [(3, vi (f (22 + p))), (0, vr 0), (1, vi b), (2, vi p)]) (dt_at dtX12_leaves 8 rfl) rfl (by decide) rfl ?_
  refine K_iload_n (dt_at dtX12_leaves 9 rfl) rfl rfl ?_
  refine K_iconst (dt_at dtX12_leaves 10 rfl) ?_
  refine K_icmp_eq (tgt := 36) (dt_at dtX12_leaves 11 rfl) (by decide) (by first | assumption | exact ⟨by omega, by omega⟩) (by first | assumption | exact ⟨by omega, by omega⟩) (fun c1 => ?_) (fun c1 => ?_)
  · have ep : pkW S f p = f := if_neg (by unfold inP; simp only [Bool.and_eq_true, decide_eq_true_eq]; intro z; first | exact z.1 (by assumption) | exact absurd z.2 (by assumption))
    have dp : MD h0 h b S (pkW S f p) := by rw [ep]; exact d
    refine K_aload_n (dt_at dtX12_leaves 25 rfl) rfl rfl ?_
    refine K_get (a := 0) (ci := 12) (k := 42) (v := vr 18) (dt_at dtX12_leaves 26 rfl) (show TT 0 = (0, 12) from rfl) rfl (by decide) wF_X12_72 rfl ?_
    refine K_iload_n (dt_at dtX12_leaves 27 rfl) rfl rfl ?_
    refine K_iconst (dt_at dtX12_leaves 28 rfl) ?_
    refine K_iadd (dt_at dtX12_leaves 29 rfl) ?_
    refine K_iload_n (dt_at dtX12_leaves 30 rfl) rfl rfl ?_
    refine K_iadd (dt_at dtX12_leaves 31 rfl) ?_
    refine K_aload_n (dt_at dtX12_leaves 32 rfl) rfl rfl ?_
    refine K_get (a := 0) (ci := 12) (k := 9) (v := vr 5) (dt_at dtX12_leaves 33 rfl) (show TT 0 = (0, 12) from rfl) rfl (by decide) wF_X12_29 rfl ?_
    refine K_iload_n (dt_at dtX12_leaves 34 rfl) rfl rfl ?_
    refine K_iald (dt_at dtX12_leaves 35 rfl) (show TT 5 = (1, 7) from rfl) (by omega) (by omega) ?_
    rw [show hA h 5 p = sAw S p from MD_a dp (by omega)]
    refine K_iast (dt_at dtX12_leaves 36 rfl) (show TT 18 = (1, 154) from rfl) (by omega) (by omega) ?_
    obtain ⟨hu1, eu1⟩ : ∃ z, z = sA h 18 ((b + 1) + p) (sAw S p) := ⟨_, rfl⟩
    rw [← eu1]
    obtain ⟨au1, fu1, iu1, ru1⟩ := sA_fx eu1
    have du1 : MD h0 hu1 b S (upI (pkW S f p) (1 + p) (sAw S p)) := MD_up dp (j := 1 + p) (by omega) (by omega) (by rw [pm_o (by omega)]; omega) eu1
    refine K_aload_n (dt_at dtX12_leaves 37 rfl) rfl rfl ?_
    refine K_dup (dt_at dtX12_leaves 38 rfl) rfl ?_
    refine K_get (a := 0) (ci := 12) (k := 47) (v := vi lf) (dt_at dtX12_leaves 39 rfl) (show TT 0 = (0, 12) from rfl) rfl (by decide) wF_X12_313 (by show vi (hI hu1 0 47) = vi lf; rw [iu1, h47]) ?_
    refine K_iconst (dt_at dtX12_leaves 40 rfl) ?_
    refine K_iload_n (dt_at dtX12_leaves 41 rfl) rfl rfl ?_
    refine K_ishl (dt_at dtX12_leaves 42 rfl) ?_
    refine K_ior (dt_at dtX12_leaves 43 rfl) ?_
    refine K_putI (a := 0) (ci := 12) (k := 47) (dt_at dtX12_leaves 44 rfl) (show TT 0 = (0, 12) from rfl) rfl (by decide) wF_X12_313 rfl (Or.inl rfl) rfl rfl ?_
    obtain ⟨hu2, eu2⟩ : ∃ z, z = sI hu1 0 47 (bOr lf (bShl 1 p)) := ⟨_, rfl⟩
    rw [← eu2]
    obtain ⟨iu2, fu2, au2, ru2⟩ := sI_fx eu2
    have du2 : MD h0 hu2 b S (upI (pkW S f p) (1 + p) (sAw S p)) := MD_47 du1 (Or.inl rfl) eu2
    refine K_aload_n (dt_at dtX12_leaves 45 rfl) rfl rfl ?_
    refine K_dup (dt_at dtX12_leaves 46 rfl) rfl ?_
    refine K_get (a := 0) (ci := 12) (k := 48) (v := vi em) (dt_at dtX12_leaves 47 rfl) (show TT 0 = (0, 12) from rfl) rfl (by decide) wF_X12_316 (by show vi (hI hu2 0 48) = vi em; rw [(fu2 0 48 (by omega)), iu1, h48]) ?_
    refine K_aload_n (dt_at dtX12_leaves 48 rfl) rfl rfl ?_
    refine K_iload_n (dt_at dtX12_leaves 49 rfl) rfl rfl ?_
    refine K_iload_n (dt_at dtX12_leaves 50 rfl) rfl rfl ?_
    refine K_callV (M' := mX12_weightIn) (a := 0) (ci := 12) (As := [vi b, vi p]) (st := [vi em, vr 0]) (dt_at dtX12_leaves 51 rfl) (sX12_weightIn du2 (out_rT (p := p) hTp ⟨by omega, by omega⟩ (by omega)).1 ⟨by omega, by omega⟩) (show TT 0 = (0, 12) from rfl) rfl wL_X12_300 vX12_weightIn rfl npX12_weightIn (by decide) (by decide) (Nat.le_of_ble_eq_true rfl) (by decide) (by decide) GK_E (fun v9 h9 hq => ?_) (fun E h9 hq => by cases hq.1)
    obtain ⟨e9, e8⟩ := hq
    cases e9
    rw [e8]
    show K mX12_leaves _ _ 0 0 75 [(3, vi (f (22 + p))), (0, vr 0), (1, vi b), (2, vi p)] [vi (sumF (sW S) (upI (pkW S f p) (1 + p) (sAw S p)) p (sNt S)), vi em, vr 0] hu2
    rw [sum_lo hTp.1 ⟨by omega, by omega⟩ (by omega) (by omega)]
    refine K_if_ne (tgt := 84) (dt_at dtX12_leaves 52 rfl) (by decide) (by first | assumption | exact ⟨by omega, by omega⟩) (fun c2 => ?_) (fun c2 => ?_)
    · refine K_iconst (dt_at dtX12_leaves 57 rfl) ?_
      refine K_ior (dt_at dtX12_leaves 58 rfl) ?_
      refine K_putI (a := 0) (ci := 12) (k := 48) (dt_at dtX12_leaves 59 rfl) (show TT 0 = (0, 12) from rfl) rfl (by decide) wF_X12_316 rfl (Or.inl rfl) rfl rfl ?_
      obtain ⟨hu3, eu3⟩ : ∃ z, z = sI hu2 0 48 (bOr em 0) := ⟨_, rfl⟩
      rw [← eu3]
      obtain ⟨iu3, fu3, au3, ru3⟩ := sI_fx eu3
      have du3 : MD h0 hu3 b S (upI (pkW S f p) (1 + p) (sAw S p)) := MD_47 du2 (Or.inr rfl) eu3
      exact K_vret (dt_at dtX12_leaves 60 rfl) rfl (by decide) (by decide) ⟨rfl, du3, ⟨by rw [(fu3 0 47 (by omega)), iu2], by rw [iu3, if_neg (by assumption), bOr_0 he]⟩, fun a_ k_ hk_ => by rw [(fu3 a_ k_ (by omega)), (fu2 a_ k_ (by omega)), iu1]⟩
    · refine K_iconst (dt_at dtX12_leaves 53 rfl) ?_
      refine K_iload_n (dt_at dtX12_leaves 54 rfl) rfl rfl ?_
      refine K_ishl (dt_at dtX12_leaves 55 rfl) ?_
      refine K_goto (tgt := 85) (dt_at dtX12_leaves 56 rfl) (by decide) ?_
      refine K_ior (dt_at dtX12_leaves 58 rfl) ?_
      refine K_putI (a := 0) (ci := 12) (k := 48) (dt_at dtX12_leaves 59 rfl) (show TT 0 = (0, 12) from rfl) rfl (by decide) wF_X12_316 rfl (Or.inl rfl) rfl rfl ?_
      obtain ⟨hu4, eu4⟩ : ∃ z, z = sI hu2 0 48 (bOr em (bShl 1 p)) := ⟨_, rfl⟩
      rw [← eu4]
      obtain ⟨iu4, fu4, au4, ru4⟩ := sI_fx eu4
      have du4 : MD h0 hu4 b S (upI (pkW S f p) (1 + p) (sAw S p)) := MD_47 du2 (Or.inr rfl) eu4
      exact K_vret (dt_at dtX12_leaves 60 rfl) rfl (by decide) (by decide) ⟨rfl, du4, ⟨by rw [(fu4 0 47 (by omega)), iu2], by rw [iu4, if_pos (by assumption)]⟩, fun a_ k_ hk_ => by rw [(fu4 a_ k_ (by omega)), (fu2 a_ k_ (by omega)), iu1]⟩
  · refine K_aload_n (dt_at dtX12_leaves 12 rfl) rfl rfl ?_
    refine K_get (a := 0) (ci := 12) (k := 42) (v := vr 18) (dt_at dtX12_leaves 13 rfl) (show TT 0 = (0, 12) from rfl) rfl (by decide) wF_X12_72 rfl ?_
    refine K_iload_n (dt_at dtX12_leaves 14 rfl) rfl rfl ?_
    refine K_iconst (dt_at dtX12_leaves 15 rfl) ?_
    refine K_iadd (dt_at dtX12_leaves 16 rfl) ?_
    refine K_iload_n (dt_at dtX12_leaves 17 rfl) rfl rfl ?_
    refine K_iadd (dt_at dtX12_leaves 18 rfl) ?_
    refine K_iald (dt_at dtX12_leaves 19 rfl) (show TT 18 = (1, 154) from rfl) (by omega) (by omega) ?_
    rw [show hA h 18 ((b + 1) + (f (22 + p))) = (f (1 + f (22 + p))) from RV_o d.2.2.2 (p := f (22 + p)) (by omega) (by omega)]
    refine K_if_ne (tgt := 36) (dt_at dtX12_leaves 20 rfl) (by decide) (by first | assumption | exact ⟨by omega, by omega⟩) (fun c3 => ?_) (fun c3 => ?_)
    · have ep : pkW S f p = f := if_neg (by unfold inP; simp only [Bool.and_eq_true, decide_eq_true_eq]; intro z; first | exact z.1 (by assumption) | exact absurd z.2 (by assumption))
      have dp : MD h0 h b S (pkW S f p) := by rw [ep]; exact d
      refine K_aload_n (dt_at dtX12_leaves 25 rfl) rfl rfl ?_
      refine K_get (a := 0) (ci := 12) (k := 42) (v := vr 18) (dt_at dtX12_leaves 26 rfl) (show TT 0 = (0, 12) from rfl) rfl (by decide) wF_X12_72 rfl ?_
      refine K_iload_n (dt_at dtX12_leaves 27 rfl) rfl rfl ?_
      refine K_iconst (dt_at dtX12_leaves 28 rfl) ?_
      refine K_iadd (dt_at dtX12_leaves 29 rfl) ?_
      refine K_iload_n (dt_at dtX12_leaves 30 rfl) rfl rfl ?_
      refine K_iadd (dt_at dtX12_leaves 31 rfl) ?_
      refine K_aload_n (dt_at dtX12_leaves 32 rfl) rfl rfl ?_
      refine K_get (a := 0) (ci := 12) (k := 9) (v := vr 5) (dt_at dtX12_leaves 33 rfl) (show TT 0 = (0, 12) from rfl) rfl (by decide) wF_X12_29 rfl ?_
      refine K_iload_n (dt_at dtX12_leaves 34 rfl) rfl rfl ?_
      refine K_iald (dt_at dtX12_leaves 35 rfl) (show TT 5 = (1, 7) from rfl) (by omega) (by omega) ?_
      rw [show hA h 5 p = sAw S p from MD_a dp (by omega)]
      refine K_iast (dt_at dtX12_leaves 36 rfl) (show TT 18 = (1, 154) from rfl) (by omega) (by omega) ?_
      obtain ⟨hu5, eu5⟩ : ∃ z, z = sA h 18 ((b + 1) + p) (sAw S p) := ⟨_, rfl⟩
      rw [← eu5]
      obtain ⟨au5, fu5, iu5, ru5⟩ := sA_fx eu5
      have du5 : MD h0 hu5 b S (upI (pkW S f p) (1 + p) (sAw S p)) := MD_up dp (j := 1 + p) (by omega) (by omega) (by rw [pm_o (by omega)]; omega) eu5
      refine K_aload_n (dt_at dtX12_leaves 37 rfl) rfl rfl ?_
      refine K_dup (dt_at dtX12_leaves 38 rfl) rfl ?_
      refine K_get (a := 0) (ci := 12) (k := 47) (v := vi lf) (dt_at dtX12_leaves 39 rfl) (show TT 0 = (0, 12) from rfl) rfl (by decide) wF_X12_313 (by show vi (hI hu5 0 47) = vi lf; rw [iu5, h47]) ?_
      refine K_iconst (dt_at dtX12_leaves 40 rfl) ?_
      refine K_iload_n (dt_at dtX12_leaves 41 rfl) rfl rfl ?_
      refine K_ishl (dt_at dtX12_leaves 42 rfl) ?_
      refine K_ior (dt_at dtX12_leaves 43 rfl) ?_
      refine K_putI (a := 0) (ci := 12) (k := 47) (dt_at dtX12_leaves 44 rfl) (show TT 0 = (0, 12) from rfl) rfl (by decide) wF_X12_313 rfl (Or.inl rfl) rfl rfl ?_
      obtain ⟨hu6, eu6⟩ : ∃ z, z = sI hu5 0 47 (bOr lf (bShl 1 p)) := ⟨_, rfl⟩
      rw [← eu6]
      obtain ⟨iu6, fu6, au6, ru6⟩ := sI_fx eu6
      have du6 : MD h0 hu6 b S (upI (pkW S f p) (1 + p) (sAw S p)) := MD_47 du5 (Or.inl rfl) eu6
      refine K_aload_n (dt_at dtX12_leaves 45 rfl) rfl rfl ?_
      refine K_dup (dt_at dtX12_leaves 46 rfl) rfl ?_
      refine K_get (a := 0) (ci := 12) (k := 48) (v := vi em) (dt_at dtX12_leaves 47 rfl) (show TT 0 = (0, 12) from rfl) rfl (by decide) wF_X12_316 (by show vi (hI hu6 0 48) = vi em; rw [(fu6 0 48 (by omega)), iu5, h48]) ?_
      refine K_aload_n (dt_at dtX12_leaves 48 rfl) rfl rfl ?_
      refine K_iload_n (dt_at dtX12_leaves 49 rfl) rfl rfl ?_
      refine K_iload_n (dt_at dtX12_leaves 50 rfl) rfl rfl ?_
      refine K_callV (M' := mX12_weightIn) (a := 0) (ci := 12) (As := [vi b, vi p]) (st := [vi em, vr 0]) (dt_at dtX12_leaves 51 rfl) (sX12_weightIn du6 (out_rT (p := p) hTp ⟨by omega, by omega⟩ (by omega)).1 ⟨by omega, by omega⟩) (show TT 0 = (0, 12) from rfl) rfl wL_X12_300 vX12_weightIn rfl npX12_weightIn (by decide) (by decide) (Nat.le_of_ble_eq_true rfl) (by decide) (by decide) GK_E (fun v9 h9 hq => ?_) (fun E h9 hq => by cases hq.1)
      obtain ⟨e9, e8⟩ := hq
      cases e9
      rw [e8]
      show K mX12_leaves _ _ 0 0 75 [(3, vi (f (22 + p))), (0, vr 0), (1, vi b), (2, vi p)] [vi (sumF (sW S) (upI (pkW S f p) (1 + p) (sAw S p)) p (sNt S)), vi em, vr 0] hu6
      rw [sum_lo hTp.1 ⟨by omega, by omega⟩ (by omega) (by omega)]
      refine K_if_ne (tgt := 84) (dt_at dtX12_leaves 52 rfl) (by decide) (by first | assumption | exact ⟨by omega, by omega⟩) (fun c4 => ?_) (fun c4 => ?_)
      · refine K_iconst (dt_at dtX12_leaves 57 rfl) ?_
        refine K_ior (dt_at dtX12_leaves 58 rfl) ?_
        refine K_putI (a := 0) (ci := 12) (k := 48) (dt_at dtX12_leaves 59 rfl) (show TT 0 = (0, 12) from rfl) rfl (by decide) wF_X12_316 rfl (Or.inl rfl) rfl rfl ?_
        obtain ⟨hu7, eu7⟩ : ∃ z, z = sI hu6 0 48 (bOr em 0) := ⟨_, rfl⟩
        rw [← eu7]
        obtain ⟨iu7, fu7, au7, ru7⟩ := sI_fx eu7
        have du7 : MD h0 hu7 b S (upI (pkW S f p) (1 + p) (sAw S p)) := MD_47 du6 (Or.inr rfl) eu7
        exact K_vret (dt_at dtX12_leaves 60 rfl) rfl (by decide) (by decide) ⟨rfl, du7, ⟨by rw [(fu7 0 47 (by omega)), iu6], by rw [iu7, if_neg (by assumption), bOr_0 he]⟩, fun a_ k_ hk_ => by rw [(fu7 a_ k_ (by omega)), (fu6 a_ k_ (by omega)), iu5]⟩
      · refine K_iconst (dt_at dtX12_leaves 53 rfl) ?_
        refine K_iload_n (dt_at dtX12_leaves 54 rfl) rfl rfl ?_
        refine K_ishl (dt_at dtX12_leaves 55 rfl) ?_
        refine K_goto (tgt := 85) (dt_at dtX12_leaves 56 rfl) (by decide) ?_
        refine K_ior (dt_at dtX12_leaves 58 rfl) ?_
        refine K_putI (a := 0) (ci := 12) (k := 48) (dt_at dtX12_leaves 59 rfl) (show TT 0 = (0, 12) from rfl) rfl (by decide) wF_X12_316 rfl (Or.inl rfl) rfl rfl ?_
        obtain ⟨hu8, eu8⟩ : ∃ z, z = sI hu6 0 48 (bOr em (bShl 1 p)) := ⟨_, rfl⟩
        rw [← eu8]
        obtain ⟨iu8, fu8, au8, ru8⟩ := sI_fx eu8
        have du8 : MD h0 hu8 b S (upI (pkW S f p) (1 + p) (sAw S p)) := MD_47 du6 (Or.inr rfl) eu8
        exact K_vret (dt_at dtX12_leaves 60 rfl) rfl (by decide) (by decide) ⟨rfl, du8, ⟨by rw [(fu8 0 47 (by omega)), iu6], by rw [iu8, if_pos (by assumption)]⟩, fun a_ k_ hk_ => by rw [(fu8 a_ k_ (by omega)), (fu6 a_ k_ (by omega)), iu5]⟩
    · refine K_aload_n (dt_at dtX12_leaves 21 rfl) rfl rfl ?_
      refine K_iload_n (dt_at dtX12_leaves 22 rfl) rfl rfl ?_
      refine K_iload_n (dt_at dtX12_leaves 23 rfl) rfl rfl ?_
      refine K_callV (M' := mX12_packs) (a := 0) (ci := 12) (As := [vi b, vi p]) (st := []) (dt_at dtX12_leaves 24 rfl) (sX12_packs d hT hp hC hr) (show TT 0 = (0, 12) from rfl) rfl wL_X12_310 vX12_packs rfl npX12_packs (by decide) (by decide) (Nat.le_of_ble_eq_true rfl) (by decide) (by decide) GK_E (fun v9 hc9 hq => ?_) (fun E h9 hq => by cases hq.1)
      have hqq10 := hq
      obtain ⟨e9q10, dq10, iq10⟩ := hqq10
      have ep : pkW S f p = packF S f p := if_pos (by unfold inP; simp only [Bool.and_eq_true, decide_eq_true_eq]; exact ⟨by assumption, by assumption⟩)
      cases e9q10
      show K mX12_leaves _ _ 0 0 36 [(3, vi (f (22 + p))), (0, vr 0), (1, vi b), (2, vi p)] [] hc9
      have dp : MD h0 hc9 b S (pkW S f p) := by rw [ep]; exact dq10
      refine K_aload_n (dt_at dtX12_leaves 25 rfl) rfl rfl ?_
      refine K_get (a := 0) (ci := 12) (k := 42) (v := vr 18) (dt_at dtX12_leaves 26 rfl) (show TT 0 = (0, 12) from rfl) rfl (by decide) wF_X12_72 rfl ?_
      refine K_iload_n (dt_at dtX12_leaves 27 rfl) rfl rfl ?_
      refine K_iconst (dt_at dtX12_leaves 28 rfl) ?_
      refine K_iadd (dt_at dtX12_leaves 29 rfl) ?_
      refine K_iload_n (dt_at dtX12_leaves 30 rfl) rfl rfl ?_
      refine K_iadd (dt_at dtX12_leaves 31 rfl) ?_
      refine K_aload_n (dt_at dtX12_leaves 32 rfl) rfl rfl ?_
      refine K_get (a := 0) (ci := 12) (k := 9) (v := vr 5) (dt_at dtX12_leaves 33 rfl) (show TT 0 = (0, 12) from rfl) rfl (by decide) wF_X12_29 rfl ?_
      refine K_iload_n (dt_at dtX12_leaves 34 rfl) rfl rfl ?_
      refine K_iald (dt_at dtX12_leaves 35 rfl) (show TT 5 = (1, 7) from rfl) (by omega) (by omega) ?_
      rw [show hA hc9 5 p = sAw S p from MD_a dp (by omega)]
      refine K_iast (dt_at dtX12_leaves 36 rfl) (show TT 18 = (1, 154) from rfl) (by omega) (by omega) ?_
      obtain ⟨hu11, eu11⟩ : ∃ z, z = sA hc9 18 ((b + 1) + p) (sAw S p) := ⟨_, rfl⟩
      rw [← eu11]
      obtain ⟨au11, fu11, iu11, ru11⟩ := sA_fx eu11
      have du11 : MD h0 hu11 b S (upI (pkW S f p) (1 + p) (sAw S p)) := MD_up dp (j := 1 + p) (by omega) (by omega) (by rw [pm_o (by omega)]; omega) eu11
      refine K_aload_n (dt_at dtX12_leaves 37 rfl) rfl rfl ?_
      refine K_dup (dt_at dtX12_leaves 38 rfl) rfl ?_
      refine K_get (a := 0) (ci := 12) (k := 47) (v := vi lf) (dt_at dtX12_leaves 39 rfl) (show TT 0 = (0, 12) from rfl) rfl (by decide) wF_X12_313 (by show vi (hI hu11 0 47) = vi lf; rw [iu11, iq10, h47]) ?_
      refine K_iconst (dt_at dtX12_leaves 40 rfl) ?_
      refine K_iload_n (dt_at dtX12_leaves 41 rfl) rfl rfl ?_
      refine K_ishl (dt_at dtX12_leaves 42 rfl) ?_
      refine K_ior (dt_at dtX12_leaves 43 rfl) ?_
      refine K_putI (a := 0) (ci := 12) (k := 47) (dt_at dtX12_leaves 44 rfl) (show TT 0 = (0, 12) from rfl) rfl (by decide) wF_X12_313 rfl (Or.inl rfl) rfl rfl ?_
      obtain ⟨hu12, eu12⟩ : ∃ z, z = sI hu11 0 47 (bOr lf (bShl 1 p)) := ⟨_, rfl⟩
      rw [← eu12]
      obtain ⟨iu12, fu12, au12, ru12⟩ := sI_fx eu12
      have du12 : MD h0 hu12 b S (upI (pkW S f p) (1 + p) (sAw S p)) := MD_47 du11 (Or.inl rfl) eu12
      refine K_aload_n (dt_at dtX12_leaves 45 rfl) rfl rfl ?_
      refine K_dup (dt_at dtX12_leaves 46 rfl) rfl ?_
      refine K_get (a := 0) (ci := 12) (k := 48) (v := vi em) (dt_at dtX12_leaves 47 rfl) (show TT 0 = (0, 12) from rfl) rfl (by decide) wF_X12_316 (by show vi (hI hu12 0 48) = vi em; rw [(fu12 0 48 (by omega)), iu11, iq10, h48]) ?_
      refine K_aload_n (dt_at dtX12_leaves 48 rfl) rfl rfl ?_
      refine K_iload_n (dt_at dtX12_leaves 49 rfl) rfl rfl ?_
      refine K_iload_n (dt_at dtX12_leaves 50 rfl) rfl rfl ?_
      refine K_callV (M' := mX12_weightIn) (a := 0) (ci := 12) (As := [vi b, vi p]) (st := [vi em, vr 0]) (dt_at dtX12_leaves 51 rfl) (sX12_weightIn du12 (out_rT (p := p) hTp ⟨by omega, by omega⟩ (by omega)).1 ⟨by omega, by omega⟩) (show TT 0 = (0, 12) from rfl) rfl wL_X12_300 vX12_weightIn rfl npX12_weightIn (by decide) (by decide) (Nat.le_of_ble_eq_true rfl) (by decide) (by decide) GK_E (fun v9 h9 hq => ?_) (fun E h9 hq => by cases hq.1)
      obtain ⟨e9, e8⟩ := hq
      cases e9
      rw [e8]
      show K mX12_leaves _ _ 0 0 75 [(3, vi (f (22 + p))), (0, vr 0), (1, vi b), (2, vi p)] [vi (sumF (sW S) (upI (pkW S f p) (1 + p) (sAw S p)) p (sNt S)), vi em, vr 0] hu12
      rw [sum_lo hTp.1 ⟨by omega, by omega⟩ (by omega) (by omega)]
      refine K_if_ne (tgt := 84) (dt_at dtX12_leaves 52 rfl) (by decide) (by first | assumption | exact ⟨by omega, by omega⟩) (fun c5 => ?_) (fun c5 => ?_)
      · refine K_iconst (dt_at dtX12_leaves 57 rfl) ?_
        refine K_ior (dt_at dtX12_leaves 58 rfl) ?_
        refine K_putI (a := 0) (ci := 12) (k := 48) (dt_at dtX12_leaves 59 rfl) (show TT 0 = (0, 12) from rfl) rfl (by decide) wF_X12_316 rfl (Or.inl rfl) rfl rfl ?_
        obtain ⟨hu13, eu13⟩ : ∃ z, z = sI hu12 0 48 (bOr em 0) := ⟨_, rfl⟩
        rw [← eu13]
        obtain ⟨iu13, fu13, au13, ru13⟩ := sI_fx eu13
        have du13 : MD h0 hu13 b S (upI (pkW S f p) (1 + p) (sAw S p)) := MD_47 du12 (Or.inr rfl) eu13
        exact K_vret (dt_at dtX12_leaves 60 rfl) rfl (by decide) (by decide) ⟨rfl, du13, ⟨by rw [(fu13 0 47 (by omega)), iu12], by rw [iu13, if_neg (by assumption), bOr_0 he]⟩, fun a_ k_ hk_ => by rw [(fu13 a_ k_ (by omega)), (fu12 a_ k_ (by omega)), iu11, iq10]⟩
      · refine K_iconst (dt_at dtX12_leaves 53 rfl) ?_
        refine K_iload_n (dt_at dtX12_leaves 54 rfl) rfl rfl ?_
        refine K_ishl (dt_at dtX12_leaves 55 rfl) ?_
        refine K_goto (tgt := 85) (dt_at dtX12_leaves 56 rfl) (by decide) ?_
        refine K_ior (dt_at dtX12_leaves 58 rfl) ?_
        refine K_putI (a := 0) (ci := 12) (k := 48) (dt_at dtX12_leaves 59 rfl) (show TT 0 = (0, 12) from rfl) rfl (by decide) wF_X12_316 rfl (Or.inl rfl) rfl rfl ?_
        obtain ⟨hu14, eu14⟩ : ∃ z, z = sI hu12 0 48 (bOr em (bShl 1 p)) := ⟨_, rfl⟩
        rw [← eu14]
        obtain ⟨iu14, fu14, au14, ru14⟩ := sI_fx eu14
        have du14 : MD h0 hu14 b S (upI (pkW S f p) (1 + p) (sAw S p)) := MD_47 du12 (Or.inr rfl) eu14
        exact K_vret (dt_at dtX12_leaves 60 rfl) rfl (by decide) (by decide) ⟨rfl, du14, ⟨by rw [(fu14 0 47 (by omega)), iu12], by rw [iu14, if_pos (by assumption)]⟩, fun a_ k_ hk_ => by rw [(fu14 a_ k_ (by omega)), (fu12 a_ k_ (by omega)), iu11, iq10]⟩
