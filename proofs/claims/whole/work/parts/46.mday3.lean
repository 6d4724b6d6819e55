theorem pkP_row {S : HS} {B : Int} {f : Int → Int} (hB : hsW S) (h : rT B f) (hC : rC S f) (hpk : pkP S f) {k : Nat} (hn : k ≤ sNp S) : pkP S (rowAt S f k) := by
  intro p p0 p1
  have hNp := hB.2.1
  obtain ⟨-, r2, -⟩ := rowAt_ok hB h hC k hn
  rw [r2 (22 + p) (by omega)]
  exact hpk p p0 p1
theorem lv_t {S : HS} {f : Int → Int} {k : Nat} (z1 : rowAt S f k (1 + (k : Int)) = 0) (z2 : (rowAt S f k 0).tmod (sE S (k : Int)) = 0) : lvA S f k = true := by
  unfold lvA lvQ; simp only [Bool.and_eq_true, decide_eq_true_eq]; exact ⟨z1, z2⟩
theorem lv_f {S : HS} {f : Int → Int} {k : Nat} (z : ¬ (rowAt S f k (1 + (k : Int)) = 0 ∧ (rowAt S f k 0).tmod (sE S (k : Int)) = 0)) : lvA S f k = false := by
  unfold lvA lvQ; rw [Bool.and_eq_false_iff, decide_eq_false_iff_not, decide_eq_false_iff_not]
  by_cases q : rowAt S f k (1 + (k : Int)) = 0
  · exact Or.inr (fun w => z ⟨q, w⟩)
  · exact Or.inl q
theorem em_lv {S : HS} {f : Int → Int} {k : Nat} (h : lvA S f k = false) : emA S f k = false := by unfold emA; rw [h]; rfl
theorem bitE {S : HS} {f : Int → Int} {k : Nat} (h : lvA S f k = true) : bitN (emA S f) (k + 1) = if sumF (sW S) (pkW S (rowAt S f k) (k : Int)) (k : Int) (sNt S) = 0 then bOr (bitN (emA S f) k) (bShl 1 (k : Int)) else bitN (emA S f) k := by
  by_cases e : sumF (sW S) (pkW S (rowAt S f k) (k : Int)) (k : Int) (sNt S) = 0
  · rw [if_pos e, bitN_t (by unfold emA; rw [h]; simp only [Bool.true_and, decide_eq_true_eq]; exact e)]
  · rw [if_neg e, bitN_f (by unfold emA; rw [h]; simp only [Bool.true_and, decide_eq_false_iff_not]; exact e)]
def mX12_dayGoes : MI := (yX12_dayGoes, cX12_dayGoes, 3, none, rmK 6 0)
def tX12_dayGoes : List (Nat × Instr × Nat) := [(0, .aload_n 0, 1), (1, .iconst 0, 1), (2, .putfield 313, 3), (5, .aload_n 0, 1), (6, .iconst 0, 1), (7, .putfield 316, 3), (10, .iconst 0, 1), (11, .istore_n 2, 1), (12, .iload_n 2, 1), (13, .aload_n 0, 1), (14, .getfield 270, 3), (17, .if_icmp .ge 89, 3), (20, .aload_n 0, 1), (21, .getfield 325, 3), (24, .ifCond .ne 82, 3), (27, .aload_n 0, 1), (28, .getfield 72, 3), (31, .iload_n 1, 1), (32, .iconst 1, 1), (33, .iadd, 1), (34, .iload_n 2, 1), (35, .iadd, 1), (36, .iaload, 1), (37, .ifCond .le 39, 3), (40, .aload_n 0, 1), (41, .getfield 72, 3), (44, .iload_n 1, 1), (45, .iconst 1, 1), (46, .iadd, 1), (47, .iload_n 2, 1), (48, .iadd, 1), (49, .dup2, 1), (50, .iaload, 1), (51, .iconst 1, 1), (52, .isub, 1), (53, .iastore, 1), (54, .aload_n 0, 1), (55, .getfield 72, 3), (58, .iload_n 1, 1), (59, .iconst 1, 1), (60, .iadd, 1), (61, .iload_n 2, 1), (62, .iadd, 1), (63, .iaload, 1), (64, .ifCond .ne 36, 3), (67, .aload_n 0, 1), (68, .iload_n 1, 1), (69, .iload_n 2, 1), (70, .invokevirtual 328, 3), (73, .goto 27, 3), (76, .aload_n 0, 1), (77, .getfield 72, 3), (80, .iload_n 1, 1), (81, .iconst 0, 1), (82, .iadd, 1), (83, .iaload, 1), (84, .aload_n 0, 1), (85, .getfield 26, 3), (88, .iload_n 2, 1), (89, .iaload, 1), (90, .irem, 1), (91, .ifCond .ne 9, 3), (94, .aload_n 0, 1), (95, .iload_n 1, 1), (96, .iload_n 2, 1), (97, .invokevirtual 331, 3), (100, .iinc 2 1, 3), (103, .goto (-91), 3), (106, .aload_n 0, 1), (107, .getfield 72, 3), (110, .iload_n 1, 1), (111, .iconst 0, 1), (112, .iadd, 1), (113, .dup2, 1), (114, .iaload, 1), (115, .iconst 1, 1), (116, .iadd, 1), (117, .iastore, 1), (118, .return_, 1)]
theorem dtX12_dayGoes : tX12_dayGoes.all (fun q => decide (decode cX12_dayGoes q.1 = .ok (q.2.1, q.2.2))) = true := by decide +kernel
theorem npX12_dayGoes : (parseMethodDescriptor (mY mX12_dayGoes).desc).map (fun d => d.parameters.length) = some 1 := by decide +kernel
theorem vX12_dayGoes : mV mX12_dayGoes := ⟨wI_X12_dayGoes, wS_X12_dayGoes, wN_X12, wC_X12_dayGoes, by decide +kernel, by decide +kernel⟩
set_option maxHeartbeats 4000000 in
set_option maxRecDepth 100000 in
theorem lp_X12_dayGoes {Q : AO → HP → Prop} {h0 h : HP} {b B : Int} {S : HS} {f : Int → Int} (hT : rT B f) (hC : rC S f) (hw : wH S f) (hpk : pkP S f) (h49 : hI h 0 49 = 0) (hQ : ∀ h2, MD h0 h2 b S (dayF S f) → hI h2 0 47 = bitN (lvA S f) (sNp S) → hI h2 0 48 = bitN (emA S f) (sNp S) → (∀ a j, (a ≠ 0 ∨ (j ≠ 47 ∧ j ≠ 48)) → hI h2 a j = hI h a j) → Q (.inl none) h2) : ∀ (dd k : Nat) (hh : HP), k + dd = sNp S → MD h0 hh b S (rowAt S f k) → hI hh 0 47 = bitN (lvA S f) k → hI hh 0 48 = bitN (emA S f) k → (∀ a j, (a ≠ 0 ∨ (j ≠ 47 ∧ j ≠ 48)) → hI hh a j = hI h a j) → K mX12_dayGoes GK (ZK Q 0 0) 0 0 12 [(2, vi (k : Int)), (0, vr 0), (1, vi b)] [] hh := by
  intro dd
  induction dd with
  | zero =>
    intro k hh hk dh e47 e48 ii
    have hB := dh.1.1
    have hNt := hB.1
    have hNp := hB.2.1
    have hb := dh.2.1
    obtain ⟨hTk, hlo, -⟩ := rowAt_ok hB hT hC k (by omega)
    have i49 : hI hh 0 49 = 0 := by rw [ii 0 49 (Or.inr (by decide))]; exact h49
    have ek : k = sNp S := by omega
    have w0 := hTk.2.2.2.1
    have w1 := hTk.2.2.2.2.1
    refine K_iload_n (dt_at dtX12_dayGoes 8 rfl) rfl rfl ?_
    refine K_aload_n (dt_at dtX12_dayGoes 9 rfl) rfl rfl ?_
    refine K_get (a := 0) (ci := 12) (k := 2) (v := vi (sNp S : Int)) (dt_at dtX12_dayGoes 10 rfl) (show TT 0 = (0, 12) from rfl) rfl (by decide) wF_X12_270 (by show vi (hI hh 0 2) = vi (sNp S : Int); rw [(MD_np dh)]) ?_
    refine K_icmp_ge (tgt := 106) (dt_at dtX12_dayGoes 11 rfl) (by decide) (by first | assumption | exact ⟨by omega, by omega⟩) (by first | assumption | exact ⟨by omega, by omega⟩) (fun c1 => ?_) (fun c1 => absurd c1 (by omega))
    refine K_aload_n (dt_at dtX12_dayGoes 68 rfl) rfl rfl ?_
    refine K_get (a := 0) (ci := 12) (k := 42) (v := vr 18) (dt_at dtX12_dayGoes 69 rfl) (show TT 0 = (0, 12) from rfl) rfl (by decide) wF_X12_72 rfl ?_
    refine K_iload_n (dt_at dtX12_dayGoes 70 rfl) rfl rfl ?_
    refine K_iconst (dt_at dtX12_dayGoes 71 rfl) ?_
    refine K_iadd (dt_at dtX12_dayGoes 72 rfl) ?_
    refine K_dup2 (dt_at dtX12_dayGoes 73 rfl) rfl rfl ?_
    refine K_iald (dt_at dtX12_dayGoes 74 rfl) (show TT 18 = (1, 154) from rfl) (by omega) (by omega) ?_
    rw [show hA hh 18 (b + 0) = ((rowAt S f k) 0) from RV_d dh.2.2.2 (by omega)]
    refine K_iconst (dt_at dtX12_dayGoes 75 rfl) ?_
    refine K_iadd (dt_at dtX12_dayGoes 76 rfl) ?_
    refine K_iast (dt_at dtX12_dayGoes 77 rfl) (show TT 18 = (1, 154) from rfl) (by omega) (by omega) ?_
    obtain ⟨hu1, eu1⟩ : ∃ z, z = sA hh 18 (b + 0) (((rowAt S f k) 0) + 1) := ⟨_, rfl⟩
    rw [← eu1]
    obtain ⟨au1, fu1, iu1, ru1⟩ := sA_fx eu1
    have du1 : MD h0 hu1 b S (upI (rowAt S f k) 0 (((rowAt S f k) 0) + 1)) := MD_up dh (by decide) (by decide) (by have := pm_0; omega) eu1
    exact K_vret (dt_at dtX12_dayGoes 78 rfl) rfl (by decide) (by decide) (hQ hu1 (by rw [ek] at du1; exact du1) (by rw [iu1, ← ek]; exact e47) (by rw [iu1, ← ek]; exact e48) (fun a_ j_ z_ => by rw [iu1]; exact ii a_ j_ z_))
  | succ dd ih =>
    intro k hh hk dh e47 e48 ii
    have hB := dh.1.1
    have hNt := hB.1
    have hNp := hB.2.1
    have hb := dh.2.1
    obtain ⟨hTk, hlo, -⟩ := rowAt_ok hB hT hC k (by omega)
    have i49 : hI hh 0 49 = 0 := by rw [ii 0 49 (Or.inr (by decide))]; exact h49
    have hCk := rowAt_C hB hT hC (k := k) (by omega)
    have wHk := row_wH hB hT hC hw k (by omega)
    have wk := (hTk.1.2 (k : Int) (by omega) (by omega)).1
    have wc := (hTk.1.2 (k : Int) (by omega) (by omega)).2.1
    have w0 := hTk.2.2.2.1
    have w1 := hTk.2.2.2.2.1
    have we := (hB.2.2.2.1 (k : Int) (by omega) (by omega)).2.1
    have hck := hCk (k : Int) (by omega) (by omega)
    have hp : 0 ≤ (k : Int) ∧ (k : Int) < sNp S := ⟨by omega, by omega⟩
    have wm : 0 ≤ (rowAt S f k 0).tmod (sE S (k : Int)) ∧ (rowAt S f k 0).tmod (sE S (k : Int)) < sE S (k : Int) := ⟨Int.tmod_nonneg _ (by omega), Int.tmod_lt_of_pos _ (by omega)⟩
    have hr : 0 ≤ sH S (rowAt S f k (8 + (k : Int))) - sumF (sW S) (rowAt S f k) (k : Int) (sNt S) := by have := wHk.1 (rowAt S f k (8 + (k : Int))) wc.1 hck; rw [sumF_wg]; omega
    refine K_iload_n (dt_at dtX12_dayGoes 8 rfl) rfl rfl ?_
    refine K_aload_n (dt_at dtX12_dayGoes 9 rfl) rfl rfl ?_
    refine K_get (a := 0) (ci := 12) (k := 2) (v := vi (sNp S : Int)) (dt_at dtX12_dayGoes 10 rfl) (show TT 0 = (0, 12) from rfl) rfl (by decide) wF_X12_270 (by show vi (hI hh 0 2) = vi (sNp S : Int); rw [(MD_np dh)]) ?_
    refine K_icmp_ge (tgt := 106) (dt_at dtX12_dayGoes 11 rfl) (by decide) (by first | assumption | exact ⟨by omega, by omega⟩) (by first | assumption | exact ⟨by omega, by omega⟩) (fun c1 => absurd c1 (by omega)) (fun c1 => ?_)
    refine K_aload_n (dt_at dtX12_dayGoes 12 rfl) rfl rfl ?_
    refine K_get (a := 0) (ci := 12) (k := 49) (v := vi 0) (dt_at dtX12_dayGoes 13 rfl) (show TT 0 = (0, 12) from rfl) rfl (by decide) wF_X12_325 (by show vi (hI hh 0 49) = vi 0; rw [i49]) ?_
    refine K_if_ne (tgt := 106) (dt_at dtX12_dayGoes 14 rfl) (by decide) (by first | assumption | exact ⟨by omega, by omega⟩) (fun c2 => absurd c2 (by omega)) (fun c2 => ?_)
    refine K_aload_n (dt_at dtX12_dayGoes 15 rfl) rfl rfl ?_
    refine K_get (a := 0) (ci := 12) (k := 42) (v := vr 18) (dt_at dtX12_dayGoes 16 rfl) (show TT 0 = (0, 12) from rfl) rfl (by decide) wF_X12_72 rfl ?_
    refine K_iload_n (dt_at dtX12_dayGoes 17 rfl) rfl rfl ?_
    refine K_iconst (dt_at dtX12_dayGoes 18 rfl) ?_
    refine K_iadd (dt_at dtX12_dayGoes 19 rfl) ?_
    refine K_iload_n (dt_at dtX12_dayGoes 20 rfl) rfl rfl ?_
    refine K_iadd (dt_at dtX12_dayGoes 21 rfl) ?_
    refine K_iald (dt_at dtX12_dayGoes 22 rfl) (show TT 18 = (1, 154) from rfl) (by omega) (by omega) ?_
    rw [show hA hh 18 ((b + 1) + (k : Int)) = ((rowAt S f k) (1 + (k : Int))) from RV_o dh.2.2.2 (p := (k : Int)) (by omega) (by omega)]
    refine K_if_le (tgt := 76) (dt_at dtX12_dayGoes 23 rfl) (by decide) (by first | assumption | exact ⟨by omega, by omega⟩) (fun c3 => ?_) (fun c3 => ?_)
    · refine K_aload_n (dt_at dtX12_dayGoes 50 rfl) rfl rfl ?_
      refine K_get (a := 0) (ci := 12) (k := 42) (v := vr 18) (dt_at dtX12_dayGoes 51 rfl) (show TT 0 = (0, 12) from rfl) rfl (by decide) wF_X12_72 rfl ?_
      refine K_iload_n (dt_at dtX12_dayGoes 52 rfl) rfl rfl ?_
      refine K_iconst (dt_at dtX12_dayGoes 53 rfl) ?_
      refine K_iadd (dt_at dtX12_dayGoes 54 rfl) ?_
      refine K_iald (dt_at dtX12_dayGoes 55 rfl) (show TT 18 = (1, 154) from rfl) (by omega) (by omega) ?_
      rw [show hA hh 18 (b + 0) = ((rowAt S f k) 0) from RV_d dh.2.2.2 (by omega)]
      refine K_aload_n (dt_at dtX12_dayGoes 56 rfl) rfl rfl ?_
      refine K_get (a := 0) (ci := 12) (k := 8) (v := vr 4) (dt_at dtX12_dayGoes 57 rfl) (show TT 0 = (0, 12) from rfl) rfl (by decide) wF_X12_26 rfl ?_
      refine K_iload_n (dt_at dtX12_dayGoes 58 rfl) rfl rfl ?_
      refine K_iald (dt_at dtX12_dayGoes 59 rfl) (show TT 4 = (1, 7) from rfl) (by omega) (by omega) ?_
      rw [show hA hh 4 (k : Int) = sE S (k : Int) from MD_e dh (by omega)]
      refine K_irem (dt_at dtX12_dayGoes 60 rfl) (by first | assumption | exact ⟨by omega, by omega⟩) (by first | assumption | exact ⟨by omega, by omega⟩) (by omega) ?_
      refine K_if_ne (tgt := 100) (dt_at dtX12_dayGoes 61 rfl) (by decide) (by first | assumption | exact ⟨by omega, by omega⟩) (fun c4 => ?_) (fun c4 => ?_)
      · refine K_iinc (ls' := [(2, vi ((k : Int) + 1)), (0, vr 0), (1, vi b)]) (dt_at dtX12_dayGoes 66 rfl) rfl (by decide) rfl ?_
        refine K_goto (tgt := 12) (dt_at dtX12_dayGoes 67 rfl) (by decide) ?_
        have z1 : rowAt S f k (1 + (k : Int)) = 0 := by omega
        have z2 : ¬ (rowAt S f k 0).tmod (sE S (k : Int)) = 0 := by omega
        have er := (day_st (tr := f) (em := 0) z1 z2).1
        have lf := lv_f (fun z => z2 z.2)
        exact K_pk [0, 1, 2] rfl (ih (k + 1) hh (by omega) (by rw [er]; exact dh) (by rw [bitN_f lf]; exact e47) (by rw [bitN_f (em_lv lf)]; exact e48) ii)
      · refine K_aload_n (dt_at dtX12_dayGoes 62 rfl) rfl rfl ?_
        refine K_iload_n (dt_at dtX12_dayGoes 63 rfl) rfl rfl ?_
        refine K_iload_n (dt_at dtX12_dayGoes 64 rfl) rfl rfl ?_
        refine K_callV (M' := mX12_leaves) (a := 0) (ci := 12) (As := [vi b, vi (k : Int)]) (st := []) (dt_at dtX12_dayGoes 65 rfl) (sX12_leaves dh hTk hp hck hr e47 e48 (pkP_row hB hT hC hpk (k := k) (by omega)) (bitN32 _ _)) (show TT 0 = (0, 12) from rfl) rfl wL_X12_331 vX12_leaves rfl npX12_leaves (by decide) (by decide) (Nat.le_of_ble_eq_true rfl) (by decide) (by decide) GK_E (fun v9 hc1 hq => ?_) (fun E h9 hq => by cases hq.1)
        have hqq2 := hq
        obtain ⟨e9q2, dq2, ⟨j47q2, j48q2⟩, iq2⟩ := hqq2
        cases e9q2
        show K mX12_dayGoes _ _ 0 0 100 [(2, vi (k : Int)), (0, vr 0), (1, vi b)] [] hc1
        refine K_iinc (ls' := [(2, vi ((k : Int) + 1)), (0, vr 0), (1, vi b)]) (dt_at dtX12_dayGoes 66 rfl) rfl (by decide) rfl ?_
        refine K_goto (tgt := 12) (dt_at dtX12_dayGoes 67 rfl) (by decide) ?_
        have z1 : rowAt S f k (1 + (k : Int)) = 0 := by omega
        have z2 : (rowAt S f k 0).tmod (sE S (k : Int)) = 0 := by omega
        have er := (day_lv (tr := f) (em := 0) z1 z2).1
        rw [← er] at dq2
        have lt := lv_t z1 z2
        exact K_pk [0, 1, 2] rfl (ih (k + 1) hc1 (by omega) dq2 (by rw [j47q2, bitN_t lt]) (by rw [j48q2, bitE lt]) (fun a_ j_ z_ => by rw [iq2 a_ j_ z_]; exact ii a_ j_ z_))
    · refine K_aload_n (dt_at dtX12_dayGoes 24 rfl) rfl rfl ?_
      refine K_get (a := 0) (ci := 12) (k := 42) (v := vr 18) (dt_at dtX12_dayGoes 25 rfl) (show TT 0 = (0, 12) from rfl) rfl (by decide) wF_X12_72 rfl ?_
      refine K_iload_n (dt_at dtX12_dayGoes 26 rfl) rfl rfl ?_
      refine K_iconst (dt_at dtX12_dayGoes 27 rfl) ?_
      refine K_iadd (dt_at dtX12_dayGoes 28 rfl) ?_
      refine K_iload_n (dt_at dtX12_dayGoes 29 rfl) rfl rfl ?_
      refine K_iadd (dt_at dtX12_dayGoes 30 rfl) ?_
      refine K_dup2 (dt_at dtX12_dayGoes 31 rfl) rfl rfl ?_
      refine K_iald (dt_at dtX12_dayGoes 32 rfl) (show TT 18 = (1, 154) from rfl) (by omega) (by omega) ?_
      rw [show hA hh 18 ((b + 1) + (k : Int)) = ((rowAt S f k) (1 + (k : Int))) from RV_o dh.2.2.2 (p := (k : Int)) (by omega) (by omega)]
      refine K_iconst (dt_at dtX12_dayGoes 33 rfl) ?_
      refine K_isub (dt_at dtX12_dayGoes 34 rfl) ?_
      refine K_iast (dt_at dtX12_dayGoes 35 rfl) (show TT 18 = (1, 154) from rfl) (by omega) (by omega) ?_
      obtain ⟨hu3, eu3⟩ : ∃ z, z = sA hh 18 ((b + 1) + (k : Int)) (((rowAt S f k) (1 + (k : Int))) - 1) := ⟨_, rfl⟩
      rw [← eu3]
      obtain ⟨au3, fu3, iu3, ru3⟩ := sA_fx eu3
      have du3 : MD h0 hu3 b S (upI (rowAt S f k) (1 + (k : Int)) (((rowAt S f k) (1 + (k : Int))) - 1)) := MD_up dh (j := 1 + (k : Int)) (by omega) (by omega) (by rw [pm_o (by omega)]; omega) eu3
      refine K_aload_n (dt_at dtX12_dayGoes 36 rfl) rfl rfl ?_
      refine K_get (a := 0) (ci := 12) (k := 42) (v := vr 18) (dt_at dtX12_dayGoes 37 rfl) (show TT 0 = (0, 12) from rfl) rfl (by decide) wF_X12_72 rfl ?_
      refine K_iload_n (dt_at dtX12_dayGoes 38 rfl) rfl rfl ?_
      refine K_iconst (dt_at dtX12_dayGoes 39 rfl) ?_
      refine K_iadd (dt_at dtX12_dayGoes 40 rfl) ?_
      refine K_iload_n (dt_at dtX12_dayGoes 41 rfl) rfl rfl ?_
      refine K_iadd (dt_at dtX12_dayGoes 42 rfl) ?_
      refine K_iald (dt_at dtX12_dayGoes 43 rfl) (show TT 18 = (1, 154) from rfl) (by omega) (by omega) ?_
      rw [show hA hu3 18 ((b + 1) + (k : Int)) = ((upI (rowAt S f k) (1 + (k : Int)) (((rowAt S f k) (1 + (k : Int))) - 1)) (1 + (k : Int))) from RV_o du3.2.2.2 (p := (k : Int)) (by omega) (by omega)]
      rw [upI_s]
      refine K_if_ne (tgt := 100) (dt_at dtX12_dayGoes 44 rfl) (by decide) (by first | assumption | exact ⟨by omega, by omega⟩) (fun c5 => ?_) (fun c5 => ?_)
      · refine K_iinc (ls' := [(2, vi ((k : Int) + 1)), (0, vr 0), (1, vi b)]) (dt_at dtX12_dayGoes 66 rfl) rfl (by decide) rfl ?_
        refine K_goto (tgt := 12) (dt_at dtX12_dayGoes 67 rfl) (by decide) ?_
        have z1 : ¬ rowAt S f k (1 + (k : Int)) = 0 := by omega
        have er := (day_so (tr := f) (em := 0) z1).1
        have lf := lv_f (fun z => z1 z.1)
        exact K_pk [0, 1, 2] rfl (ih (k + 1) hu3 (by omega) (by rw [er]; unfold soF; rw [if_neg (by omega)]; exact du3) (by rw [iu3, bitN_f lf]; exact e47) (by rw [iu3, bitN_f (em_lv lf)]; exact e48) (fun a_ j_ z_ => by rw [iu3]; exact ii a_ j_ z_))
      · refine K_aload_n (dt_at dtX12_dayGoes 45 rfl) rfl rfl ?_
        refine K_iload_n (dt_at dtX12_dayGoes 46 rfl) rfl rfl ?_
        refine K_iload_n (dt_at dtX12_dayGoes 47 rfl) rfl rfl ?_
        refine K_callV (M' := mX12_comesBack) (a := 0) (ci := 12) (As := [vi b, vi (k : Int)]) (st := []) (dt_at dtX12_dayGoes 48 rfl) (sX12_comesBack du3 (out_rT hTk ⟨by omega, by omega⟩ (by omega)) hp) (show TT 0 = (0, 12) from rfl) rfl wL_X12_328 vX12_comesBack rfl npX12_comesBack (by decide) (by decide) (Nat.le_of_ble_eq_true rfl) (by decide) (by decide) GK_E (fun v9 hc4 hq => ?_) (fun E h9 hq => by cases hq.1)
        have hqq5 := hq
        obtain ⟨e9q5, dq5, iq5⟩ := hqq5
        cases e9q5
        show K mX12_dayGoes _ _ 0 0 73 [(2, vi (k : Int)), (0, vr 0), (1, vi b)] [] hc4
        refine K_goto (tgt := 100) (dt_at dtX12_dayGoes 49 rfl) (by decide) ?_
        refine K_iinc (ls' := [(2, vi ((k : Int) + 1)), (0, vr 0), (1, vi b)]) (dt_at dtX12_dayGoes 66 rfl) rfl (by decide) rfl ?_
        refine K_goto (tgt := 12) (dt_at dtX12_dayGoes 67 rfl) (by decide) ?_
        have z1 : ¬ rowAt S f k (1 + (k : Int)) = 0 := by omega
        have er := (day_so (tr := f) (em := 0) z1).1
        have lf := lv_f (fun z => z1 z.1)
        exact K_pk [0, 1, 2] rfl (ih (k + 1) hc4 (by omega) (by rw [er]; unfold soF; rw [if_pos (by omega)]; exact dq5) (by rw [iq5, iu3, bitN_f lf]; exact e47) (by rw [iq5, iu3, bitN_f (em_lv lf)]; exact e48) (fun a_ j_ z_ => by rw [iq5, iu3]; exact ii a_ j_ z_))
set_option maxHeartbeats 4000000 in
set_option maxRecDepth 100000 in
theorem sX12_dayGoes {h0 h : HP} {b B : Int} {S : HS} {f : Int → Int} (d : MD h0 h b S f) (hT : rT B f) (hC : rC S f) (hw : wH S f) (hpk : pkP S f) (h49 : hI h 0 49 = 0) : SpecK mX12_dayGoes [vr 0, vi b] h (fun o h' => o = .inl none ∧ MD h0 h' b S (dayF S f) ∧ (hI h' 0 47 = bitN (lvA S f) (sNp S) ∧ hI h' 0 48 = bitN (emA S f) (sNp S)) ∧ (∀ a j, (a ≠ 0 ∨ (j ≠ 47 ∧ j ≠ 48)) → hI h' a j = hI h a j)) := by
  refine Spec_of (by decide +kernel) (Nat.le_of_ble_eq_true rfl) ?_
  refine K_aload_n (dt_at dtX12_dayGoes 0 rfl) rfl rfl ?_
  refine K_iconst (dt_at dtX12_dayGoes 1 rfl) ?_
  refine K_putI (a := 0) (ci := 12) (k := 47) (dt_at dtX12_dayGoes 2 rfl) (show TT 0 = (0, 12) from rfl) rfl (by decide) wF_X12_313 rfl (Or.inl rfl) rfl rfl ?_
  obtain ⟨hu1, eu1⟩ : ∃ z, z = sI h 0 47 0 := ⟨_, rfl⟩
  rw [← eu1]
  obtain ⟨iu1, fu1, au1, ru1⟩ := sI_fx eu1
  have du1 : MD h0 hu1 b S f := MD_47 d (Or.inl rfl) eu1
  refine K_aload_n (dt_at dtX12_dayGoes 3 rfl) rfl rfl ?_
  refine K_iconst (dt_at dtX12_dayGoes 4 rfl) ?_
  refine K_putI (a := 0) (ci := 12) (k := 48) (dt_at dtX12_dayGoes 5 rfl) (show TT 0 = (0, 12) from rfl) rfl (by decide) wF_X12_316 rfl (Or.inl rfl) rfl rfl ?_
  obtain ⟨hu2, eu2⟩ : ∃ z, z = sI hu1 0 48 0 := ⟨_, rfl⟩
  rw [← eu2]
  obtain ⟨iu2, fu2, au2, ru2⟩ := sI_fx eu2
  have du2 : MD h0 hu2 b S f := MD_47 du1 (Or.inr rfl) eu2
  refine K_iconst (dt_at dtX12_dayGoes 6 rfl) ?_
  refine K_istore_n (ls' := [(2, vi 0), (0, vr 0), (1, vi b)]) (dt_at dtX12_dayGoes 7 rfl) rfl (by decide) rfl ?_
  exact K_pk [0, 1, 2] rfl (lp_X12_dayGoes hT hC hw hpk h49 (fun h2 q1 q2 q3 q4 => ⟨rfl, q1, ⟨q2, q3⟩, q4⟩) (sNp S) 0 hu2 (by omega) du2 (by rw [(fu2 0 47 (by omega)), iu1]; rfl) (by rw [iu2]; rfl) (fun a_ j_ z_ => by rw [(fu2 a_ j_ (by omega)), (fu1 a_ j_ (by omega))]))
set_option maxHeartbeats 4000000 in
set_option maxRecDepth 100000 in
theorem sX12_dayGoes_s {h0 h : HP} {b B : Int} {S : HS} {f : Int → Int} (d : MD h0 h b S f) (hT : rT B f) (h49 : hI h 0 49 = 1) : SpecK mX12_dayGoes [vr 0, vi b] h (fun o h' => o = .inl none ∧ MD h0 h' b S (upI f 0 (f 0 + 1)) ∧ (∀ a j, (a ≠ 0 ∨ (j ≠ 47 ∧ j ≠ 48)) → hI h' a j = hI h a j)) := by
  refine Spec_of (by decide +kernel) (Nat.le_of_ble_eq_true rfl) ?_
  have hB := d.1.1
  have hNt := hB.1
  have hNp := hB.2.1
  have hb := d.2.1
  have hW := hT.1
  have w0 := hT.2.2.2.1
  have w1 := hT.2.2.2.2.1
  refine K_aload_n (dt_at dtX12_dayGoes 0 rfl) rfl rfl ?_
  refine K_iconst (dt_at dtX12_dayGoes 1 rfl) ?_
  refine K_putI (a := 0) (ci := 12) (k := 47) (dt_at dtX12_dayGoes 2 rfl) (show TT 0 = (0, 12) from rfl) rfl (by decide) wF_X12_313 rfl (Or.inl rfl) rfl rfl ?_
  obtain ⟨hu1, eu1⟩ : ∃ z, z = sI h 0 47 0 := ⟨_, rfl⟩
  rw [← eu1]
  obtain ⟨iu1, fu1, au1, ru1⟩ := sI_fx eu1
  have du1 : MD h0 hu1 b S f := MD_47 d (Or.inl rfl) eu1
  refine K_aload_n (dt_at dtX12_dayGoes 3 rfl) rfl rfl ?_
  refine K_iconst (dt_at dtX12_dayGoes 4 rfl) ?_
  refine K_putI (a := 0) (ci := 12) (k := 48) (dt_at dtX12_dayGoes 5 rfl) (show TT 0 = (0, 12) from rfl) rfl (by decide) wF_X12_316 rfl (Or.inl rfl) rfl rfl ?_
  obtain ⟨hu2, eu2⟩ : ∃ z, z = sI hu1 0 48 0 := ⟨_, rfl⟩
  rw [← eu2]
  obtain ⟨iu2, fu2, au2, ru2⟩ := sI_fx eu2
  have du2 : MD h0 hu2 b S f := MD_47 du1 (Or.inr rfl) eu2
  refine K_iconst (dt_at dtX12_dayGoes 6 rfl) ?_
  refine K_istore_n (ls' := [(2, vi 0), (0, vr 0), (1, vi b)]) (dt_at dtX12_dayGoes 7 rfl) rfl (by decide) rfl ?_
  refine K_iload_n (dt_at dtX12_dayGoes 8 rfl) rfl rfl ?_
  refine K_aload_n (dt_at dtX12_dayGoes 9 rfl) rfl rfl ?_
  refine K_get (a := 0) (ci := 12) (k := 2) (v := vi (sNp S : Int)) (dt_at dtX12_dayGoes 10 rfl) (show TT 0 = (0, 12) from rfl) rfl (by decide) wF_X12_270 (by show vi (hI hu2 0 2) = vi (sNp S : Int); rw [(MD_np du2)]) ?_
  refine K_icmp_ge (tgt := 106) (dt_at dtX12_dayGoes 11 rfl) (by decide) (by first | assumption | exact ⟨by omega, by omega⟩) (by first | assumption | exact ⟨by omega, by omega⟩) (fun c1 => ?_) (fun c1 => ?_)
  · refine K_aload_n (dt_at dtX12_dayGoes 68 rfl) rfl rfl ?_
    refine K_get (a := 0) (ci := 12) (k := 42) (v := vr 18) (dt_at dtX12_dayGoes 69 rfl) (show TT 0 = (0, 12) from rfl) rfl (by decide) wF_X12_72 rfl ?_
    refine K_iload_n (dt_at dtX12_dayGoes 70 rfl) rfl rfl ?_
    refine K_iconst (dt_at dtX12_dayGoes 71 rfl) ?_
    refine K_iadd (dt_at dtX12_dayGoes 72 rfl) ?_
    refine K_dup2 (dt_at dtX12_dayGoes 73 rfl) rfl rfl ?_
    refine K_iald (dt_at dtX12_dayGoes 74 rfl) (show TT 18 = (1, 154) from rfl) (by omega) (by omega) ?_
    rw [show hA hu2 18 (b + 0) = (f 0) from RV_d du2.2.2.2 (by omega)]
    refine K_iconst (dt_at dtX12_dayGoes 75 rfl) ?_
    refine K_iadd (dt_at dtX12_dayGoes 76 rfl) ?_
    refine K_iast (dt_at dtX12_dayGoes 77 rfl) (show TT 18 = (1, 154) from rfl) (by omega) (by omega) ?_
    obtain ⟨hu3, eu3⟩ : ∃ z, z = sA hu2 18 (b + 0) ((f 0) + 1) := ⟨_, rfl⟩
    rw [← eu3]
    obtain ⟨au3, fu3, iu3, ru3⟩ := sA_fx eu3
    have du3 : MD h0 hu3 b S (upI f 0 ((f 0) + 1)) := MD_up du2 (by decide) (by decide) (by have := pm_0; omega) eu3
    exact K_vret (dt_at dtX12_dayGoes 78 rfl) rfl (by decide) (by decide) ⟨rfl, du3, fun a_ j_ z_ => by rw [iu3, (fu2 a_ j_ (by omega)), (fu1 a_ j_ (by omega))]⟩
  · refine K_aload_n (dt_at dtX12_dayGoes 12 rfl) rfl rfl ?_
    refine K_get (a := 0) (ci := 12) (k := 49) (v := vi 1) (dt_at dtX12_dayGoes 13 rfl) (show TT 0 = (0, 12) from rfl) rfl (by decide) wF_X12_325 (by show vi (hI hu2 0 49) = vi 1; rw [(fu2 0 49 (by omega)), (fu1 0 49 (by omega)), h49]) ?_
    refine K_if_ne (tgt := 106) (dt_at dtX12_dayGoes 14 rfl) (by decide) (by first | assumption | exact ⟨by omega, by omega⟩) (fun c2 => ?_) (fun c2 => absurd c2 (by omega))
    refine K_aload_n (dt_at dtX12_dayGoes 68 rfl) rfl rfl ?_
    refine K_get (a := 0) (ci := 12) (k := 42) (v := vr 18) (dt_at dtX12_dayGoes 69 rfl) (show TT 0 = (0, 12) from rfl) rfl (by decide) wF_X12_72 rfl ?_
    refine K_iload_n (dt_at dtX12_dayGoes 70 rfl) rfl rfl ?_
    refine K_iconst (dt_at dtX12_dayGoes 71 rfl) ?_
    refine K_iadd (dt_at dtX12_dayGoes 72 rfl) ?_
    refine K_dup2 (dt_at dtX12_dayGoes 73 rfl) rfl rfl ?_
    refine K_iald (dt_at dtX12_dayGoes 74 rfl) (show TT 18 = (1, 154) from rfl) (by omega) (by omega) ?_
    rw [show hA hu2 18 (b + 0) = (f 0) from RV_d du2.2.2.2 (by omega)]
    refine K_iconst (dt_at dtX12_dayGoes 75 rfl) ?_
    refine K_iadd (dt_at dtX12_dayGoes 76 rfl) ?_
    refine K_iast (dt_at dtX12_dayGoes 77 rfl) (show TT 18 = (1, 154) from rfl) (by omega) (by omega) ?_
    obtain ⟨hu4, eu4⟩ : ∃ z, z = sA hu2 18 (b + 0) ((f 0) + 1) := ⟨_, rfl⟩
    rw [← eu4]
    obtain ⟨au4, fu4, iu4, ru4⟩ := sA_fx eu4
    have du4 : MD h0 hu4 b S (upI f 0 ((f 0) + 1)) := MD_up du2 (by decide) (by decide) (by have := pm_0; omega) eu4
    exact K_vret (dt_at dtX12_dayGoes 78 rfl) rfl (by decide) (by decide) ⟨rfl, du4, fun a_ j_ z_ => by rw [iu4, (fu2 a_ j_ (by omega)), (fu1 a_ j_ (by omega))]⟩
theorem pkP_dys {S : HS} {B : Int} {f : Int → Int} (hB : hsW S) (h : rT B f) (hC : rC S f) (hpk : pkP S f) : ∀ n : Nat, f 0 + n ≤ 20000 → pkP S (dysF S f n)
  | 0, _ => hpk
  | n + 1, hn => by
    obtain ⟨a1, a2, a3⟩ := dysF_ok hB h hC n (by omega)
    obtain ⟨-, -, -, b4⟩ := dayF_ok hB a1 a2 (by omega)
    intro p p0 p1
    have hNp := hB.2.1
    show dayF S (dysF S f n) (22 + p) < sNp S ∧ dayF S (dysF S f n) (22 + p) ≠ p
    rw [b4 (22 + p) (by omega)]
    exact pkP_dys hB h hC hpk n (by omega) p p0 p1
def mX12_daysGo : MI := (yX12_daysGo, cX12_daysGo, 3, none, rmK 7 0)
def tX12_daysGo : List (Nat × Instr × Nat) := [(0, .iconst 0, 1), (1, .istore_n 2, 1), (2, .iload_n 2, 1), (3, .iload_n 1, 1), (4, .if_icmp .ge 15, 3), (7, .aload_n 0, 1), (8, .bipush 77, 2), (10, .invokevirtual 334, 3), (13, .iinc 2 1, 3), (16, .goto (-14), 3), (19, .return_, 1)]
theorem dtX12_daysGo : tX12_daysGo.all (fun q => decide (decode cX12_daysGo q.1 = .ok (q.2.1, q.2.2))) = true := by decide +kernel
theorem npX12_daysGo : (parseMethodDescriptor (mY mX12_daysGo).desc).map (fun d => d.parameters.length) = some 1 := by decide +kernel
theorem vX12_daysGo : mV mX12_daysGo := ⟨wI_X12_daysGo, wS_X12_daysGo, wN_X12, wC_X12_daysGo, by decide +kernel, by decide +kernel⟩
set_option maxHeartbeats 4000000 in
set_option maxRecDepth 100000 in
theorem lp_X12_daysGo {Q : AO → HP → Prop} {h0 h : HP} {B : Int} {S : HS} {f : Int → Int} {n : Nat} (hT : rT B f) (hC : rC S f) (hw : wH S f) (hpk : pkP S f) (h49 : hI h 0 49 = 0) (hD : f 0 + n ≤ 20000) (hn : n ≤ 1000) (hQ : ∀ h2, MD h0 h2 77 S (dysF S f n) → (∀ a j, (a ≠ 0 ∨ (j ≠ 47 ∧ j ≠ 48)) → hI h2 a j = hI h a j) → Q (.inl none) h2) : ∀ (dd k : Nat) (hh : HP), k + dd = n → MD h0 hh 77 S (dysF S f k) → (∀ a j, (a ≠ 0 ∨ (j ≠ 47 ∧ j ≠ 48)) → hI hh a j = hI h a j) → K mX12_daysGo GK (ZK Q 0 0) 0 0 2 [(2, vi (k : Int)), (0, vr 0), (1, vi (n : Int))] [] hh := by
  intro dd
  induction dd with
  | zero =>
    intro k hh hk dh ii
    have hB := dh.1.1
    obtain ⟨a1, a2, a3⟩ := dysF_ok hB hT hC k (by omega)
    have i49 : hI hh 0 49 = 0 := by rw [ii 0 49 (Or.inr (by decide))]; exact h49
    have ek : k = n := by omega
    refine K_iload_n (dt_at dtX12_daysGo 2 rfl) rfl rfl ?_
    refine K_iload_n (dt_at dtX12_daysGo 3 rfl) rfl rfl ?_
    refine K_icmp_ge (tgt := 19) (dt_at dtX12_daysGo 4 rfl) (by decide) (by first | assumption | exact ⟨by omega, by omega⟩) (by first | assumption | exact ⟨by omega, by omega⟩) (fun c1 => ?_) (fun c1 => absurd c1 (by omega))
    exact K_vret (dt_at dtX12_daysGo 10 rfl) rfl (by decide) (by decide) (hQ hh (by rw [ek] at dh; exact dh) ii)
  | succ dd ih =>
    intro k hh hk dh ii
    have hB := dh.1.1
    obtain ⟨a1, a2, a3⟩ := dysF_ok hB hT hC k (by omega)
    have i49 : hI hh 0 49 = 0 := by rw [ii 0 49 (Or.inr (by decide))]; exact h49
    refine K_iload_n (dt_at dtX12_daysGo 2 rfl) rfl rfl ?_
    refine K_iload_n (dt_at dtX12_daysGo 3 rfl) rfl rfl ?_
    refine K_icmp_ge (tgt := 19) (dt_at dtX12_daysGo 4 rfl) (by decide) (by first | assumption | exact ⟨by omega, by omega⟩) (by first | assumption | exact ⟨by omega, by omega⟩) (fun c1 => absurd c1 (by omega)) (fun c1 => ?_)
    refine K_aload_n (dt_at dtX12_daysGo 5 rfl) rfl rfl ?_
    refine K_bipush (dt_at dtX12_daysGo 6 rfl) (by decide) ?_
    refine K_callV (M' := mX12_dayGoes) (a := 0) (ci := 12) (As := [vi 77]) (st := []) (dt_at dtX12_daysGo 7 rfl) (sX12_dayGoes dh a1 a2 (dys_wH hB hT hC hw k (by omega)) (pkP_dys hB hT hC hpk k (by omega)) i49) (show TT 0 = (0, 12) from rfl) rfl wL_X12_334 vX12_dayGoes rfl npX12_dayGoes (by decide) (by decide) (Nat.le_of_ble_eq_true rfl) (by decide) (by decide) GK_E (fun v9 hc1 hq => ?_) (fun E h9 hq => by cases hq.1)
    have hqq2 := hq
    obtain ⟨e9q2, dq2, -, iq2⟩ := hqq2
    cases e9q2
    show K mX12_daysGo _ _ 0 0 13 [(2, vi (k : Int)), (0, vr 0), (1, vi (n : Int))] [] hc1
    refine K_iinc (ls' := [(2, vi ((k : Int) + 1)), (0, vr 0), (1, vi (n : Int))]) (dt_at dtX12_daysGo 8 rfl) rfl (by decide) rfl ?_
    refine K_goto (tgt := 2) (dt_at dtX12_daysGo 9 rfl) (by decide) ?_
    exact K_pk [0, 1, 2] rfl (ih (k + 1) hc1 (by omega) dq2 (fun a_ j_ z_ => by rw [iq2 a_ j_ z_]; exact ii a_ j_ z_))
set_option maxHeartbeats 4000000 in
set_option maxRecDepth 100000 in
theorem sX12_daysGo {h0 h : HP} {B : Int} {S : HS} {f : Int → Int} {n : Nat} (d : MD h0 h 77 S f) (hT : rT B f) (hC : rC S f) (hw : wH S f) (hpk : pkP S f) (h49 : hI h 0 49 = 0) (hD : f 0 + n ≤ 20000) (hn : n ≤ 1000) : SpecK mX12_daysGo [vr 0, vi (n : Int)] h (fun o h' => o = .inl none ∧ MD h0 h' 77 S (dysF S f n) ∧ (∀ a j, (a ≠ 0 ∨ (j ≠ 47 ∧ j ≠ 48)) → hI h' a j = hI h a j)) := by
  refine Spec_of (by decide +kernel) (Nat.le_of_ble_eq_true rfl) ?_
  refine K_iconst (dt_at dtX12_daysGo 0 rfl) ?_
  refine K_istore_n (ls' := [(2, vi 0), (0, vr 0), (1, vi (n : Int))]) (dt_at dtX12_daysGo 1 rfl) rfl (by decide) rfl ?_
  exact K_pk [0, 1, 2] rfl (lp_X12_daysGo hT hC hw hpk h49 hD hn (fun h2 q1 q2 => ⟨rfl, q1, q2⟩) n 0 h (by omega) d (fun _ _ _ => rfl))
def mX12_tries : MI := (yX12_tries, cX12_tries, 2, none, rmK 1 0)
def tX12_tries : List (Nat × Instr × Nat) := [(0, .iconst 0, 1), (1, .istore_n 1, 1), (2, .iload_n 1, 1), (3, .bipush 77, 2), (5, .if_icmp .ge 24, 3), (8, .aload_n 0, 1), (9, .getfield 72, 3), (12, .bipush 77, 2), (14, .iload_n 1, 1), (15, .iadd, 1), (16, .aload_n 0, 1), (17, .getfield 72, 3), (20, .iload_n 1, 1), (21, .iaload, 1), (22, .iastore, 1), (23, .iinc 1 1, 3), (26, .goto (-24), 3), (29, .return_, 1)]
theorem dtX12_tries : tX12_tries.all (fun q => decide (decode cX12_tries q.1 = .ok (q.2.1, q.2.2))) = true := by decide +kernel
theorem npX12_tries : (parseMethodDescriptor (mY mX12_tries).desc).map (fun d => d.parameters.length) = some 0 := by decide +kernel
theorem vX12_tries : mV mX12_tries := ⟨wI_X12_tries, wS_X12_tries, wN_X12, wC_X12_tries, by decide +kernel, by decide +kernel⟩
def tryF (g : Int → Int) (k : Int) : Int → Int := fun i => if 77 ≤ i ∧ i < 77 + k then g (i - 77) else g i
set_option maxHeartbeats 4000000 in
set_option maxRecDepth 100000 in
theorem tryF_s {g : Int → Int} {k : Nat} (hk : k < 77) : upI (tryF g (k : Int)) (77 + (k : Int)) (tryF g (k : Int) (k : Int)) = tryF g ((k + 1 : Nat) : Int) := by
  funext i
  unfold upI tryF
  by_cases e : i = 77 + (k : Int)
  · rw [if_pos e, if_neg (by omega), if_pos (by omega)]; congr 1; omega
  · rw [if_neg e]
    by_cases e2 : 77 ≤ i ∧ i < 77 + (k : Int)
    · rw [if_pos e2, if_pos (by omega)]
    · rw [if_neg e2, if_neg (by omega)]
set_option maxHeartbeats 4000000 in
set_option maxRecDepth 100000 in
theorem lp_X12_tries {Q : AO → HP → Prop} {h : HP} (hQ : ∀ h2, hA h2 18 = tryF (hA h 18) 77 → (∀ b, b ≠ 18 → hA h2 b = hA h b) → hI h2 = hI h → hR h2 = hR h → Q (.inl none) h2) : ∀ (dd k : Nat) (hh : HP), k + dd = 77 → hA hh 18 = (tryF (hA h 18) (k : Int)) → (∀ b, b ≠ 18 → hA hh b = hA h b) → hI hh = hI h → hR hh = hR h → K mX12_tries GK (ZK Q 0 0) 0 0 2 [(1, vi (k : Int)), (0, vr 0)] [] hh := by
  intro dd
  induction dd with
  | zero =>
    intro k hh hk ea fa fi fr
    have ek : k = 77 := by omega
    refine K_iload_n (dt_at dtX12_tries 2 rfl) rfl rfl ?_
    refine K_bipush (dt_at dtX12_tries 3 rfl) (by decide) ?_
    refine K_icmp_ge (tgt := 29) (dt_at dtX12_tries 4 rfl) (by decide) (by first | assumption | exact ⟨by omega, by omega⟩) (by first | assumption | exact ⟨by omega, by omega⟩) (fun c1 => ?_) (fun c1 => absurd c1 (by omega))
    exact K_vret (dt_at dtX12_tries 17 rfl) rfl (by decide) (by decide) (hQ hh (by rw [ek] at ea; exact ea) fa fi fr)
  | succ dd ih =>
    intro k hh hk ea fa fi fr
    refine K_iload_n (dt_at dtX12_tries 2 rfl) rfl rfl ?_
    refine K_bipush (dt_at dtX12_tries 3 rfl) (by decide) ?_
    refine K_icmp_ge (tgt := 29) (dt_at dtX12_tries 4 rfl) (by decide) (by first | assumption | exact ⟨by omega, by omega⟩) (by first | assumption | exact ⟨by omega, by omega⟩) (fun c1 => absurd c1 (by omega)) (fun c1 => ?_)
    refine K_aload_n (dt_at dtX12_tries 5 rfl) rfl rfl ?_
    refine K_get (a := 0) (ci := 12) (k := 42) (v := vr 18) (dt_at dtX12_tries 6 rfl) (show TT 0 = (0, 12) from rfl) rfl (by decide) wF_X12_72 rfl ?_
    refine K_bipush (dt_at dtX12_tries 7 rfl) (by decide) ?_
    refine K_iload_n (dt_at dtX12_tries 8 rfl) rfl rfl ?_
    refine K_iadd (dt_at dtX12_tries 9 rfl) ?_
    refine K_aload_n (dt_at dtX12_tries 10 rfl) rfl rfl ?_
    refine K_get (a := 0) (ci := 12) (k := 42) (v := vr 18) (dt_at dtX12_tries 11 rfl) (show TT 0 = (0, 12) from rfl) rfl (by decide) wF_X12_72 rfl ?_
    refine K_iload_n (dt_at dtX12_tries 12 rfl) rfl rfl ?_
    refine K_iald (dt_at dtX12_tries 13 rfl) (show TT 18 = (1, 154) from rfl) (by omega) (by omega) ?_
    rw [ea]
    refine K_iast (dt_at dtX12_tries 14 rfl) (show TT 18 = (1, 154) from rfl) (by omega) (by omega) ?_
    obtain ⟨hq1, eq1⟩ : ∃ z, z = sA hh 18 (77 + (k : Int)) ((tryF (hA h 18) (k : Int)) (k : Int)) := ⟨_, rfl⟩
    rw [← eq1]
    obtain ⟨aq1, fq1, iq1, rq1⟩ := sA_fx eq1
    rw [ea] at aq1
    refine K_iinc (ls' := [(1, vi ((k : Int) + 1)), (0, vr 0)]) (dt_at dtX12_tries 15 rfl) rfl (by decide) rfl ?_
    refine K_goto (tgt := 2) (dt_at dtX12_tries 16 rfl) (by decide) ?_
    exact K_pk [0, 1] rfl (ih (k + 1) hq1 (by omega) (by rw [aq1]; exact tryF_s (by omega)) (fun b_ hb_ => by rw [fq1 b_ hb_]; exact fa b_ hb_) (by rw [iq1]; exact fi) (by rw [rq1]; exact fr))
set_option maxHeartbeats 4000000 in
set_option maxRecDepth 100000 in
theorem sX12_tries {h : HP}  : SpecK mX12_tries [vr 0] h (fun o h' => o = .inl none ∧ hA h' 18 = tryF (hA h 18) 77 ∧ (∀ b, b ≠ 18 → hA h' b = hA h b) ∧ hI h' = hI h ∧ hR h' = hR h) := by
  refine Spec_of (by decide +kernel) (Nat.le_of_ble_eq_true rfl) ?_
  refine K_iconst (dt_at dtX12_tries 0 rfl) ?_
  refine K_istore_n (ls' := [(1, vi 0), (0, vr 0)]) (dt_at dtX12_tries 1 rfl) rfl (by decide) rfl ?_
  exact K_pk [0, 1] rfl (lp_X12_tries (fun h2 q1 q2 q3 q4 => ⟨rfl, q1, q2, q3, q4⟩) 77 0 h (by omega) (by funext i; exact (if_neg (by omega)).symm) (fun _ _ => rfl) rfl rfl)
