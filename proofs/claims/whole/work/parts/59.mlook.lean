theorem dys_0 {S : HS} {f : Int → Int} (hB : hsW S) (R : rowOK S f) {n : Nat} : rT 600 (dysF S (gsR f 0) 10) ∧ n = n := by
  have hT := R.1
  have h1 : rT 600 (gsR f 0) := by
    unfold gsR
    exact fond_rT hT (by omega) (by omega)
  have h2 : rC S (gsR f 0) := fun p a b => by
    have hNp := hB.2.1
    unfold gsR
    rw [upI_n (by omega)]
    exact R.2.1 p a b
  have h3 : gsR f 0 0 = f 0 := upI_n (by omega)
  have h4 := R.2.2.1
  exact ⟨(dysF_ok hB h1 h2 10 (by omega)).1, rfl⟩
def mX12_fonder : MI := (yX12_fonder, cX12_fonder, 5, (some .int), rmK 9 0)
def tX12_fonder : List (Nat × Instr × Nat) := [(0, .aload_n 0, 1), (1, .iconst 0, 1), (2, .putfield 105, 3), (5, .aload_n 0, 1), (6, .iload_n 1, 1), (7, .iconst 2, 1), (8, .invokevirtual 371, 3), (11, .ifCond .ne 5, 3), (14, .iconst 0, 1), (15, .ireturn, 1), (16, .iload_n 1, 1), (17, .iconst 2, 1), (18, .if_icmp .ne 20, 3), (21, .aload_n 0, 1), (22, .invokevirtual 397, 3), (25, .aload_n 0, 1), (26, .invokevirtual 429, 3), (29, .ifCond .eq 7, 3), (32, .iconst 1, 1), (33, .goto 4, 3), (36, .iconst 0, 1), (37, .ireturn, 1), (38, .iconst 0, 1), (39, .istore_n 2, 1), (40, .iconst (-1), 1), (41, .istore_n 3, 1), (42, .iconst 0, 1), (43, .istore 4, 2), (45, .iload 4, 2), (47, .bipush 10, 2), (49, .aload_n 0, 1), (50, .getfield 270, 3), (53, .imul, 1), (54, .if_icmp .ge 32, 3), (57, .aload_n 0, 1), (58, .iload 4, 2), (60, .invokevirtual 432, 3), (63, .ifCond .ne 6, 3), (66, .goto 14, 3), (69, .iinc 2 1, 3), (72, .iload_n 3, 1), (73, .iconst (-1), 1), (74, .if_icmp .ne 6, 3), (77, .iload 4, 2), (79, .istore_n 3, 1), (80, .iinc 4 1, 3), (83, .goto (-38), 3), (86, .iload_n 1, 1), (87, .ifCond .ne 7, 3), (90, .iload_n 2, 1), (91, .goto 4, 3), (94, .iload_n 3, 1), (95, .ireturn, 1)]
theorem dtX12_fonder : tX12_fonder.all (fun q => decide (decode cX12_fonder q.1 = .ok (q.2.1, q.2.2))) = true := by decide +kernel
theorem npX12_fonder : (parseMethodDescriptor (mY mX12_fonder).desc).map (fun d => d.parameters.length) = some 1 := by decide +kernel
theorem vX12_fonder : mV mX12_fonder := ⟨wI_X12_fonder, wS_X12_fonder, wN_X12, wC_X12_fonder, by decide +kernel, by decide +kernel⟩
set_option maxHeartbeats 4000000 in
set_option maxRecDepth 100000 in
theorem sX12_fonder_x1 {h : HP} {S : HS} {f : Int → Int} {w : Int} (Q0 : MAsk h S f) (hw_ : i32 w) (kn : ¬ (0 ≤ w ∧ w ≤ 2)) : SpecK mX12_fonder [vr 0, vi w] h (fun o h' => o = .inl (some (vi 0)) ∧ FQ h h' ∧ hI h' 0 0 = 1) := by
  refine Spec_of (by decide +kernel) (Nat.le_of_ble_eq_true rfl) ?_
  have hB := Q0.1.1
  have hNt := hB.1
  have hNp := hB.2.1
  have R := Q0.2.2.2.2
  have hT := R.1
  have hW := hT.1
  refine K_aload_n (dt_at dtX12_fonder 0 rfl) rfl rfl ?_
  refine K_iconst (dt_at dtX12_fonder 1 rfl) ?_
  refine K_putI (a := 0) (ci := 12) (k := 0) (dt_at dtX12_fonder 2 rfl) (show TT 0 = (0, 12) from rfl) rfl (by decide) wF_X12_105 rfl (Or.inl rfl) rfl rfl ?_
  obtain ⟨hu1, eu1⟩ : ∃ z, z = sI h 0 0 0 := ⟨_, rfl⟩
  rw [← eu1]
  obtain ⟨iu1, fu1, au1, ru1⟩ := sI_fx eu1
  have Gu1 := MG_0 Q0 eu1
  refine K_aload_n (dt_at dtX12_fonder 3 rfl) rfl rfl ?_
  refine K_iload_n (dt_at dtX12_fonder 4 rfl) rfl rfl ?_
  refine K_iconst (dt_at dtX12_fonder 5 rfl) ?_
  refine K_callV (M' := mX12_isWhat) (a := 0) (ci := 12) (As := [vi w, vi 2]) (st := []) (dt_at dtX12_fonder 6 rfl) (sX12_isWhat_f Gu1.2.2.2 (by decide) (by assumption) (by omega)) (show TT 0 = (0, 12) from rfl) rfl wL_X12_371 vX12_isWhat rfl npX12_isWhat (by decide) (by decide) (Nat.le_of_ble_eq_true rfl) (by decide) (by decide) GK_E (fun v9 hc2 hq => ?_) (fun E h9 hq => by cases hq.1)
  have hqq3 := hq
  obtain ⟨e9q3, e8q3⟩ := hqq3
  obtain ⟨iq3, fq3, aq3, rq3⟩ := sI_fx e8q3
  have Bq3 : FQ h hc2 := FQ_tr Gu1.2.1 (FQ_I e8q3 rfl Gu1.2.1.2.2.2.2)
  cases e9q3
  show K mX12_fonder _ _ 0 0 11 [(0, vr 0), (1, vi w)] [vi 0] hc2
  refine K_if_ne (tgt := 16) (dt_at dtX12_fonder 7 rfl) (by decide) (by first | assumption | exact ⟨by omega, by omega⟩) (fun c1 => absurd c1 (by omega)) (fun c1 => ?_)
  refine K_iconst (dt_at dtX12_fonder 8 rfl) ?_
  exact K_iret (dt_at dtX12_fonder 9 rfl) rfl rfl (by decide) (by decide) ⟨rfl, Bq3, iq3⟩
set_option maxHeartbeats 4000000 in
set_option maxRecDepth 100000 in
theorem sX12_fonder_2t {h : HP} {S : HS} {f : Int → Int} {N : SN} (Q0 : MAsk h S f) (msh : mSe h 23 51 N) (hO : seO S N) (eb : seB S N f = true) : SpecK mX12_fonder [vr 0, vi 2] h (fun o h' => o = .inl (some (vi 1)) ∧ FQ h h' ∧ hI h' 0 0 = 0) := by
  refine Spec_of (by decide +kernel) (Nat.le_of_ble_eq_true rfl) ?_
  have hB := Q0.1.1
  have hNt := hB.1
  have hNp := hB.2.1
  have R := Q0.2.2.2.2
  have hT := R.1
  have hW := hT.1
  refine K_aload_n (dt_at dtX12_fonder 0 rfl) rfl rfl ?_
  refine K_iconst (dt_at dtX12_fonder 1 rfl) ?_
  refine K_putI (a := 0) (ci := 12) (k := 0) (dt_at dtX12_fonder 2 rfl) (show TT 0 = (0, 12) from rfl) rfl (by decide) wF_X12_105 rfl (Or.inl rfl) rfl rfl ?_
  obtain ⟨hu1, eu1⟩ : ∃ z, z = sI h 0 0 0 := ⟨_, rfl⟩
  rw [← eu1]
  obtain ⟨iu1, fu1, au1, ru1⟩ := sI_fx eu1
  have Gu1 := MG_0 Q0 eu1
  refine K_aload_n (dt_at dtX12_fonder 3 rfl) rfl rfl ?_
  refine K_iload_n (dt_at dtX12_fonder 4 rfl) rfl rfl ?_
  refine K_iconst (dt_at dtX12_fonder 5 rfl) ?_
  refine K_callV (M' := mX12_isWhat) (a := 0) (ci := 12) (As := [vi 2, vi 2]) (st := []) (dt_at dtX12_fonder 6 rfl) (sX12_isWhat_t Gu1.2.2.2 (by omega) (by omega)) (show TT 0 = (0, 12) from rfl) rfl wL_X12_371 vX12_isWhat rfl npX12_isWhat (by decide) (by decide) (Nat.le_of_ble_eq_true rfl) (by decide) (by decide) GK_E (fun v9 h9 hq => ?_) (fun E h9 hq => by cases hq.1)
  obtain ⟨e9, e8⟩ := hq
  cases e9
  rw [e8]
  show K mX12_fonder _ _ 0 0 11 [(0, vr 0), (1, vi 2)] [vi 1] hu1
  refine K_if_ne (tgt := 16) (dt_at dtX12_fonder 7 rfl) (by decide) (by first | assumption | exact ⟨by omega, by omega⟩) (fun c1 => ?_) (fun c1 => absurd c1 (by omega))
  refine K_iload_n (dt_at dtX12_fonder 10 rfl) rfl rfl ?_
  refine K_iconst (dt_at dtX12_fonder 11 rfl) ?_
  refine K_icmp_ne (tgt := 38) (dt_at dtX12_fonder 12 rfl) (by decide) (by first | assumption | exact ⟨by omega, by omega⟩) (by first | assumption | exact ⟨by omega, by omega⟩) (fun c2 => absurd c2 (by omega)) (fun c2 => ?_)
  refine K_aload_n (dt_at dtX12_fonder 13 rfl) rfl rfl ?_
  refine K_callV (M' := mX12_tries) (a := 0) (ci := 12) (As := []) (st := []) (dt_at dtX12_fonder 14 rfl) (sX12_tries) (show TT 0 = (0, 12) from rfl) rfl wL_X12_397 vX12_tries rfl npX12_tries (by decide) (by decide) (Nat.le_of_ble_eq_true rfl) (by decide) (by decide) GK_E (fun v9 hc2 hq => ?_) (fun E h9 hq => by cases hq.1)
  have hqq3 := hq
  obtain ⟨e9q3, t1q3, t2q3, t3q3, t4q3⟩ := hqq3
  have Gq3 := MG_try Gu1 t1q3 t2q3 t3q3 t4q3
  cases e9q3
  show K mX12_fonder _ _ 0 0 25 [(0, vr 0), (1, vi 2)] [] hc2
  refine K_aload_n (dt_at dtX12_fonder 15 rfl) rfl rfl ?_
  refine K_callV (M' := mX12_isSeen) (a := 0) (ci := 12) (As := []) (st := []) (dt_at dtX12_fonder 16 rfl) (sX12_isSeen_t Q0 Gq3 R msh hO eb) (show TT 0 = (0, 12) from rfl) rfl wL_X12_429 vX12_isSeen rfl npX12_isSeen (by decide) (by decide) (Nat.le_of_ble_eq_true rfl) (by decide) (by decide) GK_E (fun v9 hc4 hq => ?_) (fun E h9 hq => by cases hq.1)
  have hqq5 := hq
  obtain ⟨e9q5, ⟨gq5, Gq5⟩, x1q5, x2q5⟩ := hqq5
  cases e9q5
  show K mX12_fonder _ _ 0 0 29 [(0, vr 0), (1, vi 2)] [vi 1] hc4
  refine K_if_eq (tgt := 36) (dt_at dtX12_fonder 17 rfl) (by decide) (by first | assumption | exact ⟨by omega, by omega⟩) (fun c3 => absurd c3 (by omega)) (fun c3 => ?_)
  refine K_iconst (dt_at dtX12_fonder 18 rfl) ?_
  refine K_goto (tgt := 37) (dt_at dtX12_fonder 19 rfl) (by decide) ?_
  exact K_iret (dt_at dtX12_fonder 21 rfl) rfl rfl (by decide) (by decide) ⟨rfl, Gq5.2.1, Gq5.2.2.2⟩
set_option maxHeartbeats 4000000 in
set_option maxRecDepth 100000 in
theorem sX12_fonder_2f {h : HP} {S : HS} {f : Int → Int} {N : SN} (Q0 : MAsk h S f) (msh : mSe h 23 51 N) (hO : seO S N) (eb : seB S N f = false) : SpecK mX12_fonder [vr 0, vi 2] h (fun o h' => o = .inl (some (vi 0)) ∧ FQ h h' ∧ hI h' 0 0 = 0) := by
  refine Spec_of (by decide +kernel) (Nat.le_of_ble_eq_true rfl) ?_
  have hB := Q0.1.1
  have hNt := hB.1
  have hNp := hB.2.1
  have R := Q0.2.2.2.2
  have hT := R.1
  have hW := hT.1
  refine K_aload_n (dt_at dtX12_fonder 0 rfl) rfl rfl ?_
  refine K_iconst (dt_at dtX12_fonder 1 rfl) ?_
  refine K_putI (a := 0) (ci := 12) (k := 0) (dt_at dtX12_fonder 2 rfl) (show TT 0 = (0, 12) from rfl) rfl (by decide) wF_X12_105 rfl (Or.inl rfl) rfl rfl ?_
  obtain ⟨hu1, eu1⟩ : ∃ z, z = sI h 0 0 0 := ⟨_, rfl⟩
  rw [← eu1]
  obtain ⟨iu1, fu1, au1, ru1⟩ := sI_fx eu1
  have Gu1 := MG_0 Q0 eu1
  refine K_aload_n (dt_at dtX12_fonder 3 rfl) rfl rfl ?_
  refine K_iload_n (dt_at dtX12_fonder 4 rfl) rfl rfl ?_
  refine K_iconst (dt_at dtX12_fonder 5 rfl) ?_
  refine K_callV (M' := mX12_isWhat) (a := 0) (ci := 12) (As := [vi 2, vi 2]) (st := []) (dt_at dtX12_fonder 6 rfl) (sX12_isWhat_t Gu1.2.2.2 (by omega) (by omega)) (show TT 0 = (0, 12) from rfl) rfl wL_X12_371 vX12_isWhat rfl npX12_isWhat (by decide) (by decide) (Nat.le_of_ble_eq_true rfl) (by decide) (by decide) GK_E (fun v9 h9 hq => ?_) (fun E h9 hq => by cases hq.1)
  obtain ⟨e9, e8⟩ := hq
  cases e9
  rw [e8]
  show K mX12_fonder _ _ 0 0 11 [(0, vr 0), (1, vi 2)] [vi 1] hu1
  refine K_if_ne (tgt := 16) (dt_at dtX12_fonder 7 rfl) (by decide) (by first | assumption | exact ⟨by omega, by omega⟩) (fun c1 => ?_) (fun c1 => absurd c1 (by omega))
  refine K_iload_n (dt_at dtX12_fonder 10 rfl) rfl rfl ?_
  refine K_iconst (dt_at dtX12_fonder 11 rfl) ?_
  refine K_icmp_ne (tgt := 38) (dt_at dtX12_fonder 12 rfl) (by decide) (by first | assumption | exact ⟨by omega, by omega⟩) (by first | assumption | exact ⟨by omega, by omega⟩) (fun c2 => absurd c2 (by omega)) (fun c2 => ?_)
  refine K_aload_n (dt_at dtX12_fonder 13 rfl) rfl rfl ?_
  refine K_callV (M' := mX12_tries) (a := 0) (ci := 12) (As := []) (st := []) (dt_at dtX12_fonder 14 rfl) (sX12_tries) (show TT 0 = (0, 12) from rfl) rfl wL_X12_397 vX12_tries rfl npX12_tries (by decide) (by decide) (Nat.le_of_ble_eq_true rfl) (by decide) (by decide) GK_E (fun v9 hc2 hq => ?_) (fun E h9 hq => by cases hq.1)
  have hqq3 := hq
  obtain ⟨e9q3, t1q3, t2q3, t3q3, t4q3⟩ := hqq3
  have Gq3 := MG_try Gu1 t1q3 t2q3 t3q3 t4q3
  cases e9q3
  show K mX12_fonder _ _ 0 0 25 [(0, vr 0), (1, vi 2)] [] hc2
  refine K_aload_n (dt_at dtX12_fonder 15 rfl) rfl rfl ?_
  refine K_callV (M' := mX12_isSeen) (a := 0) (ci := 12) (As := []) (st := []) (dt_at dtX12_fonder 16 rfl) (sX12_isSeen_f Q0 Gq3 R msh hO eb) (show TT 0 = (0, 12) from rfl) rfl wL_X12_429 vX12_isSeen rfl npX12_isSeen (by decide) (by decide) (Nat.le_of_ble_eq_true rfl) (by decide) (by decide) GK_E (fun v9 hc4 hq => ?_) (fun E h9 hq => by cases hq.1)
  have hqq5 := hq
  obtain ⟨e9q5, ⟨gq5, Gq5⟩, x1q5⟩ := hqq5
  cases e9q5
  show K mX12_fonder _ _ 0 0 29 [(0, vr 0), (1, vi 2)] [vi 0] hc4
  refine K_if_eq (tgt := 36) (dt_at dtX12_fonder 17 rfl) (by decide) (by first | assumption | exact ⟨by omega, by omega⟩) (fun c3 => ?_) (fun c3 => absurd c3 (by omega))
  refine K_iconst (dt_at dtX12_fonder 20 rfl) ?_
  exact K_iret (dt_at dtX12_fonder 21 rfl) rfl rfl (by decide) (by decide) ⟨rfl, Gq5.2.1, Gq5.2.2.2⟩
theorem sX12_fonder_2 {h : HP} {S : HS} {f : Int → Int} {N : SN} (Q0 : MAsk h S f) (msh : mSe h 23 51 N) (hO : seO S N) : SpecK mX12_fonder [vr 0, vi 2] h (fun o h' => o = .inl (some (vi (if seB S N f = true then 1 else 0))) ∧ FQ h h' ∧ hI h' 0 0 = 0) := by
  cases eb : seB S N f
  · rw [if_neg (by decide)]; exact sX12_fonder_2f Q0 msh hO eb
  · rw [if_pos rfl]; exact sX12_fonder_2t Q0 msh hO eb
theorem gs_first {S : HS} {N : SN} {f : Int → Int} {n : Nat} (h : gsB S N f n = true) : ((((gsL S N f (n + 1))[0]?).map (fun x : Nat => (x : Int))).getD (-1)) = if ((((gsL S N f n)[0]?).map (fun x : Nat => (x : Int))).getD (-1)) = -1 then (n : Int) else ((((gsL S N f n)[0]?).map (fun x : Nat => (x : Int))).getD (-1)) := by
  rw [gsL_t h]
  cases e : gsL S N f n with
  | nil => rfl
  | cons a r =>
    show (a : Int) = if (a : Int) = -1 then (n : Int) else (a : Int)
    rw [if_neg (by omega)]
theorem gs_fb {S : HS} {N : SN} {f : Int → Int} (n : Nat) : -1 ≤ ((((gsL S N f n)[0]?).map (fun x : Nat => (x : Int))).getD (-1)) ∧ ((((gsL S N f n)[0]?).map (fun x : Nat => (x : Int))).getD (-1)) < (n : Int) := by
  cases e : (gsL S N f n)[0]? with
  | none => exact ⟨by decide, by show (-1 : Int) < _; omega⟩
  | some a =>
    have := gsL_lt e
    exact ⟨by show (-1 : Int) ≤ (a : Int); omega, by show (a : Int) < (n : Int); omega⟩
set_option maxHeartbeats 4000000 in
set_option maxRecDepth 100000 in
theorem lp_X12_fonder_0 {h : HP} {S : HS} {f : Int → Int} {N : SN} (Q0 : MAsk h S f) (msh : mSe h 23 51 N) (hO : seO S N) : ∀ (dd k : Nat) (hh : HP), k + dd = 10 * sNp S → (∃ g, MG h hh S f g) → K mX12_fonder GK (ZK (fun o h' => o = .inl (some (vi (((gsL S N f (10 * sNp S)).length : Nat) : Int))) ∧ FQ h h' ∧ hI h' 0 0 = 0) 0 0) 0 0 45 [(4, vi (k : Int)), (3, vi ((((gsL S N f k)[0]?).map (fun x : Nat => (x : Int))).getD (-1))), (2, vi (((gsL S N f k).length : Nat) : Int)), (0, vr 0), (1, vi 0)] [] hh := by
  intro dd
  induction dd with
  | zero =>
    intro k hh hk ge
    have hB := Q0.1.1
    have hNt := hB.1
    have hNp := hB.2.1
    have R := Q0.2.2.2.2
    have hT := R.1
    have hW := hT.1
    obtain ⟨g, G⟩ := ge
    have ek : k = 10 * sNp S := by omega
    rw [← ek]
    refine K_iload (dt_at dtX12_fonder 28 rfl) rfl ?_
    refine K_bipush (dt_at dtX12_fonder 29 rfl) (by decide) ?_
    refine K_aload_n (dt_at dtX12_fonder 30 rfl) rfl rfl ?_
    refine K_get (a := 0) (ci := 12) (k := 2) (v := vi (sNp S : Int)) (dt_at dtX12_fonder 31 rfl) (show TT 0 = (0, 12) from rfl) rfl (by decide) wF_X12_270 (by show vi (hI hh 0 2) = vi (sNp S : Int); rw [(MD_np (MG_D0 G))]) ?_
    refine K_imul (dt_at dtX12_fonder 32 rfl) ?_
    refine K_icmp_ge (tgt := 86) (dt_at dtX12_fonder 33 rfl) (by decide) (by first | assumption | exact ⟨by omega, by omega⟩) (by first | assumption | exact ⟨by omega, by omega⟩) (fun c1 => ?_) (fun c1 => absurd c1 (by omega))
    refine K_iload_n (dt_at dtX12_fonder 47 rfl) rfl rfl ?_
    refine K_if_ne (tgt := 94) (dt_at dtX12_fonder 48 rfl) (by decide) (by first | assumption | exact ⟨by omega, by omega⟩) (fun c2 => absurd c2 (by omega)) (fun c2 => ?_)
    refine K_iload_n (dt_at dtX12_fonder 49 rfl) rfl rfl ?_
    refine K_goto (tgt := 95) (dt_at dtX12_fonder 50 rfl) (by decide) ?_
    exact K_iret (dt_at dtX12_fonder 52 rfl) rfl rfl (by decide) (by decide) ⟨rfl, G.2.1, G.2.2.2⟩
  | succ dd ih =>
    intro k hh hk ge
    have hB := Q0.1.1
    have hNt := hB.1
    have hNp := hB.2.1
    have R := Q0.2.2.2.2
    have hT := R.1
    have hW := hT.1
    obtain ⟨g, G⟩ := ge
    have fb := gs_fb (S := S) (N := N) (f := f) k
    have lb := gsL_len (S := S) (N := N) (f := f) k
    refine K_iload (dt_at dtX12_fonder 28 rfl) rfl ?_
    refine K_bipush (dt_at dtX12_fonder 29 rfl) (by decide) ?_
    refine K_aload_n (dt_at dtX12_fonder 30 rfl) rfl rfl ?_
    refine K_get (a := 0) (ci := 12) (k := 2) (v := vi (sNp S : Int)) (dt_at dtX12_fonder 31 rfl) (show TT 0 = (0, 12) from rfl) rfl (by decide) wF_X12_270 (by show vi (hI hh 0 2) = vi (sNp S : Int); rw [(MD_np (MG_D0 G))]) ?_
    refine K_imul (dt_at dtX12_fonder 32 rfl) ?_
    refine K_icmp_ge (tgt := 86) (dt_at dtX12_fonder 33 rfl) (by decide) (by first | assumption | exact ⟨by omega, by omega⟩) (by first | assumption | exact ⟨by omega, by omega⟩) (fun c1 => absurd c1 (by omega)) (fun c1 => ?_)
    refine K_aload_n (dt_at dtX12_fonder 34 rfl) rfl rfl ?_
    refine K_iload (dt_at dtX12_fonder 35 rfl) rfl ?_
    cases eb : gsB S N f k
    · refine K_callV (M' := mX12_isGuess) (a := 0) (ci := 12) (As := [vi (k : Int)]) (st := []) (dt_at dtX12_fonder 36 rfl) (sX12_isGuess_F Q0 G msh hO (y := k) (by omega) eb) (show TT 0 = (0, 12) from rfl) rfl wL_X12_432 vX12_isGuess rfl npX12_isGuess (by decide) (by decide) (Nat.le_of_ble_eq_true rfl) (by decide) (by decide) GK_E (fun v9 hc1 hq => ?_) (fun E h9 hq => by cases hq.1)
      have hqq2 := hq
      obtain ⟨e9q2, ⟨gq2, Gq2⟩, x1q2⟩ := hqq2
      cases e9q2
      show K mX12_fonder _ _ 0 0 63 [(4, vi (k : Int)), (3, vi ((((gsL S N f k)[0]?).map (fun x : Nat => (x : Int))).getD (-1))), (2, vi (((gsL S N f k).length : Nat) : Int)), (0, vr 0), (1, vi 0)] [vi 0] hc1
      refine K_if_ne (tgt := 69) (dt_at dtX12_fonder 37 rfl) (by decide) (by first | assumption | exact ⟨by omega, by omega⟩) (fun c2 => absurd c2 (by omega)) (fun c2 => ?_)
      refine K_goto (tgt := 80) (dt_at dtX12_fonder 38 rfl) (by decide) ?_
      refine K_iinc (ls' := [(4, vi ((k : Int) + 1)), (3, vi ((((gsL S N f k)[0]?).map (fun x : Nat => (x : Int))).getD (-1))), (2, vi (((gsL S N f k).length : Nat) : Int)), (0, vr 0), (1, vi 0)]) (dt_at dtX12_fonder 45 rfl) rfl (by decide) rfl ?_
      refine K_goto (tgt := 45) (dt_at dtX12_fonder 46 rfl) (by decide) ?_
      refine K_pk [0, 1, 2, 3, 4] (ls' := [(4, vi ((k : Int) + 1)), (3, vi ((((gsL S N f k)[0]?).map (fun x : Nat => (x : Int))).getD (-1))), (2, vi (((gsL S N f k).length : Nat) : Int)), (0, vr 0), (1, vi 0)]) rfl ?_
      exact K_cg (ls' := [(4, vi ((k + 1 : Nat) : Int)), (3, vi ((((gsL S N f (k + 1))[0]?).map (fun x : Nat => (x : Int))).getD (-1))), (2, vi (((gsL S N f (k + 1)).length : Nat) : Int)), (0, vr 0), (1, vi 0)]) (h' := hc1) (by rw [gsL_f eb]; rfl) rfl (ih (k + 1) hc1 (by omega) ⟨_, Gq2⟩)
    · refine K_callV (M' := mX12_isGuess) (a := 0) (ci := 12) (As := [vi (k : Int)]) (st := []) (dt_at dtX12_fonder 36 rfl) (sX12_isGuess_T Q0 G msh hO (y := k) (by omega) eb) (show TT 0 = (0, 12) from rfl) rfl wL_X12_432 vX12_isGuess rfl npX12_isGuess (by decide) (by decide) (Nat.le_of_ble_eq_true rfl) (by decide) (by decide) GK_E (fun v9 hc3 hq => ?_) (fun E h9 hq => by cases hq.1)
      have hqq4 := hq
      obtain ⟨e9q4, ⟨gq4, Gq4⟩, x1q4, x2q4⟩ := hqq4
      cases e9q4
      show K mX12_fonder _ _ 0 0 63 [(4, vi (k : Int)), (3, vi ((((gsL S N f k)[0]?).map (fun x : Nat => (x : Int))).getD (-1))), (2, vi (((gsL S N f k).length : Nat) : Int)), (0, vr 0), (1, vi 0)] [vi 1] hc3
      refine K_if_ne (tgt := 69) (dt_at dtX12_fonder 37 rfl) (by decide) (by first | assumption | exact ⟨by omega, by omega⟩) (fun c3 => ?_) (fun c3 => absurd c3 (by omega))
      refine K_iinc (ls' := [(2, vi ((((gsL S N f k).length : Nat) : Int) + 1)), (4, vi (k : Int)), (3, vi ((((gsL S N f k)[0]?).map (fun x : Nat => (x : Int))).getD (-1))), (0, vr 0), (1, vi 0)]) (dt_at dtX12_fonder 39 rfl) rfl (by decide) rfl ?_
      refine K_iload_n (dt_at dtX12_fonder 40 rfl) rfl rfl ?_
      refine K_iconst (dt_at dtX12_fonder 41 rfl) ?_
      refine K_icmp_ne (tgt := 80) (dt_at dtX12_fonder 42 rfl) (by decide) (by first | assumption | exact ⟨by omega, by omega⟩) (by first | assumption | exact ⟨by omega, by omega⟩) (fun c4 => ?_) (fun c4 => ?_)
      · refine K_iinc (ls' := [(4, vi ((k : Int) + 1)), (2, vi ((((gsL S N f k).length : Nat) : Int) + 1)), (3, vi ((((gsL S N f k)[0]?).map (fun x : Nat => (x : Int))).getD (-1))), (0, vr 0), (1, vi 0)]) (dt_at dtX12_fonder 45 rfl) rfl (by decide) rfl ?_
        refine K_goto (tgt := 45) (dt_at dtX12_fonder 46 rfl) (by decide) ?_
        refine K_pk [0, 2, 1, 3, 4] (ls' := [(4, vi ((k : Int) + 1)), (3, vi ((((gsL S N f k)[0]?).map (fun x : Nat => (x : Int))).getD (-1))), (2, vi ((((gsL S N f k).length : Nat) : Int) + 1)), (0, vr 0), (1, vi 0)]) rfl ?_
        exact K_cg (ls' := [(4, vi ((k + 1 : Nat) : Int)), (3, vi ((((gsL S N f (k + 1))[0]?).map (fun x : Nat => (x : Int))).getD (-1))), (2, vi (((gsL S N f (k + 1)).length : Nat) : Int)), (0, vr 0), (1, vi 0)]) (h' := hc3) (by rw [gs_first eb, if_neg (by assumption), gsL_t eb, List.length_append]; rfl) rfl (ih (k + 1) hc3 (by omega) ⟨_, Gq4⟩)
      · refine K_iload (dt_at dtX12_fonder 43 rfl) rfl ?_
        refine K_istore_n (ls' := [(3, vi (k : Int)), (2, vi ((((gsL S N f k).length : Nat) : Int) + 1)), (4, vi (k : Int)), (0, vr 0), (1, vi 0)]) (dt_at dtX12_fonder 44 rfl) rfl (by decide) rfl ?_
        refine K_iinc (ls' := [(4, vi ((k : Int) + 1)), (3, vi (k : Int)), (2, vi ((((gsL S N f k).length : Nat) : Int) + 1)), (0, vr 0), (1, vi 0)]) (dt_at dtX12_fonder 45 rfl) rfl (by decide) rfl ?_
        refine K_goto (tgt := 45) (dt_at dtX12_fonder 46 rfl) (by decide) ?_
        refine K_pk [0, 1, 2, 3, 4] (ls' := [(4, vi ((k : Int) + 1)), (3, vi (k : Int)), (2, vi ((((gsL S N f k).length : Nat) : Int) + 1)), (0, vr 0), (1, vi 0)]) rfl ?_
        exact K_cg (ls' := [(4, vi ((k + 1 : Nat) : Int)), (3, vi ((((gsL S N f (k + 1))[0]?).map (fun x : Nat => (x : Int))).getD (-1))), (2, vi (((gsL S N f (k + 1)).length : Nat) : Int)), (0, vr 0), (1, vi 0)]) (h' := hc3) (by rw [gs_first eb, if_pos (by assumption), gsL_t eb, List.length_append]; rfl) rfl (ih (k + 1) hc3 (by omega) ⟨_, Gq4⟩)
set_option maxHeartbeats 4000000 in
set_option maxRecDepth 100000 in
theorem sX12_fonder_0 {h : HP} {S : HS} {f : Int → Int} {N : SN} (Q0 : MAsk h S f) (msh : mSe h 23 51 N) (hO : seO S N) : SpecK mX12_fonder [vr 0, vi 0] h (fun o h' => o = .inl (some (vi (((gsL S N f (10 * sNp S)).length : Nat) : Int))) ∧ FQ h h' ∧ hI h' 0 0 = 0) := by
  refine Spec_of (by decide +kernel) (Nat.le_of_ble_eq_true rfl) ?_
  have hB := Q0.1.1
  have hNt := hB.1
  have hNp := hB.2.1
  have R := Q0.2.2.2.2
  have hT := R.1
  have hW := hT.1
  refine K_aload_n (dt_at dtX12_fonder 0 rfl) rfl rfl ?_
  refine K_iconst (dt_at dtX12_fonder 1 rfl) ?_
  refine K_putI (a := 0) (ci := 12) (k := 0) (dt_at dtX12_fonder 2 rfl) (show TT 0 = (0, 12) from rfl) rfl (by decide) wF_X12_105 rfl (Or.inl rfl) rfl rfl ?_
  obtain ⟨hu1, eu1⟩ : ∃ z, z = sI h 0 0 0 := ⟨_, rfl⟩
  rw [← eu1]
  obtain ⟨iu1, fu1, au1, ru1⟩ := sI_fx eu1
  have Gu1 := MG_0 Q0 eu1
  refine K_aload_n (dt_at dtX12_fonder 3 rfl) rfl rfl ?_
  refine K_iload_n (dt_at dtX12_fonder 4 rfl) rfl rfl ?_
  refine K_iconst (dt_at dtX12_fonder 5 rfl) ?_
  refine K_callV (M' := mX12_isWhat) (a := 0) (ci := 12) (As := [vi 0, vi 2]) (st := []) (dt_at dtX12_fonder 6 rfl) (sX12_isWhat_t Gu1.2.2.2 (by omega) (by omega)) (show TT 0 = (0, 12) from rfl) rfl wL_X12_371 vX12_isWhat rfl npX12_isWhat (by decide) (by decide) (Nat.le_of_ble_eq_true rfl) (by decide) (by decide) GK_E (fun v9 h9 hq => ?_) (fun E h9 hq => by cases hq.1)
  obtain ⟨e9, e8⟩ := hq
  cases e9
  rw [e8]
  show K mX12_fonder _ _ 0 0 11 [(0, vr 0), (1, vi 0)] [vi 1] hu1
  refine K_if_ne (tgt := 16) (dt_at dtX12_fonder 7 rfl) (by decide) (by first | assumption | exact ⟨by omega, by omega⟩) (fun c1 => ?_) (fun c1 => absurd c1 (by omega))
  refine K_iload_n (dt_at dtX12_fonder 10 rfl) rfl rfl ?_
  refine K_iconst (dt_at dtX12_fonder 11 rfl) ?_
  refine K_icmp_ne (tgt := 38) (dt_at dtX12_fonder 12 rfl) (by decide) (by first | assumption | exact ⟨by omega, by omega⟩) (by first | assumption | exact ⟨by omega, by omega⟩) (fun c2 => ?_) (fun c2 => absurd c2 (by omega))
  refine K_iconst (dt_at dtX12_fonder 22 rfl) ?_
  refine K_istore_n (ls' := [(2, vi 0), (0, vr 0), (1, vi 0)]) (dt_at dtX12_fonder 23 rfl) rfl (by decide) rfl ?_
  refine K_iconst (dt_at dtX12_fonder 24 rfl) ?_
  refine K_istore_n (ls' := [(3, vi (-1)), (2, vi 0), (0, vr 0), (1, vi 0)]) (dt_at dtX12_fonder 25 rfl) rfl (by decide) rfl ?_
  refine K_iconst (dt_at dtX12_fonder 26 rfl) ?_
  refine K_istore (ls' := [(4, vi 0), (3, vi (-1)), (2, vi 0), (0, vr 0), (1, vi 0)]) (dt_at dtX12_fonder 27 rfl) (by decide) rfl ?_
  exact K_pk [0, 1, 2, 3, 4] rfl (lp_X12_fonder_0 Q0 msh hO (10 * sNp S) 0 hu1 (by omega) ⟨_, Gu1⟩)
set_option maxHeartbeats 4000000 in
set_option maxRecDepth 100000 in
theorem lp_X12_fonder_1 {h : HP} {S : HS} {f : Int → Int} {N : SN} (Q0 : MAsk h S f) (msh : mSe h 23 51 N) (hO : seO S N) : ∀ (dd k : Nat) (hh : HP), k + dd = 10 * sNp S → (∃ g, MG h hh S f g) → K mX12_fonder GK (ZK (fun o h' => o = .inl (some (vi ((((gsL S N f (10 * sNp S))[0]?).map (fun x : Nat => (x : Int))).getD (-1)))) ∧ FQ h h' ∧ hI h' 0 0 = 0) 0 0) 0 0 45 [(4, vi (k : Int)), (3, vi ((((gsL S N f k)[0]?).map (fun x : Nat => (x : Int))).getD (-1))), (2, vi (((gsL S N f k).length : Nat) : Int)), (0, vr 0), (1, vi 1)] [] hh := by
  intro dd
  induction dd with
  | zero =>
    intro k hh hk ge
    have hB := Q0.1.1
    have hNt := hB.1
    have hNp := hB.2.1
    have R := Q0.2.2.2.2
    have hT := R.1
    have hW := hT.1
    obtain ⟨g, G⟩ := ge
    have ek : k = 10 * sNp S := by omega
    rw [← ek]
    refine K_iload (dt_at dtX12_fonder 28 rfl) rfl ?_
    refine K_bipush (dt_at dtX12_fonder 29 rfl) (by decide) ?_
    refine K_aload_n (dt_at dtX12_fonder 30 rfl) rfl rfl ?_
    refine K_get (a := 0) (ci := 12) (k := 2) (v := vi (sNp S : Int)) (dt_at dtX12_fonder 31 rfl) (show TT 0 = (0, 12) from rfl) rfl (by decide) wF_X12_270 (by show vi (hI hh 0 2) = vi (sNp S : Int); rw [(MD_np (MG_D0 G))]) ?_
    refine K_imul (dt_at dtX12_fonder 32 rfl) ?_
    refine K_icmp_ge (tgt := 86) (dt_at dtX12_fonder 33 rfl) (by decide) (by first | assumption | exact ⟨by omega, by omega⟩) (by first | assumption | exact ⟨by omega, by omega⟩) (fun c1 => ?_) (fun c1 => absurd c1 (by omega))
    refine K_iload_n (dt_at dtX12_fonder 47 rfl) rfl rfl ?_
    refine K_if_ne (tgt := 94) (dt_at dtX12_fonder 48 rfl) (by decide) (by first | assumption | exact ⟨by omega, by omega⟩) (fun c2 => ?_) (fun c2 => absurd c2 (by omega))
    refine K_iload_n (dt_at dtX12_fonder 51 rfl) rfl rfl ?_
    exact K_iret (dt_at dtX12_fonder 52 rfl) rfl rfl (by decide) (by decide) ⟨rfl, G.2.1, G.2.2.2⟩
  | succ dd ih =>
    intro k hh hk ge
    have hB := Q0.1.1
    have hNt := hB.1
    have hNp := hB.2.1
    have R := Q0.2.2.2.2
    have hT := R.1
    have hW := hT.1
    obtain ⟨g, G⟩ := ge
    have fb := gs_fb (S := S) (N := N) (f := f) k
    have lb := gsL_len (S := S) (N := N) (f := f) k
    refine K_iload (dt_at dtX12_fonder 28 rfl) rfl ?_
    refine K_bipush (dt_at dtX12_fonder 29 rfl) (by decide) ?_
    refine K_aload_n (dt_at dtX12_fonder 30 rfl) rfl rfl ?_
    refine K_get (a := 0) (ci := 12) (k := 2) (v := vi (sNp S : Int)) (dt_at dtX12_fonder 31 rfl) (show TT 0 = (0, 12) from rfl) rfl (by decide) wF_X12_270 (by show vi (hI hh 0 2) = vi (sNp S : Int); rw [(MD_np (MG_D0 G))]) ?_
    refine K_imul (dt_at dtX12_fonder 32 rfl) ?_
    refine K_icmp_ge (tgt := 86) (dt_at dtX12_fonder 33 rfl) (by decide) (by first | assumption | exact ⟨by omega, by omega⟩) (by first | assumption | exact ⟨by omega, by omega⟩) (fun c1 => absurd c1 (by omega)) (fun c1 => ?_)
    refine K_aload_n (dt_at dtX12_fonder 34 rfl) rfl rfl ?_
    refine K_iload (dt_at dtX12_fonder 35 rfl) rfl ?_
    cases eb : gsB S N f k
    · refine K_callV (M' := mX12_isGuess) (a := 0) (ci := 12) (As := [vi (k : Int)]) (st := []) (dt_at dtX12_fonder 36 rfl) (sX12_isGuess_F Q0 G msh hO (y := k) (by omega) eb) (show TT 0 = (0, 12) from rfl) rfl wL_X12_432 vX12_isGuess rfl npX12_isGuess (by decide) (by decide) (Nat.le_of_ble_eq_true rfl) (by decide) (by decide) GK_E (fun v9 hc1 hq => ?_) (fun E h9 hq => by cases hq.1)
      have hqq2 := hq
      obtain ⟨e9q2, ⟨gq2, Gq2⟩, x1q2⟩ := hqq2
      cases e9q2
      show K mX12_fonder _ _ 0 0 63 [(4, vi (k : Int)), (3, vi ((((gsL S N f k)[0]?).map (fun x : Nat => (x : Int))).getD (-1))), (2, vi (((gsL S N f k).length : Nat) : Int)), (0, vr 0), (1, vi 1)] [vi 0] hc1
      refine K_if_ne (tgt := 69) (dt_at dtX12_fonder 37 rfl) (by decide) (by first | assumption | exact ⟨by omega, by omega⟩) (fun c2 => absurd c2 (by omega)) (fun c2 => ?_)
      refine K_goto (tgt := 80) (dt_at dtX12_fonder 38 rfl) (by decide) ?_
      refine K_iinc (ls' := [(4, vi ((k : Int) + 1)), (3, vi ((((gsL S N f k)[0]?).map (fun x : Nat => (x : Int))).getD (-1))), (2, vi (((gsL S N f k).length : Nat) : Int)), (0, vr 0), (1, vi 1)]) (dt_at dtX12_fonder 45 rfl) rfl (by decide) rfl ?_
      refine K_goto (tgt := 45) (dt_at dtX12_fonder 46 rfl) (by decide) ?_
      refine K_pk [0, 1, 2, 3, 4] (ls' := [(4, vi ((k : Int) + 1)), (3, vi ((((gsL S N f k)[0]?).map (fun x : Nat => (x : Int))).getD (-1))), (2, vi (((gsL S N f k).length : Nat) : Int)), (0, vr 0), (1, vi 1)]) rfl ?_
      exact K_cg (ls' := [(4, vi ((k + 1 : Nat) : Int)), (3, vi ((((gsL S N f (k + 1))[0]?).map (fun x : Nat => (x : Int))).getD (-1))), (2, vi (((gsL S N f (k + 1)).length : Nat) : Int)), (0, vr 0), (1, vi 1)]) (h' := hc1) (by rw [gsL_f eb]; rfl) rfl (ih (k + 1) hc1 (by omega) ⟨_, Gq2⟩)
    · refine K_callV (M' := mX12_isGuess) (a := 0) (ci := 12) (As := [vi (k : Int)]) (st := []) (dt_at dtX12_fonder 36 rfl) (sX12_isGuess_T Q0 G msh hO (y := k) (by omega) eb) (show TT 0 = (0, 12) from rfl) rfl wL_X12_432 vX12_isGuess rfl npX12_isGuess (by decide) (by decide) (Nat.le_of_ble_eq_true rfl) (by decide) (by decide) GK_E (fun v9 hc3 hq => ?_) (fun E h9 hq => by cases hq.1)
      have hqq4 := hq
      obtain ⟨e9q4, ⟨gq4, Gq4⟩, x1q4, x2q4⟩ := hqq4
      cases e9q4
      show K mX12_fonder _ _ 0 0 63 [(4, vi (k : Int)), (3, vi ((((gsL S N f k)[0]?).map (fun x : Nat => (x : Int))).getD (-1))), (2, vi (((gsL S N f k).length : Nat) : Int)), (0, vr 0), (1, vi 1)] [vi 1] hc3
      refine K_if_ne (tgt := 69) (dt_at dtX12_fonder 37 rfl) (by decide) (by first | assumption | exact ⟨by omega, by omega⟩) (fun c3 => ?_) (fun c3 => absurd c3 (by omega))
      refine K_iinc (ls' := [(2, vi ((((gsL S N f k).length : Nat) : Int) + 1)), (4, vi (k : Int)), (3, vi ((((gsL S N f k)[0]?).map (fun x : Nat => (x : Int))).getD (-1))), (0, vr 0), (1, vi 1)]) (dt_at dtX12_fonder 39 rfl) rfl (by decide) rfl ?_
      refine K_iload_n (dt_at dtX12_fonder 40 rfl) rfl rfl ?_
      refine K_iconst (dt_at dtX12_fonder 41 rfl) ?_
      refine K_icmp_ne (tgt := 80) (dt_at dtX12_fonder 42 rfl) (by decide) (by first | assumption | exact ⟨by omega, by omega⟩) (by first | assumption | exact ⟨by omega, by omega⟩) (fun c4 => ?_) (fun c4 => ?_)
      · refine K_iinc (ls' := [(4, vi ((k : Int) + 1)), (2, vi ((((gsL S N f k).length : Nat) : Int) + 1)), (3, vi ((((gsL S N f k)[0]?).map (fun x : Nat => (x : Int))).getD (-1))), (0, vr 0), (1, vi 1)]) (dt_at dtX12_fonder 45 rfl) rfl (by decide) rfl ?_
        refine K_goto (tgt := 45) (dt_at dtX12_fonder 46 rfl) (by decide) ?_
        refine K_pk [0, 2, 1, 3, 4] (ls' := [(4, vi ((k : Int) + 1)), (3, vi ((((gsL S N f k)[0]?).map (fun x : Nat => (x : Int))).getD (-1))), (2, vi ((((gsL S N f k).length : Nat) : Int) + 1)), (0, vr 0), (1, vi 1)]) rfl ?_
        exact K_cg (ls' := [(4, vi ((k + 1 : Nat) : Int)), (3, vi ((((gsL S N f (k + 1))[0]?).map (fun x : Nat => (x : Int))).getD (-1))), (2, vi (((gsL S N f (k + 1)).length : Nat) : Int)), (0, vr 0), (1, vi 1)]) (h' := hc3) (by rw [gs_first eb, if_neg (by assumption), gsL_t eb, List.length_append]; rfl) rfl (ih (k + 1) hc3 (by omega) ⟨_, Gq4⟩)
      · refine K_iload (dt_at dtX12_fonder 43 rfl) rfl ?_
        refine K_istore_n (ls' := [(3, vi (k : Int)), (2, vi ((((gsL S N f k).length : Nat) : Int) + 1)), (4, vi (k : Int)), (0, vr 0), (1, vi 1)]) (dt_at dtX12_fonder 44 rfl) rfl (by decide) rfl ?_
        refine K_iinc (ls' := [(4, vi ((k : Int) + 1)), (3, vi (k : Int)), (2, vi ((((gsL S N f k).length : Nat) : Int) + 1)), (0, vr 0), (1, vi 1)]) (dt_at dtX12_fonder 45 rfl) rfl (by decide) rfl ?_
        refine K_goto (tgt := 45) (dt_at dtX12_fonder 46 rfl) (by decide) ?_
        refine K_pk [0, 1, 2, 3, 4] (ls' := [(4, vi ((k : Int) + 1)), (3, vi (k : Int)), (2, vi ((((gsL S N f k).length : Nat) : Int) + 1)), (0, vr 0), (1, vi 1)]) rfl ?_
        exact K_cg (ls' := [(4, vi ((k + 1 : Nat) : Int)), (3, vi ((((gsL S N f (k + 1))[0]?).map (fun x : Nat => (x : Int))).getD (-1))), (2, vi (((gsL S N f (k + 1)).length : Nat) : Int)), (0, vr 0), (1, vi 1)]) (h' := hc3) (by rw [gs_first eb, if_pos (by assumption), gsL_t eb, List.length_append]; rfl) rfl (ih (k + 1) hc3 (by omega) ⟨_, Gq4⟩)
set_option maxHeartbeats 4000000 in
set_option maxRecDepth 100000 in
theorem sX12_fonder_1 {h : HP} {S : HS} {f : Int → Int} {N : SN} (Q0 : MAsk h S f) (msh : mSe h 23 51 N) (hO : seO S N) : SpecK mX12_fonder [vr 0, vi 1] h (fun o h' => o = .inl (some (vi ((((gsL S N f (10 * sNp S))[0]?).map (fun x : Nat => (x : Int))).getD (-1)))) ∧ FQ h h' ∧ hI h' 0 0 = 0) := by
  refine Spec_of (by decide +kernel) (Nat.le_of_ble_eq_true rfl) ?_
  have hB := Q0.1.1
  have hNt := hB.1
  have hNp := hB.2.1
  have R := Q0.2.2.2.2
  have hT := R.1
  have hW := hT.1
  refine K_aload_n (dt_at dtX12_fonder 0 rfl) rfl rfl ?_
  refine K_iconst (dt_at dtX12_fonder 1 rfl) ?_
  refine K_putI (a := 0) (ci := 12) (k := 0) (dt_at dtX12_fonder 2 rfl) (show TT 0 = (0, 12) from rfl) rfl (by decide) wF_X12_105 rfl (Or.inl rfl) rfl rfl ?_
  obtain ⟨hu1, eu1⟩ : ∃ z, z = sI h 0 0 0 := ⟨_, rfl⟩
  rw [← eu1]
  obtain ⟨iu1, fu1, au1, ru1⟩ := sI_fx eu1
  have Gu1 := MG_0 Q0 eu1
  refine K_aload_n (dt_at dtX12_fonder 3 rfl) rfl rfl ?_
  refine K_iload_n (dt_at dtX12_fonder 4 rfl) rfl rfl ?_
  refine K_iconst (dt_at dtX12_fonder 5 rfl) ?_
  refine K_callV (M' := mX12_isWhat) (a := 0) (ci := 12) (As := [vi 1, vi 2]) (st := []) (dt_at dtX12_fonder 6 rfl) (sX12_isWhat_t Gu1.2.2.2 (by omega) (by omega)) (show TT 0 = (0, 12) from rfl) rfl wL_X12_371 vX12_isWhat rfl npX12_isWhat (by decide) (by decide) (Nat.le_of_ble_eq_true rfl) (by decide) (by decide) GK_E (fun v9 h9 hq => ?_) (fun E h9 hq => by cases hq.1)
  obtain ⟨e9, e8⟩ := hq
  cases e9
  rw [e8]
  show K mX12_fonder _ _ 0 0 11 [(0, vr 0), (1, vi 1)] [vi 1] hu1
  refine K_if_ne (tgt := 16) (dt_at dtX12_fonder 7 rfl) (by decide) (by first | assumption | exact ⟨by omega, by omega⟩) (fun c1 => ?_) (fun c1 => absurd c1 (by omega))
  refine K_iload_n (dt_at dtX12_fonder 10 rfl) rfl rfl ?_
  refine K_iconst (dt_at dtX12_fonder 11 rfl) ?_
  refine K_icmp_ne (tgt := 38) (dt_at dtX12_fonder 12 rfl) (by decide) (by first | assumption | exact ⟨by omega, by omega⟩) (by first | assumption | exact ⟨by omega, by omega⟩) (fun c2 => ?_) (fun c2 => absurd c2 (by omega))
  refine K_iconst (dt_at dtX12_fonder 22 rfl) ?_
  refine K_istore_n (ls' := [(2, vi 0), (0, vr 0), (1, vi 1)]) (dt_at dtX12_fonder 23 rfl) rfl (by decide) rfl ?_
  refine K_iconst (dt_at dtX12_fonder 24 rfl) ?_
  refine K_istore_n (ls' := [(3, vi (-1)), (2, vi 0), (0, vr 0), (1, vi 1)]) (dt_at dtX12_fonder 25 rfl) rfl (by decide) rfl ?_
  refine K_iconst (dt_at dtX12_fonder 26 rfl) ?_
  refine K_istore (ls' := [(4, vi 0), (3, vi (-1)), (2, vi 0), (0, vr 0), (1, vi 1)]) (dt_at dtX12_fonder 27 rfl) (by decide) rfl ?_
  exact K_pk [0, 1, 2, 3, 4] rfl (lp_X12_fonder_1 Q0 msh hO (10 * sNp S) 0 hu1 (by omega) ⟨_, Gu1⟩)
def mX12_look : MI := (yX12_look, cX12_look, 10, (some .int), rmK 9 0)
def tX12_look : List (Nat × Instr × Nat) := [(0, .aload_n 0, 1), (1, .iconst 0, 1), (2, .putfield 105, 3), (5, .aload_n 0, 1), (6, .iload_n 1, 1), (7, .iconst 1, 1), (8, .invokevirtual 371, 3), (11, .ifCond .ne 5, 3), (14, .iconst 0, 1), (15, .ireturn, 1), (16, .iconst 0, 1), (17, .istore_n 2, 1), (18, .iconst 0, 1), (19, .istore_n 3, 1), (20, .iload_n 3, 1), (21, .bipush 10, 2), (23, .aload_n 0, 1), (24, .getfield 270, 3), (27, .imul, 1), (28, .if_icmp .ge 60, 3), (31, .aload_n 0, 1), (32, .iload_n 3, 1), (33, .invokevirtual 432, 3), (36, .ifCond .ne 6, 3), (39, .goto 43, 3), (42, .iconst 0, 1), (43, .istore 4, 2), (45, .iload 4, 2), (47, .aload_n 0, 1), (48, .getfield 267, 3), (51, .if_icmp .ge 28, 3), (54, .aload_n 0, 1), (55, .getfield 93, 3), (58, .bipush 6, 2), (60, .iload_n 2, 1), (61, .imul, 1), (62, .iload 4, 2), (64, .iadd, 1), (65, .aload_n 0, 1), (66, .getfield 90, 3), (69, .iload 4, 2), (71, .iaload, 1), (72, .iastore, 1), (73, .iinc 4 1, 3), (76, .goto (-31), 3), (79, .iinc 2 1, 3), (82, .iinc 3 1, 3), (85, .goto (-65), 3), (88, .iconst (-1), 1), (89, .istore_n 3, 1), (90, .iconst 0, 1), (91, .istore 4, 2), (93, .iconst 0, 1), (94, .istore 5, 2), (96, .iload 5, 2), (98, .aload_n 0, 1), (99, .getfield 267, 3), (102, .if_icmp .ge 119, 3), (105, .iconst 0, 1), (106, .istore 6, 2), (108, .iconst 0, 1), (109, .istore 7, 2), (111, .iload 7, 2), (113, .iload_n 2, 1), (114, .if_icmp .ge 84, 3), (117, .iconst 1, 1), (118, .istore 8, 2), (120, .iconst 0, 1), (121, .istore 9, 2), (123, .iload 9, 2), (125, .iload 7, 2), (127, .if_icmp .ge 50, 3), (130, .iload 8, 2), (132, .ifCond .eq 45, 3), (135, .aload_n 0, 1), (136, .getfield 93, 3), (139, .bipush 6, 2), (141, .iload 7, 2), (143, .imul, 1), (144, .iload 5, 2), (146, .iadd, 1), (147, .iaload, 1), (148, .aload_n 0, 1), (149, .getfield 93, 3), (152, .bipush 6, 2), (154, .iload 9, 2), (156, .imul, 1), (157, .iload 5, 2), (159, .iadd, 1), (160, .iaload, 1), (161, .if_icmp .eq 7, 3), (164, .iconst 1, 1), (165, .goto 4, 3), (168, .iconst 0, 1), (169, .istore 8, 2), (171, .iinc 9 1, 3), (174, .goto (-51), 3), (177, .iload 6, 2), (179, .iload 8, 2), (181, .ifCond .eq 7, 3), (184, .iconst 1, 1), (185, .goto 4, 3), (188, .iconst 0, 1), (189, .iadd, 1), (190, .istore 6, 2), (192, .iinc 7 1, 3), (195, .goto (-84), 3), (198, .iload 6, 2), (200, .iload 4, 2), (202, .if_icmp .gt 6, 3), (205, .goto 10, 3), (208, .iload 5, 2), (210, .istore_n 3, 1), (211, .iload 6, 2), (213, .istore 4, 2), (215, .iinc 5 1, 3), (218, .goto (-122), 3), (221, .iload_n 1, 1), (222, .ifCond .ne 7, 3), (225, .iload_n 3, 1), (226, .goto 5, 3), (229, .iload 4, 2), (231, .ireturn, 1)]
theorem dtX12_look : tX12_look.all (fun q => decide (decode cX12_look q.1 = .ok (q.2.1, q.2.2))) = true := by decide +kernel
theorem npX12_look : (parseMethodDescriptor (mY mX12_look).desc).map (fun d => d.parameters.length) = some 1 := by decide +kernel
theorem vX12_look : mV mX12_look := ⟨wI_X12_look, wS_X12_look, wN_X12, wC_X12_look, by decide +kernel, by decide +kernel⟩
set_option maxHeartbeats 4000000 in
set_option maxRecDepth 100000 in
theorem sX12_look_x1 {h : HP} {S : HS} {f : Int → Int} {w : Int} (Q0 : MAsk h S f) (hw_ : i32 w) (kn : ¬ (0 ≤ w ∧ w ≤ 1)) : SpecK mX12_look [vr 0, vi w] h (fun o h' => o = .inl (some (vi 0)) ∧ FQ h h' ∧ hI h' 0 0 = 1) := by
  refine Spec_of (by decide +kernel) (Nat.le_of_ble_eq_true rfl) ?_
  have hB := Q0.1.1
  have hNt := hB.1
  have hNp := hB.2.1
  have R := Q0.2.2.2.2
  have hT := R.1
  have hW := hT.1
  refine K_aload_n (dt_at dtX12_look 0 rfl) rfl rfl ?_
  refine K_iconst (dt_at dtX12_look 1 rfl) ?_
  refine K_putI (a := 0) (ci := 12) (k := 0) (dt_at dtX12_look 2 rfl) (show TT 0 = (0, 12) from rfl) rfl (by decide) wF_X12_105 rfl (Or.inl rfl) rfl rfl ?_
  obtain ⟨hu1, eu1⟩ : ∃ z, z = sI h 0 0 0 := ⟨_, rfl⟩
  rw [← eu1]
  obtain ⟨iu1, fu1, au1, ru1⟩ := sI_fx eu1
  have Gu1 := MG_0 Q0 eu1
  refine K_aload_n (dt_at dtX12_look 3 rfl) rfl rfl ?_
  refine K_iload_n (dt_at dtX12_look 4 rfl) rfl rfl ?_
  refine K_iconst (dt_at dtX12_look 5 rfl) ?_
  refine K_callV (M' := mX12_isWhat) (a := 0) (ci := 12) (As := [vi w, vi 1]) (st := []) (dt_at dtX12_look 6 rfl) (sX12_isWhat_f Gu1.2.2.2 (by decide) (by assumption) (by omega)) (show TT 0 = (0, 12) from rfl) rfl wL_X12_371 vX12_isWhat rfl npX12_isWhat (by decide) (by decide) (Nat.le_of_ble_eq_true rfl) (by decide) (by decide) GK_E (fun v9 hc2 hq => ?_) (fun E h9 hq => by cases hq.1)
  have hqq3 := hq
  obtain ⟨e9q3, e8q3⟩ := hqq3
  obtain ⟨iq3, fq3, aq3, rq3⟩ := sI_fx e8q3
  have Bq3 : FQ h hc2 := FQ_tr Gu1.2.1 (FQ_I e8q3 rfl Gu1.2.1.2.2.2.2)
  cases e9q3
  show K mX12_look _ _ 0 0 11 [(0, vr 0), (1, vi w)] [vi 0] hc2
  refine K_if_ne (tgt := 16) (dt_at dtX12_look 7 rfl) (by decide) (by first | assumption | exact ⟨by omega, by omega⟩) (fun c1 => absurd c1 (by omega)) (fun c1 => ?_)
  refine K_iconst (dt_at dtX12_look 8 rfl) ?_
  exact K_iret (dt_at dtX12_look 9 rfl) rfl rfl (by decide) (by decide) ⟨rfl, Bq3, iq3⟩
def SA (h : HP) (S : HS) (N : SN) (f : Int → Int) (n : Nat) : Prop := ∀ (j x : Nat), (gsL S N f n)[j]? = some x → ∀ t : Nat, t < sNt S → hA h 25 (6 * (j : Int) + (t : Int)) = dysF S (gsR f x) 10 (29 + (t : Int))
theorem SA_f {h h' : HP} {S : HS} {N : SN} {f : Int → Int} {n : Nat} (s : SA h S N f n) (e : gsB S N f n = false) (a : hA h' 25 = hA h 25) : SA h' S N f (n + 1) := by
  intro j x hj t ht
  rw [gsL_f e] at hj
  rw [a]; exact s j x hj t ht
theorem SA_t {h h' : HP} {S : HS} {N : SN} {f : Int → Int} {n : Nat} (hB : hsW S) (s : SA h S N f n) (e : gsB S N f n = true) (o : ∀ i : Int, i < 6 * ((gsL S N f n).length : Int) → hA h' 25 i = hA h 25 i) (p : ∀ t : Int, 0 ≤ t → t < sNt S → hA h' 25 (6 * ((gsL S N f n).length : Int) + t) = dysF S (gsR f n) 10 (29 + t)) : SA h' S N f (n + 1) := by
  intro j x hj t ht
  have hNt := hB.1
  rw [gsL_t e] at hj
  by_cases z : j = (gsL S N f n).length
  · rw [z, List.getElem?_append_right (Nat.le_refl _), Nat.sub_self] at hj
    have : n = x := Option.some.inj hj
    rw [z, ← this]
    exact p (t : Int) (by omega) (by omega)
  · have hl : j < (gsL S N f n).length := by
      rcases Nat.lt_or_ge j ((gsL S N f n).length + 1) with q | q
      · omega
      · rw [List.getElem?_eq_none (by rw [List.length_append]; exact q)] at hj; cases hj
    rw [List.getElem?_append_left hl] at hj
    rw [o _ (by omega)]
    exact s j x hj t ht
theorem dv_mem {v : Nat → Int} : ∀ (k : Nat) (x : Int), x ∈ dvL v k ↔ ∃ j, j < k ∧ v j = x
  | 0, x => ⟨fun h => (by cases h), fun ⟨j, h, _⟩ => (by omega)⟩
  | k + 1, x => by
    have ih := dv_mem (v := v) k x
    show x ∈ adL (dvL v k) (v k) ↔ _
    unfold adL
    by_cases e : v k ∈ dvL v k
    · rw [if_pos e, ih]
      constructor
      · rintro ⟨j, h1, h2⟩; exact ⟨j, by omega, h2⟩
      · rintro ⟨j, h1, h2⟩
        by_cases z : j = k
        · obtain ⟨i, i1, i2⟩ := (dv_mem k (v k)).mp e
          exact ⟨i, i1, by rw [i2, ← z]; exact h2⟩
        · exact ⟨j, by omega, h2⟩
    · rw [if_neg e, List.mem_append, ih]
      constructor
      · rintro (⟨j, h1, h2⟩ | h)
        · exact ⟨j, by omega, h2⟩
        · exact ⟨k, by omega, (List.mem_singleton.mp h).symm⟩
      · rintro ⟨j, h1, h2⟩
        by_cases z : j = k
        · exact Or.inr (List.mem_singleton.mpr (by rw [← h2, z]))
        · exact Or.inl ⟨j, by omega, h2⟩
theorem dv_step {v : Nat → Int} {k : Nat} {i : Int} (hi : (i = 1 ∧ ∀ j, j < k → v j ≠ v k) ∨ (i = 0 ∧ ∃ j, j < k ∧ v j = v k)) : ((dvL v (k + 1)).length : Int) = ((dvL v k).length : Int) + i := by
  show ((adL (dvL v k) (v k)).length : Int) = _
  unfold adL
  rcases hi with ⟨rfl, h⟩ | ⟨rfl, h⟩
  · rw [if_neg (fun z => by obtain ⟨j, j1, j2⟩ := (dv_mem k (v k)).mp z; exact h j j1 j2), List.length_append]; rfl
  · rw [if_pos ((dv_mem k (v k)).mpr h)]; omega
theorem un_up {v : Nat → Int} {k a : Nat} {i : Int} (hi : (i = 1 ∧ ∀ j, j < k → v j ≠ v a) ∨ (i = 0 ∧ ∃ j, j < k ∧ v j = v a)) (i0 : i ≠ 0) (ne : v a ≠ v k) : ((1 : Int) = 1 ∧ ∀ j, j < k + 1 → v j ≠ v a) ∨ ((1 : Int) = 0 ∧ ∃ j, j < k + 1 ∧ v j = v a) := by
  rcases hi with ⟨_, w⟩ | ⟨w, _⟩
  · refine Or.inl ⟨rfl, fun j hj => ?_⟩
    by_cases z : j = k
    · rw [z]; exact fun y => ne y.symm
    · exact w j (by omega)
  · exact absurd w i0
theorem sv_at {h : HP} {S : HS} {N : SN} {f : Int → Int} (s : SA h S N f (10 * sNp S)) {a q : Nat} (ha : a < (gsL S N f (10 * sNp S)).length) (hq : q < sNt S) : hA h 25 (6 * (a : Int) + (q : Int)) = svF S N f q a := by
  unfold svF
  rw [List.getElem?_eq_getElem ha]
  exact s a _ (List.getElem?_eq_getElem ha) q hq
set_option maxHeartbeats 4000000 in
set_option maxRecDepth 100000 in
theorem lb_X12_look_0 {Z : CT → State → Prop} {h hb : HP} {S : HS} {f : Int → Int} {N : SN} {y : Nat} (Q0 : MAsk h S f) (lb : (gsL S N f y).length ≤ y) (hy : y < 10 * sNp S) (sn : ∀ x : Int, 0 ≤ x → x < sNt S → hA hb 24 x = dysF S (gsR f y) 10 (29 + x)) (R10 : ∀ x : Int, 0 ≤ x → x < sNt S → i32 (dysF S (gsR f y) 10 (29 + x))) (kx : ∀ h2, (∃ g, MG h h2 S f g) → (∀ i : Int, i < 6 * (((gsL S N f y).length : Nat) : Int) → hA h2 25 i = hA hb 25 i) → (∀ t : Int, 0 ≤ t → t < sNt S → hA h2 25 (6 * (((gsL S N f y).length : Nat) : Int) + t) = dysF S (gsR f y) 10 (29 + t)) → K mX12_look GK Z 0 0 79 [(3, vi (y : Int)), (2, vi (((gsL S N f y).length : Nat) : Int)), (0, vr 0), (1, vi 0)] [] h2) : ∀ (dd k : Nat) (hh : HP), k + dd = sNt S → (∃ g, MG h hh S f g) → hA hh 24 = hA hb 24 → (∀ i : Int, i < 6 * (((gsL S N f y).length : Nat) : Int) → hA hh 25 i = hA hb 25 i) → (∀ t : Int, 0 ≤ t → t < (k : Int) → hA hh 25 (6 * (((gsL S N f y).length : Nat) : Int) + t) = dysF S (gsR f y) 10 (29 + t)) → K mX12_look GK Z 0 0 45 [(4, vi (k : Int)), (3, vi (y : Int)), (2, vi (((gsL S N f y).length : Nat) : Int)), (0, vr 0), (1, vi 0)] [] hh := by
  intro dd
  induction dd with
  | zero =>
    intro k hh hk ge e24 lo pr
    have hB := Q0.1.1
    have hNt := hB.1
    have hNp := hB.2.1
    have R := Q0.2.2.2.2
    have hT := R.1
    have hW := hT.1
    obtain ⟨g, G⟩ := ge
    have ek : k = sNt S := by omega
    refine K_iload (dt_at dtX12_look 27 rfl) rfl ?_
    refine K_aload_n (dt_at dtX12_look 28 rfl) rfl rfl ?_
    refine K_get (a := 0) (ci := 12) (k := 1) (v := vi (sNt S : Int)) (dt_at dtX12_look 29 rfl) (show TT 0 = (0, 12) from rfl) rfl (by decide) wF_X12_267 (by show vi (hI hh 0 1) = vi (sNt S : Int); rw [(MD_nt (MG_D0 G))]) ?_
    refine K_icmp_ge (tgt := 79) (dt_at dtX12_look 30 rfl) (by decide) (by first | assumption | exact ⟨by omega, by omega⟩) (by first | assumption | exact ⟨by omega, by omega⟩) (fun c1 => ?_) (fun c1 => absurd c1 (by omega))
    exact K_pk [1, 2, 3, 4] rfl (kx hh ⟨g, G⟩ lo (fun t t0 t1 => pr t t0 (by omega)))
  | succ dd ih =>
    intro k hh hk ge e24 lo pr
    have hB := Q0.1.1
    have hNt := hB.1
    have hNp := hB.2.1
    have R := Q0.2.2.2.2
    have hT := R.1
    have hW := hT.1
    obtain ⟨g, G⟩ := ge
    refine K_iload (dt_at dtX12_look 27 rfl) rfl ?_
    refine K_aload_n (dt_at dtX12_look 28 rfl) rfl rfl ?_
    refine K_get (a := 0) (ci := 12) (k := 1) (v := vi (sNt S : Int)) (dt_at dtX12_look 29 rfl) (show TT 0 = (0, 12) from rfl) rfl (by decide) wF_X12_267 (by show vi (hI hh 0 1) = vi (sNt S : Int); rw [(MD_nt (MG_D0 G))]) ?_
    refine K_icmp_ge (tgt := 79) (dt_at dtX12_look 30 rfl) (by decide) (by first | assumption | exact ⟨by omega, by omega⟩) (by first | assumption | exact ⟨by omega, by omega⟩) (fun c1 => absurd c1 (by omega)) (fun c1 => ?_)
    refine K_aload_n (dt_at dtX12_look 31 rfl) rfl rfl ?_
    refine K_get (a := 0) (ci := 12) (k := 54) (v := vr 25) (dt_at dtX12_look 32 rfl) (show TT 0 = (0, 12) from rfl) rfl (by decide) wF_X12_93 rfl ?_
    refine K_bipush (dt_at dtX12_look 33 rfl) (by decide) ?_
    refine K_iload_n (dt_at dtX12_look 34 rfl) rfl rfl ?_
    refine K_imul (dt_at dtX12_look 35 rfl) ?_
    refine K_iload (dt_at dtX12_look 36 rfl) rfl ?_
    refine K_iadd (dt_at dtX12_look 37 rfl) ?_
    refine K_aload_n (dt_at dtX12_look 38 rfl) rfl rfl ?_
    refine K_get (a := 0) (ci := 12) (k := 53) (v := vr 24) (dt_at dtX12_look 39 rfl) (show TT 0 = (0, 12) from rfl) rfl (by decide) wF_X12_90 rfl ?_
    refine K_iload (dt_at dtX12_look 40 rfl) rfl ?_
    refine K_iald (dt_at dtX12_look 41 rfl) (show TT 24 = (1, 6) from rfl) (by omega) (by omega) ?_
    refine K_iast (dt_at dtX12_look 42 rfl) (show TT 25 = (1, 420) from rfl) (by omega) (by omega) ?_
    obtain ⟨hu1, eu1⟩ : ∃ z, z = sA hh 25 ((6 * (((gsL S N f y).length : Nat) : Int)) + (k : Int)) (hA hh 24 (k : Int)) := ⟨_, rfl⟩
    rw [← eu1]
    obtain ⟨au1, fu1, iu1, ru1⟩ := sA_fx eu1
    have Gu1 : MG h hu1 S f g := MG_A G eu1 (by omega)
    refine K_iinc (ls' := [(4, vi ((k : Int) + 1)), (3, vi (y : Int)), (2, vi (((gsL S N f y).length : Nat) : Int)), (0, vr 0), (1, vi 0)]) (dt_at dtX12_look 43 rfl) rfl (by decide) rfl ?_
    refine K_goto (tgt := 45) (dt_at dtX12_look 44 rfl) (by decide) ?_
    exact K_pk [0, 1, 2, 3, 4] rfl (ih (k + 1) hu1 (by omega) ⟨g, Gu1⟩ (by rw [fu1 24 (by omega)]; exact e24) (fun i hi => by rw [au1, upI_n (by omega)]; exact lo i hi) (pr_up (F := fun t => dysF S (gsR f y) 10 (29 + t)) pr au1 (by rw [e24]; exact sn (k : Int) (by omega) (by omega))))
set_option maxHeartbeats 4000000 in
set_option maxRecDepth 100000 in
theorem lb_X12_look_1 {Z : CT → State → Prop} {h hb : HP} {S : HS} {f : Int → Int} {N : SN} {y : Nat} (Q0 : MAsk h S f) (lb : (gsL S N f y).length ≤ y) (hy : y < 10 * sNp S) (sn : ∀ x : Int, 0 ≤ x → x < sNt S → hA hb 24 x = dysF S (gsR f y) 10 (29 + x)) (R10 : ∀ x : Int, 0 ≤ x → x < sNt S → i32 (dysF S (gsR f y) 10 (29 + x))) (kx : ∀ h2, (∃ g, MG h h2 S f g) → (∀ i : Int, i < 6 * (((gsL S N f y).length : Nat) : Int) → hA h2 25 i = hA hb 25 i) → (∀ t : Int, 0 ≤ t → t < sNt S → hA h2 25 (6 * (((gsL S N f y).length : Nat) : Int) + t) = dysF S (gsR f y) 10 (29 + t)) → K mX12_look GK Z 0 0 79 [(3, vi (y : Int)), (2, vi (((gsL S N f y).length : Nat) : Int)), (0, vr 0), (1, vi 1)] [] h2) : ∀ (dd k : Nat) (hh : HP), k + dd = sNt S → (∃ g, MG h hh S f g) → hA hh 24 = hA hb 24 → (∀ i : Int, i < 6 * (((gsL S N f y).length : Nat) : Int) → hA hh 25 i = hA hb 25 i) → (∀ t : Int, 0 ≤ t → t < (k : Int) → hA hh 25 (6 * (((gsL S N f y).length : Nat) : Int) + t) = dysF S (gsR f y) 10 (29 + t)) → K mX12_look GK Z 0 0 45 [(4, vi (k : Int)), (3, vi (y : Int)), (2, vi (((gsL S N f y).length : Nat) : Int)), (0, vr 0), (1, vi 1)] [] hh := by
  intro dd
  induction dd with
  | zero =>
    intro k hh hk ge e24 lo pr
    have hB := Q0.1.1
    have hNt := hB.1
    have hNp := hB.2.1
    have R := Q0.2.2.2.2
    have hT := R.1
    have hW := hT.1
    obtain ⟨g, G⟩ := ge
    have ek : k = sNt S := by omega
    refine K_iload (dt_at dtX12_look 27 rfl) rfl ?_
    refine K_aload_n (dt_at dtX12_look 28 rfl) rfl rfl ?_
    refine K_get (a := 0) (ci := 12) (k := 1) (v := vi (sNt S : Int)) (dt_at dtX12_look 29 rfl) (show TT 0 = (0, 12) from rfl) rfl (by decide) wF_X12_267 (by show vi (hI hh 0 1) = vi (sNt S : Int); rw [(MD_nt (MG_D0 G))]) ?_
    refine K_icmp_ge (tgt := 79) (dt_at dtX12_look 30 rfl) (by decide) (by first | assumption | exact ⟨by omega, by omega⟩) (by first | assumption | exact ⟨by omega, by omega⟩) (fun c1 => ?_) (fun c1 => absurd c1 (by omega))
    exact K_pk [1, 2, 3, 4] rfl (kx hh ⟨g, G⟩ lo (fun t t0 t1 => pr t t0 (by omega)))
  | succ dd ih =>
    intro k hh hk ge e24 lo pr
    have hB := Q0.1.1
    have hNt := hB.1
    have hNp := hB.2.1
    have R := Q0.2.2.2.2
    have hT := R.1
    have hW := hT.1
    obtain ⟨g, G⟩ := ge
    refine K_iload (dt_at dtX12_look 27 rfl) rfl ?_
    refine K_aload_n (dt_at dtX12_look 28 rfl) rfl rfl ?_
    refine K_get (a := 0) (ci := 12) (k := 1) (v := vi (sNt S : Int)) (dt_at dtX12_look 29 rfl) (show TT 0 = (0, 12) from rfl) rfl (by decide) wF_X12_267 (by show vi (hI hh 0 1) = vi (sNt S : Int); rw [(MD_nt (MG_D0 G))]) ?_
    refine K_icmp_ge (tgt := 79) (dt_at dtX12_look 30 rfl) (by decide) (by first | assumption | exact ⟨by omega, by omega⟩) (by first | assumption | exact ⟨by omega, by omega⟩) (fun c1 => absurd c1 (by omega)) (fun c1 => ?_)
    refine K_aload_n (dt_at dtX12_look 31 rfl) rfl rfl ?_
    refine K_get (a := 0) (ci := 12) (k := 54) (v := vr 25) (dt_at dtX12_look 32 rfl) (show TT 0 = (0, 12) from rfl) rfl (by decide) wF_X12_93 rfl ?_
    refine K_bipush (dt_at dtX12_look 33 rfl) (by decide) ?_
    refine K_iload_n (dt_at dtX12_look 34 rfl) rfl rfl ?_
    refine K_imul (dt_at dtX12_look 35 rfl) ?_
    refine K_iload (dt_at dtX12_look 36 rfl) rfl ?_
    refine K_iadd (dt_at dtX12_look 37 rfl) ?_
    refine K_aload_n (dt_at dtX12_look 38 rfl) rfl rfl ?_
    refine K_get (a := 0) (ci := 12) (k := 53) (v := vr 24) (dt_at dtX12_look 39 rfl) (show TT 0 = (0, 12) from rfl) rfl (by decide) wF_X12_90 rfl ?_
    refine K_iload (dt_at dtX12_look 40 rfl) rfl ?_
    refine K_iald (dt_at dtX12_look 41 rfl) (show TT 24 = (1, 6) from rfl) (by omega) (by omega) ?_
    refine K_iast (dt_at dtX12_look 42 rfl) (show TT 25 = (1, 420) from rfl) (by omega) (by omega) ?_
    obtain ⟨hu1, eu1⟩ : ∃ z, z = sA hh 25 ((6 * (((gsL S N f y).length : Nat) : Int)) + (k : Int)) (hA hh 24 (k : Int)) := ⟨_, rfl⟩
    rw [← eu1]
    obtain ⟨au1, fu1, iu1, ru1⟩ := sA_fx eu1
    have Gu1 : MG h hu1 S f g := MG_A G eu1 (by omega)
    refine K_iinc (ls' := [(4, vi ((k : Int) + 1)), (3, vi (y : Int)), (2, vi (((gsL S N f y).length : Nat) : Int)), (0, vr 0), (1, vi 1)]) (dt_at dtX12_look 43 rfl) rfl (by decide) rfl ?_
    refine K_goto (tgt := 45) (dt_at dtX12_look 44 rfl) (by decide) ?_
    exact K_pk [0, 1, 2, 3, 4] rfl (ih (k + 1) hu1 (by omega) ⟨g, Gu1⟩ (by rw [fu1 24 (by omega)]; exact e24) (fun i hi => by rw [au1, upI_n (by omega)]; exact lo i hi) (pr_up (F := fun t => dysF S (gsR f y) 10 (29 + t)) pr au1 (by rw [e24]; exact sn (k : Int) (by omega) (by omega))))
set_option maxHeartbeats 4000000 in
set_option maxRecDepth 100000 in
theorem le_X12_look_0 {Z : CT → State → Prop} {h hh : HP} {S : HS} {f g : Int → Int} {N : SN} {q : Nat} {a : Nat} {c mo be : Int} (Q0 : MAsk h S f) (G : MG h hh S f g) (sa : SA hh S N f (10 * sNp S)) (hq : q < sNt S) (s32 : ∀ j : Nat, i32 (svF S N f q j)) (ha : a < (gsL S N f (10 * sNp S)).length) (kx : ∀ i : Int, ((i = 1 ∧ ∀ j, j < a → svF S N f q j ≠ svF S N f q a) ∨ (i = 0 ∧ ∃ j, j < a ∧ svF S N f q j = svF S N f q a)) → K mX12_look GK Z 0 0 177 [(8, vi i), (7, vi (a : Int)), (6, vi c), (5, vi (q : Int)), (4, vi mo), (3, vi be), (2, vi (((gsL S N f (10 * sNp S)).length : Nat) : Int)), (0, vr 0), (1, vi 0)] [] hh) : ∀ (dd k : Nat) (i : Int), k + dd = a → ((i = 1 ∧ ∀ j, j < k → svF S N f q j ≠ svF S N f q a) ∨ (i = 0 ∧ ∃ j, j < k ∧ svF S N f q j = svF S N f q a)) → K mX12_look GK Z 0 0 123 [(9, vi (k : Int)), (8, vi i), (7, vi (a : Int)), (6, vi c), (5, vi (q : Int)), (4, vi mo), (3, vi be), (2, vi (((gsL S N f (10 * sNp S)).length : Nat) : Int)), (0, vr 0), (1, vi 0)] [] hh := by
  intro dd
  induction dd with
  | zero =>
    intro k i hk hi
    have hB := Q0.1.1
    have hNt := hB.1
    have hNp := hB.2.1
    have R := Q0.2.2.2.2
    have hT := R.1
    have hW := hT.1
    have ek : k = a := by omega
    have lb := gsL_len (S := S) (N := N) (f := f) (10 * sNp S)
    refine K_iload (dt_at dtX12_look 69 rfl) rfl ?_
    refine K_iload (dt_at dtX12_look 70 rfl) rfl ?_
    refine K_icmp_ge (tgt := 177) (dt_at dtX12_look 71 rfl) (by decide) (by first | assumption | exact ⟨by omega, by omega⟩) (by first | assumption | exact ⟨by omega, by omega⟩) (fun c1 => ?_) (fun c1 => absurd c1 (by omega))
    exact K_pk [1, 2, 3, 4, 5, 6, 7, 8, 9] rfl (kx i (by rw [ek] at hi; exact hi))
  | succ dd ih =>
    intro k i hk hi
    have hB := Q0.1.1
    have hNt := hB.1
    have hNp := hB.2.1
    have R := Q0.2.2.2.2
    have hT := R.1
    have hW := hT.1
    have lb := gsL_len (S := S) (N := N) (f := f) (10 * sNp S)
    have p1 := sv_at sa ha hq
    have p2 := sv_at sa (a := k) (by omega) hq
    have s1 := s32 a
    have s2 := s32 k
    have ib : i = 0 ∨ i = 1 := by omega
    refine K_iload (dt_at dtX12_look 69 rfl) rfl ?_
    refine K_iload (dt_at dtX12_look 70 rfl) rfl ?_
    refine K_icmp_ge (tgt := 177) (dt_at dtX12_look 71 rfl) (by decide) (by first | assumption | exact ⟨by omega, by omega⟩) (by first | assumption | exact ⟨by omega, by omega⟩) (fun c1 => absurd c1 (by omega)) (fun c1 => ?_)
    refine K_iload (dt_at dtX12_look 72 rfl) rfl ?_
    refine K_if_eq (tgt := 177) (dt_at dtX12_look 73 rfl) (by decide) (by first | assumption | exact ⟨by omega, by omega⟩) (fun c2 => ?_) (fun c2 => ?_)
    · exact K_pk [1, 2, 3, 4, 5, 6, 7, 8, 9] rfl (kx i (by rcases hi with ⟨z, _⟩ | ⟨z, j, j1, j2⟩; exact absurd z (by omega); exact Or.inr ⟨z, j, by omega, j2⟩))
    · refine K_aload_n (dt_at dtX12_look 74 rfl) rfl rfl ?_
      refine K_get (a := 0) (ci := 12) (k := 54) (v := vr 25) (dt_at dtX12_look 75 rfl) (show TT 0 = (0, 12) from rfl) rfl (by decide) wF_X12_93 rfl ?_
      refine K_bipush (dt_at dtX12_look 76 rfl) (by decide) ?_
      refine K_iload (dt_at dtX12_look 77 rfl) rfl ?_
      refine K_imul (dt_at dtX12_look 78 rfl) ?_
      refine K_iload (dt_at dtX12_look 79 rfl) rfl ?_
      refine K_iadd (dt_at dtX12_look 80 rfl) ?_
      refine K_iald (dt_at dtX12_look 81 rfl) (show TT 25 = (1, 420) from rfl) (by omega) (by omega) ?_
      rw [p1]
      refine K_aload_n (dt_at dtX12_look 82 rfl) rfl rfl ?_
      refine K_get (a := 0) (ci := 12) (k := 54) (v := vr 25) (dt_at dtX12_look 83 rfl) (show TT 0 = (0, 12) from rfl) rfl (by decide) wF_X12_93 rfl ?_
      refine K_bipush (dt_at dtX12_look 84 rfl) (by decide) ?_
      refine K_iload (dt_at dtX12_look 85 rfl) rfl ?_
      refine K_imul (dt_at dtX12_look 86 rfl) ?_
      refine K_iload (dt_at dtX12_look 87 rfl) rfl ?_
      refine K_iadd (dt_at dtX12_look 88 rfl) ?_
      refine K_iald (dt_at dtX12_look 89 rfl) (show TT 25 = (1, 420) from rfl) (by omega) (by omega) ?_
      rw [p2]
      refine K_icmp_eq (tgt := 168) (dt_at dtX12_look 90 rfl) (by decide) s1 s2 (fun c3 => ?_) (fun c3 => ?_)
      · refine K_iconst (dt_at dtX12_look 93 rfl) ?_
        refine K_istore (ls' := [(8, vi 0), (9, vi (k : Int)), (7, vi (a : Int)), (6, vi c), (5, vi (q : Int)), (4, vi mo), (3, vi be), (2, vi (((gsL S N f (10 * sNp S)).length : Nat) : Int)), (0, vr 0), (1, vi 0)]) (dt_at dtX12_look 94 rfl) (by decide) rfl ?_
        refine K_iinc (ls' := [(9, vi ((k : Int) + 1)), (8, vi 0), (7, vi (a : Int)), (6, vi c), (5, vi (q : Int)), (4, vi mo), (3, vi be), (2, vi (((gsL S N f (10 * sNp S)).length : Nat) : Int)), (0, vr 0), (1, vi 0)]) (dt_at dtX12_look 95 rfl) rfl (by decide) rfl ?_
        refine K_goto (tgt := 123) (dt_at dtX12_look 96 rfl) (by decide) ?_
        exact K_pk [0, 1, 2, 3, 4, 5, 6, 7, 8, 9] rfl (ih (k + 1) 0 (by omega) (by exact Or.inr ⟨rfl, k, by omega, Eq.symm (by assumption)⟩))
      · refine K_iconst (dt_at dtX12_look 91 rfl) ?_
        refine K_goto (tgt := 169) (dt_at dtX12_look 92 rfl) (by decide) ?_
        refine K_istore (ls' := [(8, vi 1), (9, vi (k : Int)), (7, vi (a : Int)), (6, vi c), (5, vi (q : Int)), (4, vi mo), (3, vi be), (2, vi (((gsL S N f (10 * sNp S)).length : Nat) : Int)), (0, vr 0), (1, vi 0)]) (dt_at dtX12_look 94 rfl) (by decide) rfl ?_
        refine K_iinc (ls' := [(9, vi ((k : Int) + 1)), (8, vi 1), (7, vi (a : Int)), (6, vi c), (5, vi (q : Int)), (4, vi mo), (3, vi be), (2, vi (((gsL S N f (10 * sNp S)).length : Nat) : Int)), (0, vr 0), (1, vi 0)]) (dt_at dtX12_look 95 rfl) rfl (by decide) rfl ?_
        refine K_goto (tgt := 123) (dt_at dtX12_look 96 rfl) (by decide) ?_
        exact K_pk [0, 1, 2, 3, 4, 5, 6, 7, 8, 9] rfl (ih (k + 1) 1 (by omega) (by exact un_up hi (by assumption) (by assumption)))
set_option maxHeartbeats 4000000 in
set_option maxRecDepth 100000 in
theorem ld_X12_look_0 {Z : CT → State → Prop} {h hh : HP} {S : HS} {f g : Int → Int} {N : SN} {q : Nat} {mo be : Int} (Q0 : MAsk h S f) (G : MG h hh S f g) (sa : SA hh S N f (10 * sNp S)) (hq : q < sNt S) (s32 : ∀ j : Nat, i32 (svF S N f q j)) (kx : K mX12_look GK Z 0 0 198 [(6, vi (((dvL (svF S N f q) ((gsL S N f (10 * sNp S)).length)).length : Nat) : Int)), (5, vi (q : Int)), (4, vi mo), (3, vi be), (2, vi (((gsL S N f (10 * sNp S)).length : Nat) : Int)), (0, vr 0), (1, vi 0)] [] hh) : ∀ (dd k : Nat), k + dd = (gsL S N f (10 * sNp S)).length → K mX12_look GK Z 0 0 111 [(7, vi (k : Int)), (6, vi (((dvL (svF S N f q) k).length : Nat) : Int)), (5, vi (q : Int)), (4, vi mo), (3, vi be), (2, vi (((gsL S N f (10 * sNp S)).length : Nat) : Int)), (0, vr 0), (1, vi 0)] [] hh := by
  intro dd
  induction dd with
  | zero =>
    intro k hk
    have hB := Q0.1.1
    have hNt := hB.1
    have hNp := hB.2.1
    have R := Q0.2.2.2.2
    have hT := R.1
    have hW := hT.1
    have ek : k = (gsL S N f (10 * sNp S)).length := by omega
    have lb := gsL_len (S := S) (N := N) (f := f) (10 * sNp S)
    rw [← ek] at kx
    refine K_iload (dt_at dtX12_look 62 rfl) rfl ?_
    refine K_iload_n (dt_at dtX12_look 63 rfl) rfl rfl ?_
    refine K_icmp_ge (tgt := 198) (dt_at dtX12_look 64 rfl) (by decide) (by first | assumption | exact ⟨by omega, by omega⟩) (by first | assumption | exact ⟨by omega, by omega⟩) (fun c1 => ?_) (fun c1 => absurd c1 (by omega))
    exact K_pk [1, 2, 3, 4, 5, 6, 7] rfl (by rw [← ek]; exact kx)
  | succ dd ih =>
    intro k hk
    have hB := Q0.1.1
    have hNt := hB.1
    have hNp := hB.2.1
    have R := Q0.2.2.2.2
    have hT := R.1
    have hW := hT.1
    have lb := gsL_len (S := S) (N := N) (f := f) (10 * sNp S)
    refine K_iload (dt_at dtX12_look 62 rfl) rfl ?_
    refine K_iload_n (dt_at dtX12_look 63 rfl) rfl rfl ?_
    refine K_icmp_ge (tgt := 198) (dt_at dtX12_look 64 rfl) (by decide) (by first | assumption | exact ⟨by omega, by omega⟩) (by first | assumption | exact ⟨by omega, by omega⟩) (fun c1 => absurd c1 (by omega)) (fun c1 => ?_)
    refine K_iconst (dt_at dtX12_look 65 rfl) ?_
    refine K_istore (ls' := [(8, vi 1), (7, vi (k : Int)), (6, vi (((dvL (svF S N f q) k).length : Nat) : Int)), (5, vi (q : Int)), (4, vi mo), (3, vi be), (2, vi (((gsL S N f (10 * sNp S)).length : Nat) : Int)), (0, vr 0), (1, vi 0)]) (dt_at dtX12_look 66 rfl) (by decide) rfl ?_
    refine K_iconst (dt_at dtX12_look 67 rfl) ?_
    refine K_istore (ls' := [(9, vi 0), (8, vi 1), (7, vi (k : Int)), (6, vi (((dvL (svF S N f q) k).length : Nat) : Int)), (5, vi (q : Int)), (4, vi mo), (3, vi be), (2, vi (((gsL S N f (10 * sNp S)).length : Nat) : Int)), (0, vr 0), (1, vi 0)]) (dt_at dtX12_look 68 rfl) (by decide) rfl ?_
    refine K_pk [0, 1, 2, 3, 4, 5, 6, 7, 8, 9] rfl (le_X12_look_0 (a := k) Q0 G sa hq s32 (by omega) (fun i hi => ?_) k 0 1 (by omega) (Or.inl ⟨rfl, fun j hj => by omega⟩))
    have ds := dv_step (v := svF S N f q) (k := k) hi
    have ib : i = 0 ∨ i = 1 := by omega
    refine K_iload (dt_at dtX12_look 97 rfl) rfl ?_
    refine K_iload (dt_at dtX12_look 98 rfl) rfl ?_
    refine K_if_eq (tgt := 188) (dt_at dtX12_look 99 rfl) (by decide) (by first | assumption | exact ⟨by omega, by omega⟩) (fun c2 => ?_) (fun c2 => ?_)
    · refine K_iconst (dt_at dtX12_look 102 rfl) ?_
      refine K_iadd (dt_at dtX12_look 103 rfl) ?_
      refine K_istore (ls' := [(6, vi ((((dvL (svF S N f q) k).length : Nat) : Int) + 0)), (8, vi i), (7, vi (k : Int)), (5, vi (q : Int)), (4, vi mo), (3, vi be), (2, vi (((gsL S N f (10 * sNp S)).length : Nat) : Int)), (0, vr 0), (1, vi 0)]) (dt_at dtX12_look 104 rfl) (by decide) rfl ?_
      refine K_iinc (ls' := [(7, vi ((k : Int) + 1)), (6, vi ((((dvL (svF S N f q) k).length : Nat) : Int) + 0)), (8, vi i), (5, vi (q : Int)), (4, vi mo), (3, vi be), (2, vi (((gsL S N f (10 * sNp S)).length : Nat) : Int)), (0, vr 0), (1, vi 0)]) (dt_at dtX12_look 105 rfl) rfl (by decide) rfl ?_
      refine K_goto (tgt := 111) (dt_at dtX12_look 106 rfl) (by decide) ?_
      exact K_pk [0, 1, 3, 4, 5, 6, 7, 8] (ls' := [(7, vi ((k : Int) + 1)), (6, vi ((((dvL (svF S N f q) k).length : Nat) : Int) + 0)), (5, vi (q : Int)), (4, vi mo), (3, vi be), (2, vi (((gsL S N f (10 * sNp S)).length : Nat) : Int)), (0, vr 0), (1, vi 0)]) rfl (K_cg (ls' := [(7, vi ((k + 1 : Nat) : Int)), (6, vi (((dvL (svF S N f q) (k + 1)).length : Nat) : Int)), (5, vi (q : Int)), (4, vi mo), (3, vi be), (2, vi (((gsL S N f (10 * sNp S)).length : Nat) : Int)), (0, vr 0), (1, vi 0)]) (h' := hh) (by rw [ds, show i = 0 by omega]; rfl) rfl (ih (k + 1) (by omega)))
    · refine K_iconst (dt_at dtX12_look 100 rfl) ?_
      refine K_goto (tgt := 189) (dt_at dtX12_look 101 rfl) (by decide) ?_
      refine K_iadd (dt_at dtX12_look 103 rfl) ?_
      refine K_istore (ls' := [(6, vi ((((dvL (svF S N f q) k).length : Nat) : Int) + 1)), (8, vi i), (7, vi (k : Int)), (5, vi (q : Int)), (4, vi mo), (3, vi be), (2, vi (((gsL S N f (10 * sNp S)).length : Nat) : Int)), (0, vr 0), (1, vi 0)]) (dt_at dtX12_look 104 rfl) (by decide) rfl ?_
      refine K_iinc (ls' := [(7, vi ((k : Int) + 1)), (6, vi ((((dvL (svF S N f q) k).length : Nat) : Int) + 1)), (8, vi i), (5, vi (q : Int)), (4, vi mo), (3, vi be), (2, vi (((gsL S N f (10 * sNp S)).length : Nat) : Int)), (0, vr 0), (1, vi 0)]) (dt_at dtX12_look 105 rfl) rfl (by decide) rfl ?_
      refine K_goto (tgt := 111) (dt_at dtX12_look 106 rfl) (by decide) ?_
      exact K_pk [0, 1, 3, 4, 5, 6, 7, 8] (ls' := [(7, vi ((k : Int) + 1)), (6, vi ((((dvL (svF S N f q) k).length : Nat) : Int) + 1)), (5, vi (q : Int)), (4, vi mo), (3, vi be), (2, vi (((gsL S N f (10 * sNp S)).length : Nat) : Int)), (0, vr 0), (1, vi 0)]) rfl (K_cg (ls' := [(7, vi ((k + 1 : Nat) : Int)), (6, vi (((dvL (svF S N f q) (k + 1)).length : Nat) : Int)), (5, vi (q : Int)), (4, vi mo), (3, vi be), (2, vi (((gsL S N f (10 * sNp S)).length : Nat) : Int)), (0, vr 0), (1, vi 0)]) (h' := hh) (by rw [ds, show i = 1 by omega]; rfl) rfl (ih (k + 1) (by omega)))
theorem sel_t {S : HS} {N : SN} {f : Int → Int} {k : Nat} (h : (if (selN (fun k v => decide (0 < unF S N f k) && (decide (v = -1) || decide (unF S N f v.toNat < unF S N f k))) k) = -1 then 0 else unF S N f (selN (fun k v => decide (0 < unF S N f k) && (decide (v = -1) || decide (unF S N f v.toNat < unF S N f k))) k).toNat) < unF S N f k) : selN (fun k v => decide (0 < unF S N f k) && (decide (v = -1) || decide (unF S N f v.toNat < unF S N f k))) (k + 1) = (k : Int) := by
  refine selN_t ?_
  rw [Bool.and_eq_true, Bool.or_eq_true, decide_eq_true_eq, decide_eq_true_eq, decide_eq_true_eq]
  by_cases z : (selN (fun k v => decide (0 < unF S N f k) && (decide (v = -1) || decide (unF S N f v.toNat < unF S N f k))) k) = -1
  · rw [if_pos z] at h; exact ⟨h, Or.inl z⟩
  · rw [if_neg z] at h
    have : (0 : Int) ≤ unF S N f ((selN (fun k v => decide (0 < unF S N f k) && (decide (v = -1) || decide (unF S N f v.toNat < unF S N f k))) k)).toNat := by unfold unF; omega
    exact ⟨by omega, Or.inr h⟩
theorem sel_n {S : HS} {N : SN} {f : Int → Int} {k : Nat} (h : unF S N f k ≤ (if (selN (fun k v => decide (0 < unF S N f k) && (decide (v = -1) || decide (unF S N f v.toNat < unF S N f k))) k) = -1 then 0 else unF S N f (selN (fun k v => decide (0 < unF S N f k) && (decide (v = -1) || decide (unF S N f v.toNat < unF S N f k))) k).toNat)) : selN (fun k v => decide (0 < unF S N f k) && (decide (v = -1) || decide (unF S N f v.toNat < unF S N f k))) (k + 1) = (selN (fun k v => decide (0 < unF S N f k) && (decide (v = -1) || decide (unF S N f v.toNat < unF S N f k))) k) := by
  refine selN_f ?_
  rw [Bool.and_eq_false_iff, Bool.or_eq_false_iff, decide_eq_false_iff_not, decide_eq_false_iff_not, decide_eq_false_iff_not]
  by_cases z : (selN (fun k v => decide (0 < unF S N f k) && (decide (v = -1) || decide (unF S N f v.toNat < unF S N f k))) k) = -1
  · rw [if_pos z] at h; exact Or.inl (by omega)
  · rw [if_neg z] at h; exact Or.inr ⟨z, by omega⟩
set_option maxHeartbeats 4000000 in
set_option maxRecDepth 100000 in
theorem lc_X12_look_0 {h hh : HP} {S : HS} {f g : Int → Int} {N : SN} (Q0 : MAsk h S f) (G : MG h hh S f g) (sa : SA hh S N f (10 * sNp S)) (s32 : ∀ q : Nat, q < sNt S → ∀ j : Nat, i32 (svF S N f q j)) : ∀ (dd k : Nat), k + dd = sNt S → K mX12_look GK (ZK (fun o h' => o = .inl (some (vi (selN (fun k v => decide (0 < unF S N f k) && (decide (v = -1) || decide (unF S N f v.toNat < unF S N f k))) (sNt S)))) ∧ FQ h h' ∧ hI h' 0 0 = 0) 0 0) 0 0 96 [(5, vi (k : Int)), (4, vi (if (selN (fun k v => decide (0 < unF S N f k) && (decide (v = -1) || decide (unF S N f v.toNat < unF S N f k))) k) = -1 then 0 else unF S N f (selN (fun k v => decide (0 < unF S N f k) && (decide (v = -1) || decide (unF S N f v.toNat < unF S N f k))) k).toNat)), (3, vi (selN (fun k v => decide (0 < unF S N f k) && (decide (v = -1) || decide (unF S N f v.toNat < unF S N f k))) k)), (2, vi (((gsL S N f (10 * sNp S)).length : Nat) : Int)), (0, vr 0), (1, vi 0)] [] hh := by
  intro dd
  induction dd with
  | zero =>
    intro k hk
    have hB := Q0.1.1
    have hNt := hB.1
    have hNp := hB.2.1
    have R := Q0.2.2.2.2
    have hT := R.1
    have hW := hT.1
    have ek : k = sNt S := by omega
    refine K_iload (dt_at dtX12_look 54 rfl) rfl ?_
    refine K_aload_n (dt_at dtX12_look 55 rfl) rfl rfl ?_
    refine K_get (a := 0) (ci := 12) (k := 1) (v := vi (sNt S : Int)) (dt_at dtX12_look 56 rfl) (show TT 0 = (0, 12) from rfl) rfl (by decide) wF_X12_267 (by show vi (hI hh 0 1) = vi (sNt S : Int); rw [(MD_nt (MG_D0 G))]) ?_
    refine K_icmp_ge (tgt := 221) (dt_at dtX12_look 57 rfl) (by decide) (by first | assumption | exact ⟨by omega, by omega⟩) (by first | assumption | exact ⟨by omega, by omega⟩) (fun c1 => ?_) (fun c1 => absurd c1 (by omega))
    refine K_iload_n (dt_at dtX12_look 117 rfl) rfl rfl ?_
    refine K_if_ne (tgt := 229) (dt_at dtX12_look 118 rfl) (by decide) (by first | assumption | exact ⟨by omega, by omega⟩) (fun c2 => absurd c2 (by omega)) (fun c2 => ?_)
    refine K_iload_n (dt_at dtX12_look 119 rfl) rfl rfl ?_
    refine K_goto (tgt := 231) (dt_at dtX12_look 120 rfl) (by decide) ?_
    exact K_iret (dt_at dtX12_look 122 rfl) rfl rfl (by decide) (by decide) ⟨by rw [ek], G.2.1, G.2.2.2⟩
  | succ dd ih =>
    intro k hk
    have hB := Q0.1.1
    have hNt := hB.1
    have hNp := hB.2.1
    have R := Q0.2.2.2.2
    have hT := R.1
    have hW := hT.1
    have sb := selN_b (fun k v => decide (0 < unF S N f k) && (decide (v = -1) || decide (unF S N f v.toNat < unF S N f k))) k
    have lb := gsL_len (S := S) (N := N) (f := f) (10 * sNp S)
    have ub : ∀ j : Nat, 0 ≤ unF S N f j ∧ unF S N f j ≤ 70 := fun j => by have := dvL_len (svF S N f j) (gsA S N f).length; unfold unF; unfold gsA at this ⊢; omega
    have mb : 0 ≤ (if (selN (fun k v => decide (0 < unF S N f k) && (decide (v = -1) || decide (unF S N f v.toNat < unF S N f k))) k) = -1 then 0 else unF S N f (selN (fun k v => decide (0 < unF S N f k) && (decide (v = -1) || decide (unF S N f v.toNat < unF S N f k))) k).toNat) ∧ (if (selN (fun k v => decide (0 < unF S N f k) && (decide (v = -1) || decide (unF S N f v.toNat < unF S N f k))) k) = -1 then 0 else unF S N f (selN (fun k v => decide (0 < unF S N f k) && (decide (v = -1) || decide (unF S N f v.toNat < unF S N f k))) k).toNat) ≤ 70 := if z : (selN (fun k v => decide (0 < unF S N f k) && (decide (v = -1) || decide (unF S N f v.toNat < unF S N f k))) k) = -1 then (by rw [if_pos z]; omega) else (by rw [if_neg z]; exact ub _)
    have uk := ub k
    refine K_iload (dt_at dtX12_look 54 rfl) rfl ?_
    refine K_aload_n (dt_at dtX12_look 55 rfl) rfl rfl ?_
    refine K_get (a := 0) (ci := 12) (k := 1) (v := vi (sNt S : Int)) (dt_at dtX12_look 56 rfl) (show TT 0 = (0, 12) from rfl) rfl (by decide) wF_X12_267 (by show vi (hI hh 0 1) = vi (sNt S : Int); rw [(MD_nt (MG_D0 G))]) ?_
    refine K_icmp_ge (tgt := 221) (dt_at dtX12_look 57 rfl) (by decide) (by first | assumption | exact ⟨by omega, by omega⟩) (by first | assumption | exact ⟨by omega, by omega⟩) (fun c1 => absurd c1 (by omega)) (fun c1 => ?_)
    refine K_iconst (dt_at dtX12_look 58 rfl) ?_
    refine K_istore (ls' := [(6, vi 0), (5, vi (k : Int)), (4, vi (if (selN (fun k v => decide (0 < unF S N f k) && (decide (v = -1) || decide (unF S N f v.toNat < unF S N f k))) k) = -1 then 0 else unF S N f (selN (fun k v => decide (0 < unF S N f k) && (decide (v = -1) || decide (unF S N f v.toNat < unF S N f k))) k).toNat)), (3, vi (selN (fun k v => decide (0 < unF S N f k) && (decide (v = -1) || decide (unF S N f v.toNat < unF S N f k))) k)), (2, vi (((gsL S N f (10 * sNp S)).length : Nat) : Int)), (0, vr 0), (1, vi 0)]) (dt_at dtX12_look 59 rfl) (by decide) rfl ?_
    refine K_iconst (dt_at dtX12_look 60 rfl) ?_
    refine K_istore (ls' := [(7, vi 0), (6, vi 0), (5, vi (k : Int)), (4, vi (if (selN (fun k v => decide (0 < unF S N f k) && (decide (v = -1) || decide (unF S N f v.toNat < unF S N f k))) k) = -1 then 0 else unF S N f (selN (fun k v => decide (0 < unF S N f k) && (decide (v = -1) || decide (unF S N f v.toNat < unF S N f k))) k).toNat)), (3, vi (selN (fun k v => decide (0 < unF S N f k) && (decide (v = -1) || decide (unF S N f v.toNat < unF S N f k))) k)), (2, vi (((gsL S N f (10 * sNp S)).length : Nat) : Int)), (0, vr 0), (1, vi 0)]) (dt_at dtX12_look 61 rfl) (by decide) rfl ?_
    refine K_pk [0, 1, 2, 3, 4, 5, 6, 7] rfl (ld_X12_look_0 (q := k) Q0 G sa (by omega) (s32 k (by omega)) ?_ (gsL S N f (10 * sNp S)).length 0 (by omega))
    show K mX12_look _ _ 0 0 198 [(6, vi (unF S N f k)), (5, vi (k : Int)), (4, vi (if (selN (fun k v => decide (0 < unF S N f k) && (decide (v = -1) || decide (unF S N f v.toNat < unF S N f k))) k) = -1 then 0 else unF S N f (selN (fun k v => decide (0 < unF S N f k) && (decide (v = -1) || decide (unF S N f v.toNat < unF S N f k))) k).toNat)), (3, vi (selN (fun k v => decide (0 < unF S N f k) && (decide (v = -1) || decide (unF S N f v.toNat < unF S N f k))) k)), (2, vi (((gsL S N f (10 * sNp S)).length : Nat) : Int)), (0, vr 0), (1, vi 0)] [] hh
    refine K_iload (dt_at dtX12_look 107 rfl) rfl ?_
    refine K_iload (dt_at dtX12_look 108 rfl) rfl ?_
    refine K_icmp_gt (tgt := 208) (dt_at dtX12_look 109 rfl) (by decide) (by first | assumption | exact ⟨by omega, by omega⟩) (by first | assumption | exact ⟨by omega, by omega⟩) (fun c2 => ?_) (fun c2 => ?_)
    · refine K_iload (dt_at dtX12_look 111 rfl) rfl ?_
      refine K_istore_n (ls' := [(3, vi (k : Int)), (6, vi (unF S N f k)), (5, vi (k : Int)), (4, vi (if (selN (fun k v => decide (0 < unF S N f k) && (decide (v = -1) || decide (unF S N f v.toNat < unF S N f k))) k) = -1 then 0 else unF S N f (selN (fun k v => decide (0 < unF S N f k) && (decide (v = -1) || decide (unF S N f v.toNat < unF S N f k))) k).toNat)), (2, vi (((gsL S N f (10 * sNp S)).length : Nat) : Int)), (0, vr 0), (1, vi 0)]) (dt_at dtX12_look 112 rfl) rfl (by decide) rfl ?_
      refine K_iload (dt_at dtX12_look 113 rfl) rfl ?_
      refine K_istore (ls' := [(4, vi (unF S N f k)), (3, vi (k : Int)), (6, vi (unF S N f k)), (5, vi (k : Int)), (2, vi (((gsL S N f (10 * sNp S)).length : Nat) : Int)), (0, vr 0), (1, vi 0)]) (dt_at dtX12_look 114 rfl) (by decide) rfl ?_
      refine K_iinc (ls' := [(5, vi ((k : Int) + 1)), (4, vi (unF S N f k)), (3, vi (k : Int)), (6, vi (unF S N f k)), (2, vi (((gsL S N f (10 * sNp S)).length : Nat) : Int)), (0, vr 0), (1, vi 0)]) (dt_at dtX12_look 115 rfl) rfl (by decide) rfl ?_
      refine K_goto (tgt := 96) (dt_at dtX12_look 116 rfl) (by decide) ?_
      refine K_pk [0, 1, 2, 4, 5, 6] (ls' := [(5, vi ((k : Int) + 1)), (4, vi (unF S N f k)), (3, vi (k : Int)), (2, vi (((gsL S N f (10 * sNp S)).length : Nat) : Int)), (0, vr 0), (1, vi 0)]) rfl ?_
      exact K_cg (ls' := [(5, vi ((k + 1 : Nat) : Int)), (4, vi (if (selN (fun k v => decide (0 < unF S N f k) && (decide (v = -1) || decide (unF S N f v.toNat < unF S N f k))) (k + 1)) = -1 then 0 else unF S N f (selN (fun k v => decide (0 < unF S N f k) && (decide (v = -1) || decide (unF S N f v.toNat < unF S N f k))) (k + 1)).toNat)), (3, vi (selN (fun k v => decide (0 < unF S N f k) && (decide (v = -1) || decide (unF S N f v.toNat < unF S N f k))) (k + 1))), (2, vi (((gsL S N f (10 * sNp S)).length : Nat) : Int)), (0, vr 0), (1, vi 0)]) (h' := hh) (by rw [sel_t (S := S) (N := N) (f := f) (k := k) (by assumption), if_neg (show ¬ (k : Int) = -1 by omega), show ((k : Int)).toNat = k by omega]; rfl) rfl (ih (k + 1) (by omega))
    · refine K_goto (tgt := 215) (dt_at dtX12_look 110 rfl) (by decide) ?_
      refine K_iinc (ls' := [(5, vi ((k : Int) + 1)), (6, vi (unF S N f k)), (4, vi (if (selN (fun k v => decide (0 < unF S N f k) && (decide (v = -1) || decide (unF S N f v.toNat < unF S N f k))) k) = -1 then 0 else unF S N f (selN (fun k v => decide (0 < unF S N f k) && (decide (v = -1) || decide (unF S N f v.toNat < unF S N f k))) k).toNat)), (3, vi (selN (fun k v => decide (0 < unF S N f k) && (decide (v = -1) || decide (unF S N f v.toNat < unF S N f k))) k)), (2, vi (((gsL S N f (10 * sNp S)).length : Nat) : Int)), (0, vr 0), (1, vi 0)]) (dt_at dtX12_look 115 rfl) rfl (by decide) rfl ?_
      refine K_goto (tgt := 96) (dt_at dtX12_look 116 rfl) (by decide) ?_
      refine K_pk [0, 2, 3, 4, 5, 6] (ls' := [(5, vi ((k : Int) + 1)), (4, vi (if (selN (fun k v => decide (0 < unF S N f k) && (decide (v = -1) || decide (unF S N f v.toNat < unF S N f k))) k) = -1 then 0 else unF S N f (selN (fun k v => decide (0 < unF S N f k) && (decide (v = -1) || decide (unF S N f v.toNat < unF S N f k))) k).toNat)), (3, vi (selN (fun k v => decide (0 < unF S N f k) && (decide (v = -1) || decide (unF S N f v.toNat < unF S N f k))) k)), (2, vi (((gsL S N f (10 * sNp S)).length : Nat) : Int)), (0, vr 0), (1, vi 0)]) rfl ?_
      exact K_cg (ls' := [(5, vi ((k + 1 : Nat) : Int)), (4, vi (if (selN (fun k v => decide (0 < unF S N f k) && (decide (v = -1) || decide (unF S N f v.toNat < unF S N f k))) (k + 1)) = -1 then 0 else unF S N f (selN (fun k v => decide (0 < unF S N f k) && (decide (v = -1) || decide (unF S N f v.toNat < unF S N f k))) (k + 1)).toNat)), (3, vi (selN (fun k v => decide (0 < unF S N f k) && (decide (v = -1) || decide (unF S N f v.toNat < unF S N f k))) (k + 1))), (2, vi (((gsL S N f (10 * sNp S)).length : Nat) : Int)), (0, vr 0), (1, vi 0)]) (h' := hh) (by rw [sel_n (S := S) (N := N) (f := f) (k := k) (by assumption)]; rfl) rfl (ih (k + 1) (by omega))
set_option maxHeartbeats 4000000 in
set_option maxRecDepth 100000 in
theorem la_X12_look_0 {h : HP} {S : HS} {f : Int → Int} {N : SN} (Q0 : MAsk h S f) (msh : mSe h 23 51 N) (hO : seO S N) (s32 : ∀ q : Nat, q < sNt S → ∀ j : Nat, i32 (svF S N f q j)) : ∀ (dd k : Nat) (hh : HP), k + dd = 10 * sNp S → (∃ g, MG h hh S f g) → SA hh S N f k → K mX12_look GK (ZK (fun o h' => o = .inl (some (vi (selN (fun k v => decide (0 < unF S N f k) && (decide (v = -1) || decide (unF S N f v.toNat < unF S N f k))) (sNt S)))) ∧ FQ h h' ∧ hI h' 0 0 = 0) 0 0) 0 0 20 [(3, vi (k : Int)), (2, vi (((gsL S N f k).length : Nat) : Int)), (0, vr 0), (1, vi 0)] [] hh := by
  intro dd
  induction dd with
  | zero =>
    intro k hh hk ge sa
    have hB := Q0.1.1
    have hNt := hB.1
    have hNp := hB.2.1
    have R := Q0.2.2.2.2
    have hT := R.1
    have hW := hT.1
    obtain ⟨g, G⟩ := ge
    have ek : k = 10 * sNp S := by omega
    refine K_iload_n (dt_at dtX12_look 14 rfl) rfl rfl ?_
    refine K_bipush (dt_at dtX12_look 15 rfl) (by decide) ?_
    refine K_aload_n (dt_at dtX12_look 16 rfl) rfl rfl ?_
    refine K_get (a := 0) (ci := 12) (k := 2) (v := vi (sNp S : Int)) (dt_at dtX12_look 17 rfl) (show TT 0 = (0, 12) from rfl) rfl (by decide) wF_X12_270 (by show vi (hI hh 0 2) = vi (sNp S : Int); rw [(MD_np (MG_D0 G))]) ?_
    refine K_imul (dt_at dtX12_look 18 rfl) ?_
    refine K_icmp_ge (tgt := 88) (dt_at dtX12_look 19 rfl) (by decide) (by first | assumption | exact ⟨by omega, by omega⟩) (by first | assumption | exact ⟨by omega, by omega⟩) (fun c1 => ?_) (fun c1 => absurd c1 (by omega))
    refine K_iconst (dt_at dtX12_look 48 rfl) ?_
    refine K_istore_n (ls' := [(3, vi (-1)), (2, vi (((gsL S N f k).length : Nat) : Int)), (0, vr 0), (1, vi 0)]) (dt_at dtX12_look 49 rfl) rfl (by decide) rfl ?_
    refine K_iconst (dt_at dtX12_look 50 rfl) ?_
    refine K_istore (ls' := [(4, vi 0), (3, vi (-1)), (2, vi (((gsL S N f k).length : Nat) : Int)), (0, vr 0), (1, vi 0)]) (dt_at dtX12_look 51 rfl) (by decide) rfl ?_
    refine K_iconst (dt_at dtX12_look 52 rfl) ?_
    refine K_istore (ls' := [(5, vi 0), (4, vi 0), (3, vi (-1)), (2, vi (((gsL S N f k).length : Nat) : Int)), (0, vr 0), (1, vi 0)]) (dt_at dtX12_look 53 rfl) (by decide) rfl ?_
    exact K_pk [0, 1, 2, 3, 4, 5] (ls' := [(5, vi 0), (4, vi 0), (3, vi (-1)), (2, vi (((gsL S N f k).length : Nat) : Int)), (0, vr 0), (1, vi 0)]) rfl (K_cg (ls' := [(5, vi ((0 : Nat) : Int)), (4, vi 0), (3, vi (-1)), (2, vi (((gsL S N f (10 * sNp S)).length : Nat) : Int)), (0, vr 0), (1, vi 0)]) (h' := hh) (by rw [ek]; rfl) rfl (lc_X12_look_0 Q0 G (by rw [ek] at sa; exact sa) s32 (sNt S) 0 (by omega)))
  | succ dd ih =>
    intro k hh hk ge sa
    have hB := Q0.1.1
    have hNt := hB.1
    have hNp := hB.2.1
    have R := Q0.2.2.2.2
    have hT := R.1
    have hW := hT.1
    obtain ⟨g, G⟩ := ge
    have lb := gsL_len (S := S) (N := N) (f := f) k
    have r10 : ∀ x : Int, 0 ≤ x → x < sNt S → i32 (dysF S (gsR f k) 10 (29 + x)) := fun x x0 x1 => by have := (dys_R hB (gsR_R hB R (g := k) (by omega)) (n := 10) (by omega)).1.1.1 (29 + x) (by omega) (by omega); exact ⟨by omega, by omega⟩
    refine K_iload_n (dt_at dtX12_look 14 rfl) rfl rfl ?_
    refine K_bipush (dt_at dtX12_look 15 rfl) (by decide) ?_
    refine K_aload_n (dt_at dtX12_look 16 rfl) rfl rfl ?_
    refine K_get (a := 0) (ci := 12) (k := 2) (v := vi (sNp S : Int)) (dt_at dtX12_look 17 rfl) (show TT 0 = (0, 12) from rfl) rfl (by decide) wF_X12_270 (by show vi (hI hh 0 2) = vi (sNp S : Int); rw [(MD_np (MG_D0 G))]) ?_
    refine K_imul (dt_at dtX12_look 18 rfl) ?_
    refine K_icmp_ge (tgt := 88) (dt_at dtX12_look 19 rfl) (by decide) (by first | assumption | exact ⟨by omega, by omega⟩) (by first | assumption | exact ⟨by omega, by omega⟩) (fun c1 => absurd c1 (by omega)) (fun c1 => ?_)
    refine K_aload_n (dt_at dtX12_look 20 rfl) rfl rfl ?_
    refine K_iload_n (dt_at dtX12_look 21 rfl) rfl rfl ?_
    cases eb : gsB S N f k
    · refine K_callV (M' := mX12_isGuess) (a := 0) (ci := 12) (As := [vi (k : Int)]) (st := []) (dt_at dtX12_look 22 rfl) (sX12_isGuess_F Q0 G msh hO (y := k) (by omega) eb) (show TT 0 = (0, 12) from rfl) rfl wL_X12_432 vX12_isGuess rfl npX12_isGuess (by decide) (by decide) (Nat.le_of_ble_eq_true rfl) (by decide) (by decide) GK_E (fun v9 hc1 hq => ?_) (fun E h9 hq => by cases hq.1)
      have hqq2 := hq
      obtain ⟨e9q2, ⟨gq2, Gq2⟩, x1q2⟩ := hqq2
      cases e9q2
      show K mX12_look _ _ 0 0 36 [(3, vi (k : Int)), (2, vi (((gsL S N f k).length : Nat) : Int)), (0, vr 0), (1, vi 0)] [vi 0] hc1
      refine K_if_ne (tgt := 42) (dt_at dtX12_look 23 rfl) (by decide) (by first | assumption | exact ⟨by omega, by omega⟩) (fun c2 => absurd c2 (by omega)) (fun c2 => ?_)
      refine K_goto (tgt := 82) (dt_at dtX12_look 24 rfl) (by decide) ?_
      refine K_iinc (ls' := [(3, vi ((k : Int) + 1)), (2, vi (((gsL S N f k).length : Nat) : Int)), (0, vr 0), (1, vi 0)]) (dt_at dtX12_look 46 rfl) rfl (by decide) rfl ?_
      refine K_goto (tgt := 20) (dt_at dtX12_look 47 rfl) (by decide) ?_
      exact K_pk [0, 1, 2, 3] (ls' := [(3, vi ((k : Int) + 1)), (2, vi (((gsL S N f k).length : Nat) : Int)), (0, vr 0), (1, vi 0)]) rfl (K_cg (ls' := [(3, vi ((k + 1 : Nat) : Int)), (2, vi (((gsL S N f (k + 1)).length : Nat) : Int)), (0, vr 0), (1, vi 0)]) (h' := hc1) (by rw [gsL_f eb]; rfl) rfl (ih (k + 1) hc1 (by omega) ⟨_, Gq2⟩ (SA_f sa eb x1q2)))
    · refine K_callV (M' := mX12_isGuess) (a := 0) (ci := 12) (As := [vi (k : Int)]) (st := []) (dt_at dtX12_look 22 rfl) (sX12_isGuess_T Q0 G msh hO (y := k) (by omega) eb) (show TT 0 = (0, 12) from rfl) rfl wL_X12_432 vX12_isGuess rfl npX12_isGuess (by decide) (by decide) (Nat.le_of_ble_eq_true rfl) (by decide) (by decide) GK_E (fun v9 hc3 hq => ?_) (fun E h9 hq => by cases hq.1)
      have hqq4 := hq
      obtain ⟨e9q4, ⟨gq4, Gq4⟩, x1q4, x2q4⟩ := hqq4
      cases e9q4
      show K mX12_look _ _ 0 0 36 [(3, vi (k : Int)), (2, vi (((gsL S N f k).length : Nat) : Int)), (0, vr 0), (1, vi 0)] [vi 1] hc3
      refine K_if_ne (tgt := 42) (dt_at dtX12_look 23 rfl) (by decide) (by first | assumption | exact ⟨by omega, by omega⟩) (fun c3 => ?_) (fun c3 => absurd c3 (by omega))
      refine K_iconst (dt_at dtX12_look 25 rfl) ?_
      refine K_istore (ls' := [(4, vi 0), (3, vi (k : Int)), (2, vi (((gsL S N f k).length : Nat) : Int)), (0, vr 0), (1, vi 0)]) (dt_at dtX12_look 26 rfl) (by decide) rfl ?_
      refine K_pk [0, 1, 2, 3, 4] rfl (lb_X12_look_0 (hb := hc3) (y := k) Q0 lb (by omega) x2q4 r10 (fun h2 g2 lo2 hi2 => ?_) (sNt S) 0 hc3 (by omega) ⟨_, Gq4⟩ rfl (fun _ _ => rfl) (fun t t0 t1 => by omega))
      refine K_iinc (ls' := [(2, vi ((((gsL S N f k).length : Nat) : Int) + 1)), (3, vi (k : Int)), (0, vr 0), (1, vi 0)]) (dt_at dtX12_look 45 rfl) rfl (by decide) rfl ?_
      refine K_iinc (ls' := [(3, vi ((k : Int) + 1)), (2, vi ((((gsL S N f k).length : Nat) : Int) + 1)), (0, vr 0), (1, vi 0)]) (dt_at dtX12_look 46 rfl) rfl (by decide) rfl ?_
      refine K_goto (tgt := 20) (dt_at dtX12_look 47 rfl) (by decide) ?_
      exact K_pk [0, 1, 2, 3] (ls' := [(3, vi ((k : Int) + 1)), (2, vi ((((gsL S N f k).length : Nat) : Int) + 1)), (0, vr 0), (1, vi 0)]) rfl (K_cg (ls' := [(3, vi ((k + 1 : Nat) : Int)), (2, vi (((gsL S N f (k + 1)).length : Nat) : Int)), (0, vr 0), (1, vi 0)]) (h' := h2) (by rw [gsL_t eb, List.length_append]; rfl) rfl (ih (k + 1) h2 (by omega) g2 (SA_t hB sa eb (fun i hi => by rw [lo2 i hi, x1q4]) hi2)))
set_option maxHeartbeats 4000000 in
set_option maxRecDepth 100000 in
theorem sX12_look_0 {h : HP} {S : HS} {f : Int → Int} {N : SN} (Q0 : MAsk h S f) (msh : mSe h 23 51 N) (hO : seO S N) : SpecK mX12_look [vr 0, vi 0] h (fun o h' => o = .inl (some (vi (selN (fun k v => decide (0 < unF S N f k) && (decide (v = -1) || decide (unF S N f v.toNat < unF S N f k))) (sNt S)))) ∧ FQ h h' ∧ hI h' 0 0 = 0) := by
  refine Spec_of (by decide +kernel) (Nat.le_of_ble_eq_true rfl) ?_
  have hB := Q0.1.1
  have hNt := hB.1
  have hNp := hB.2.1
  have R := Q0.2.2.2.2
  have hT := R.1
  have hW := hT.1
  have s32 : ∀ q : Nat, q < sNt S → ∀ j : Nat, i32 (svF S N f q j) := fun q hq j => by
    unfold svF
    cases e : (gsL S N f (10 * sNp S))[j]? with
    | none =>
      have := (dys_0 hB R (n := 10)).1.1.1 (29 + (q : Int)) (by omega) (by omega)
      exact ⟨by show _ ≤ dysF S (gsR f 0) 10 (29 + (q : Int)); omega, by show dysF S (gsR f 0) 10 (29 + (q : Int)) < _; omega⟩
    | some x =>
      have := (dys_R hB (gsR_R hB R (g := x) (gsL_lt e)) (n := 10) (by omega)).1.1.1 (29 + (q : Int)) (by omega) (by omega)
      exact ⟨by show _ ≤ dysF S (gsR f x) 10 (29 + (q : Int)); omega, by show dysF S (gsR f x) 10 (29 + (q : Int)) < _; omega⟩
  refine K_aload_n (dt_at dtX12_look 0 rfl) rfl rfl ?_
  refine K_iconst (dt_at dtX12_look 1 rfl) ?_
  refine K_putI (a := 0) (ci := 12) (k := 0) (dt_at dtX12_look 2 rfl) (show TT 0 = (0, 12) from rfl) rfl (by decide) wF_X12_105 rfl (Or.inl rfl) rfl rfl ?_
  obtain ⟨hu1, eu1⟩ : ∃ z, z = sI h 0 0 0 := ⟨_, rfl⟩
  rw [← eu1]
  obtain ⟨iu1, fu1, au1, ru1⟩ := sI_fx eu1
  have Gu1 := MG_0 Q0 eu1
  refine K_aload_n (dt_at dtX12_look 3 rfl) rfl rfl ?_
  refine K_iload_n (dt_at dtX12_look 4 rfl) rfl rfl ?_
  refine K_iconst (dt_at dtX12_look 5 rfl) ?_
  refine K_callV (M' := mX12_isWhat) (a := 0) (ci := 12) (As := [vi 0, vi 1]) (st := []) (dt_at dtX12_look 6 rfl) (sX12_isWhat_t Gu1.2.2.2 (by omega) (by omega)) (show TT 0 = (0, 12) from rfl) rfl wL_X12_371 vX12_isWhat rfl npX12_isWhat (by decide) (by decide) (Nat.le_of_ble_eq_true rfl) (by decide) (by decide) GK_E (fun v9 h9 hq => ?_) (fun E h9 hq => by cases hq.1)
  obtain ⟨e9, e8⟩ := hq
  cases e9
  rw [e8]
  show K mX12_look _ _ 0 0 11 [(0, vr 0), (1, vi 0)] [vi 1] hu1
  refine K_if_ne (tgt := 16) (dt_at dtX12_look 7 rfl) (by decide) (by first | assumption | exact ⟨by omega, by omega⟩) (fun c1 => ?_) (fun c1 => absurd c1 (by omega))
  refine K_iconst (dt_at dtX12_look 10 rfl) ?_
  refine K_istore_n (ls' := [(2, vi 0), (0, vr 0), (1, vi 0)]) (dt_at dtX12_look 11 rfl) rfl (by decide) rfl ?_
  refine K_iconst (dt_at dtX12_look 12 rfl) ?_
  refine K_istore_n (ls' := [(3, vi 0), (2, vi 0), (0, vr 0), (1, vi 0)]) (dt_at dtX12_look 13 rfl) rfl (by decide) rfl ?_
  exact K_pk [0, 1, 2, 3] rfl (la_X12_look_0 Q0 msh hO s32 (10 * sNp S) 0 hu1 (by omega) ⟨_, Gu1⟩ (fun j x hj => by cases j <;> cases hj))
set_option maxHeartbeats 4000000 in
set_option maxRecDepth 100000 in
theorem le_X12_look_1 {Z : CT → State → Prop} {h hh : HP} {S : HS} {f g : Int → Int} {N : SN} {q : Nat} {a : Nat} {c mo be : Int} (Q0 : MAsk h S f) (G : MG h hh S f g) (sa : SA hh S N f (10 * sNp S)) (hq : q < sNt S) (s32 : ∀ j : Nat, i32 (svF S N f q j)) (ha : a < (gsL S N f (10 * sNp S)).length) (kx : ∀ i : Int, ((i = 1 ∧ ∀ j, j < a → svF S N f q j ≠ svF S N f q a) ∨ (i = 0 ∧ ∃ j, j < a ∧ svF S N f q j = svF S N f q a)) → K mX12_look GK Z 0 0 177 [(8, vi i), (7, vi (a : Int)), (6, vi c), (5, vi (q : Int)), (4, vi mo), (3, vi be), (2, vi (((gsL S N f (10 * sNp S)).length : Nat) : Int)), (0, vr 0), (1, vi 1)] [] hh) : ∀ (dd k : Nat) (i : Int), k + dd = a → ((i = 1 ∧ ∀ j, j < k → svF S N f q j ≠ svF S N f q a) ∨ (i = 0 ∧ ∃ j, j < k ∧ svF S N f q j = svF S N f q a)) → K mX12_look GK Z 0 0 123 [(9, vi (k : Int)), (8, vi i), (7, vi (a : Int)), (6, vi c), (5, vi (q : Int)), (4, vi mo), (3, vi be), (2, vi (((gsL S N f (10 * sNp S)).length : Nat) : Int)), (0, vr 0), (1, vi 1)] [] hh := by
  intro dd
  induction dd with
  | zero =>
    intro k i hk hi
    have hB := Q0.1.1
    have hNt := hB.1
    have hNp := hB.2.1
    have R := Q0.2.2.2.2
    have hT := R.1
    have hW := hT.1
    have ek : k = a := by omega
    have lb := gsL_len (S := S) (N := N) (f := f) (10 * sNp S)
    refine K_iload (dt_at dtX12_look 69 rfl) rfl ?_
    refine K_iload (dt_at dtX12_look 70 rfl) rfl ?_
    refine K_icmp_ge (tgt := 177) (dt_at dtX12_look 71 rfl) (by decide) (by first | assumption | exact ⟨by omega, by omega⟩) (by first | assumption | exact ⟨by omega, by omega⟩) (fun c1 => ?_) (fun c1 => absurd c1 (by omega))
    exact K_pk [1, 2, 3, 4, 5, 6, 7, 8, 9] rfl (kx i (by rw [ek] at hi; exact hi))
  | succ dd ih =>
    intro k i hk hi
    have hB := Q0.1.1
    have hNt := hB.1
    have hNp := hB.2.1
    have R := Q0.2.2.2.2
    have hT := R.1
    have hW := hT.1
    have lb := gsL_len (S := S) (N := N) (f := f) (10 * sNp S)
    have p1 := sv_at sa ha hq
    have p2 := sv_at sa (a := k) (by omega) hq
    have s1 := s32 a
    have s2 := s32 k
    have ib : i = 0 ∨ i = 1 := by omega
    refine K_iload (dt_at dtX12_look 69 rfl) rfl ?_
    refine K_iload (dt_at dtX12_look 70 rfl) rfl ?_
    refine K_icmp_ge (tgt := 177) (dt_at dtX12_look 71 rfl) (by decide) (by first | assumption | exact ⟨by omega, by omega⟩) (by first | assumption | exact ⟨by omega, by omega⟩) (fun c1 => absurd c1 (by omega)) (fun c1 => ?_)
    refine K_iload (dt_at dtX12_look 72 rfl) rfl ?_
    refine K_if_eq (tgt := 177) (dt_at dtX12_look 73 rfl) (by decide) (by first | assumption | exact ⟨by omega, by omega⟩) (fun c2 => ?_) (fun c2 => ?_)
    · exact K_pk [1, 2, 3, 4, 5, 6, 7, 8, 9] rfl (kx i (by rcases hi with ⟨z, _⟩ | ⟨z, j, j1, j2⟩; exact absurd z (by omega); exact Or.inr ⟨z, j, by omega, j2⟩))
    · refine K_aload_n (dt_at dtX12_look 74 rfl) rfl rfl ?_
      refine K_get (a := 0) (ci := 12) (k := 54) (v := vr 25) (dt_at dtX12_look 75 rfl) (show TT 0 = (0, 12) from rfl) rfl (by decide) wF_X12_93 rfl ?_
      refine K_bipush (dt_at dtX12_look 76 rfl) (by decide) ?_
      refine K_iload (dt_at dtX12_look 77 rfl) rfl ?_
      refine K_imul (dt_at dtX12_look 78 rfl) ?_
      refine K_iload (dt_at dtX12_look 79 rfl) rfl ?_
      refine K_iadd (dt_at dtX12_look 80 rfl) ?_
      refine K_iald (dt_at dtX12_look 81 rfl) (show TT 25 = (1, 420) from rfl) (by omega) (by omega) ?_
      rw [p1]
      refine K_aload_n (dt_at dtX12_look 82 rfl) rfl rfl ?_
      refine K_get (a := 0) (ci := 12) (k := 54) (v := vr 25) (dt_at dtX12_look 83 rfl) (show TT 0 = (0, 12) from rfl) rfl (by decide) wF_X12_93 rfl ?_
      refine K_bipush (dt_at dtX12_look 84 rfl) (by decide) ?_
      refine K_iload (dt_at dtX12_look 85 rfl) rfl ?_
      refine K_imul (dt_at dtX12_look 86 rfl) ?_
      refine K_iload (dt_at dtX12_look 87 rfl) rfl ?_
      refine K_iadd (dt_at dtX12_look 88 rfl) ?_
      refine K_iald (dt_at dtX12_look 89 rfl) (show TT 25 = (1, 420) from rfl) (by omega) (by omega) ?_
      rw [p2]
      refine K_icmp_eq (tgt := 168) (dt_at dtX12_look 90 rfl) (by decide) s1 s2 (fun c3 => ?_) (fun c3 => ?_)
      · refine K_iconst (dt_at dtX12_look 93 rfl) ?_
        refine K_istore (ls' := [(8, vi 0), (9, vi (k : Int)), (7, vi (a : Int)), (6, vi c), (5, vi (q : Int)), (4, vi mo), (3, vi be), (2, vi (((gsL S N f (10 * sNp S)).length : Nat) : Int)), (0, vr 0), (1, vi 1)]) (dt_at dtX12_look 94 rfl) (by decide) rfl ?_
        refine K_iinc (ls' := [(9, vi ((k : Int) + 1)), (8, vi 0), (7, vi (a : Int)), (6, vi c), (5, vi (q : Int)), (4, vi mo), (3, vi be), (2, vi (((gsL S N f (10 * sNp S)).length : Nat) : Int)), (0, vr 0), (1, vi 1)]) (dt_at dtX12_look 95 rfl) rfl (by decide) rfl ?_
        refine K_goto (tgt := 123) (dt_at dtX12_look 96 rfl) (by decide) ?_
        exact K_pk [0, 1, 2, 3, 4, 5, 6, 7, 8, 9] rfl (ih (k + 1) 0 (by omega) (by exact Or.inr ⟨rfl, k, by omega, Eq.symm (by assumption)⟩))
      · refine K_iconst (dt_at dtX12_look 91 rfl) ?_
        refine K_goto (tgt := 169) (dt_at dtX12_look 92 rfl) (by decide) ?_
        refine K_istore (ls' := [(8, vi 1), (9, vi (k : Int)), (7, vi (a : Int)), (6, vi c), (5, vi (q : Int)), (4, vi mo), (3, vi be), (2, vi (((gsL S N f (10 * sNp S)).length : Nat) : Int)), (0, vr 0), (1, vi 1)]) (dt_at dtX12_look 94 rfl) (by decide) rfl ?_
        refine K_iinc (ls' := [(9, vi ((k : Int) + 1)), (8, vi 1), (7, vi (a : Int)), (6, vi c), (5, vi (q : Int)), (4, vi mo), (3, vi be), (2, vi (((gsL S N f (10 * sNp S)).length : Nat) : Int)), (0, vr 0), (1, vi 1)]) (dt_at dtX12_look 95 rfl) rfl (by decide) rfl ?_
        refine K_goto (tgt := 123) (dt_at dtX12_look 96 rfl) (by decide) ?_
        exact K_pk [0, 1, 2, 3, 4, 5, 6, 7, 8, 9] rfl (ih (k + 1) 1 (by omega) (by exact un_up hi (by assumption) (by assumption)))
set_option maxHeartbeats 4000000 in
set_option maxRecDepth 100000 in
theorem ld_X12_look_1 {Z : CT → State → Prop} {h hh : HP} {S : HS} {f g : Int → Int} {N : SN} {q : Nat} {mo be : Int} (Q0 : MAsk h S f) (G : MG h hh S f g) (sa : SA hh S N f (10 * sNp S)) (hq : q < sNt S) (s32 : ∀ j : Nat, i32 (svF S N f q j)) (kx : K mX12_look GK Z 0 0 198 [(6, vi (((dvL (svF S N f q) ((gsL S N f (10 * sNp S)).length)).length : Nat) : Int)), (5, vi (q : Int)), (4, vi mo), (3, vi be), (2, vi (((gsL S N f (10 * sNp S)).length : Nat) : Int)), (0, vr 0), (1, vi 1)] [] hh) : ∀ (dd k : Nat), k + dd = (gsL S N f (10 * sNp S)).length → K mX12_look GK Z 0 0 111 [(7, vi (k : Int)), (6, vi (((dvL (svF S N f q) k).length : Nat) : Int)), (5, vi (q : Int)), (4, vi mo), (3, vi be), (2, vi (((gsL S N f (10 * sNp S)).length : Nat) : Int)), (0, vr 0), (1, vi 1)] [] hh := by
  intro dd
  induction dd with
  | zero =>
    intro k hk
    have hB := Q0.1.1
    have hNt := hB.1
    have hNp := hB.2.1
    have R := Q0.2.2.2.2
    have hT := R.1
    have hW := hT.1
    have ek : k = (gsL S N f (10 * sNp S)).length := by omega
    have lb := gsL_len (S := S) (N := N) (f := f) (10 * sNp S)
    rw [← ek] at kx
    refine K_iload (dt_at dtX12_look 62 rfl) rfl ?_
    refine K_iload_n (dt_at dtX12_look 63 rfl) rfl rfl ?_
    refine K_icmp_ge (tgt := 198) (dt_at dtX12_look 64 rfl) (by decide) (by first | assumption | exact ⟨by omega, by omega⟩) (by first | assumption | exact ⟨by omega, by omega⟩) (fun c1 => ?_) (fun c1 => absurd c1 (by omega))
    exact K_pk [1, 2, 3, 4, 5, 6, 7] rfl (by rw [← ek]; exact kx)
  | succ dd ih =>
    intro k hk
    have hB := Q0.1.1
    have hNt := hB.1
    have hNp := hB.2.1
    have R := Q0.2.2.2.2
    have hT := R.1
    have hW := hT.1
    have lb := gsL_len (S := S) (N := N) (f := f) (10 * sNp S)
    refine K_iload (dt_at dtX12_look 62 rfl) rfl ?_
    refine K_iload_n (dt_at dtX12_look 63 rfl) rfl rfl ?_
    refine K_icmp_ge (tgt := 198) (dt_at dtX12_look 64 rfl) (by decide) (by first | assumption | exact ⟨by omega, by omega⟩) (by first | assumption | exact ⟨by omega, by omega⟩) (fun c1 => absurd c1 (by omega)) (fun c1 => ?_)
    refine K_iconst (dt_at dtX12_look 65 rfl) ?_
    refine K_istore (ls' := [(8, vi 1), (7, vi (k : Int)), (6, vi (((dvL (svF S N f q) k).length : Nat) : Int)), (5, vi (q : Int)), (4, vi mo), (3, vi be), (2, vi (((gsL S N f (10 * sNp S)).length : Nat) : Int)), (0, vr 0), (1, vi 1)]) (dt_at dtX12_look 66 rfl) (by decide) rfl ?_
    refine K_iconst (dt_at dtX12_look 67 rfl) ?_
    refine K_istore (ls' := [(9, vi 0), (8, vi 1), (7, vi (k : Int)), (6, vi (((dvL (svF S N f q) k).length : Nat) : Int)), (5, vi (q : Int)), (4, vi mo), (3, vi be), (2, vi (((gsL S N f (10 * sNp S)).length : Nat) : Int)), (0, vr 0), (1, vi 1)]) (dt_at dtX12_look 68 rfl) (by decide) rfl ?_
    refine K_pk [0, 1, 2, 3, 4, 5, 6, 7, 8, 9] rfl (le_X12_look_1 (a := k) Q0 G sa hq s32 (by omega) (fun i hi => ?_) k 0 1 (by omega) (Or.inl ⟨rfl, fun j hj => by omega⟩))
    have ds := dv_step (v := svF S N f q) (k := k) hi
    have ib : i = 0 ∨ i = 1 := by omega
    refine K_iload (dt_at dtX12_look 97 rfl) rfl ?_
    refine K_iload (dt_at dtX12_look 98 rfl) rfl ?_
    refine K_if_eq (tgt := 188) (dt_at dtX12_look 99 rfl) (by decide) (by first | assumption | exact ⟨by omega, by omega⟩) (fun c2 => ?_) (fun c2 => ?_)
    · refine K_iconst (dt_at dtX12_look 102 rfl) ?_
      refine K_iadd (dt_at dtX12_look 103 rfl) ?_
      refine K_istore (ls' := [(6, vi ((((dvL (svF S N f q) k).length : Nat) : Int) + 0)), (8, vi i), (7, vi (k : Int)), (5, vi (q : Int)), (4, vi mo), (3, vi be), (2, vi (((gsL S N f (10 * sNp S)).length : Nat) : Int)), (0, vr 0), (1, vi 1)]) (dt_at dtX12_look 104 rfl) (by decide) rfl ?_
      refine K_iinc (ls' := [(7, vi ((k : Int) + 1)), (6, vi ((((dvL (svF S N f q) k).length : Nat) : Int) + 0)), (8, vi i), (5, vi (q : Int)), (4, vi mo), (3, vi be), (2, vi (((gsL S N f (10 * sNp S)).length : Nat) : Int)), (0, vr 0), (1, vi 1)]) (dt_at dtX12_look 105 rfl) rfl (by decide) rfl ?_
      refine K_goto (tgt := 111) (dt_at dtX12_look 106 rfl) (by decide) ?_
      exact K_pk [0, 1, 3, 4, 5, 6, 7, 8] (ls' := [(7, vi ((k : Int) + 1)), (6, vi ((((dvL (svF S N f q) k).length : Nat) : Int) + 0)), (5, vi (q : Int)), (4, vi mo), (3, vi be), (2, vi (((gsL S N f (10 * sNp S)).length : Nat) : Int)), (0, vr 0), (1, vi 1)]) rfl (K_cg (ls' := [(7, vi ((k + 1 : Nat) : Int)), (6, vi (((dvL (svF S N f q) (k + 1)).length : Nat) : Int)), (5, vi (q : Int)), (4, vi mo), (3, vi be), (2, vi (((gsL S N f (10 * sNp S)).length : Nat) : Int)), (0, vr 0), (1, vi 1)]) (h' := hh) (by rw [ds, show i = 0 by omega]; rfl) rfl (ih (k + 1) (by omega)))
    · refine K_iconst (dt_at dtX12_look 100 rfl) ?_
      refine K_goto (tgt := 189) (dt_at dtX12_look 101 rfl) (by decide) ?_
      refine K_iadd (dt_at dtX12_look 103 rfl) ?_
      refine K_istore (ls' := [(6, vi ((((dvL (svF S N f q) k).length : Nat) : Int) + 1)), (8, vi i), (7, vi (k : Int)), (5, vi (q : Int)), (4, vi mo), (3, vi be), (2, vi (((gsL S N f (10 * sNp S)).length : Nat) : Int)), (0, vr 0), (1, vi 1)]) (dt_at dtX12_look 104 rfl) (by decide) rfl ?_
      refine K_iinc (ls' := [(7, vi ((k : Int) + 1)), (6, vi ((((dvL (svF S N f q) k).length : Nat) : Int) + 1)), (8, vi i), (5, vi (q : Int)), (4, vi mo), (3, vi be), (2, vi (((gsL S N f (10 * sNp S)).length : Nat) : Int)), (0, vr 0), (1, vi 1)]) (dt_at dtX12_look 105 rfl) rfl (by decide) rfl ?_
      refine K_goto (tgt := 111) (dt_at dtX12_look 106 rfl) (by decide) ?_
      exact K_pk [0, 1, 3, 4, 5, 6, 7, 8] (ls' := [(7, vi ((k : Int) + 1)), (6, vi ((((dvL (svF S N f q) k).length : Nat) : Int) + 1)), (5, vi (q : Int)), (4, vi mo), (3, vi be), (2, vi (((gsL S N f (10 * sNp S)).length : Nat) : Int)), (0, vr 0), (1, vi 1)]) rfl (K_cg (ls' := [(7, vi ((k + 1 : Nat) : Int)), (6, vi (((dvL (svF S N f q) (k + 1)).length : Nat) : Int)), (5, vi (q : Int)), (4, vi mo), (3, vi be), (2, vi (((gsL S N f (10 * sNp S)).length : Nat) : Int)), (0, vr 0), (1, vi 1)]) (h' := hh) (by rw [ds, show i = 1 by omega]; rfl) rfl (ih (k + 1) (by omega)))
set_option maxHeartbeats 4000000 in
set_option maxRecDepth 100000 in
theorem lc_X12_look_1 {h hh : HP} {S : HS} {f g : Int → Int} {N : SN} (Q0 : MAsk h S f) (G : MG h hh S f g) (sa : SA hh S N f (10 * sNp S)) (s32 : ∀ q : Nat, q < sNt S → ∀ j : Nat, i32 (svF S N f q j)) : ∀ (dd k : Nat), k + dd = sNt S → K mX12_look GK (ZK (fun o h' => o = .inl (some (vi (if (selN (fun k v => decide (0 < unF S N f k) && (decide (v = -1) || decide (unF S N f v.toNat < unF S N f k))) (sNt S)) = -1 then 0 else unF S N f (selN (fun k v => decide (0 < unF S N f k) && (decide (v = -1) || decide (unF S N f v.toNat < unF S N f k))) (sNt S)).toNat))) ∧ FQ h h' ∧ hI h' 0 0 = 0) 0 0) 0 0 96 [(5, vi (k : Int)), (4, vi (if (selN (fun k v => decide (0 < unF S N f k) && (decide (v = -1) || decide (unF S N f v.toNat < unF S N f k))) k) = -1 then 0 else unF S N f (selN (fun k v => decide (0 < unF S N f k) && (decide (v = -1) || decide (unF S N f v.toNat < unF S N f k))) k).toNat)), (3, vi (selN (fun k v => decide (0 < unF S N f k) && (decide (v = -1) || decide (unF S N f v.toNat < unF S N f k))) k)), (2, vi (((gsL S N f (10 * sNp S)).length : Nat) : Int)), (0, vr 0), (1, vi 1)] [] hh := by
  intro dd
  induction dd with
  | zero =>
    intro k hk
    have hB := Q0.1.1
    have hNt := hB.1
    have hNp := hB.2.1
    have R := Q0.2.2.2.2
    have hT := R.1
    have hW := hT.1
    have ek : k = sNt S := by omega
    refine K_iload (dt_at dtX12_look 54 rfl) rfl ?_
    refine K_aload_n (dt_at dtX12_look 55 rfl) rfl rfl ?_
    refine K_get (a := 0) (ci := 12) (k := 1) (v := vi (sNt S : Int)) (dt_at dtX12_look 56 rfl) (show TT 0 = (0, 12) from rfl) rfl (by decide) wF_X12_267 (by show vi (hI hh 0 1) = vi (sNt S : Int); rw [(MD_nt (MG_D0 G))]) ?_
    refine K_icmp_ge (tgt := 221) (dt_at dtX12_look 57 rfl) (by decide) (by first | assumption | exact ⟨by omega, by omega⟩) (by first | assumption | exact ⟨by omega, by omega⟩) (fun c1 => ?_) (fun c1 => absurd c1 (by omega))
    refine K_iload_n (dt_at dtX12_look 117 rfl) rfl rfl ?_
    refine K_if_ne (tgt := 229) (dt_at dtX12_look 118 rfl) (by decide) (by first | assumption | exact ⟨by omega, by omega⟩) (fun c2 => ?_) (fun c2 => absurd c2 (by omega))
    refine K_iload (dt_at dtX12_look 121 rfl) rfl ?_
    exact K_iret (dt_at dtX12_look 122 rfl) rfl rfl (by decide) (by decide) ⟨by rw [ek], G.2.1, G.2.2.2⟩
  | succ dd ih =>
    intro k hk
    have hB := Q0.1.1
    have hNt := hB.1
    have hNp := hB.2.1
    have R := Q0.2.2.2.2
    have hT := R.1
    have hW := hT.1
    have sb := selN_b (fun k v => decide (0 < unF S N f k) && (decide (v = -1) || decide (unF S N f v.toNat < unF S N f k))) k
    have lb := gsL_len (S := S) (N := N) (f := f) (10 * sNp S)
    have ub : ∀ j : Nat, 0 ≤ unF S N f j ∧ unF S N f j ≤ 70 := fun j => by have := dvL_len (svF S N f j) (gsA S N f).length; unfold unF; unfold gsA at this ⊢; omega
    have mb : 0 ≤ (if (selN (fun k v => decide (0 < unF S N f k) && (decide (v = -1) || decide (unF S N f v.toNat < unF S N f k))) k) = -1 then 0 else unF S N f (selN (fun k v => decide (0 < unF S N f k) && (decide (v = -1) || decide (unF S N f v.toNat < unF S N f k))) k).toNat) ∧ (if (selN (fun k v => decide (0 < unF S N f k) && (decide (v = -1) || decide (unF S N f v.toNat < unF S N f k))) k) = -1 then 0 else unF S N f (selN (fun k v => decide (0 < unF S N f k) && (decide (v = -1) || decide (unF S N f v.toNat < unF S N f k))) k).toNat) ≤ 70 := if z : (selN (fun k v => decide (0 < unF S N f k) && (decide (v = -1) || decide (unF S N f v.toNat < unF S N f k))) k) = -1 then (by rw [if_pos z]; omega) else (by rw [if_neg z]; exact ub _)
    have uk := ub k
    refine K_iload (dt_at dtX12_look 54 rfl) rfl ?_
    refine K_aload_n (dt_at dtX12_look 55 rfl) rfl rfl ?_
    refine K_get (a := 0) (ci := 12) (k := 1) (v := vi (sNt S : Int)) (dt_at dtX12_look 56 rfl) (show TT 0 = (0, 12) from rfl) rfl (by decide) wF_X12_267 (by show vi (hI hh 0 1) = vi (sNt S : Int); rw [(MD_nt (MG_D0 G))]) ?_
    refine K_icmp_ge (tgt := 221) (dt_at dtX12_look 57 rfl) (by decide) (by first | assumption | exact ⟨by omega, by omega⟩) (by first | assumption | exact ⟨by omega, by omega⟩) (fun c1 => absurd c1 (by omega)) (fun c1 => ?_)
    refine K_iconst (dt_at dtX12_look 58 rfl) ?_
    refine K_istore (ls' := [(6, vi 0), (5, vi (k : Int)), (4, vi (if (selN (fun k v => decide (0 < unF S N f k) && (decide (v = -1) || decide (unF S N f v.toNat < unF S N f k))) k) = -1 then 0 else unF S N f (selN (fun k v => decide (0 < unF S N f k) && (decide (v = -1) || decide (unF S N f v.toNat < unF S N f k))) k).toNat)), (3, vi (selN (fun k v => decide (0 < unF S N f k) && (decide (v = -1) || decide (unF S N f v.toNat < unF S N f k))) k)), (2, vi (((gsL S N f (10 * sNp S)).length : Nat) : Int)), (0, vr 0), (1, vi 1)]) (dt_at dtX12_look 59 rfl) (by decide) rfl ?_
    refine K_iconst (dt_at dtX12_look 60 rfl) ?_
    refine K_istore (ls' := [(7, vi 0), (6, vi 0), (5, vi (k : Int)), (4, vi (if (selN (fun k v => decide (0 < unF S N f k) && (decide (v = -1) || decide (unF S N f v.toNat < unF S N f k))) k) = -1 then 0 else unF S N f (selN (fun k v => decide (0 < unF S N f k) && (decide (v = -1) || decide (unF S N f v.toNat < unF S N f k))) k).toNat)), (3, vi (selN (fun k v => decide (0 < unF S N f k) && (decide (v = -1) || decide (unF S N f v.toNat < unF S N f k))) k)), (2, vi (((gsL S N f (10 * sNp S)).length : Nat) : Int)), (0, vr 0), (1, vi 1)]) (dt_at dtX12_look 61 rfl) (by decide) rfl ?_
    refine K_pk [0, 1, 2, 3, 4, 5, 6, 7] rfl (ld_X12_look_1 (q := k) Q0 G sa (by omega) (s32 k (by omega)) ?_ (gsL S N f (10 * sNp S)).length 0 (by omega))
    show K mX12_look _ _ 0 0 198 [(6, vi (unF S N f k)), (5, vi (k : Int)), (4, vi (if (selN (fun k v => decide (0 < unF S N f k) && (decide (v = -1) || decide (unF S N f v.toNat < unF S N f k))) k) = -1 then 0 else unF S N f (selN (fun k v => decide (0 < unF S N f k) && (decide (v = -1) || decide (unF S N f v.toNat < unF S N f k))) k).toNat)), (3, vi (selN (fun k v => decide (0 < unF S N f k) && (decide (v = -1) || decide (unF S N f v.toNat < unF S N f k))) k)), (2, vi (((gsL S N f (10 * sNp S)).length : Nat) : Int)), (0, vr 0), (1, vi 1)] [] hh
    refine K_iload (dt_at dtX12_look 107 rfl) rfl ?_
    refine K_iload (dt_at dtX12_look 108 rfl) rfl ?_
    refine K_icmp_gt (tgt := 208) (dt_at dtX12_look 109 rfl) (by decide) (by first | assumption | exact ⟨by omega, by omega⟩) (by first | assumption | exact ⟨by omega, by omega⟩) (fun c2 => ?_) (fun c2 => ?_)
    · refine K_iload (dt_at dtX12_look 111 rfl) rfl ?_
      refine K_istore_n (ls' := [(3, vi (k : Int)), (6, vi (unF S N f k)), (5, vi (k : Int)), (4, vi (if (selN (fun k v => decide (0 < unF S N f k) && (decide (v = -1) || decide (unF S N f v.toNat < unF S N f k))) k) = -1 then 0 else unF S N f (selN (fun k v => decide (0 < unF S N f k) && (decide (v = -1) || decide (unF S N f v.toNat < unF S N f k))) k).toNat)), (2, vi (((gsL S N f (10 * sNp S)).length : Nat) : Int)), (0, vr 0), (1, vi 1)]) (dt_at dtX12_look 112 rfl) rfl (by decide) rfl ?_
      refine K_iload (dt_at dtX12_look 113 rfl) rfl ?_
      refine K_istore (ls' := [(4, vi (unF S N f k)), (3, vi (k : Int)), (6, vi (unF S N f k)), (5, vi (k : Int)), (2, vi (((gsL S N f (10 * sNp S)).length : Nat) : Int)), (0, vr 0), (1, vi 1)]) (dt_at dtX12_look 114 rfl) (by decide) rfl ?_
      refine K_iinc (ls' := [(5, vi ((k : Int) + 1)), (4, vi (unF S N f k)), (3, vi (k : Int)), (6, vi (unF S N f k)), (2, vi (((gsL S N f (10 * sNp S)).length : Nat) : Int)), (0, vr 0), (1, vi 1)]) (dt_at dtX12_look 115 rfl) rfl (by decide) rfl ?_
      refine K_goto (tgt := 96) (dt_at dtX12_look 116 rfl) (by decide) ?_
      refine K_pk [0, 1, 2, 4, 5, 6] (ls' := [(5, vi ((k : Int) + 1)), (4, vi (unF S N f k)), (3, vi (k : Int)), (2, vi (((gsL S N f (10 * sNp S)).length : Nat) : Int)), (0, vr 0), (1, vi 1)]) rfl ?_
      exact K_cg (ls' := [(5, vi ((k + 1 : Nat) : Int)), (4, vi (if (selN (fun k v => decide (0 < unF S N f k) && (decide (v = -1) || decide (unF S N f v.toNat < unF S N f k))) (k + 1)) = -1 then 0 else unF S N f (selN (fun k v => decide (0 < unF S N f k) && (decide (v = -1) || decide (unF S N f v.toNat < unF S N f k))) (k + 1)).toNat)), (3, vi (selN (fun k v => decide (0 < unF S N f k) && (decide (v = -1) || decide (unF S N f v.toNat < unF S N f k))) (k + 1))), (2, vi (((gsL S N f (10 * sNp S)).length : Nat) : Int)), (0, vr 0), (1, vi 1)]) (h' := hh) (by rw [sel_t (S := S) (N := N) (f := f) (k := k) (by assumption), if_neg (show ¬ (k : Int) = -1 by omega), show ((k : Int)).toNat = k by omega]; rfl) rfl (ih (k + 1) (by omega))
    · refine K_goto (tgt := 215) (dt_at dtX12_look 110 rfl) (by decide) ?_
      refine K_iinc (ls' := [(5, vi ((k : Int) + 1)), (6, vi (unF S N f k)), (4, vi (if (selN (fun k v => decide (0 < unF S N f k) && (decide (v = -1) || decide (unF S N f v.toNat < unF S N f k))) k) = -1 then 0 else unF S N f (selN (fun k v => decide (0 < unF S N f k) && (decide (v = -1) || decide (unF S N f v.toNat < unF S N f k))) k).toNat)), (3, vi (selN (fun k v => decide (0 < unF S N f k) && (decide (v = -1) || decide (unF S N f v.toNat < unF S N f k))) k)), (2, vi (((gsL S N f (10 * sNp S)).length : Nat) : Int)), (0, vr 0), (1, vi 1)]) (dt_at dtX12_look 115 rfl) rfl (by decide) rfl ?_
      refine K_goto (tgt := 96) (dt_at dtX12_look 116 rfl) (by decide) ?_
      refine K_pk [0, 2, 3, 4, 5, 6] (ls' := [(5, vi ((k : Int) + 1)), (4, vi (if (selN (fun k v => decide (0 < unF S N f k) && (decide (v = -1) || decide (unF S N f v.toNat < unF S N f k))) k) = -1 then 0 else unF S N f (selN (fun k v => decide (0 < unF S N f k) && (decide (v = -1) || decide (unF S N f v.toNat < unF S N f k))) k).toNat)), (3, vi (selN (fun k v => decide (0 < unF S N f k) && (decide (v = -1) || decide (unF S N f v.toNat < unF S N f k))) k)), (2, vi (((gsL S N f (10 * sNp S)).length : Nat) : Int)), (0, vr 0), (1, vi 1)]) rfl ?_
      exact K_cg (ls' := [(5, vi ((k + 1 : Nat) : Int)), (4, vi (if (selN (fun k v => decide (0 < unF S N f k) && (decide (v = -1) || decide (unF S N f v.toNat < unF S N f k))) (k + 1)) = -1 then 0 else unF S N f (selN (fun k v => decide (0 < unF S N f k) && (decide (v = -1) || decide (unF S N f v.toNat < unF S N f k))) (k + 1)).toNat)), (3, vi (selN (fun k v => decide (0 < unF S N f k) && (decide (v = -1) || decide (unF S N f v.toNat < unF S N f k))) (k + 1))), (2, vi (((gsL S N f (10 * sNp S)).length : Nat) : Int)), (0, vr 0), (1, vi 1)]) (h' := hh) (by rw [sel_n (S := S) (N := N) (f := f) (k := k) (by assumption)]; rfl) rfl (ih (k + 1) (by omega))
set_option maxHeartbeats 4000000 in
set_option maxRecDepth 100000 in
theorem la_X12_look_1 {h : HP} {S : HS} {f : Int → Int} {N : SN} (Q0 : MAsk h S f) (msh : mSe h 23 51 N) (hO : seO S N) (s32 : ∀ q : Nat, q < sNt S → ∀ j : Nat, i32 (svF S N f q j)) : ∀ (dd k : Nat) (hh : HP), k + dd = 10 * sNp S → (∃ g, MG h hh S f g) → SA hh S N f k → K mX12_look GK (ZK (fun o h' => o = .inl (some (vi (if (selN (fun k v => decide (0 < unF S N f k) && (decide (v = -1) || decide (unF S N f v.toNat < unF S N f k))) (sNt S)) = -1 then 0 else unF S N f (selN (fun k v => decide (0 < unF S N f k) && (decide (v = -1) || decide (unF S N f v.toNat < unF S N f k))) (sNt S)).toNat))) ∧ FQ h h' ∧ hI h' 0 0 = 0) 0 0) 0 0 20 [(3, vi (k : Int)), (2, vi (((gsL S N f k).length : Nat) : Int)), (0, vr 0), (1, vi 1)] [] hh := by
  intro dd
  induction dd with
  | zero =>
    intro k hh hk ge sa
    have hB := Q0.1.1
    have hNt := hB.1
    have hNp := hB.2.1
    have R := Q0.2.2.2.2
    have hT := R.1
    have hW := hT.1
    obtain ⟨g, G⟩ := ge
    have ek : k = 10 * sNp S := by omega
    refine K_iload_n (dt_at dtX12_look 14 rfl) rfl rfl ?_
    refine K_bipush (dt_at dtX12_look 15 rfl) (by decide) ?_
    refine K_aload_n (dt_at dtX12_look 16 rfl) rfl rfl ?_
    refine K_get (a := 0) (ci := 12) (k := 2) (v := vi (sNp S : Int)) (dt_at dtX12_look 17 rfl) (show TT 0 = (0, 12) from rfl) rfl (by decide) wF_X12_270 (by show vi (hI hh 0 2) = vi (sNp S : Int); rw [(MD_np (MG_D0 G))]) ?_
    refine K_imul (dt_at dtX12_look 18 rfl) ?_
    refine K_icmp_ge (tgt := 88) (dt_at dtX12_look 19 rfl) (by decide) (by first | assumption | exact ⟨by omega, by omega⟩) (by first | assumption | exact ⟨by omega, by omega⟩) (fun c1 => ?_) (fun c1 => absurd c1 (by omega))
    refine K_iconst (dt_at dtX12_look 48 rfl) ?_
    refine K_istore_n (ls' := [(3, vi (-1)), (2, vi (((gsL S N f k).length : Nat) : Int)), (0, vr 0), (1, vi 1)]) (dt_at dtX12_look 49 rfl) rfl (by decide) rfl ?_
    refine K_iconst (dt_at dtX12_look 50 rfl) ?_
    refine K_istore (ls' := [(4, vi 0), (3, vi (-1)), (2, vi (((gsL S N f k).length : Nat) : Int)), (0, vr 0), (1, vi 1)]) (dt_at dtX12_look 51 rfl) (by decide) rfl ?_
    refine K_iconst (dt_at dtX12_look 52 rfl) ?_
    refine K_istore (ls' := [(5, vi 0), (4, vi 0), (3, vi (-1)), (2, vi (((gsL S N f k).length : Nat) : Int)), (0, vr 0), (1, vi 1)]) (dt_at dtX12_look 53 rfl) (by decide) rfl ?_
    exact K_pk [0, 1, 2, 3, 4, 5] (ls' := [(5, vi 0), (4, vi 0), (3, vi (-1)), (2, vi (((gsL S N f k).length : Nat) : Int)), (0, vr 0), (1, vi 1)]) rfl (K_cg (ls' := [(5, vi ((0 : Nat) : Int)), (4, vi 0), (3, vi (-1)), (2, vi (((gsL S N f (10 * sNp S)).length : Nat) : Int)), (0, vr 0), (1, vi 1)]) (h' := hh) (by rw [ek]; rfl) rfl (lc_X12_look_1 Q0 G (by rw [ek] at sa; exact sa) s32 (sNt S) 0 (by omega)))
  | succ dd ih =>
    intro k hh hk ge sa
    have hB := Q0.1.1
    have hNt := hB.1
    have hNp := hB.2.1
    have R := Q0.2.2.2.2
    have hT := R.1
    have hW := hT.1
    obtain ⟨g, G⟩ := ge
    have lb := gsL_len (S := S) (N := N) (f := f) k
    have r10 : ∀ x : Int, 0 ≤ x → x < sNt S → i32 (dysF S (gsR f k) 10 (29 + x)) := fun x x0 x1 => by have := (dys_R hB (gsR_R hB R (g := k) (by omega)) (n := 10) (by omega)).1.1.1 (29 + x) (by omega) (by omega); exact ⟨by omega, by omega⟩
    refine K_iload_n (dt_at dtX12_look 14 rfl) rfl rfl ?_
    refine K_bipush (dt_at dtX12_look 15 rfl) (by decide) ?_
    refine K_aload_n (dt_at dtX12_look 16 rfl) rfl rfl ?_
    refine K_get (a := 0) (ci := 12) (k := 2) (v := vi (sNp S : Int)) (dt_at dtX12_look 17 rfl) (show TT 0 = (0, 12) from rfl) rfl (by decide) wF_X12_270 (by show vi (hI hh 0 2) = vi (sNp S : Int); rw [(MD_np (MG_D0 G))]) ?_
    refine K_imul (dt_at dtX12_look 18 rfl) ?_
    refine K_icmp_ge (tgt := 88) (dt_at dtX12_look 19 rfl) (by decide) (by first | assumption | exact ⟨by omega, by omega⟩) (by first | assumption | exact ⟨by omega, by omega⟩) (fun c1 => absurd c1 (by omega)) (fun c1 => ?_)
    refine K_aload_n (dt_at dtX12_look 20 rfl) rfl rfl ?_
    refine K_iload_n (dt_at dtX12_look 21 rfl) rfl rfl ?_
    cases eb : gsB S N f k
    · refine K_callV (M' := mX12_isGuess) (a := 0) (ci := 12) (As := [vi (k : Int)]) (st := []) (dt_at dtX12_look 22 rfl) (sX12_isGuess_F Q0 G msh hO (y := k) (by omega) eb) (show TT 0 = (0, 12) from rfl) rfl wL_X12_432 vX12_isGuess rfl npX12_isGuess (by decide) (by decide) (Nat.le_of_ble_eq_true rfl) (by decide) (by decide) GK_E (fun v9 hc1 hq => ?_) (fun E h9 hq => by cases hq.1)
      have hqq2 := hq
      obtain ⟨e9q2, ⟨gq2, Gq2⟩, x1q2⟩ := hqq2
      cases e9q2
      show K mX12_look _ _ 0 0 36 [(3, vi (k : Int)), (2, vi (((gsL S N f k).length : Nat) : Int)), (0, vr 0), (1, vi 1)] [vi 0] hc1
      refine K_if_ne (tgt := 42) (dt_at dtX12_look 23 rfl) (by decide) (by first | assumption | exact ⟨by omega, by omega⟩) (fun c2 => absurd c2 (by omega)) (fun c2 => ?_)
      refine K_goto (tgt := 82) (dt_at dtX12_look 24 rfl) (by decide) ?_
      refine K_iinc (ls' := [(3, vi ((k : Int) + 1)), (2, vi (((gsL S N f k).length : Nat) : Int)), (0, vr 0), (1, vi 1)]) (dt_at dtX12_look 46 rfl) rfl (by decide) rfl ?_
      refine K_goto (tgt := 20) (dt_at dtX12_look 47 rfl) (by decide) ?_
      exact K_pk [0, 1, 2, 3] (ls' := [(3, vi ((k : Int) + 1)), (2, vi (((gsL S N f k).length : Nat) : Int)), (0, vr 0), (1, vi 1)]) rfl (K_cg (ls' := [(3, vi ((k + 1 : Nat) : Int)), (2, vi (((gsL S N f (k + 1)).length : Nat) : Int)), (0, vr 0), (1, vi 1)]) (h' := hc1) (by rw [gsL_f eb]; rfl) rfl (ih (k + 1) hc1 (by omega) ⟨_, Gq2⟩ (SA_f sa eb x1q2)))
    · refine K_callV (M' := mX12_isGuess) (a := 0) (ci := 12) (As := [vi (k : Int)]) (st := []) (dt_at dtX12_look 22 rfl) (sX12_isGuess_T Q0 G msh hO (y := k) (by omega) eb) (show TT 0 = (0, 12) from rfl) rfl wL_X12_432 vX12_isGuess rfl npX12_isGuess (by decide) (by decide) (Nat.le_of_ble_eq_true rfl) (by decide) (by decide) GK_E (fun v9 hc3 hq => ?_) (fun E h9 hq => by cases hq.1)
      have hqq4 := hq
      obtain ⟨e9q4, ⟨gq4, Gq4⟩, x1q4, x2q4⟩ := hqq4
      cases e9q4
      show K mX12_look _ _ 0 0 36 [(3, vi (k : Int)), (2, vi (((gsL S N f k).length : Nat) : Int)), (0, vr 0), (1, vi 1)] [vi 1] hc3
      refine K_if_ne (tgt := 42) (dt_at dtX12_look 23 rfl) (by decide) (by first | assumption | exact ⟨by omega, by omega⟩) (fun c3 => ?_) (fun c3 => absurd c3 (by omega))
      refine K_iconst (dt_at dtX12_look 25 rfl) ?_
      refine K_istore (ls' := [(4, vi 0), (3, vi (k : Int)), (2, vi (((gsL S N f k).length : Nat) : Int)), (0, vr 0), (1, vi 1)]) (dt_at dtX12_look 26 rfl) (by decide) rfl ?_
      refine K_pk [0, 1, 2, 3, 4] rfl (lb_X12_look_1 (hb := hc3) (y := k) Q0 lb (by omega) x2q4 r10 (fun h2 g2 lo2 hi2 => ?_) (sNt S) 0 hc3 (by omega) ⟨_, Gq4⟩ rfl (fun _ _ => rfl) (fun t t0 t1 => by omega))
      refine K_iinc (ls' := [(2, vi ((((gsL S N f k).length : Nat) : Int) + 1)), (3, vi (k : Int)), (0, vr 0), (1, vi 1)]) (dt_at dtX12_look 45 rfl) rfl (by decide) rfl ?_
      refine K_iinc (ls' := [(3, vi ((k : Int) + 1)), (2, vi ((((gsL S N f k).length : Nat) : Int) + 1)), (0, vr 0), (1, vi 1)]) (dt_at dtX12_look 46 rfl) rfl (by decide) rfl ?_
      refine K_goto (tgt := 20) (dt_at dtX12_look 47 rfl) (by decide) ?_
      exact K_pk [0, 1, 2, 3] (ls' := [(3, vi ((k : Int) + 1)), (2, vi ((((gsL S N f k).length : Nat) : Int) + 1)), (0, vr 0), (1, vi 1)]) rfl (K_cg (ls' := [(3, vi ((k + 1 : Nat) : Int)), (2, vi (((gsL S N f (k + 1)).length : Nat) : Int)), (0, vr 0), (1, vi 1)]) (h' := h2) (by rw [gsL_t eb, List.length_append]; rfl) rfl (ih (k + 1) h2 (by omega) g2 (SA_t hB sa eb (fun i hi => by rw [lo2 i hi, x1q4]) hi2)))
set_option maxHeartbeats 4000000 in
set_option maxRecDepth 100000 in
theorem sX12_look_1 {h : HP} {S : HS} {f : Int → Int} {N : SN} (Q0 : MAsk h S f) (msh : mSe h 23 51 N) (hO : seO S N) : SpecK mX12_look [vr 0, vi 1] h (fun o h' => o = .inl (some (vi (if (selN (fun k v => decide (0 < unF S N f k) && (decide (v = -1) || decide (unF S N f v.toNat < unF S N f k))) (sNt S)) = -1 then 0 else unF S N f (selN (fun k v => decide (0 < unF S N f k) && (decide (v = -1) || decide (unF S N f v.toNat < unF S N f k))) (sNt S)).toNat))) ∧ FQ h h' ∧ hI h' 0 0 = 0) := by
  refine Spec_of (by decide +kernel) (Nat.le_of_ble_eq_true rfl) ?_
  have hB := Q0.1.1
  have hNt := hB.1
  have hNp := hB.2.1
  have R := Q0.2.2.2.2
  have hT := R.1
  have hW := hT.1
  have s32 : ∀ q : Nat, q < sNt S → ∀ j : Nat, i32 (svF S N f q j) := fun q hq j => by
    unfold svF
    cases e : (gsL S N f (10 * sNp S))[j]? with
    | none =>
      have := (dys_0 hB R (n := 10)).1.1.1 (29 + (q : Int)) (by omega) (by omega)
      exact ⟨by show _ ≤ dysF S (gsR f 0) 10 (29 + (q : Int)); omega, by show dysF S (gsR f 0) 10 (29 + (q : Int)) < _; omega⟩
    | some x =>
      have := (dys_R hB (gsR_R hB R (g := x) (gsL_lt e)) (n := 10) (by omega)).1.1.1 (29 + (q : Int)) (by omega) (by omega)
      exact ⟨by show _ ≤ dysF S (gsR f x) 10 (29 + (q : Int)); omega, by show dysF S (gsR f x) 10 (29 + (q : Int)) < _; omega⟩
  refine K_aload_n (dt_at dtX12_look 0 rfl) rfl rfl ?_
  refine K_iconst (dt_at dtX12_look 1 rfl) ?_
  refine K_putI (a := 0) (ci := 12) (k := 0) (dt_at dtX12_look 2 rfl) (show TT 0 = (0, 12) from rfl) rfl (by decide) wF_X12_105 rfl (Or.inl rfl) rfl rfl ?_
  obtain ⟨hu1, eu1⟩ : ∃ z, z = sI h 0 0 0 := ⟨_, rfl⟩
  rw [← eu1]
  obtain ⟨iu1, fu1, au1, ru1⟩ := sI_fx eu1
  have Gu1 := MG_0 Q0 eu1
  refine K_aload_n (dt_at dtX12_look 3 rfl) rfl rfl ?_
  refine K_iload_n (dt_at dtX12_look 4 rfl) rfl rfl ?_
  refine K_iconst (dt_at dtX12_look 5 rfl) ?_
  refine K_callV (M' := mX12_isWhat) (a := 0) (ci := 12) (As := [vi 1, vi 1]) (st := []) (dt_at dtX12_look 6 rfl) (sX12_isWhat_t Gu1.2.2.2 (by omega) (by omega)) (show TT 0 = (0, 12) from rfl) rfl wL_X12_371 vX12_isWhat rfl npX12_isWhat (by decide) (by decide) (Nat.le_of_ble_eq_true rfl) (by decide) (by decide) GK_E (fun v9 h9 hq => ?_) (fun E h9 hq => by cases hq.1)
  obtain ⟨e9, e8⟩ := hq
  cases e9
  rw [e8]
  show K mX12_look _ _ 0 0 11 [(0, vr 0), (1, vi 1)] [vi 1] hu1
  refine K_if_ne (tgt := 16) (dt_at dtX12_look 7 rfl) (by decide) (by first | assumption | exact ⟨by omega, by omega⟩) (fun c1 => ?_) (fun c1 => absurd c1 (by omega))
  refine K_iconst (dt_at dtX12_look 10 rfl) ?_
  refine K_istore_n (ls' := [(2, vi 0), (0, vr 0), (1, vi 1)]) (dt_at dtX12_look 11 rfl) rfl (by decide) rfl ?_
  refine K_iconst (dt_at dtX12_look 12 rfl) ?_
  refine K_istore_n (ls' := [(3, vi 0), (2, vi 0), (0, vr 0), (1, vi 1)]) (dt_at dtX12_look 13 rfl) rfl (by decide) rfl ?_
  exact K_pk [0, 1, 2, 3] rfl (la_X12_look_1 Q0 msh hO s32 (10 * sNp S) 0 hu1 (by omega) ⟨_, Gu1⟩ (fun j x hj => by cases j <;> cases hj))
