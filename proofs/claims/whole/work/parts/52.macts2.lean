theorem pwF_in {r g : Int → Int} {n i : Int} (h0 : 0 ≤ i) (h1 : i < n) : pwF r g 0 n i = r i := by
  unfold pwF
  rw [if_pos (by omega), show i - 0 = i by omega]
theorem pwF_c {r g : Int → Int} {k : Nat} {i x : Int} (hi : i = (k : Int)) (hx : x = r (k : Int)) : upI (pwF r g 0 (k : Int)) i x = pwF r g 0 ((k + 1 : Nat) : Int) := by
  subst hx; exact pwF_g (by omega)
def mX12_copies : MI := (yX12_copies, cX12_copies, 4, none, rmK 1 0)
def tX12_copies : List (Nat × Instr × Nat) := [(0, .iconst 0, 1), (1, .istore_n 3, 1), (2, .iload_n 3, 1), (3, .aload_n 1, 1), (4, .arraylength, 1), (5, .if_icmp .ge 15, 3), (8, .aload_n 2, 1), (9, .iload_n 3, 1), (10, .aload_n 1, 1), (11, .iload_n 3, 1), (12, .iaload, 1), (13, .iastore, 1), (14, .iinc 3 1, 3), (17, .goto (-15), 3), (20, .return_, 1)]
theorem dtX12_copies : tX12_copies.all (fun q => decide (decode cX12_copies q.1 = .ok (q.2.1, q.2.2))) = true := by decide +kernel
theorem npX12_copies : (parseMethodDescriptor (mY mX12_copies).desc).map (fun d => d.parameters.length) = some 2 := by decide +kernel
theorem vX12_copies : mV mX12_copies := ⟨wI_X12_copies, wS_X12_copies, wN_X12, wC_X12_copies, by decide +kernel, by decide +kernel⟩
set_option maxHeartbeats 4000000 in
set_option maxRecDepth 100000 in
theorem lp_X12_copies_19 {Q : AO → HP → Prop} {hb : HP}  (kx : ∀ h2, hA h2 27 = (pwF (fun i => hA hb 19 (i)) (hA hb 27) 0 3080) → (∀ b, b ≠ 27 → hA h2 b = hA hb b) → hI h2 = hI hb → hR h2 = hR hb → Q (.inl none) h2) : ∀ (dd k : Nat) (hh : HP), k + dd = 3080 → hA hh 27 = (pwF (fun i => hA hb 19 (i)) (hA hb 27) 0 (k : Int)) → (∀ b, b ≠ 27 → hA hh b = hA hb b) → hI hh = hI hb → hR hh = hR hb → K mX12_copies GK (ZK Q 0 0) 0 0 2 [(3, vi (k : Int)), (0, vr 0), (1, vr 19), (2, vr 27)] [] hh := by
  intro dd
  induction dd with
  | zero =>
    intro k hh hk ea fa fi fr
    have ek : k = 3080 := by omega
    refine K_iload_n (dt_at dtX12_copies 2 rfl) rfl rfl ?_
    refine K_aload_n (dt_at dtX12_copies 3 rfl) rfl rfl ?_
    refine K_alen (dt_at dtX12_copies 4 rfl) (show TT 19 = (1, 3080) from rfl) ?_
    show K mX12_copies _ _ 0 0 5 [(3, vi (k : Int)), (0, vr 0), (1, vr 19), (2, vr 27)] [vi 3080, vi (k : Int)] hh
    refine K_icmp_ge (tgt := 20) (dt_at dtX12_copies 5 rfl) (by decide) (by first | assumption | exact ⟨by omega, by omega⟩) (by first | assumption | exact ⟨by omega, by omega⟩) (fun c1 => ?_) (fun c1 => absurd c1 (by omega))
    exact K_vret (dt_at dtX12_copies 14 rfl) rfl (by decide) (by decide) (kx hh (by rw [ek] at ea; exact ea) fa fi fr)
  | succ dd ih =>
    intro k hh hk ea fa fi fr
    refine K_iload_n (dt_at dtX12_copies 2 rfl) rfl rfl ?_
    refine K_aload_n (dt_at dtX12_copies 3 rfl) rfl rfl ?_
    refine K_alen (dt_at dtX12_copies 4 rfl) (show TT 19 = (1, 3080) from rfl) ?_
    show K mX12_copies _ _ 0 0 5 [(3, vi (k : Int)), (0, vr 0), (1, vr 19), (2, vr 27)] [vi 3080, vi (k : Int)] hh
    refine K_icmp_ge (tgt := 20) (dt_at dtX12_copies 5 rfl) (by decide) (by first | assumption | exact ⟨by omega, by omega⟩) (by first | assumption | exact ⟨by omega, by omega⟩) (fun c1 => absurd c1 (by omega)) (fun c1 => ?_)
    refine K_aload_n (dt_at dtX12_copies 6 rfl) rfl rfl ?_
    refine K_iload_n (dt_at dtX12_copies 7 rfl) rfl rfl ?_
    refine K_aload_n (dt_at dtX12_copies 8 rfl) rfl rfl ?_
    refine K_iload_n (dt_at dtX12_copies 9 rfl) rfl rfl ?_
    refine K_iald (dt_at dtX12_copies 10 rfl) (show TT 19 = (1, 3080) from rfl) (by omega) (by omega) ?_
    rw [(fa 19 (by omega))]
    refine K_iast (dt_at dtX12_copies 11 rfl) (show TT 27 = (1, 3080) from rfl) (by omega) (by omega) ?_
    obtain ⟨hq1, eq1⟩ : ∃ z, z = sA hh 27 (k : Int) (hA hb 19 (k : Int)) := ⟨_, rfl⟩
    rw [← eq1]
    obtain ⟨aq1, fq1, iq1, rq1⟩ := sA_fx eq1
    rw [ea] at aq1
    refine K_iinc (ls' := [(3, vi ((k : Int) + 1)), (0, vr 0), (1, vr 19), (2, vr 27)]) (dt_at dtX12_copies 12 rfl) rfl (by decide) rfl ?_
    refine K_goto (tgt := 2) (dt_at dtX12_copies 13 rfl) (by decide) ?_
    exact K_pk [0, 1, 2, 3] rfl (ih (k + 1) hq1 (by omega) (by rw [aq1]; exact pwF_c (by omega) rfl) (fun b_ hb_ => by rw [fq1 b_ hb_]; exact fa b_ hb_) (by rw [iq1]; exact fi) (by rw [rq1]; exact fr))
set_option maxHeartbeats 4000000 in
set_option maxRecDepth 100000 in
theorem sX12_copies_19 {h : HP}  : SpecK mX12_copies [vr 0, vr 19, vr 27] h (fun o h' => o = .inl none ∧ hA h' 27 = pwF (fun i => hA h 19 i) (hA h 27) 0 3080 ∧ (∀ b, b ≠ 27 → hA h' b = hA h b) ∧ hI h' = hI h ∧ hR h' = hR h) := by
  refine Spec_of (by decide +kernel) (Nat.le_of_ble_eq_true rfl) ?_
  refine K_iconst (dt_at dtX12_copies 0 rfl) ?_
  refine K_istore_n (ls' := [(3, vi 0), (0, vr 0), (1, vr 19), (2, vr 27)]) (dt_at dtX12_copies 1 rfl) rfl (by decide) rfl ?_
  exact K_pk [0, 1, 2, 3] rfl (lp_X12_copies_19 (fun h2 q1 q2 q3 q4 => ⟨rfl, q1, q2, q3, q4⟩) 3080 0 h (by omega) pwF_0.symm (fun _ _ => rfl) rfl rfl)
set_option maxHeartbeats 4000000 in
set_option maxRecDepth 100000 in
theorem lp_X12_copies_23 {Q : AO → HP → Prop} {hb : HP}  (kx : ∀ h2, hA h2 28 = (pwF (fun i => hA hb 23 (i)) (hA hb 28) 0 32) → (∀ b, b ≠ 28 → hA h2 b = hA hb b) → hI h2 = hI hb → hR h2 = hR hb → Q (.inl none) h2) : ∀ (dd k : Nat) (hh : HP), k + dd = 32 → hA hh 28 = (pwF (fun i => hA hb 23 (i)) (hA hb 28) 0 (k : Int)) → (∀ b, b ≠ 28 → hA hh b = hA hb b) → hI hh = hI hb → hR hh = hR hb → K mX12_copies GK (ZK Q 0 0) 0 0 2 [(3, vi (k : Int)), (0, vr 0), (1, vr 23), (2, vr 28)] [] hh := by
  intro dd
  induction dd with
  | zero =>
    intro k hh hk ea fa fi fr
    have ek : k = 32 := by omega
    refine K_iload_n (dt_at dtX12_copies 2 rfl) rfl rfl ?_
    refine K_aload_n (dt_at dtX12_copies 3 rfl) rfl rfl ?_
    refine K_alen (dt_at dtX12_copies 4 rfl) (show TT 23 = (1, 32) from rfl) ?_
    show K mX12_copies _ _ 0 0 5 [(3, vi (k : Int)), (0, vr 0), (1, vr 23), (2, vr 28)] [vi 32, vi (k : Int)] hh
    refine K_icmp_ge (tgt := 20) (dt_at dtX12_copies 5 rfl) (by decide) (by first | assumption | exact ⟨by omega, by omega⟩) (by first | assumption | exact ⟨by omega, by omega⟩) (fun c1 => ?_) (fun c1 => absurd c1 (by omega))
    exact K_vret (dt_at dtX12_copies 14 rfl) rfl (by decide) (by decide) (kx hh (by rw [ek] at ea; exact ea) fa fi fr)
  | succ dd ih =>
    intro k hh hk ea fa fi fr
    refine K_iload_n (dt_at dtX12_copies 2 rfl) rfl rfl ?_
    refine K_aload_n (dt_at dtX12_copies 3 rfl) rfl rfl ?_
    refine K_alen (dt_at dtX12_copies 4 rfl) (show TT 23 = (1, 32) from rfl) ?_
    show K mX12_copies _ _ 0 0 5 [(3, vi (k : Int)), (0, vr 0), (1, vr 23), (2, vr 28)] [vi 32, vi (k : Int)] hh
    refine K_icmp_ge (tgt := 20) (dt_at dtX12_copies 5 rfl) (by decide) (by first | assumption | exact ⟨by omega, by omega⟩) (by first | assumption | exact ⟨by omega, by omega⟩) (fun c1 => absurd c1 (by omega)) (fun c1 => ?_)
    refine K_aload_n (dt_at dtX12_copies 6 rfl) rfl rfl ?_
    refine K_iload_n (dt_at dtX12_copies 7 rfl) rfl rfl ?_
    refine K_aload_n (dt_at dtX12_copies 8 rfl) rfl rfl ?_
    refine K_iload_n (dt_at dtX12_copies 9 rfl) rfl rfl ?_
    refine K_iald (dt_at dtX12_copies 10 rfl) (show TT 23 = (1, 32) from rfl) (by omega) (by omega) ?_
    rw [(fa 23 (by omega))]
    refine K_iast (dt_at dtX12_copies 11 rfl) (show TT 28 = (1, 32) from rfl) (by omega) (by omega) ?_
    obtain ⟨hq1, eq1⟩ : ∃ z, z = sA hh 28 (k : Int) (hA hb 23 (k : Int)) := ⟨_, rfl⟩
    rw [← eq1]
    obtain ⟨aq1, fq1, iq1, rq1⟩ := sA_fx eq1
    rw [ea] at aq1
    refine K_iinc (ls' := [(3, vi ((k : Int) + 1)), (0, vr 0), (1, vr 23), (2, vr 28)]) (dt_at dtX12_copies 12 rfl) rfl (by decide) rfl ?_
    refine K_goto (tgt := 2) (dt_at dtX12_copies 13 rfl) (by decide) ?_
    exact K_pk [0, 1, 2, 3] rfl (ih (k + 1) hq1 (by omega) (by rw [aq1]; exact pwF_c (by omega) rfl) (fun b_ hb_ => by rw [fq1 b_ hb_]; exact fa b_ hb_) (by rw [iq1]; exact fi) (by rw [rq1]; exact fr))
set_option maxHeartbeats 4000000 in
set_option maxRecDepth 100000 in
theorem sX12_copies_23 {h : HP}  : SpecK mX12_copies [vr 0, vr 23, vr 28] h (fun o h' => o = .inl none ∧ hA h' 28 = pwF (fun i => hA h 23 i) (hA h 28) 0 32 ∧ (∀ b, b ≠ 28 → hA h' b = hA h b) ∧ hI h' = hI h ∧ hR h' = hR h) := by
  refine Spec_of (by decide +kernel) (Nat.le_of_ble_eq_true rfl) ?_
  refine K_iconst (dt_at dtX12_copies 0 rfl) ?_
  refine K_istore_n (ls' := [(3, vi 0), (0, vr 0), (1, vr 23), (2, vr 28)]) (dt_at dtX12_copies 1 rfl) rfl (by decide) rfl ?_
  exact K_pk [0, 1, 2, 3] rfl (lp_X12_copies_23 (fun h2 q1 q2 q3 q4 => ⟨rfl, q1, q2, q3, q4⟩) 32 0 h (by omega) pwF_0.symm (fun _ _ => rfl) rfl rfl)
set_option maxHeartbeats 4000000 in
set_option maxRecDepth 100000 in
theorem lp_X12_copies_27 {Q : AO → HP → Prop} {hb : HP}  (kx : ∀ h2, hA h2 19 = (pwF (fun i => hA hb 27 (i)) (hA hb 19) 0 3080) → (∀ b, b ≠ 19 → hA h2 b = hA hb b) → hI h2 = hI hb → hR h2 = hR hb → Q (.inl none) h2) : ∀ (dd k : Nat) (hh : HP), k + dd = 3080 → hA hh 19 = (pwF (fun i => hA hb 27 (i)) (hA hb 19) 0 (k : Int)) → (∀ b, b ≠ 19 → hA hh b = hA hb b) → hI hh = hI hb → hR hh = hR hb → K mX12_copies GK (ZK Q 0 0) 0 0 2 [(3, vi (k : Int)), (0, vr 0), (1, vr 27), (2, vr 19)] [] hh := by
  intro dd
  induction dd with
  | zero =>
    intro k hh hk ea fa fi fr
    have ek : k = 3080 := by omega
    refine K_iload_n (dt_at dtX12_copies 2 rfl) rfl rfl ?_
    refine K_aload_n (dt_at dtX12_copies 3 rfl) rfl rfl ?_
    refine K_alen (dt_at dtX12_copies 4 rfl) (show TT 27 = (1, 3080) from rfl) ?_
    show K mX12_copies _ _ 0 0 5 [(3, vi (k : Int)), (0, vr 0), (1, vr 27), (2, vr 19)] [vi 3080, vi (k : Int)] hh
    refine K_icmp_ge (tgt := 20) (dt_at dtX12_copies 5 rfl) (by decide) (by first | assumption | exact ⟨by omega, by omega⟩) (by first | assumption | exact ⟨by omega, by omega⟩) (fun c1 => ?_) (fun c1 => absurd c1 (by omega))
    exact K_vret (dt_at dtX12_copies 14 rfl) rfl (by decide) (by decide) (kx hh (by rw [ek] at ea; exact ea) fa fi fr)
  | succ dd ih =>
    intro k hh hk ea fa fi fr
    refine K_iload_n (dt_at dtX12_copies 2 rfl) rfl rfl ?_
    refine K_aload_n (dt_at dtX12_copies 3 rfl) rfl rfl ?_
    refine K_alen (dt_at dtX12_copies 4 rfl) (show TT 27 = (1, 3080) from rfl) ?_
    show K mX12_copies _ _ 0 0 5 [(3, vi (k : Int)), (0, vr 0), (1, vr 27), (2, vr 19)] [vi 3080, vi (k : Int)] hh
    refine K_icmp_ge (tgt := 20) (dt_at dtX12_copies 5 rfl) (by decide) (by first | assumption | exact ⟨by omega, by omega⟩) (by first | assumption | exact ⟨by omega, by omega⟩) (fun c1 => absurd c1 (by omega)) (fun c1 => ?_)
    refine K_aload_n (dt_at dtX12_copies 6 rfl) rfl rfl ?_
    refine K_iload_n (dt_at dtX12_copies 7 rfl) rfl rfl ?_
    refine K_aload_n (dt_at dtX12_copies 8 rfl) rfl rfl ?_
    refine K_iload_n (dt_at dtX12_copies 9 rfl) rfl rfl ?_
    refine K_iald (dt_at dtX12_copies 10 rfl) (show TT 27 = (1, 3080) from rfl) (by omega) (by omega) ?_
    rw [(fa 27 (by omega))]
    refine K_iast (dt_at dtX12_copies 11 rfl) (show TT 19 = (1, 3080) from rfl) (by omega) (by omega) ?_
    obtain ⟨hq1, eq1⟩ : ∃ z, z = sA hh 19 (k : Int) (hA hb 27 (k : Int)) := ⟨_, rfl⟩
    rw [← eq1]
    obtain ⟨aq1, fq1, iq1, rq1⟩ := sA_fx eq1
    rw [ea] at aq1
    refine K_iinc (ls' := [(3, vi ((k : Int) + 1)), (0, vr 0), (1, vr 27), (2, vr 19)]) (dt_at dtX12_copies 12 rfl) rfl (by decide) rfl ?_
    refine K_goto (tgt := 2) (dt_at dtX12_copies 13 rfl) (by decide) ?_
    exact K_pk [0, 1, 2, 3] rfl (ih (k + 1) hq1 (by omega) (by rw [aq1]; exact pwF_c (by omega) rfl) (fun b_ hb_ => by rw [fq1 b_ hb_]; exact fa b_ hb_) (by rw [iq1]; exact fi) (by rw [rq1]; exact fr))
set_option maxHeartbeats 4000000 in
set_option maxRecDepth 100000 in
theorem sX12_copies_27 {h : HP}  : SpecK mX12_copies [vr 0, vr 27, vr 19] h (fun o h' => o = .inl none ∧ hA h' 19 = pwF (fun i => hA h 27 i) (hA h 19) 0 3080 ∧ (∀ b, b ≠ 19 → hA h' b = hA h b) ∧ hI h' = hI h ∧ hR h' = hR h) := by
  refine Spec_of (by decide +kernel) (Nat.le_of_ble_eq_true rfl) ?_
  refine K_iconst (dt_at dtX12_copies 0 rfl) ?_
  refine K_istore_n (ls' := [(3, vi 0), (0, vr 0), (1, vr 27), (2, vr 19)]) (dt_at dtX12_copies 1 rfl) rfl (by decide) rfl ?_
  exact K_pk [0, 1, 2, 3] rfl (lp_X12_copies_27 (fun h2 q1 q2 q3 q4 => ⟨rfl, q1, q2, q3, q4⟩) 3080 0 h (by omega) pwF_0.symm (fun _ _ => rfl) rfl rfl)
set_option maxHeartbeats 4000000 in
set_option maxRecDepth 100000 in
theorem lp_X12_copies_28 {Q : AO → HP → Prop} {hb : HP}  (kx : ∀ h2, hA h2 23 = (pwF (fun i => hA hb 28 (i)) (hA hb 23) 0 32) → (∀ b, b ≠ 23 → hA h2 b = hA hb b) → hI h2 = hI hb → hR h2 = hR hb → Q (.inl none) h2) : ∀ (dd k : Nat) (hh : HP), k + dd = 32 → hA hh 23 = (pwF (fun i => hA hb 28 (i)) (hA hb 23) 0 (k : Int)) → (∀ b, b ≠ 23 → hA hh b = hA hb b) → hI hh = hI hb → hR hh = hR hb → K mX12_copies GK (ZK Q 0 0) 0 0 2 [(3, vi (k : Int)), (0, vr 0), (1, vr 28), (2, vr 23)] [] hh := by
  intro dd
  induction dd with
  | zero =>
    intro k hh hk ea fa fi fr
    have ek : k = 32 := by omega
    refine K_iload_n (dt_at dtX12_copies 2 rfl) rfl rfl ?_
    refine K_aload_n (dt_at dtX12_copies 3 rfl) rfl rfl ?_
    refine K_alen (dt_at dtX12_copies 4 rfl) (show TT 28 = (1, 32) from rfl) ?_
    show K mX12_copies _ _ 0 0 5 [(3, vi (k : Int)), (0, vr 0), (1, vr 28), (2, vr 23)] [vi 32, vi (k : Int)] hh
    refine K_icmp_ge (tgt := 20) (dt_at dtX12_copies 5 rfl) (by decide) (by first | assumption | exact ⟨by omega, by omega⟩) (by first | assumption | exact ⟨by omega, by omega⟩) (fun c1 => ?_) (fun c1 => absurd c1 (by omega))
    exact K_vret (dt_at dtX12_copies 14 rfl) rfl (by decide) (by decide) (kx hh (by rw [ek] at ea; exact ea) fa fi fr)
  | succ dd ih =>
    intro k hh hk ea fa fi fr
    refine K_iload_n (dt_at dtX12_copies 2 rfl) rfl rfl ?_
    refine K_aload_n (dt_at dtX12_copies 3 rfl) rfl rfl ?_
    refine K_alen (dt_at dtX12_copies 4 rfl) (show TT 28 = (1, 32) from rfl) ?_
    show K mX12_copies _ _ 0 0 5 [(3, vi (k : Int)), (0, vr 0), (1, vr 28), (2, vr 23)] [vi 32, vi (k : Int)] hh
    refine K_icmp_ge (tgt := 20) (dt_at dtX12_copies 5 rfl) (by decide) (by first | assumption | exact ⟨by omega, by omega⟩) (by first | assumption | exact ⟨by omega, by omega⟩) (fun c1 => absurd c1 (by omega)) (fun c1 => ?_)
    refine K_aload_n (dt_at dtX12_copies 6 rfl) rfl rfl ?_
    refine K_iload_n (dt_at dtX12_copies 7 rfl) rfl rfl ?_
    refine K_aload_n (dt_at dtX12_copies 8 rfl) rfl rfl ?_
    refine K_iload_n (dt_at dtX12_copies 9 rfl) rfl rfl ?_
    refine K_iald (dt_at dtX12_copies 10 rfl) (show TT 28 = (1, 32) from rfl) (by omega) (by omega) ?_
    rw [(fa 28 (by omega))]
    refine K_iast (dt_at dtX12_copies 11 rfl) (show TT 23 = (1, 32) from rfl) (by omega) (by omega) ?_
    obtain ⟨hq1, eq1⟩ : ∃ z, z = sA hh 23 (k : Int) (hA hb 28 (k : Int)) := ⟨_, rfl⟩
    rw [← eq1]
    obtain ⟨aq1, fq1, iq1, rq1⟩ := sA_fx eq1
    rw [ea] at aq1
    refine K_iinc (ls' := [(3, vi ((k : Int) + 1)), (0, vr 0), (1, vr 28), (2, vr 23)]) (dt_at dtX12_copies 12 rfl) rfl (by decide) rfl ?_
    refine K_goto (tgt := 2) (dt_at dtX12_copies 13 rfl) (by decide) ?_
    exact K_pk [0, 1, 2, 3] rfl (ih (k + 1) hq1 (by omega) (by rw [aq1]; exact pwF_c (by omega) rfl) (fun b_ hb_ => by rw [fq1 b_ hb_]; exact fa b_ hb_) (by rw [iq1]; exact fi) (by rw [rq1]; exact fr))
set_option maxHeartbeats 4000000 in
set_option maxRecDepth 100000 in
theorem sX12_copies_28 {h : HP}  : SpecK mX12_copies [vr 0, vr 28, vr 23] h (fun o h' => o = .inl none ∧ hA h' 23 = pwF (fun i => hA h 28 i) (hA h 23) 0 32 ∧ (∀ b, b ≠ 23 → hA h' b = hA h b) ∧ hI h' = hI h ∧ hR h' = hR h) := by
  refine Spec_of (by decide +kernel) (Nat.le_of_ble_eq_true rfl) ?_
  refine K_iconst (dt_at dtX12_copies 0 rfl) ?_
  refine K_istore_n (ls' := [(3, vi 0), (0, vr 0), (1, vr 28), (2, vr 23)]) (dt_at dtX12_copies 1 rfl) rfl (by decide) rfl ?_
  exact K_pk [0, 1, 2, 3] rfl (lp_X12_copies_28 (fun h2 q1 q2 q3 q4 => ⟨rfl, q1, q2, q3, q4⟩) 32 0 h (by omega) pwF_0.symm (fun _ _ => rfl) rfl rfl)
set_option maxHeartbeats 4000000 in
set_option maxRecDepth 100000 in
theorem lp_X12_copies_9 {Q : AO → HP → Prop} {hb : HP}  (kx : ∀ h2, hA h2 1 = (pwF (fun i => hA hb 9 (i)) (hA hb 1) 0 6) → (∀ b, b ≠ 1 → hA h2 b = hA hb b) → hI h2 = hI hb → hR h2 = hR hb → Q (.inl none) h2) : ∀ (dd k : Nat) (hh : HP), k + dd = 6 → hA hh 1 = (pwF (fun i => hA hb 9 (i)) (hA hb 1) 0 (k : Int)) → (∀ b, b ≠ 1 → hA hh b = hA hb b) → hI hh = hI hb → hR hh = hR hb → K mX12_copies GK (ZK Q 0 0) 0 0 2 [(3, vi (k : Int)), (0, vr 0), (1, vr 9), (2, vr 1)] [] hh := by
  intro dd
  induction dd with
  | zero =>
    intro k hh hk ea fa fi fr
    have ek : k = 6 := by omega
    refine K_iload_n (dt_at dtX12_copies 2 rfl) rfl rfl ?_
    refine K_aload_n (dt_at dtX12_copies 3 rfl) rfl rfl ?_
    refine K_alen (dt_at dtX12_copies 4 rfl) (show TT 9 = (1, 6) from rfl) ?_
    show K mX12_copies _ _ 0 0 5 [(3, vi (k : Int)), (0, vr 0), (1, vr 9), (2, vr 1)] [vi 6, vi (k : Int)] hh
    refine K_icmp_ge (tgt := 20) (dt_at dtX12_copies 5 rfl) (by decide) (by first | assumption | exact ⟨by omega, by omega⟩) (by first | assumption | exact ⟨by omega, by omega⟩) (fun c1 => ?_) (fun c1 => absurd c1 (by omega))
    exact K_vret (dt_at dtX12_copies 14 rfl) rfl (by decide) (by decide) (kx hh (by rw [ek] at ea; exact ea) fa fi fr)
  | succ dd ih =>
    intro k hh hk ea fa fi fr
    refine K_iload_n (dt_at dtX12_copies 2 rfl) rfl rfl ?_
    refine K_aload_n (dt_at dtX12_copies 3 rfl) rfl rfl ?_
    refine K_alen (dt_at dtX12_copies 4 rfl) (show TT 9 = (1, 6) from rfl) ?_
    show K mX12_copies _ _ 0 0 5 [(3, vi (k : Int)), (0, vr 0), (1, vr 9), (2, vr 1)] [vi 6, vi (k : Int)] hh
    refine K_icmp_ge (tgt := 20) (dt_at dtX12_copies 5 rfl) (by decide) (by first | assumption | exact ⟨by omega, by omega⟩) (by first | assumption | exact ⟨by omega, by omega⟩) (fun c1 => absurd c1 (by omega)) (fun c1 => ?_)
    refine K_aload_n (dt_at dtX12_copies 6 rfl) rfl rfl ?_
    refine K_iload_n (dt_at dtX12_copies 7 rfl) rfl rfl ?_
    refine K_aload_n (dt_at dtX12_copies 8 rfl) rfl rfl ?_
    refine K_iload_n (dt_at dtX12_copies 9 rfl) rfl rfl ?_
    refine K_iald (dt_at dtX12_copies 10 rfl) (show TT 9 = (1, 6) from rfl) (by omega) (by omega) ?_
    rw [(fa 9 (by omega))]
    refine K_iast (dt_at dtX12_copies 11 rfl) (show TT 1 = (1, 6) from rfl) (by omega) (by omega) ?_
    obtain ⟨hq1, eq1⟩ : ∃ z, z = sA hh 1 (k : Int) (hA hb 9 (k : Int)) := ⟨_, rfl⟩
    rw [← eq1]
    obtain ⟨aq1, fq1, iq1, rq1⟩ := sA_fx eq1
    rw [ea] at aq1
    refine K_iinc (ls' := [(3, vi ((k : Int) + 1)), (0, vr 0), (1, vr 9), (2, vr 1)]) (dt_at dtX12_copies 12 rfl) rfl (by decide) rfl ?_
    refine K_goto (tgt := 2) (dt_at dtX12_copies 13 rfl) (by decide) ?_
    exact K_pk [0, 1, 2, 3] rfl (ih (k + 1) hq1 (by omega) (by rw [aq1]; exact pwF_c (by omega) rfl) (fun b_ hb_ => by rw [fq1 b_ hb_]; exact fa b_ hb_) (by rw [iq1]; exact fi) (by rw [rq1]; exact fr))
set_option maxHeartbeats 4000000 in
set_option maxRecDepth 100000 in
theorem sX12_copies_9 {h : HP}  : SpecK mX12_copies [vr 0, vr 9, vr 1] h (fun o h' => o = .inl none ∧ hA h' 1 = pwF (fun i => hA h 9 i) (hA h 1) 0 6 ∧ (∀ b, b ≠ 1 → hA h' b = hA h b) ∧ hI h' = hI h ∧ hR h' = hR h) := by
  refine Spec_of (by decide +kernel) (Nat.le_of_ble_eq_true rfl) ?_
  refine K_iconst (dt_at dtX12_copies 0 rfl) ?_
  refine K_istore_n (ls' := [(3, vi 0), (0, vr 0), (1, vr 9), (2, vr 1)]) (dt_at dtX12_copies 1 rfl) rfl (by decide) rfl ?_
  exact K_pk [0, 1, 2, 3] rfl (lp_X12_copies_9 (fun h2 q1 q2 q3 q4 => ⟨rfl, q1, q2, q3, q4⟩) 6 0 h (by omega) pwF_0.symm (fun _ _ => rfl) rfl rfl)
set_option maxHeartbeats 4000000 in
set_option maxRecDepth 100000 in
theorem lp_X12_copies_10 {Q : AO → HP → Prop} {hb : HP}  (kx : ∀ h2, hA h2 2 = (pwF (fun i => hA hb 10 (i)) (hA hb 2) 0 6) → (∀ b, b ≠ 2 → hA h2 b = hA hb b) → hI h2 = hI hb → hR h2 = hR hb → Q (.inl none) h2) : ∀ (dd k : Nat) (hh : HP), k + dd = 6 → hA hh 2 = (pwF (fun i => hA hb 10 (i)) (hA hb 2) 0 (k : Int)) → (∀ b, b ≠ 2 → hA hh b = hA hb b) → hI hh = hI hb → hR hh = hR hb → K mX12_copies GK (ZK Q 0 0) 0 0 2 [(3, vi (k : Int)), (0, vr 0), (1, vr 10), (2, vr 2)] [] hh := by
  intro dd
  induction dd with
  | zero =>
    intro k hh hk ea fa fi fr
    have ek : k = 6 := by omega
    refine K_iload_n (dt_at dtX12_copies 2 rfl) rfl rfl ?_
    refine K_aload_n (dt_at dtX12_copies 3 rfl) rfl rfl ?_
    refine K_alen (dt_at dtX12_copies 4 rfl) (show TT 10 = (1, 6) from rfl) ?_
    show K mX12_copies _ _ 0 0 5 [(3, vi (k : Int)), (0, vr 0), (1, vr 10), (2, vr 2)] [vi 6, vi (k : Int)] hh
    refine K_icmp_ge (tgt := 20) (dt_at dtX12_copies 5 rfl) (by decide) (by first | assumption | exact ⟨by omega, by omega⟩) (by first | assumption | exact ⟨by omega, by omega⟩) (fun c1 => ?_) (fun c1 => absurd c1 (by omega))
    exact K_vret (dt_at dtX12_copies 14 rfl) rfl (by decide) (by decide) (kx hh (by rw [ek] at ea; exact ea) fa fi fr)
  | succ dd ih =>
    intro k hh hk ea fa fi fr
    refine K_iload_n (dt_at dtX12_copies 2 rfl) rfl rfl ?_
    refine K_aload_n (dt_at dtX12_copies 3 rfl) rfl rfl ?_
    refine K_alen (dt_at dtX12_copies 4 rfl) (show TT 10 = (1, 6) from rfl) ?_
    show K mX12_copies _ _ 0 0 5 [(3, vi (k : Int)), (0, vr 0), (1, vr 10), (2, vr 2)] [vi 6, vi (k : Int)] hh
    refine K_icmp_ge (tgt := 20) (dt_at dtX12_copies 5 rfl) (by decide) (by first | assumption | exact ⟨by omega, by omega⟩) (by first | assumption | exact ⟨by omega, by omega⟩) (fun c1 => absurd c1 (by omega)) (fun c1 => ?_)
    refine K_aload_n (dt_at dtX12_copies 6 rfl) rfl rfl ?_
    refine K_iload_n (dt_at dtX12_copies 7 rfl) rfl rfl ?_
    refine K_aload_n (dt_at dtX12_copies 8 rfl) rfl rfl ?_
    refine K_iload_n (dt_at dtX12_copies 9 rfl) rfl rfl ?_
    refine K_iald (dt_at dtX12_copies 10 rfl) (show TT 10 = (1, 6) from rfl) (by omega) (by omega) ?_
    rw [(fa 10 (by omega))]
    refine K_iast (dt_at dtX12_copies 11 rfl) (show TT 2 = (1, 6) from rfl) (by omega) (by omega) ?_
    obtain ⟨hq1, eq1⟩ : ∃ z, z = sA hh 2 (k : Int) (hA hb 10 (k : Int)) := ⟨_, rfl⟩
    rw [← eq1]
    obtain ⟨aq1, fq1, iq1, rq1⟩ := sA_fx eq1
    rw [ea] at aq1
    refine K_iinc (ls' := [(3, vi ((k : Int) + 1)), (0, vr 0), (1, vr 10), (2, vr 2)]) (dt_at dtX12_copies 12 rfl) rfl (by decide) rfl ?_
    refine K_goto (tgt := 2) (dt_at dtX12_copies 13 rfl) (by decide) ?_
    exact K_pk [0, 1, 2, 3] rfl (ih (k + 1) hq1 (by omega) (by rw [aq1]; exact pwF_c (by omega) rfl) (fun b_ hb_ => by rw [fq1 b_ hb_]; exact fa b_ hb_) (by rw [iq1]; exact fi) (by rw [rq1]; exact fr))
set_option maxHeartbeats 4000000 in
set_option maxRecDepth 100000 in
theorem sX12_copies_10 {h : HP}  : SpecK mX12_copies [vr 0, vr 10, vr 2] h (fun o h' => o = .inl none ∧ hA h' 2 = pwF (fun i => hA h 10 i) (hA h 2) 0 6 ∧ (∀ b, b ≠ 2 → hA h' b = hA h b) ∧ hI h' = hI h ∧ hR h' = hR h) := by
  refine Spec_of (by decide +kernel) (Nat.le_of_ble_eq_true rfl) ?_
  refine K_iconst (dt_at dtX12_copies 0 rfl) ?_
  refine K_istore_n (ls' := [(3, vi 0), (0, vr 0), (1, vr 10), (2, vr 2)]) (dt_at dtX12_copies 1 rfl) rfl (by decide) rfl ?_
  exact K_pk [0, 1, 2, 3] rfl (lp_X12_copies_10 (fun h2 q1 q2 q3 q4 => ⟨rfl, q1, q2, q3, q4⟩) 6 0 h (by omega) pwF_0.symm (fun _ _ => rfl) rfl rfl)
set_option maxHeartbeats 4000000 in
set_option maxRecDepth 100000 in
theorem lp_X12_copies_11 {Q : AO → HP → Prop} {hb : HP}  (kx : ∀ h2, hA h2 3 = (pwF (fun i => hA hb 11 (i)) (hA hb 3) 0 7) → (∀ b, b ≠ 3 → hA h2 b = hA hb b) → hI h2 = hI hb → hR h2 = hR hb → Q (.inl none) h2) : ∀ (dd k : Nat) (hh : HP), k + dd = 7 → hA hh 3 = (pwF (fun i => hA hb 11 (i)) (hA hb 3) 0 (k : Int)) → (∀ b, b ≠ 3 → hA hh b = hA hb b) → hI hh = hI hb → hR hh = hR hb → K mX12_copies GK (ZK Q 0 0) 0 0 2 [(3, vi (k : Int)), (0, vr 0), (1, vr 11), (2, vr 3)] [] hh := by
  intro dd
  induction dd with
  | zero =>
    intro k hh hk ea fa fi fr
    have ek : k = 7 := by omega
    refine K_iload_n (dt_at dtX12_copies 2 rfl) rfl rfl ?_
    refine K_aload_n (dt_at dtX12_copies 3 rfl) rfl rfl ?_
    refine K_alen (dt_at dtX12_copies 4 rfl) (show TT 11 = (1, 7) from rfl) ?_
    show K mX12_copies _ _ 0 0 5 [(3, vi (k : Int)), (0, vr 0), (1, vr 11), (2, vr 3)] [vi 7, vi (k : Int)] hh
    refine K_icmp_ge (tgt := 20) (dt_at dtX12_copies 5 rfl) (by decide) (by first | assumption | exact ⟨by omega, by omega⟩) (by first | assumption | exact ⟨by omega, by omega⟩) (fun c1 => ?_) (fun c1 => absurd c1 (by omega))
    exact K_vret (dt_at dtX12_copies 14 rfl) rfl (by decide) (by decide) (kx hh (by rw [ek] at ea; exact ea) fa fi fr)
  | succ dd ih =>
    intro k hh hk ea fa fi fr
    refine K_iload_n (dt_at dtX12_copies 2 rfl) rfl rfl ?_
    refine K_aload_n (dt_at dtX12_copies 3 rfl) rfl rfl ?_
    refine K_alen (dt_at dtX12_copies 4 rfl) (show TT 11 = (1, 7) from rfl) ?_
    show K mX12_copies _ _ 0 0 5 [(3, vi (k : Int)), (0, vr 0), (1, vr 11), (2, vr 3)] [vi 7, vi (k : Int)] hh
    refine K_icmp_ge (tgt := 20) (dt_at dtX12_copies 5 rfl) (by decide) (by first | assumption | exact ⟨by omega, by omega⟩) (by first | assumption | exact ⟨by omega, by omega⟩) (fun c1 => absurd c1 (by omega)) (fun c1 => ?_)
    refine K_aload_n (dt_at dtX12_copies 6 rfl) rfl rfl ?_
    refine K_iload_n (dt_at dtX12_copies 7 rfl) rfl rfl ?_
    refine K_aload_n (dt_at dtX12_copies 8 rfl) rfl rfl ?_
    refine K_iload_n (dt_at dtX12_copies 9 rfl) rfl rfl ?_
    refine K_iald (dt_at dtX12_copies 10 rfl) (show TT 11 = (1, 7) from rfl) (by omega) (by omega) ?_
    rw [(fa 11 (by omega))]
    refine K_iast (dt_at dtX12_copies 11 rfl) (show TT 3 = (1, 7) from rfl) (by omega) (by omega) ?_
    obtain ⟨hq1, eq1⟩ : ∃ z, z = sA hh 3 (k : Int) (hA hb 11 (k : Int)) := ⟨_, rfl⟩
    rw [← eq1]
    obtain ⟨aq1, fq1, iq1, rq1⟩ := sA_fx eq1
    rw [ea] at aq1
    refine K_iinc (ls' := [(3, vi ((k : Int) + 1)), (0, vr 0), (1, vr 11), (2, vr 3)]) (dt_at dtX12_copies 12 rfl) rfl (by decide) rfl ?_
    refine K_goto (tgt := 2) (dt_at dtX12_copies 13 rfl) (by decide) ?_
    exact K_pk [0, 1, 2, 3] rfl (ih (k + 1) hq1 (by omega) (by rw [aq1]; exact pwF_c (by omega) rfl) (fun b_ hb_ => by rw [fq1 b_ hb_]; exact fa b_ hb_) (by rw [iq1]; exact fi) (by rw [rq1]; exact fr))
set_option maxHeartbeats 4000000 in
set_option maxRecDepth 100000 in
theorem sX12_copies_11 {h : HP}  : SpecK mX12_copies [vr 0, vr 11, vr 3] h (fun o h' => o = .inl none ∧ hA h' 3 = pwF (fun i => hA h 11 i) (hA h 3) 0 7 ∧ (∀ b, b ≠ 3 → hA h' b = hA h b) ∧ hI h' = hI h ∧ hR h' = hR h) := by
  refine Spec_of (by decide +kernel) (Nat.le_of_ble_eq_true rfl) ?_
  refine K_iconst (dt_at dtX12_copies 0 rfl) ?_
  refine K_istore_n (ls' := [(3, vi 0), (0, vr 0), (1, vr 11), (2, vr 3)]) (dt_at dtX12_copies 1 rfl) rfl (by decide) rfl ?_
  exact K_pk [0, 1, 2, 3] rfl (lp_X12_copies_11 (fun h2 q1 q2 q3 q4 => ⟨rfl, q1, q2, q3, q4⟩) 7 0 h (by omega) pwF_0.symm (fun _ _ => rfl) rfl rfl)
set_option maxHeartbeats 4000000 in
set_option maxRecDepth 100000 in
theorem lp_X12_copies_12 {Q : AO → HP → Prop} {hb : HP}  (kx : ∀ h2, hA h2 4 = (pwF (fun i => hA hb 12 (i)) (hA hb 4) 0 7) → (∀ b, b ≠ 4 → hA h2 b = hA hb b) → hI h2 = hI hb → hR h2 = hR hb → Q (.inl none) h2) : ∀ (dd k : Nat) (hh : HP), k + dd = 7 → hA hh 4 = (pwF (fun i => hA hb 12 (i)) (hA hb 4) 0 (k : Int)) → (∀ b, b ≠ 4 → hA hh b = hA hb b) → hI hh = hI hb → hR hh = hR hb → K mX12_copies GK (ZK Q 0 0) 0 0 2 [(3, vi (k : Int)), (0, vr 0), (1, vr 12), (2, vr 4)] [] hh := by
  intro dd
  induction dd with
  | zero =>
    intro k hh hk ea fa fi fr
    have ek : k = 7 := by omega
    refine K_iload_n (dt_at dtX12_copies 2 rfl) rfl rfl ?_
    refine K_aload_n (dt_at dtX12_copies 3 rfl) rfl rfl ?_
    refine K_alen (dt_at dtX12_copies 4 rfl) (show TT 12 = (1, 7) from rfl) ?_
    show K mX12_copies _ _ 0 0 5 [(3, vi (k : Int)), (0, vr 0), (1, vr 12), (2, vr 4)] [vi 7, vi (k : Int)] hh
    refine K_icmp_ge (tgt := 20) (dt_at dtX12_copies 5 rfl) (by decide) (by first | assumption | exact ⟨by omega, by omega⟩) (by first | assumption | exact ⟨by omega, by omega⟩) (fun c1 => ?_) (fun c1 => absurd c1 (by omega))
    exact K_vret (dt_at dtX12_copies 14 rfl) rfl (by decide) (by decide) (kx hh (by rw [ek] at ea; exact ea) fa fi fr)
  | succ dd ih =>
    intro k hh hk ea fa fi fr
    refine K_iload_n (dt_at dtX12_copies 2 rfl) rfl rfl ?_
    refine K_aload_n (dt_at dtX12_copies 3 rfl) rfl rfl ?_
    refine K_alen (dt_at dtX12_copies 4 rfl) (show TT 12 = (1, 7) from rfl) ?_
    show K mX12_copies _ _ 0 0 5 [(3, vi (k : Int)), (0, vr 0), (1, vr 12), (2, vr 4)] [vi 7, vi (k : Int)] hh
    refine K_icmp_ge (tgt := 20) (dt_at dtX12_copies 5 rfl) (by decide) (by first | assumption | exact ⟨by omega, by omega⟩) (by first | assumption | exact ⟨by omega, by omega⟩) (fun c1 => absurd c1 (by omega)) (fun c1 => ?_)
    refine K_aload_n (dt_at dtX12_copies 6 rfl) rfl rfl ?_
    refine K_iload_n (dt_at dtX12_copies 7 rfl) rfl rfl ?_
    refine K_aload_n (dt_at dtX12_copies 8 rfl) rfl rfl ?_
    refine K_iload_n (dt_at dtX12_copies 9 rfl) rfl rfl ?_
    refine K_iald (dt_at dtX12_copies 10 rfl) (show TT 12 = (1, 7) from rfl) (by omega) (by omega) ?_
    rw [(fa 12 (by omega))]
    refine K_iast (dt_at dtX12_copies 11 rfl) (show TT 4 = (1, 7) from rfl) (by omega) (by omega) ?_
    obtain ⟨hq1, eq1⟩ : ∃ z, z = sA hh 4 (k : Int) (hA hb 12 (k : Int)) := ⟨_, rfl⟩
    rw [← eq1]
    obtain ⟨aq1, fq1, iq1, rq1⟩ := sA_fx eq1
    rw [ea] at aq1
    refine K_iinc (ls' := [(3, vi ((k : Int) + 1)), (0, vr 0), (1, vr 12), (2, vr 4)]) (dt_at dtX12_copies 12 rfl) rfl (by decide) rfl ?_
    refine K_goto (tgt := 2) (dt_at dtX12_copies 13 rfl) (by decide) ?_
    exact K_pk [0, 1, 2, 3] rfl (ih (k + 1) hq1 (by omega) (by rw [aq1]; exact pwF_c (by omega) rfl) (fun b_ hb_ => by rw [fq1 b_ hb_]; exact fa b_ hb_) (by rw [iq1]; exact fi) (by rw [rq1]; exact fr))
set_option maxHeartbeats 4000000 in
set_option maxRecDepth 100000 in
theorem sX12_copies_12 {h : HP}  : SpecK mX12_copies [vr 0, vr 12, vr 4] h (fun o h' => o = .inl none ∧ hA h' 4 = pwF (fun i => hA h 12 i) (hA h 4) 0 7 ∧ (∀ b, b ≠ 4 → hA h' b = hA h b) ∧ hI h' = hI h ∧ hR h' = hR h) := by
  refine Spec_of (by decide +kernel) (Nat.le_of_ble_eq_true rfl) ?_
  refine K_iconst (dt_at dtX12_copies 0 rfl) ?_
  refine K_istore_n (ls' := [(3, vi 0), (0, vr 0), (1, vr 12), (2, vr 4)]) (dt_at dtX12_copies 1 rfl) rfl (by decide) rfl ?_
  exact K_pk [0, 1, 2, 3] rfl (lp_X12_copies_12 (fun h2 q1 q2 q3 q4 => ⟨rfl, q1, q2, q3, q4⟩) 7 0 h (by omega) pwF_0.symm (fun _ _ => rfl) rfl rfl)
set_option maxHeartbeats 4000000 in
set_option maxRecDepth 100000 in
theorem lp_X12_copies_13 {Q : AO → HP → Prop} {hb : HP}  (kx : ∀ h2, hA h2 5 = (pwF (fun i => hA hb 13 (i)) (hA hb 5) 0 7) → (∀ b, b ≠ 5 → hA h2 b = hA hb b) → hI h2 = hI hb → hR h2 = hR hb → Q (.inl none) h2) : ∀ (dd k : Nat) (hh : HP), k + dd = 7 → hA hh 5 = (pwF (fun i => hA hb 13 (i)) (hA hb 5) 0 (k : Int)) → (∀ b, b ≠ 5 → hA hh b = hA hb b) → hI hh = hI hb → hR hh = hR hb → K mX12_copies GK (ZK Q 0 0) 0 0 2 [(3, vi (k : Int)), (0, vr 0), (1, vr 13), (2, vr 5)] [] hh := by
  intro dd
  induction dd with
  | zero =>
    intro k hh hk ea fa fi fr
    have ek : k = 7 := by omega
    refine K_iload_n (dt_at dtX12_copies 2 rfl) rfl rfl ?_
    refine K_aload_n (dt_at dtX12_copies 3 rfl) rfl rfl ?_
    refine K_alen (dt_at dtX12_copies 4 rfl) (show TT 13 = (1, 7) from rfl) ?_
    show K mX12_copies _ _ 0 0 5 [(3, vi (k : Int)), (0, vr 0), (1, vr 13), (2, vr 5)] [vi 7, vi (k : Int)] hh
    refine K_icmp_ge (tgt := 20) (dt_at dtX12_copies 5 rfl) (by decide) (by first | assumption | exact ⟨by omega, by omega⟩) (by first | assumption | exact ⟨by omega, by omega⟩) (fun c1 => ?_) (fun c1 => absurd c1 (by omega))
    exact K_vret (dt_at dtX12_copies 14 rfl) rfl (by decide) (by decide) (kx hh (by rw [ek] at ea; exact ea) fa fi fr)
  | succ dd ih =>
    intro k hh hk ea fa fi fr
    refine K_iload_n (dt_at dtX12_copies 2 rfl) rfl rfl ?_
    refine K_aload_n (dt_at dtX12_copies 3 rfl) rfl rfl ?_
    refine K_alen (dt_at dtX12_copies 4 rfl) (show TT 13 = (1, 7) from rfl) ?_
    show K mX12_copies _ _ 0 0 5 [(3, vi (k : Int)), (0, vr 0), (1, vr 13), (2, vr 5)] [vi 7, vi (k : Int)] hh
    refine K_icmp_ge (tgt := 20) (dt_at dtX12_copies 5 rfl) (by decide) (by first | assumption | exact ⟨by omega, by omega⟩) (by first | assumption | exact ⟨by omega, by omega⟩) (fun c1 => absurd c1 (by omega)) (fun c1 => ?_)
    refine K_aload_n (dt_at dtX12_copies 6 rfl) rfl rfl ?_
    refine K_iload_n (dt_at dtX12_copies 7 rfl) rfl rfl ?_
    refine K_aload_n (dt_at dtX12_copies 8 rfl) rfl rfl ?_
    refine K_iload_n (dt_at dtX12_copies 9 rfl) rfl rfl ?_
    refine K_iald (dt_at dtX12_copies 10 rfl) (show TT 13 = (1, 7) from rfl) (by omega) (by omega) ?_
    rw [(fa 13 (by omega))]
    refine K_iast (dt_at dtX12_copies 11 rfl) (show TT 5 = (1, 7) from rfl) (by omega) (by omega) ?_
    obtain ⟨hq1, eq1⟩ : ∃ z, z = sA hh 5 (k : Int) (hA hb 13 (k : Int)) := ⟨_, rfl⟩
    rw [← eq1]
    obtain ⟨aq1, fq1, iq1, rq1⟩ := sA_fx eq1
    rw [ea] at aq1
    refine K_iinc (ls' := [(3, vi ((k : Int) + 1)), (0, vr 0), (1, vr 13), (2, vr 5)]) (dt_at dtX12_copies 12 rfl) rfl (by decide) rfl ?_
    refine K_goto (tgt := 2) (dt_at dtX12_copies 13 rfl) (by decide) ?_
    exact K_pk [0, 1, 2, 3] rfl (ih (k + 1) hq1 (by omega) (by rw [aq1]; exact pwF_c (by omega) rfl) (fun b_ hb_ => by rw [fq1 b_ hb_]; exact fa b_ hb_) (by rw [iq1]; exact fi) (by rw [rq1]; exact fr))
set_option maxHeartbeats 4000000 in
set_option maxRecDepth 100000 in
theorem sX12_copies_13 {h : HP}  : SpecK mX12_copies [vr 0, vr 13, vr 5] h (fun o h' => o = .inl none ∧ hA h' 5 = pwF (fun i => hA h 13 i) (hA h 5) 0 7 ∧ (∀ b, b ≠ 5 → hA h' b = hA h b) ∧ hI h' = hI h ∧ hR h' = hR h) := by
  refine Spec_of (by decide +kernel) (Nat.le_of_ble_eq_true rfl) ?_
  refine K_iconst (dt_at dtX12_copies 0 rfl) ?_
  refine K_istore_n (ls' := [(3, vi 0), (0, vr 0), (1, vr 13), (2, vr 5)]) (dt_at dtX12_copies 1 rfl) rfl (by decide) rfl ?_
  exact K_pk [0, 1, 2, 3] rfl (lp_X12_copies_13 (fun h2 q1 q2 q3 q4 => ⟨rfl, q1, q2, q3, q4⟩) 7 0 h (by omega) pwF_0.symm (fun _ _ => rfl) rfl rfl)
set_option maxHeartbeats 4000000 in
set_option maxRecDepth 100000 in
theorem lp_X12_copies_15 {Q : AO → HP → Prop} {hb : HP}  (kx : ∀ h2, hA h2 6 = (pwF (fun i => hA hb 15 (i)) (hA hb 6) 0 1400) → (∀ b, b ≠ 6 → hA h2 b = hA hb b) → hI h2 = hI hb → hR h2 = hR hb → Q (.inl none) h2) : ∀ (dd k : Nat) (hh : HP), k + dd = 1400 → hA hh 6 = (pwF (fun i => hA hb 15 (i)) (hA hb 6) 0 (k : Int)) → (∀ b, b ≠ 6 → hA hh b = hA hb b) → hI hh = hI hb → hR hh = hR hb → K mX12_copies GK (ZK Q 0 0) 0 0 2 [(3, vi (k : Int)), (0, vr 0), (1, vr 15), (2, vr 6)] [] hh := by
  intro dd
  induction dd with
  | zero =>
    intro k hh hk ea fa fi fr
    have ek : k = 1400 := by omega
    refine K_iload_n (dt_at dtX12_copies 2 rfl) rfl rfl ?_
    refine K_aload_n (dt_at dtX12_copies 3 rfl) rfl rfl ?_
    refine K_alen (dt_at dtX12_copies 4 rfl) (show TT 15 = (1, 1400) from rfl) ?_
    show K mX12_copies _ _ 0 0 5 [(3, vi (k : Int)), (0, vr 0), (1, vr 15), (2, vr 6)] [vi 1400, vi (k : Int)] hh
    refine K_icmp_ge (tgt := 20) (dt_at dtX12_copies 5 rfl) (by decide) (by first | assumption | exact ⟨by omega, by omega⟩) (by first | assumption | exact ⟨by omega, by omega⟩) (fun c1 => ?_) (fun c1 => absurd c1 (by omega))
    exact K_vret (dt_at dtX12_copies 14 rfl) rfl (by decide) (by decide) (kx hh (by rw [ek] at ea; exact ea) fa fi fr)
  | succ dd ih =>
    intro k hh hk ea fa fi fr
    refine K_iload_n (dt_at dtX12_copies 2 rfl) rfl rfl ?_
    refine K_aload_n (dt_at dtX12_copies 3 rfl) rfl rfl ?_
    refine K_alen (dt_at dtX12_copies 4 rfl) (show TT 15 = (1, 1400) from rfl) ?_
    show K mX12_copies _ _ 0 0 5 [(3, vi (k : Int)), (0, vr 0), (1, vr 15), (2, vr 6)] [vi 1400, vi (k : Int)] hh
    refine K_icmp_ge (tgt := 20) (dt_at dtX12_copies 5 rfl) (by decide) (by first | assumption | exact ⟨by omega, by omega⟩) (by first | assumption | exact ⟨by omega, by omega⟩) (fun c1 => absurd c1 (by omega)) (fun c1 => ?_)
    refine K_aload_n (dt_at dtX12_copies 6 rfl) rfl rfl ?_
    refine K_iload_n (dt_at dtX12_copies 7 rfl) rfl rfl ?_
    refine K_aload_n (dt_at dtX12_copies 8 rfl) rfl rfl ?_
    refine K_iload_n (dt_at dtX12_copies 9 rfl) rfl rfl ?_
    refine K_iald (dt_at dtX12_copies 10 rfl) (show TT 15 = (1, 1400) from rfl) (by omega) (by omega) ?_
    rw [(fa 15 (by omega))]
    refine K_iast (dt_at dtX12_copies 11 rfl) (show TT 6 = (1, 1400) from rfl) (by omega) (by omega) ?_
    obtain ⟨hq1, eq1⟩ : ∃ z, z = sA hh 6 (k : Int) (hA hb 15 (k : Int)) := ⟨_, rfl⟩
    rw [← eq1]
    obtain ⟨aq1, fq1, iq1, rq1⟩ := sA_fx eq1
    rw [ea] at aq1
    refine K_iinc (ls' := [(3, vi ((k : Int) + 1)), (0, vr 0), (1, vr 15), (2, vr 6)]) (dt_at dtX12_copies 12 rfl) rfl (by decide) rfl ?_
    refine K_goto (tgt := 2) (dt_at dtX12_copies 13 rfl) (by decide) ?_
    exact K_pk [0, 1, 2, 3] rfl (ih (k + 1) hq1 (by omega) (by rw [aq1]; exact pwF_c (by omega) rfl) (fun b_ hb_ => by rw [fq1 b_ hb_]; exact fa b_ hb_) (by rw [iq1]; exact fi) (by rw [rq1]; exact fr))
set_option maxHeartbeats 4000000 in
set_option maxRecDepth 100000 in
theorem sX12_copies_15 {h : HP}  : SpecK mX12_copies [vr 0, vr 15, vr 6] h (fun o h' => o = .inl none ∧ hA h' 6 = pwF (fun i => hA h 15 i) (hA h 6) 0 1400 ∧ (∀ b, b ≠ 6 → hA h' b = hA h b) ∧ hI h' = hI h ∧ hR h' = hR h) := by
  refine Spec_of (by decide +kernel) (Nat.le_of_ble_eq_true rfl) ?_
  refine K_iconst (dt_at dtX12_copies 0 rfl) ?_
  refine K_istore_n (ls' := [(3, vi 0), (0, vr 0), (1, vr 15), (2, vr 6)]) (dt_at dtX12_copies 1 rfl) rfl (by decide) rfl ?_
  exact K_pk [0, 1, 2, 3] rfl (lp_X12_copies_15 (fun h2 q1 q2 q3 q4 => ⟨rfl, q1, q2, q3, q4⟩) 1400 0 h (by omega) pwF_0.symm (fun _ _ => rfl) rfl rfl)
def mX12_thrown : MI := (yX12_thrown, cX12_thrown, 1, (some .int), rmK 1 0)
def tX12_thrown : List (Nat × Instr × Nat) := [(0, .aload_n 0, 1), (1, .getfield 105, 3), (4, .ireturn, 1)]
theorem dtX12_thrown : tX12_thrown.all (fun q => decide (decode cX12_thrown q.1 = .ok (q.2.1, q.2.2))) = true := by decide +kernel
theorem npX12_thrown : (parseMethodDescriptor (mY mX12_thrown).desc).map (fun d => d.parameters.length) = some 0 := by decide +kernel
theorem vX12_thrown : mV mX12_thrown := ⟨wI_X12_thrown, wS_X12_thrown, wN_X12, wC_X12_thrown, by decide +kernel, by decide +kernel⟩
set_option maxHeartbeats 4000000 in
set_option maxRecDepth 100000 in
theorem sX12_thrown {h : HP}  : SpecK mX12_thrown [vr 0] h (fun o h' => o = .inl (some (vi (hI h 0 0))) ∧ h' = h) := by
  refine Spec_of (by decide +kernel) (Nat.le_of_ble_eq_true rfl) ?_
  refine K_aload_n (dt_at dtX12_thrown 0 rfl) rfl rfl ?_
  refine K_get (a := 0) (ci := 12) (k := 0) (v := vi (hI h 0 0)) (dt_at dtX12_thrown 1 rfl) (show TT 0 = (0, 12) from rfl) rfl (by decide) wF_X12_105 rfl ?_
  exact K_iret (dt_at dtX12_thrown 2 rfl) rfl rfl (by decide) (by decide) ⟨rfl, rfl⟩
def mX12_undo : MI := (yX12_undo, cX12_undo, 2, (some .int), rmK 1 0)
def tX12_undo : List (Nat × Instr × Nat) := [(0, .aload_n 0, 1), (1, .iconst 0, 1), (2, .putfield 105, 3), (5, .aload_n 0, 1), (6, .getfield 277, 3), (9, .ifCond .ne 5, 3), (12, .iconst (-1), 1), (13, .ireturn, 1), (14, .aload_n 0, 1), (15, .dup, 1), (16, .getfield 277, 3), (19, .iconst 1, 1), (20, .isub, 1), (21, .putfield 277, 3), (24, .iconst 0, 1), (25, .istore_n 1, 1), (26, .iload_n 1, 1), (27, .bipush 77, 2), (29, .if_icmp .ge 29, 3), (32, .aload_n 0, 1), (33, .getfield 72, 3), (36, .iload_n 1, 1), (37, .aload_n 0, 1), (38, .getfield 75, 3), (41, .bipush 77, 2), (43, .aload_n 0, 1), (44, .getfield 277, 3), (47, .imul, 1), (48, .iload_n 1, 1), (49, .iadd, 1), (50, .iaload, 1), (51, .iastore, 1), (52, .iinc 1 1, 3), (55, .goto (-29), 3), (58, .aload_n 0, 1), (59, .getfield 277, 3), (62, .ireturn, 1)]
theorem dtX12_undo : tX12_undo.all (fun q => decide (decode cX12_undo q.1 = .ok (q.2.1, q.2.2))) = true := by decide +kernel
theorem npX12_undo : (parseMethodDescriptor (mY mX12_undo).desc).map (fun d => d.parameters.length) = some 0 := by decide +kernel
theorem vX12_undo : mV mX12_undo := ⟨wI_X12_undo, wS_X12_undo, wN_X12, wC_X12_undo, by decide +kernel, by decide +kernel⟩
set_option maxHeartbeats 4000000 in
set_option maxRecDepth 100000 in
theorem lp_X12_undo {Z : CT → State → Prop} {hb : HP} {c : Nat} (hc : c < 40) (e44 : hI hb 0 44 = (c : Int)) (kx : ∀ h2, hA h2 18 = (pwF (fun i => hA hb 19 ((77 * (c : Int)) + i)) (hA hb 18) 0 77) → (∀ b, b ≠ 18 → hA h2 b = hA hb b) → hI h2 = hI hb → hR h2 = hR hb → K mX12_undo GK Z 0 0 58 [(1, vi 77), (0, vr 0)] [] h2) : ∀ (dd k : Nat) (hh : HP), k + dd = 77 → hA hh 18 = (pwF (fun i => hA hb 19 ((77 * (c : Int)) + i)) (hA hb 18) 0 (k : Int)) → (∀ b, b ≠ 18 → hA hh b = hA hb b) → hI hh = hI hb → hR hh = hR hb → K mX12_undo GK Z 0 0 26 [(1, vi (k : Int)), (0, vr 0)] [] hh := by
  intro dd
  induction dd with
  | zero =>
    intro k hh hk ea fa fi fr
    have ek : k = 77 := by omega
    have e44h : hI hh 0 44 = (c : Int) := by rw [fi]; exact e44
    refine K_iload_n (dt_at dtX12_undo 16 rfl) rfl rfl ?_
    refine K_bipush (dt_at dtX12_undo 17 rfl) (by decide) ?_
    refine K_icmp_ge (tgt := 58) (dt_at dtX12_undo 18 rfl) (by decide) (by first | assumption | exact ⟨by omega, by omega⟩) (by first | assumption | exact ⟨by omega, by omega⟩) (fun c1 => ?_) (fun c1 => absurd c1 (by omega))
    exact K_pk [0, 1] (ls' := [(1, vi (k : Int)), (0, vr 0)]) rfl (K_cg (ls' := [(1, vi 77), (0, vr 0)]) (h' := hh) (by rw [ek]; rfl) rfl (kx hh (by rw [ek] at ea; exact ea) fa fi fr))
  | succ dd ih =>
    intro k hh hk ea fa fi fr
    have e44h : hI hh 0 44 = (c : Int) := by rw [fi]; exact e44
    refine K_iload_n (dt_at dtX12_undo 16 rfl) rfl rfl ?_
    refine K_bipush (dt_at dtX12_undo 17 rfl) (by decide) ?_
    refine K_icmp_ge (tgt := 58) (dt_at dtX12_undo 18 rfl) (by decide) (by first | assumption | exact ⟨by omega, by omega⟩) (by first | assumption | exact ⟨by omega, by omega⟩) (fun c1 => absurd c1 (by omega)) (fun c1 => ?_)
    refine K_aload_n (dt_at dtX12_undo 19 rfl) rfl rfl ?_
    refine K_get (a := 0) (ci := 12) (k := 42) (v := vr 18) (dt_at dtX12_undo 20 rfl) (show TT 0 = (0, 12) from rfl) rfl (by decide) wF_X12_72 rfl ?_
    refine K_iload_n (dt_at dtX12_undo 21 rfl) rfl rfl ?_
    refine K_aload_n (dt_at dtX12_undo 22 rfl) rfl rfl ?_
    refine K_get (a := 0) (ci := 12) (k := 43) (v := vr 19) (dt_at dtX12_undo 23 rfl) (show TT 0 = (0, 12) from rfl) rfl (by decide) wF_X12_75 rfl ?_
    refine K_bipush (dt_at dtX12_undo 24 rfl) (by decide) ?_
    refine K_aload_n (dt_at dtX12_undo 25 rfl) rfl rfl ?_
    refine K_get (a := 0) (ci := 12) (k := 44) (v := vi (c : Int)) (dt_at dtX12_undo 26 rfl) (show TT 0 = (0, 12) from rfl) rfl (by decide) wF_X12_277 (by show vi (hI hh 0 44) = vi (c : Int); rw [e44h]) ?_
    refine K_imul (dt_at dtX12_undo 27 rfl) ?_
    refine K_iload_n (dt_at dtX12_undo 28 rfl) rfl rfl ?_
    refine K_iadd (dt_at dtX12_undo 29 rfl) ?_
    refine K_iald (dt_at dtX12_undo 30 rfl) (show TT 19 = (1, 3080) from rfl) (by omega) (by omega) ?_
    rw [(fa 19 (by omega))]
    refine K_iast (dt_at dtX12_undo 31 rfl) (show TT 18 = (1, 154) from rfl) (by omega) (by omega) ?_
    obtain ⟨hq1, eq1⟩ : ∃ z, z = sA hh 18 (k : Int) (hA hb 19 ((77 * (c : Int)) + (k : Int))) := ⟨_, rfl⟩
    rw [← eq1]
    obtain ⟨aq1, fq1, iq1, rq1⟩ := sA_fx eq1
    rw [ea] at aq1
    refine K_iinc (ls' := [(1, vi ((k : Int) + 1)), (0, vr 0)]) (dt_at dtX12_undo 32 rfl) rfl (by decide) rfl ?_
    refine K_goto (tgt := 26) (dt_at dtX12_undo 33 rfl) (by decide) ?_
    exact K_pk [0, 1] rfl (ih (k + 1) hq1 (by omega) (by rw [aq1]; exact pwF_c (by omega) rfl) (fun b_ hb_ => by rw [fq1 b_ hb_]; exact fa b_ hb_) (by rw [iq1]; exact fi) (by rw [rq1]; exact fr))
set_option maxHeartbeats 4000000 in
set_option maxRecDepth 100000 in
theorem sX12_undo_no {h : HP} {S : HS} {f : Int → Int} {C : AC} {N : SN} {im : Option SV} {tp : Int → Int} {nt : Nat} {rf : Int × Int × Int} {fl : Int} (V : MV h (S, (f, C, N), im, tp, nt, rf, fl)) (R : rowOK S f) (h0 : C.1 = 0) : SpecK mX12_undo [vr 0] h (fun o h' => o = .inl (some (vi (-1))) ∧ MV h' (S, (f, C, N), im, tp, nt, rf, fl) ∧ FC h h' ∧ hI h' 0 0 = 0) := by
  refine Spec_of (by decide +kernel) (Nat.le_of_ble_eq_true rfl) ?_
  have Q0 := MV_ask V R
  have hB := Q0.1.1
  have hNt := hB.1
  have hNp := hB.2.1
  have hT := R.1
  have hW := hT.1
  have e44 : hI h 0 44 = 0 := by rw [V.2.2.2.1.2.1.1, h0]; rfl
  refine K_aload_n (dt_at dtX12_undo 0 rfl) rfl rfl ?_
  refine K_iconst (dt_at dtX12_undo 1 rfl) ?_
  refine K_putI (a := 0) (ci := 12) (k := 0) (dt_at dtX12_undo 2 rfl) (show TT 0 = (0, 12) from rfl) rfl (by decide) wF_X12_105 rfl (Or.inl rfl) rfl rfl ?_
  obtain ⟨hu1, eu1⟩ : ∃ z, z = sI h 0 0 0 := ⟨_, rfl⟩
  rw [← eu1]
  obtain ⟨iu1, fu1, au1, ru1⟩ := sI_fx eu1
  have Gu1 := MG_0 Q0 eu1
  refine K_aload_n (dt_at dtX12_undo 3 rfl) rfl rfl ?_
  refine K_get (a := 0) (ci := 12) (k := 44) (v := vi 0) (dt_at dtX12_undo 4 rfl) (show TT 0 = (0, 12) from rfl) rfl (by decide) wF_X12_277 (by show vi (hI hu1 0 44) = vi 0; rw [(fu1 0 44 (by omega)), e44]) ?_
  refine K_if_ne (tgt := 14) (dt_at dtX12_undo 5 rfl) (by decide) (by first | assumption | exact ⟨by omega, by omega⟩) (fun c1 => absurd c1 (by omega)) (fun c1 => ?_)
  refine K_iconst (dt_at dtX12_undo 6 rfl) ?_
  exact K_iret (dt_at dtX12_undo 7 rfl) rfl rfl (by decide) (by decide) ⟨rfl, MV_FQ V Gu1.2.1, FC_FQ Gu1.2.1, Gu1.2.2.2⟩
set_option maxHeartbeats 4000000 in
set_option maxRecDepth 100000 in
theorem sX12_undo {h : HP} {S : HS} {f : Int → Int} {C : AC} {N : SN} {im : Option SV} {tp : Int → Int} {nt : Nat} {rf : Int × Int × Int} {fl : Int} (V : MV h (S, (f, C, N), im, tp, nt, rf, fl)) (R : rowOK S f) (h0 : 0 < C.1) : SpecK mX12_undo [vr 0] h (fun o h' => o = .inl (some (vi ((C.1 - 1 : Nat) : Int))) ∧ MV h' (S, (C.2 (C.1 - 1), (C.1 - 1, C.2), N), im, tp, nt, rf, fl) ∧ FC h h' ∧ hI h' 0 0 = 0) := by
  refine Spec_of (by decide +kernel) (Nat.le_of_ble_eq_true rfl) ?_
  have Q0 := MV_ask V R
  have hB := Q0.1.1
  have hNt := hB.1
  have hNp := hB.2.1
  have hT := R.1
  have hW := hT.1
  have mc : mAc h 19 44 C := V.2.2.2.1.2.1
  have c40 := mc.2.1
  have e44 : hI h 0 44 = (C.1 : Int) := mc.1
  refine K_aload_n (dt_at dtX12_undo 0 rfl) rfl rfl ?_
  refine K_iconst (dt_at dtX12_undo 1 rfl) ?_
  refine K_putI (a := 0) (ci := 12) (k := 0) (dt_at dtX12_undo 2 rfl) (show TT 0 = (0, 12) from rfl) rfl (by decide) wF_X12_105 rfl (Or.inl rfl) rfl rfl ?_
  obtain ⟨hu1, eu1⟩ : ∃ z, z = sI h 0 0 0 := ⟨_, rfl⟩
  rw [← eu1]
  obtain ⟨iu1, fu1, au1, ru1⟩ := sI_fx eu1
  have Gu1 := MG_0 Q0 eu1
  refine K_aload_n (dt_at dtX12_undo 3 rfl) rfl rfl ?_
  refine K_get (a := 0) (ci := 12) (k := 44) (v := vi (C.1 : Int)) (dt_at dtX12_undo 4 rfl) (show TT 0 = (0, 12) from rfl) rfl (by decide) wF_X12_277 (by show vi (hI hu1 0 44) = vi (C.1 : Int); rw [(fu1 0 44 (by omega)), e44]) ?_
  refine K_if_ne (tgt := 14) (dt_at dtX12_undo 5 rfl) (by decide) (by first | assumption | exact ⟨by omega, by omega⟩) (fun c1 => ?_) (fun c1 => absurd c1 (by omega))
  refine K_aload_n (dt_at dtX12_undo 8 rfl) rfl rfl ?_
  refine K_dup (dt_at dtX12_undo 9 rfl) rfl ?_
  refine K_get (a := 0) (ci := 12) (k := 44) (v := vi (C.1 : Int)) (dt_at dtX12_undo 10 rfl) (show TT 0 = (0, 12) from rfl) rfl (by decide) wF_X12_277 (by show vi (hI hu1 0 44) = vi (C.1 : Int); rw [(fu1 0 44 (by omega)), e44]) ?_
  refine K_iconst (dt_at dtX12_undo 11 rfl) ?_
  refine K_isub (dt_at dtX12_undo 12 rfl) ?_
  refine K_putI (a := 0) (ci := 12) (k := 44) (dt_at dtX12_undo 13 rfl) (show TT 0 = (0, 12) from rfl) rfl (by decide) wF_X12_277 rfl (Or.inl rfl) rfl rfl ?_
  obtain ⟨hq2, eq2⟩ : ∃ z, z = sI hu1 0 44 ((C.1 : Int) - 1) := ⟨_, rfl⟩
  rw [← eq2]
  obtain ⟨iq2, fq2, aq2, rq2⟩ := sI_fx eq2
  refine K_iconst (dt_at dtX12_undo 14 rfl) ?_
  refine K_istore_n (ls' := [(1, vi 0), (0, vr 0)]) (dt_at dtX12_undo 15 rfl) rfl (by decide) rfl ?_
  refine K_pk [0, 1] rfl (lp_X12_undo (hb := hq2) (c := C.1 - 1) (by omega) (by rw [iq2]; omega) (fun h2 q1 q2 q3 q4 => ?_) 77 0 hq2 (by omega) pwF_0.symm (fun _ _ => rfl) rfl rfl)
  have t44 : hI h2 0 44 = ((C.1 - 1 : Nat) : Int) := by rw [q3, iq2]; omega
  have F2 : FA h h2 := FA_tr (FA_0 eu1 V.2.1) ⟨fun a_ z1 _ _ _ => by rw [q2 a_ z1, aq2], fun a_ k_ z_ => by rw [q3, fq2 a_ k_ (by omega)], by rw [q4, rq2], by rw [q2 20 (by decide), aq2]; exact Gu1.2.1.2.2.2.2⟩
  have rv2 : RV h2 0 (C.2 (C.1 - 1)) := fun j j0 j1 => by
    have pb := pm_b j0 j1
    rw [q1, pwF_in (by omega) (by omega), aq2, au1]
    show hA h 19 (77 * ((C.1 - 1 : Nat) : Int) + (0 + pm j)) = _
    rw [show 77 * ((C.1 - 1 : Nat) : Int) + (0 + pm j) = ((C.1 - 1 : Nat) : Int) * 77 + pm j by omega]
    exact mc.2.2 (C.1 - 1) (by omega) j j0 j1
  have mc2 : mAc h2 19 44 (C.1 - 1, C.2) := ⟨t44, by show C.1 - 1 ≤ 40; omega, fun i hi j j0 j1 => by rw [q2 19 (by decide), aq2, au1]; exact mc.2.2 i (by have : i < C.1 - 1 := hi; omega) j j0 j1⟩
  have t02 : hI h2 0 0 = 0 := by rw [q3, fq2 0 0 (by omega)]; exact Gu1.2.2.2
  refine K_aload_n (dt_at dtX12_undo 34 rfl) rfl rfl ?_
  refine K_get (a := 0) (ci := 12) (k := 44) (v := vi ((C.1 - 1 : Nat) : Int)) (dt_at dtX12_undo 35 rfl) (show TT 0 = (0, 12) from rfl) rfl (by decide) wF_X12_277 (by show vi (hI h2 0 44) = vi ((C.1 - 1 : Nat) : Int); rw [t44]) ?_
  exact K_iret (dt_at dtX12_undo 36 rfl) rfl rfl (by decide) (by decide) ⟨rfl, MV_act V F2 rv2 mc2, FC_FA F2, t02⟩
def mX12_see : MI := (yX12_see, cX12_see, 5, (some .int), rmK 3 0)
def tX12_see : List (Nat × Instr × Nat) := [(0, .aload_n 0, 1), (1, .iconst 0, 1), (2, .putfield 105, 3), (5, .aload_n 0, 1), (6, .iload_n 1, 1), (7, .invokevirtual 375, 3), (10, .ifCond .eq 11, 3), (13, .aload_n 0, 1), (14, .iload_n 2, 1), (15, .invokevirtual 368, 3), (18, .ifCond .ne 5, 3), (21, .iconst 0, 1), (22, .ireturn, 1), (23, .aload_n 0, 1), (24, .getfield 280, 3), (27, .bipush 8, 2), (29, .if_icmp .eq 24, 3), (32, .iload_n 3, 1), (33, .iconst 0, 1), (34, .bipush 30, 2), (36, .invokestatic 346, 3), (39, .ifCond .eq 14, 3), (42, .iload 4, 2), (44, .iconst 0, 1), (45, .bipush 9, 2), (47, .invokestatic 346, 3), (50, .ifCond .ne 9, 3), (53, .aload_n 0, 1), (54, .iconst 2, 1), (55, .invokevirtual 387, 3), (58, .ireturn, 1), (59, .aload_n 0, 1), (60, .getfield 87, 3), (63, .iconst 4, 1), (64, .aload_n 0, 1), (65, .getfield 280, 3), (68, .imul, 1), (69, .iload_n 1, 1), (70, .iastore, 1), (71, .aload_n 0, 1), (72, .getfield 87, 3), (75, .iconst 4, 1), (76, .aload_n 0, 1), (77, .getfield 280, 3), (80, .imul, 1), (81, .iconst 1, 1), (82, .iadd, 1), (83, .iload_n 2, 1), (84, .iastore, 1), (85, .aload_n 0, 1), (86, .getfield 87, 3), (89, .iconst 4, 1), (90, .aload_n 0, 1), (91, .getfield 280, 3), (94, .imul, 1), (95, .iconst 2, 1), (96, .iadd, 1), (97, .iload_n 3, 1), (98, .iastore, 1), (99, .aload_n 0, 1), (100, .getfield 87, 3), (103, .iconst 4, 1), (104, .aload_n 0, 1), (105, .getfield 280, 3), (108, .imul, 1), (109, .iconst 3, 1), (110, .iadd, 1), (111, .iload 4, 2), (113, .iastore, 1), (114, .aload_n 0, 1), (115, .dup, 1), (116, .getfield 280, 3), (119, .iconst 1, 1), (120, .iadd, 1), (121, .putfield 280, 3), (124, .aload_n 0, 1), (125, .getfield 280, 3), (128, .ireturn, 1)]
theorem dtX12_see : tX12_see.all (fun q => decide (decode cX12_see q.1 = .ok (q.2.1, q.2.2))) = true := by decide +kernel
theorem npX12_see : (parseMethodDescriptor (mY mX12_see).desc).map (fun d => d.parameters.length) = some 4 := by decide +kernel
theorem vX12_see : mV mX12_see := ⟨wI_X12_see, wS_X12_see, wN_X12, wC_X12_see, by decide +kernel, by decide +kernel⟩
set_option maxHeartbeats 4000000 in
set_option maxRecDepth 100000 in
theorem sX12_see_x1 {h : HP} {S : HS} {f : Int → Int} {p q d n : Int} (Q0 : MAsk h S f) (hp_ : i32 p) (hq_ : i32 q) (hd_ : i32 d) (hn_ : i32 n) (kn : ¬ (0 ≤ p ∧ p < sNp S)) : SpecK mX12_see [vr 0, vi p, vi q, vi d, vi n] h (fun o h' => o = .inl (some (vi 0)) ∧ FQ h h' ∧ hI h' 0 0 = 1) := by
  refine Spec_of (by decide +kernel) (Nat.le_of_ble_eq_true rfl) ?_
  have hB := Q0.1.1
  have hNt := hB.1
  have hNp := hB.2.1
  have R := Q0.2.2.2.2
  have hT := R.1
  have hW := hT.1
  refine K_aload_n (dt_at dtX12_see 0 rfl) rfl rfl ?_
  refine K_iconst (dt_at dtX12_see 1 rfl) ?_
  refine K_putI (a := 0) (ci := 12) (k := 0) (dt_at dtX12_see 2 rfl) (show TT 0 = (0, 12) from rfl) rfl (by decide) wF_X12_105 rfl (Or.inl rfl) rfl rfl ?_
  obtain ⟨hu1, eu1⟩ : ∃ z, z = sI h 0 0 0 := ⟨_, rfl⟩
  rw [← eu1]
  obtain ⟨iu1, fu1, au1, ru1⟩ := sI_fx eu1
  have Gu1 := MG_0 Q0 eu1
  refine K_aload_n (dt_at dtX12_see 3 rfl) rfl rfl ?_
  refine K_iload_n (dt_at dtX12_see 4 rfl) rfl rfl ?_
  refine K_callV (M' := mX12_isPerson) (a := 0) (ci := 12) (As := [vi p]) (st := []) (dt_at dtX12_see 5 rfl) (sX12_isPerson_f (MD_np (MG_D0 Gu1)) hNp Gu1.2.2.2 (by assumption) (by omega)) (show TT 0 = (0, 12) from rfl) rfl wL_X12_375 vX12_isPerson rfl npX12_isPerson (by decide) (by decide) (Nat.le_of_ble_eq_true rfl) (by decide) (by decide) GK_E (fun v9 hc2 hq => ?_) (fun E h9 hq => by cases hq.1)
  have hqq3 := hq
  obtain ⟨e9q3, e8q3⟩ := hqq3
  obtain ⟨iq3, fq3, aq3, rq3⟩ := sI_fx e8q3
  have Bq3 : FQ h hc2 := FQ_tr Gu1.2.1 (FQ_I e8q3 rfl Gu1.2.1.2.2.2.2)
  cases e9q3
  show K mX12_see _ _ 0 0 10 [(0, vr 0), (1, vi p), (2, vi q), (3, vi d), (4, vi n)] [vi 0] hc2
  refine K_if_eq (tgt := 21) (dt_at dtX12_see 6 rfl) (by decide) (by first | assumption | exact ⟨by omega, by omega⟩) (fun c1 => ?_) (fun c1 => absurd c1 (by omega))
  refine K_iconst (dt_at dtX12_see 11 rfl) ?_
  exact K_iret (dt_at dtX12_see 12 rfl) rfl rfl (by decide) (by decide) ⟨rfl, Bq3, iq3⟩
set_option maxHeartbeats 4000000 in
set_option maxRecDepth 100000 in
theorem sX12_see_x2 {h : HP} {S : HS} {f : Int → Int} {p q d n : Int} (Q0 : MAsk h S f) (hp_ : i32 p) (hq_ : i32 q) (hd_ : i32 d) (hn_ : i32 n) (k0 : 0 ≤ p ∧ p < sNp S) (kn : ¬ (0 ≤ q ∧ q < sNt S)) : SpecK mX12_see [vr 0, vi p, vi q, vi d, vi n] h (fun o h' => o = .inl (some (vi 0)) ∧ FQ h h' ∧ hI h' 0 0 = 1) := by
  refine Spec_of (by decide +kernel) (Nat.le_of_ble_eq_true rfl) ?_
  have hB := Q0.1.1
  have hNt := hB.1
  have hNp := hB.2.1
  have R := Q0.2.2.2.2
  have hT := R.1
  have hW := hT.1
  refine K_aload_n (dt_at dtX12_see 0 rfl) rfl rfl ?_
  refine K_iconst (dt_at dtX12_see 1 rfl) ?_
  refine K_putI (a := 0) (ci := 12) (k := 0) (dt_at dtX12_see 2 rfl) (show TT 0 = (0, 12) from rfl) rfl (by decide) wF_X12_105 rfl (Or.inl rfl) rfl rfl ?_
  obtain ⟨hu1, eu1⟩ : ∃ z, z = sI h 0 0 0 := ⟨_, rfl⟩
  rw [← eu1]
  obtain ⟨iu1, fu1, au1, ru1⟩ := sI_fx eu1
  have Gu1 := MG_0 Q0 eu1
  refine K_aload_n (dt_at dtX12_see 3 rfl) rfl rfl ?_
  refine K_iload_n (dt_at dtX12_see 4 rfl) rfl rfl ?_
  refine K_callV (M' := mX12_isPerson) (a := 0) (ci := 12) (As := [vi p]) (st := []) (dt_at dtX12_see 5 rfl) (sX12_isPerson_t (MD_np (MG_D0 Gu1)) hNp Gu1.2.2.2 (by omega)) (show TT 0 = (0, 12) from rfl) rfl wL_X12_375 vX12_isPerson rfl npX12_isPerson (by decide) (by decide) (Nat.le_of_ble_eq_true rfl) (by decide) (by decide) GK_E (fun v9 h9 hq => ?_) (fun E h9 hq => by cases hq.1)
  obtain ⟨e9, e8⟩ := hq
  cases e9
  rw [e8]
  show K mX12_see _ _ 0 0 10 [(0, vr 0), (1, vi p), (2, vi q), (3, vi d), (4, vi n)] [vi 1] hu1
  refine K_if_eq (tgt := 21) (dt_at dtX12_see 6 rfl) (by decide) (by first | assumption | exact ⟨by omega, by omega⟩) (fun c1 => absurd c1 (by omega)) (fun c1 => ?_)
  refine K_aload_n (dt_at dtX12_see 7 rfl) rfl rfl ?_
  refine K_iload_n (dt_at dtX12_see 8 rfl) rfl rfl ?_
  refine K_callV (M' := mX12_isThing) (a := 0) (ci := 12) (As := [vi q]) (st := []) (dt_at dtX12_see 9 rfl) (sX12_isThing_f (MD_nt (MG_D0 Gu1)) hNt Gu1.2.2.2 (by assumption) (by omega)) (show TT 0 = (0, 12) from rfl) rfl wL_X12_368 vX12_isThing rfl npX12_isThing (by decide) (by decide) (Nat.le_of_ble_eq_true rfl) (by decide) (by decide) GK_E (fun v9 hc2 hq => ?_) (fun E h9 hq => by cases hq.1)
  have hqq3 := hq
  obtain ⟨e9q3, e8q3⟩ := hqq3
  obtain ⟨iq3, fq3, aq3, rq3⟩ := sI_fx e8q3
  have Bq3 : FQ h hc2 := FQ_tr Gu1.2.1 (FQ_I e8q3 rfl Gu1.2.1.2.2.2.2)
  cases e9q3
  show K mX12_see _ _ 0 0 18 [(0, vr 0), (1, vi p), (2, vi q), (3, vi d), (4, vi n)] [vi 0] hc2
  refine K_if_ne (tgt := 23) (dt_at dtX12_see 10 rfl) (by decide) (by first | assumption | exact ⟨by omega, by omega⟩) (fun c2 => absurd c2 (by omega)) (fun c2 => ?_)
  refine K_iconst (dt_at dtX12_see 11 rfl) ?_
  exact K_iret (dt_at dtX12_see 12 rfl) rfl rfl (by decide) (by decide) ⟨rfl, Bq3, iq3⟩
set_option maxHeartbeats 4000000 in
set_option maxRecDepth 100000 in
theorem sX12_see_no {h : HP} {S : HS} {f : Int → Int} {C : AC} {N : SN} {im : Option SV} {tp : Int → Int} {nt : Nat} {rf : Int × Int × Int} {fl : Int} {p q d n : Int} (V : MV h (S, (f, C, N), im, tp, nt, rf, fl)) (R : rowOK S f) (hp : 0 ≤ p ∧ p < sNp S) (hqt : 0 ≤ q ∧ q < sNt S) (hd : i32 d) (hn : i32 n) (no : ¬ ((0 ≤ d ∧ d ≤ 30 ∧ 0 ≤ n ∧ n ≤ 9) ∧ N.1 < 8)) : SpecK mX12_see [vr 0, vi p, vi q, vi d, vi n] h (fun o h' => o = .inl (some (vi (-1))) ∧ MV h' (S, (f, C, N), im, tp, nt, cn32 rf 2, fl) ∧ FC h h' ∧ hI h' 0 0 = 0) := by
  refine Spec_of (by decide +kernel) (Nat.le_of_ble_eq_true rfl) ?_
  have Q0 := MV_ask V R
  have hB := Q0.1.1
  have hNt := hB.1
  have hNp := hB.2.1
  have hT := R.1
  have hW := hT.1
  have ms : mSe h 23 51 N := V.2.2.2.1.2.2
  have n8 := ms.2.1
  have e51 : hI h 0 51 = (N.1 : Int) := ms.1
  refine K_aload_n (dt_at dtX12_see 0 rfl) rfl rfl ?_
  refine K_iconst (dt_at dtX12_see 1 rfl) ?_
  refine K_putI (a := 0) (ci := 12) (k := 0) (dt_at dtX12_see 2 rfl) (show TT 0 = (0, 12) from rfl) rfl (by decide) wF_X12_105 rfl (Or.inl rfl) rfl rfl ?_
  obtain ⟨hu1, eu1⟩ : ∃ z, z = sI h 0 0 0 := ⟨_, rfl⟩
  rw [← eu1]
  obtain ⟨iu1, fu1, au1, ru1⟩ := sI_fx eu1
  have Gu1 := MG_0 Q0 eu1
  refine K_aload_n (dt_at dtX12_see 3 rfl) rfl rfl ?_
  refine K_iload_n (dt_at dtX12_see 4 rfl) rfl rfl ?_
  refine K_callV (M' := mX12_isPerson) (a := 0) (ci := 12) (As := [vi p]) (st := []) (dt_at dtX12_see 5 rfl) (sX12_isPerson_t (MD_np (MG_D0 Gu1)) hNp Gu1.2.2.2 (by omega)) (show TT 0 = (0, 12) from rfl) rfl wL_X12_375 vX12_isPerson rfl npX12_isPerson (by decide) (by decide) (Nat.le_of_ble_eq_true rfl) (by decide) (by decide) GK_E (fun v9 h9 hq => ?_) (fun E h9 hq => by cases hq.1)
  obtain ⟨e9, e8⟩ := hq
  cases e9
  rw [e8]
  show K mX12_see _ _ 0 0 10 [(0, vr 0), (1, vi p), (2, vi q), (3, vi d), (4, vi n)] [vi 1] hu1
  refine K_if_eq (tgt := 21) (dt_at dtX12_see 6 rfl) (by decide) (by first | assumption | exact ⟨by omega, by omega⟩) (fun c1 => absurd c1 (by omega)) (fun c1 => ?_)
  refine K_aload_n (dt_at dtX12_see 7 rfl) rfl rfl ?_
  refine K_iload_n (dt_at dtX12_see 8 rfl) rfl rfl ?_
  refine K_callV (M' := mX12_isThing) (a := 0) (ci := 12) (As := [vi q]) (st := []) (dt_at dtX12_see 9 rfl) (sX12_isThing_t (MD_nt (MG_D0 Gu1)) hNt Gu1.2.2.2 (by omega)) (show TT 0 = (0, 12) from rfl) rfl wL_X12_368 vX12_isThing rfl npX12_isThing (by decide) (by decide) (Nat.le_of_ble_eq_true rfl) (by decide) (by decide) GK_E (fun v9 h9 hq => ?_) (fun E h9 hq => by cases hq.1)
  obtain ⟨e9, e8⟩ := hq
  cases e9
  rw [e8]
  show K mX12_see _ _ 0 0 18 [(0, vr 0), (1, vi p), (2, vi q), (3, vi d), (4, vi n)] [vi 1] hu1
  refine K_if_ne (tgt := 23) (dt_at dtX12_see 10 rfl) (by decide) (by first | assumption | exact ⟨by omega, by omega⟩) (fun c2 => ?_) (fun c2 => absurd c2 (by omega))
  refine K_aload_n (dt_at dtX12_see 13 rfl) rfl rfl ?_
  refine K_get (a := 0) (ci := 12) (k := 51) (v := vi (N.1 : Int)) (dt_at dtX12_see 14 rfl) (show TT 0 = (0, 12) from rfl) rfl (by decide) wF_X12_280 (by show vi (hI hu1 0 51) = vi (N.1 : Int); rw [(fu1 0 51 (by omega)), e51]) ?_
  refine K_bipush (dt_at dtX12_see 15 rfl) (by decide) ?_
  refine K_icmp_eq (tgt := 53) (dt_at dtX12_see 16 rfl) (by decide) (by first | assumption | exact ⟨by omega, by omega⟩) (by first | assumption | exact ⟨by omega, by omega⟩) (fun c3 => ?_) (fun c3 => ?_)
  · refine K_aload_n (dt_at dtX12_see 27 rfl) rfl rfl ?_
    refine K_iconst (dt_at dtX12_see 28 rfl) ?_
    refine K_callV (M' := mX12_refuses) (a := 0) (ci := 12) (As := [vi 2]) (st := []) (dt_at dtX12_see 29 rfl) (sX12_refuses (n := 2) (by decide)) (show TT 0 = (0, 12) from rfl) rfl wL_X12_387 vX12_refuses rfl npX12_refuses (by decide) (by decide) (Nat.le_of_ble_eq_true rfl) (by decide) (by decide) GK_E (fun v9 hc2 hq => ?_) (fun E h9 hq => by cases hq.1)
    have hqq3 := hq
    obtain ⟨e9q3, e8q3⟩ := hqq3
    have Vq3 := MV_ref (MV_FQ V Gu1.2.1) 2 (by decide) e8q3
    have Cq3 : FC h hc2 := FC_tr (FC_FQ Gu1.2.1) (FC_A e8q3 (by decide))
    have tq3 : hI hc2 0 0 = 0 := by rw [(sA_fx e8q3).2.2.1]; exact Gu1.2.2.2
    cases e9q3
    show K mX12_see _ _ 0 0 58 [(0, vr 0), (1, vi p), (2, vi q), (3, vi d), (4, vi n)] [vi (-1)] hc2
    exact K_iret (dt_at dtX12_see 30 rfl) rfl rfl (by decide) (by decide) ⟨rfl, Vq3, Cq3, tq3⟩
  · refine K_iload_n (dt_at dtX12_see 17 rfl) rfl rfl ?_
    refine K_iconst (dt_at dtX12_see 18 rfl) ?_
    refine K_bipush (dt_at dtX12_see 19 rfl) (by decide) ?_
    refine K_callS (M' := mX12_within) (As := [vi d, vi 0, vi 30]) (st := []) (dt_at dtX12_see 20 rfl) (sX12_within (by first | assumption | exact ⟨by omega, by omega⟩) ⟨by omega, by omega⟩ ⟨by omega, by omega⟩) wL_X12_346 vX12_within rfl npX12_within (by decide) (by decide) (Nat.le_of_ble_eq_true rfl) (by decide) (by decide) GK_E (fun v9 h9 hq => ?_) (fun E h9 hq => by cases hq.1)
    obtain ⟨e9, e8⟩ := hq
    cases e9
    rw [e8]
    show K mX12_see _ _ 0 0 39 [(0, vr 0), (1, vi p), (2, vi q), (3, vi d), (4, vi n)] [vi (if 0 ≤ d ∧ d ≤ 30 then 1 else 0)] hu1
    by_cases z4 : 0 ≤ d ∧ d ≤ 30
    · rw [if_pos z4]
      refine K_if_eq (tgt := 53) (dt_at dtX12_see 21 rfl) (by decide) (by first | assumption | exact ⟨by omega, by omega⟩) (fun c5 => absurd c5 (by omega)) (fun c5 => ?_)
      refine K_iload (dt_at dtX12_see 22 rfl) rfl ?_
      refine K_iconst (dt_at dtX12_see 23 rfl) ?_
      refine K_bipush (dt_at dtX12_see 24 rfl) (by decide) ?_
      refine K_callS (M' := mX12_within) (As := [vi n, vi 0, vi 9]) (st := []) (dt_at dtX12_see 25 rfl) (sX12_within (by first | assumption | exact ⟨by omega, by omega⟩) ⟨by omega, by omega⟩ ⟨by omega, by omega⟩) wL_X12_346 vX12_within rfl npX12_within (by decide) (by decide) (Nat.le_of_ble_eq_true rfl) (by decide) (by decide) GK_E (fun v9 h9 hq => ?_) (fun E h9 hq => by cases hq.1)
      obtain ⟨e9, e8⟩ := hq
      cases e9
      rw [e8]
      show K mX12_see _ _ 0 0 50 [(0, vr 0), (1, vi p), (2, vi q), (3, vi d), (4, vi n)] [vi (if 0 ≤ n ∧ n ≤ 9 then 1 else 0)] hu1
      by_cases z6 : 0 ≤ n ∧ n ≤ 9
      · rw [if_pos z6]
        refine K_if_ne (tgt := 59) (dt_at dtX12_see 26 rfl) (by decide) (by first | assumption | exact ⟨by omega, by omega⟩) (fun c7 => ?_) (fun c7 => absurd c7 (by omega))
        refine K_aload_n (dt_at dtX12_see 31 rfl) rfl rfl ?_
        refine K_get (a := 0) (ci := 12) (k := 52) (v := vr 23) (dt_at dtX12_see 32 rfl) (show TT 0 = (0, 12) from rfl) rfl (by decide) wF_X12_87 rfl ?_
        refine K_iconst (dt_at dtX12_see 33 rfl) ?_
        refine K_aload_n (dt_at dtX12_see 34 rfl) rfl rfl ?_
        refine K_get (a := 0) (ci := 12) (k := 51) (v := vi (N.1 : Int)) (dt_at dtX12_see 35 rfl) (show TT 0 = (0, 12) from rfl) rfl (by decide) wF_X12_280 (by show vi (hI hu1 0 51) = vi (N.1 : Int); rw [(fu1 0 51 (by omega)), e51]) ?_
        refine K_imul (dt_at dtX12_see 36 rfl) ?_
        refine K_iload_n (dt_at dtX12_see 37 rfl) rfl rfl ?_
        refine K_iast (dt_at dtX12_see 38 rfl) (show TT 23 = (1, 32) from rfl) (by omega) (by omega) ?_
        obtain ⟨hq4, eq4⟩ : ∃ z, z = sA hu1 23 (4 * (N.1 : Int)) p := ⟨_, rfl⟩
        rw [← eq4]
        obtain ⟨aq4, fq4, iq4, rq4⟩ := sA_fx eq4
        rw [au1] at aq4
        refine K_aload_n (dt_at dtX12_see 39 rfl) rfl rfl ?_
        refine K_get (a := 0) (ci := 12) (k := 52) (v := vr 23) (dt_at dtX12_see 40 rfl) (show TT 0 = (0, 12) from rfl) rfl (by decide) wF_X12_87 rfl ?_
        refine K_iconst (dt_at dtX12_see 41 rfl) ?_
        refine K_aload_n (dt_at dtX12_see 42 rfl) rfl rfl ?_
        refine K_get (a := 0) (ci := 12) (k := 51) (v := vi (N.1 : Int)) (dt_at dtX12_see 43 rfl) (show TT 0 = (0, 12) from rfl) rfl (by decide) wF_X12_280 (by show vi (hI hq4 0 51) = vi (N.1 : Int); rw [iq4, (fu1 0 51 (by omega)), e51]) ?_
        refine K_imul (dt_at dtX12_see 44 rfl) ?_
        refine K_iconst (dt_at dtX12_see 45 rfl) ?_
        refine K_iadd (dt_at dtX12_see 46 rfl) ?_
        refine K_iload_n (dt_at dtX12_see 47 rfl) rfl rfl ?_
        refine K_iast (dt_at dtX12_see 48 rfl) (show TT 23 = (1, 32) from rfl) (by omega) (by omega) ?_
        obtain ⟨hq5, eq5⟩ : ∃ z, z = sA hq4 23 ((4 * (N.1 : Int)) + 1) q := ⟨_, rfl⟩
        rw [← eq5]
        obtain ⟨aq5, fq5, iq5, rq5⟩ := sA_fx eq5
        rw [aq4] at aq5
        refine K_aload_n (dt_at dtX12_see 49 rfl) rfl rfl ?_
        refine K_get (a := 0) (ci := 12) (k := 52) (v := vr 23) (dt_at dtX12_see 50 rfl) (show TT 0 = (0, 12) from rfl) rfl (by decide) wF_X12_87 rfl ?_
        refine K_iconst (dt_at dtX12_see 51 rfl) ?_
        refine K_aload_n (dt_at dtX12_see 52 rfl) rfl rfl ?_
        refine K_get (a := 0) (ci := 12) (k := 51) (v := vi (N.1 : Int)) (dt_at dtX12_see 53 rfl) (show TT 0 = (0, 12) from rfl) rfl (by decide) wF_X12_280 (by show vi (hI hq5 0 51) = vi (N.1 : Int); rw [iq5, iq4, (fu1 0 51 (by omega)), e51]) ?_
        refine K_imul (dt_at dtX12_see 54 rfl) ?_
        refine K_iconst (dt_at dtX12_see 55 rfl) ?_
        refine K_iadd (dt_at dtX12_see 56 rfl) ?_
        refine K_iload_n (dt_at dtX12_see 57 rfl) rfl rfl ?_
        refine K_iast (dt_at dtX12_see 58 rfl) (show TT 23 = (1, 32) from rfl) (by omega) (by omega) ?_
        obtain ⟨hq6, eq6⟩ : ∃ z, z = sA hq5 23 ((4 * (N.1 : Int)) + 2) d := ⟨_, rfl⟩
        rw [← eq6]
        obtain ⟨aq6, fq6, iq6, rq6⟩ := sA_fx eq6
        rw [aq5] at aq6
        refine K_aload_n (dt_at dtX12_see 59 rfl) rfl rfl ?_
        refine K_get (a := 0) (ci := 12) (k := 52) (v := vr 23) (dt_at dtX12_see 60 rfl) (show TT 0 = (0, 12) from rfl) rfl (by decide) wF_X12_87 rfl ?_
        refine K_iconst (dt_at dtX12_see 61 rfl) ?_
        refine K_aload_n (dt_at dtX12_see 62 rfl) rfl rfl ?_
        refine K_get (a := 0) (ci := 12) (k := 51) (v := vi (N.1 : Int)) (dt_at dtX12_see 63 rfl) (show TT 0 = (0, 12) from rfl) rfl (by decide) wF_X12_280 (by show vi (hI hq6 0 51) = vi (N.1 : Int); rw [iq6, iq5, iq4, (fu1 0 51 (by omega)), e51]) ?_
        refine K_imul (dt_at dtX12_see 64 rfl) ?_
        refine K_iconst (dt_at dtX12_see 65 rfl) ?_
        refine K_iadd (dt_at dtX12_see 66 rfl) ?_
        refine K_iload (dt_at dtX12_see 67 rfl) rfl ?_
        refine K_iast (dt_at dtX12_see 68 rfl) (show TT 23 = (1, 32) from rfl) (by omega) (by omega) ?_
        obtain ⟨hq7, eq7⟩ : ∃ z, z = sA hq6 23 ((4 * (N.1 : Int)) + 3) n := ⟨_, rfl⟩
        rw [← eq7]
        obtain ⟨aq7, fq7, iq7, rq7⟩ := sA_fx eq7
        rw [aq6] at aq7
        refine K_aload_n (dt_at dtX12_see 69 rfl) rfl rfl ?_
        refine K_dup (dt_at dtX12_see 70 rfl) rfl ?_
        refine K_get (a := 0) (ci := 12) (k := 51) (v := vi (N.1 : Int)) (dt_at dtX12_see 71 rfl) (show TT 0 = (0, 12) from rfl) rfl (by decide) wF_X12_280 (by show vi (hI hq7 0 51) = vi (N.1 : Int); rw [iq7, iq6, iq5, iq4, (fu1 0 51 (by omega)), e51]) ?_
        refine K_iconst (dt_at dtX12_see 72 rfl) ?_
        refine K_iadd (dt_at dtX12_see 73 rfl) ?_
        refine K_putI (a := 0) (ci := 12) (k := 51) (dt_at dtX12_see 74 rfl) (show TT 0 = (0, 12) from rfl) rfl (by decide) wF_X12_280 rfl (Or.inl rfl) rfl rfl ?_
        obtain ⟨hq8, eq8⟩ : ∃ z, z = sI hq7 0 51 ((N.1 : Int) + 1) := ⟨_, rfl⟩
        rw [← eq8]
        obtain ⟨iq8, fq8, aq8, rq8⟩ := sI_fx eq8
        refine K_aload_n (dt_at dtX12_see 75 rfl) rfl rfl ?_
        refine K_get (a := 0) (ci := 12) (k := 51) (v := vi ((N.1 : Int) + 1)) (dt_at dtX12_see 76 rfl) (show TT 0 = (0, 12) from rfl) rfl (by decide) wF_X12_280 (by show vi (hI hq8 0 51) = vi ((N.1 : Int) + 1); rw [iq8]) ?_
        exact (by omega : False).elim
      · rw [if_neg z6]
        refine K_if_ne (tgt := 59) (dt_at dtX12_see 26 rfl) (by decide) (by first | assumption | exact ⟨by omega, by omega⟩) (fun c8 => absurd c8 (by omega)) (fun c8 => ?_)
        refine K_aload_n (dt_at dtX12_see 27 rfl) rfl rfl ?_
        refine K_iconst (dt_at dtX12_see 28 rfl) ?_
        refine K_callV (M' := mX12_refuses) (a := 0) (ci := 12) (As := [vi 2]) (st := []) (dt_at dtX12_see 29 rfl) (sX12_refuses (n := 2) (by decide)) (show TT 0 = (0, 12) from rfl) rfl wL_X12_387 vX12_refuses rfl npX12_refuses (by decide) (by decide) (Nat.le_of_ble_eq_true rfl) (by decide) (by decide) GK_E (fun v9 hc9 hq => ?_) (fun E h9 hq => by cases hq.1)
        have hqq10 := hq
        obtain ⟨e9q10, e8q10⟩ := hqq10
        have Vq10 := MV_ref (MV_FQ V Gu1.2.1) 2 (by decide) e8q10
        have Cq10 : FC h hc9 := FC_tr (FC_FQ Gu1.2.1) (FC_A e8q10 (by decide))
        have tq10 : hI hc9 0 0 = 0 := by rw [(sA_fx e8q10).2.2.1]; exact Gu1.2.2.2
        cases e9q10
        show K mX12_see _ _ 0 0 58 [(0, vr 0), (1, vi p), (2, vi q), (3, vi d), (4, vi n)] [vi (-1)] hc9
        exact K_iret (dt_at dtX12_see 30 rfl) rfl rfl (by decide) (by decide) ⟨rfl, Vq10, Cq10, tq10⟩
    · rw [if_neg z4]
      refine K_if_eq (tgt := 53) (dt_at dtX12_see 21 rfl) (by decide) (by first | assumption | exact ⟨by omega, by omega⟩) (fun c9 => ?_) (fun c9 => absurd c9 (by omega))
      refine K_aload_n (dt_at dtX12_see 27 rfl) rfl rfl ?_
      refine K_iconst (dt_at dtX12_see 28 rfl) ?_
      refine K_callV (M' := mX12_refuses) (a := 0) (ci := 12) (As := [vi 2]) (st := []) (dt_at dtX12_see 29 rfl) (sX12_refuses (n := 2) (by decide)) (show TT 0 = (0, 12) from rfl) rfl wL_X12_387 vX12_refuses rfl npX12_refuses (by decide) (by decide) (Nat.le_of_ble_eq_true rfl) (by decide) (by decide) GK_E (fun v9 hc11 hq => ?_) (fun E h9 hq => by cases hq.1)
      have hqq12 := hq
      obtain ⟨e9q12, e8q12⟩ := hqq12
      have Vq12 := MV_ref (MV_FQ V Gu1.2.1) 2 (by decide) e8q12
      have Cq12 : FC h hc11 := FC_tr (FC_FQ Gu1.2.1) (FC_A e8q12 (by decide))
      have tq12 : hI hc11 0 0 = 0 := by rw [(sA_fx e8q12).2.2.1]; exact Gu1.2.2.2
      cases e9q12
      show K mX12_see _ _ 0 0 58 [(0, vr 0), (1, vi p), (2, vi q), (3, vi d), (4, vi n)] [vi (-1)] hc11
      exact K_iret (dt_at dtX12_see 30 rfl) rfl rfl (by decide) (by decide) ⟨rfl, Vq12, Cq12, tq12⟩
theorem MV_see {h h' : HP} {S : HS} {f : Int → Int} {C : AC} {N N' : SN} {im : Option SV} {tp : Int → Int} {nt : Nat} {rf : Int × Int × Int} {fl : Int} (m : MV h (S, (f, C, N), im, tp, nt, rf, fl)) (fa : ∀ a, a ≠ 23 → hA h' a = hA h a) (fi : ∀ k, k ≠ 0 → k ≠ 51 → hI h' 0 k = hI h 0 k) (hs : mSe h' 23 51 N') : MV h' (S, (f, C, N'), im, tp, nt, rf, fl) := by
  obtain ⟨m1, m2, m3, ⟨m4, m5, m6⟩, m7, m8⟩ := m
  exact ⟨MS_fr m1 (fi 1 (by omega) (by omega)) (fi 2 (by omega) (by omega)) (fi 3 (by omega) (by omega)) (fi 4 (by omega) (by omega)) (fa 1 (by omega)) (fa 2 (by omega)) (fa 3 (by omega)) (fa 4 (by omega)) (fa 5 (by omega)) (fa 6 (by omega)), by rw [fa 20 (by omega)]; exact m2, by rw [fi 49 (by omega) (by omega)]; exact m3, ⟨RV0_fr m4 (fun i _ => by rw [fa 18 (by omega)]), mAc_fr m5 (fi 44 (by omega) (by omega)) (fa 19 (by omega)), hs⟩, mIm_fr m7 (fi 56 (by omega) (by omega)) (fi 57 (by omega) (by omega)) (fi 58 (by omega) (by omega)) (fa 26 (by omega)) (fa 27 (by omega)) (fa 28 (by omega)), mTp_fr m8 (fi 12 (by omega) (by omega)) (fi 14 (by omega) (by omega)) (fa 7 (by omega)) (fa 8 (by omega))⟩
set_option maxHeartbeats 4000000 in
set_option maxRecDepth 100000 in
theorem sX12_see {h : HP} {S : HS} {f : Int → Int} {C : AC} {N : SN} {im : Option SV} {tp : Int → Int} {nt : Nat} {rf : Int × Int × Int} {fl : Int} {p q d n : Int} (V : MV h (S, (f, C, N), im, tp, nt, rf, fl)) (R : rowOK S f) (hp : 0 ≤ p ∧ p < sNp S) (hqt : 0 ≤ q ∧ q < sNt S) (hd : i32 d) (hn : i32 n) (ok : (0 ≤ d ∧ d ≤ 30 ∧ 0 ≤ n ∧ n ≤ 9) ∧ N.1 < 8) : SpecK mX12_see [vr 0, vi p, vi q, vi d, vi n] h (fun o h' => o = .inl (some (vi ((N.1 + 1 : Nat) : Int))) ∧ MV h' (S, (f, C, seP N p q d n), im, tp, nt, rf, fl) ∧ FC h h' ∧ hI h' 0 0 = 0) := by
  refine Spec_of (by decide +kernel) (Nat.le_of_ble_eq_true rfl) ?_
  have Q0 := MV_ask V R
  have hB := Q0.1.1
  have hNt := hB.1
  have hNp := hB.2.1
  have hT := R.1
  have hW := hT.1
  have ms : mSe h 23 51 N := V.2.2.2.1.2.2
  have n8 := ms.2.1
  have e51 : hI h 0 51 = (N.1 : Int) := ms.1
  refine K_aload_n (dt_at dtX12_see 0 rfl) rfl rfl ?_
  refine K_iconst (dt_at dtX12_see 1 rfl) ?_
  refine K_putI (a := 0) (ci := 12) (k := 0) (dt_at dtX12_see 2 rfl) (show TT 0 = (0, 12) from rfl) rfl (by decide) wF_X12_105 rfl (Or.inl rfl) rfl rfl ?_
  obtain ⟨hu1, eu1⟩ : ∃ z, z = sI h 0 0 0 := ⟨_, rfl⟩
  rw [← eu1]
  obtain ⟨iu1, fu1, au1, ru1⟩ := sI_fx eu1
  have Gu1 := MG_0 Q0 eu1
  refine K_aload_n (dt_at dtX12_see 3 rfl) rfl rfl ?_
  refine K_iload_n (dt_at dtX12_see 4 rfl) rfl rfl ?_
  refine K_callV (M' := mX12_isPerson) (a := 0) (ci := 12) (As := [vi p]) (st := []) (dt_at dtX12_see 5 rfl) (sX12_isPerson_t (MD_np (MG_D0 Gu1)) hNp Gu1.2.2.2 (by omega)) (show TT 0 = (0, 12) from rfl) rfl wL_X12_375 vX12_isPerson rfl npX12_isPerson (by decide) (by decide) (Nat.le_of_ble_eq_true rfl) (by decide) (by decide) GK_E (fun v9 h9 hq => ?_) (fun E h9 hq => by cases hq.1)
  obtain ⟨e9, e8⟩ := hq
  cases e9
  rw [e8]
  show K mX12_see _ _ 0 0 10 [(0, vr 0), (1, vi p), (2, vi q), (3, vi d), (4, vi n)] [vi 1] hu1
  refine K_if_eq (tgt := 21) (dt_at dtX12_see 6 rfl) (by decide) (by first | assumption | exact ⟨by omega, by omega⟩) (fun c1 => absurd c1 (by omega)) (fun c1 => ?_)
  refine K_aload_n (dt_at dtX12_see 7 rfl) rfl rfl ?_
  refine K_iload_n (dt_at dtX12_see 8 rfl) rfl rfl ?_
  refine K_callV (M' := mX12_isThing) (a := 0) (ci := 12) (As := [vi q]) (st := []) (dt_at dtX12_see 9 rfl) (sX12_isThing_t (MD_nt (MG_D0 Gu1)) hNt Gu1.2.2.2 (by omega)) (show TT 0 = (0, 12) from rfl) rfl wL_X12_368 vX12_isThing rfl npX12_isThing (by decide) (by decide) (Nat.le_of_ble_eq_true rfl) (by decide) (by decide) GK_E (fun v9 h9 hq => ?_) (fun E h9 hq => by cases hq.1)
  obtain ⟨e9, e8⟩ := hq
  cases e9
  rw [e8]
  show K mX12_see _ _ 0 0 18 [(0, vr 0), (1, vi p), (2, vi q), (3, vi d), (4, vi n)] [vi 1] hu1
  refine K_if_ne (tgt := 23) (dt_at dtX12_see 10 rfl) (by decide) (by first | assumption | exact ⟨by omega, by omega⟩) (fun c2 => ?_) (fun c2 => absurd c2 (by omega))
  refine K_aload_n (dt_at dtX12_see 13 rfl) rfl rfl ?_
  refine K_get (a := 0) (ci := 12) (k := 51) (v := vi (N.1 : Int)) (dt_at dtX12_see 14 rfl) (show TT 0 = (0, 12) from rfl) rfl (by decide) wF_X12_280 (by show vi (hI hu1 0 51) = vi (N.1 : Int); rw [(fu1 0 51 (by omega)), e51]) ?_
  refine K_bipush (dt_at dtX12_see 15 rfl) (by decide) ?_
  refine K_icmp_eq (tgt := 53) (dt_at dtX12_see 16 rfl) (by decide) (by first | assumption | exact ⟨by omega, by omega⟩) (by first | assumption | exact ⟨by omega, by omega⟩) (fun c3 => ?_) (fun c3 => ?_)
  · refine K_aload_n (dt_at dtX12_see 27 rfl) rfl rfl ?_
    refine K_iconst (dt_at dtX12_see 28 rfl) ?_
    exact (by omega : False).elim
  · refine K_iload_n (dt_at dtX12_see 17 rfl) rfl rfl ?_
    refine K_iconst (dt_at dtX12_see 18 rfl) ?_
    refine K_bipush (dt_at dtX12_see 19 rfl) (by decide) ?_
    refine K_callS (M' := mX12_within) (As := [vi d, vi 0, vi 30]) (st := []) (dt_at dtX12_see 20 rfl) (sX12_within (by first | assumption | exact ⟨by omega, by omega⟩) ⟨by omega, by omega⟩ ⟨by omega, by omega⟩) wL_X12_346 vX12_within rfl npX12_within (by decide) (by decide) (Nat.le_of_ble_eq_true rfl) (by decide) (by decide) GK_E (fun v9 h9 hq => ?_) (fun E h9 hq => by cases hq.1)
    obtain ⟨e9, e8⟩ := hq
    cases e9
    rw [e8]
    show K mX12_see _ _ 0 0 39 [(0, vr 0), (1, vi p), (2, vi q), (3, vi d), (4, vi n)] [vi (if 0 ≤ d ∧ d ≤ 30 then 1 else 0)] hu1
    by_cases z4 : 0 ≤ d ∧ d ≤ 30
    · rw [if_pos z4]
      refine K_if_eq (tgt := 53) (dt_at dtX12_see 21 rfl) (by decide) (by first | assumption | exact ⟨by omega, by omega⟩) (fun c5 => absurd c5 (by omega)) (fun c5 => ?_)
      refine K_iload (dt_at dtX12_see 22 rfl) rfl ?_
      refine K_iconst (dt_at dtX12_see 23 rfl) ?_
      refine K_bipush (dt_at dtX12_see 24 rfl) (by decide) ?_
      refine K_callS (M' := mX12_within) (As := [vi n, vi 0, vi 9]) (st := []) (dt_at dtX12_see 25 rfl) (sX12_within (by first | assumption | exact ⟨by omega, by omega⟩) ⟨by omega, by omega⟩ ⟨by omega, by omega⟩) wL_X12_346 vX12_within rfl npX12_within (by decide) (by decide) (Nat.le_of_ble_eq_true rfl) (by decide) (by decide) GK_E (fun v9 h9 hq => ?_) (fun E h9 hq => by cases hq.1)
      obtain ⟨e9, e8⟩ := hq
      cases e9
      rw [e8]
      show K mX12_see _ _ 0 0 50 [(0, vr 0), (1, vi p), (2, vi q), (3, vi d), (4, vi n)] [vi (if 0 ≤ n ∧ n ≤ 9 then 1 else 0)] hu1
      by_cases z6 : 0 ≤ n ∧ n ≤ 9
      · rw [if_pos z6]
        refine K_if_ne (tgt := 59) (dt_at dtX12_see 26 rfl) (by decide) (by first | assumption | exact ⟨by omega, by omega⟩) (fun c7 => ?_) (fun c7 => absurd c7 (by omega))
        refine K_aload_n (dt_at dtX12_see 31 rfl) rfl rfl ?_
        refine K_get (a := 0) (ci := 12) (k := 52) (v := vr 23) (dt_at dtX12_see 32 rfl) (show TT 0 = (0, 12) from rfl) rfl (by decide) wF_X12_87 rfl ?_
        refine K_iconst (dt_at dtX12_see 33 rfl) ?_
        refine K_aload_n (dt_at dtX12_see 34 rfl) rfl rfl ?_
        refine K_get (a := 0) (ci := 12) (k := 51) (v := vi (N.1 : Int)) (dt_at dtX12_see 35 rfl) (show TT 0 = (0, 12) from rfl) rfl (by decide) wF_X12_280 (by show vi (hI hu1 0 51) = vi (N.1 : Int); rw [(fu1 0 51 (by omega)), e51]) ?_
        refine K_imul (dt_at dtX12_see 36 rfl) ?_
        refine K_iload_n (dt_at dtX12_see 37 rfl) rfl rfl ?_
        refine K_iast (dt_at dtX12_see 38 rfl) (show TT 23 = (1, 32) from rfl) (by omega) (by omega) ?_
        obtain ⟨hq2, eq2⟩ : ∃ z, z = sA hu1 23 (4 * (N.1 : Int)) p := ⟨_, rfl⟩
        rw [← eq2]
        obtain ⟨aq2, fq2, iq2, rq2⟩ := sA_fx eq2
        rw [au1] at aq2
        refine K_aload_n (dt_at dtX12_see 39 rfl) rfl rfl ?_
        refine K_get (a := 0) (ci := 12) (k := 52) (v := vr 23) (dt_at dtX12_see 40 rfl) (show TT 0 = (0, 12) from rfl) rfl (by decide) wF_X12_87 rfl ?_
        refine K_iconst (dt_at dtX12_see 41 rfl) ?_
        refine K_aload_n (dt_at dtX12_see 42 rfl) rfl rfl ?_
        refine K_get (a := 0) (ci := 12) (k := 51) (v := vi (N.1 : Int)) (dt_at dtX12_see 43 rfl) (show TT 0 = (0, 12) from rfl) rfl (by decide) wF_X12_280 (by show vi (hI hq2 0 51) = vi (N.1 : Int); rw [iq2, (fu1 0 51 (by omega)), e51]) ?_
        refine K_imul (dt_at dtX12_see 44 rfl) ?_
        refine K_iconst (dt_at dtX12_see 45 rfl) ?_
        refine K_iadd (dt_at dtX12_see 46 rfl) ?_
        refine K_iload_n (dt_at dtX12_see 47 rfl) rfl rfl ?_
        refine K_iast (dt_at dtX12_see 48 rfl) (show TT 23 = (1, 32) from rfl) (by omega) (by omega) ?_
        obtain ⟨hq3, eq3⟩ : ∃ z, z = sA hq2 23 ((4 * (N.1 : Int)) + 1) q := ⟨_, rfl⟩
        rw [← eq3]
        obtain ⟨aq3, fq3, iq3, rq3⟩ := sA_fx eq3
        rw [aq2] at aq3
        refine K_aload_n (dt_at dtX12_see 49 rfl) rfl rfl ?_
        refine K_get (a := 0) (ci := 12) (k := 52) (v := vr 23) (dt_at dtX12_see 50 rfl) (show TT 0 = (0, 12) from rfl) rfl (by decide) wF_X12_87 rfl ?_
        refine K_iconst (dt_at dtX12_see 51 rfl) ?_
        refine K_aload_n (dt_at dtX12_see 52 rfl) rfl rfl ?_
        refine K_get (a := 0) (ci := 12) (k := 51) (v := vi (N.1 : Int)) (dt_at dtX12_see 53 rfl) (show TT 0 = (0, 12) from rfl) rfl (by decide) wF_X12_280 (by show vi (hI hq3 0 51) = vi (N.1 : Int); rw [iq3, iq2, (fu1 0 51 (by omega)), e51]) ?_
        refine K_imul (dt_at dtX12_see 54 rfl) ?_
        refine K_iconst (dt_at dtX12_see 55 rfl) ?_
        refine K_iadd (dt_at dtX12_see 56 rfl) ?_
        refine K_iload_n (dt_at dtX12_see 57 rfl) rfl rfl ?_
        refine K_iast (dt_at dtX12_see 58 rfl) (show TT 23 = (1, 32) from rfl) (by omega) (by omega) ?_
        obtain ⟨hq4, eq4⟩ : ∃ z, z = sA hq3 23 ((4 * (N.1 : Int)) + 2) d := ⟨_, rfl⟩
        rw [← eq4]
        obtain ⟨aq4, fq4, iq4, rq4⟩ := sA_fx eq4
        rw [aq3] at aq4
        refine K_aload_n (dt_at dtX12_see 59 rfl) rfl rfl ?_
        refine K_get (a := 0) (ci := 12) (k := 52) (v := vr 23) (dt_at dtX12_see 60 rfl) (show TT 0 = (0, 12) from rfl) rfl (by decide) wF_X12_87 rfl ?_
        refine K_iconst (dt_at dtX12_see 61 rfl) ?_
        refine K_aload_n (dt_at dtX12_see 62 rfl) rfl rfl ?_
        refine K_get (a := 0) (ci := 12) (k := 51) (v := vi (N.1 : Int)) (dt_at dtX12_see 63 rfl) (show TT 0 = (0, 12) from rfl) rfl (by decide) wF_X12_280 (by show vi (hI hq4 0 51) = vi (N.1 : Int); rw [iq4, iq3, iq2, (fu1 0 51 (by omega)), e51]) ?_
        refine K_imul (dt_at dtX12_see 64 rfl) ?_
        refine K_iconst (dt_at dtX12_see 65 rfl) ?_
        refine K_iadd (dt_at dtX12_see 66 rfl) ?_
        refine K_iload (dt_at dtX12_see 67 rfl) rfl ?_
        refine K_iast (dt_at dtX12_see 68 rfl) (show TT 23 = (1, 32) from rfl) (by omega) (by omega) ?_
        obtain ⟨hq5, eq5⟩ : ∃ z, z = sA hq4 23 ((4 * (N.1 : Int)) + 3) n := ⟨_, rfl⟩
        rw [← eq5]
        obtain ⟨aq5, fq5, iq5, rq5⟩ := sA_fx eq5
        rw [aq4] at aq5
        refine K_aload_n (dt_at dtX12_see 69 rfl) rfl rfl ?_
        refine K_dup (dt_at dtX12_see 70 rfl) rfl ?_
        refine K_get (a := 0) (ci := 12) (k := 51) (v := vi (N.1 : Int)) (dt_at dtX12_see 71 rfl) (show TT 0 = (0, 12) from rfl) rfl (by decide) wF_X12_280 (by show vi (hI hq5 0 51) = vi (N.1 : Int); rw [iq5, iq4, iq3, iq2, (fu1 0 51 (by omega)), e51]) ?_
        refine K_iconst (dt_at dtX12_see 72 rfl) ?_
        refine K_iadd (dt_at dtX12_see 73 rfl) ?_
        refine K_putI (a := 0) (ci := 12) (k := 51) (dt_at dtX12_see 74 rfl) (show TT 0 = (0, 12) from rfl) rfl (by decide) wF_X12_280 rfl (Or.inl rfl) rfl rfl ?_
        obtain ⟨hq6, eq6⟩ : ∃ z, z = sI hq5 0 51 ((N.1 : Int) + 1) := ⟨_, rfl⟩
        rw [← eq6]
        obtain ⟨iq6, fq6, aq6, rq6⟩ := sI_fx eq6
        refine K_aload_n (dt_at dtX12_see 75 rfl) rfl rfl ?_
        refine K_get (a := 0) (ci := 12) (k := 51) (v := vi ((N.1 : Int) + 1)) (dt_at dtX12_see 76 rfl) (show TT 0 = (0, 12) from rfl) rfl (by decide) wF_X12_280 (by show vi (hI hq6 0 51) = vi ((N.1 : Int) + 1); rw [iq6]) ?_
        have eA : hA hq6 23 = (upI (upI (upI (upI (hA h 23) (4 * (N.1 : Int)) p) ((4 * (N.1 : Int)) + 1) q) ((4 * (N.1 : Int)) + 2) d) ((4 * (N.1 : Int)) + 3) n) := by rw [aq6, aq5]
        have fa9 : ∀ a, a ≠ 23 → hA hq6 a = hA h a := fun a_ z_ => by rw [aq6, (fq5 a_ z_), (fq4 a_ z_), (fq3 a_ z_), (fq2 a_ z_), au1]
        have fi9 : ∀ a k, (a ≠ 0 ∨ (k ≠ 0 ∧ k ≠ 51)) → hI hq6 a k = hI h a k := fun a_ k_ z_ => by rw [(fq6 a_ k_ (by omega)), iq5, iq4, iq3, iq2, (fu1 a_ k_ (by omega))]
        have fr9 : hR hq6 = hR h := by rw [rq6, rq5, rq4, rq3, rq2, ru1]
        have i51 : hI hq6 0 51 = (N.1 : Int) + 1 := by rw [iq6]
        have i00 : hI hq6 0 0 = 0 := by rw [(fq6 0 0 (by omega)), iq5, iq4, iq3, iq2, Gu1.2.2.2]
        have sn : mSe hq6 23 51 (seP N p q d n) := by
          refine ⟨by rw [i51]; show _ = ((N.1 + 1 : Nat) : Int); omega, by show N.1 + 1 ≤ 8; omega, fun i hi => ?_⟩
          have hi : i < N.1 + 1 := hi
          rw [eA]
          by_cases z : i = N.1
          · subst z; refine ⟨?_, ?_, ?_, ?_⟩ <;> (unfold upI; simp [seP]; try omega)
          · obtain ⟨o1, o2, o3, o4⟩ := ms.2.2 i (by omega)
            refine ⟨?_, ?_, ?_, ?_⟩ <;> (rw [upI_n (by omega), upI_n (by omega), upI_n (by omega), upI_n (by omega)]; simp only [seP, if_neg z]; assumption)
        exact K_iret (dt_at dtX12_see 77 rfl) rfl rfl (by decide) (by decide) ⟨by rw [show (N.1 : Int) + 1 = ((N.1 + 1 : Nat) : Int) by omega], MV_see V fa9 (fun k_ z1 z2 => fi9 0 k_ (Or.inr ⟨z1, z2⟩)) sn, ⟨fun a_ z_ => fa9 a_ (by omega), fun a_ k_ z_ => fi9 a_ k_ (Or.inl z_), fr9⟩, i00⟩
      · rw [if_neg z6]
        refine K_if_ne (tgt := 59) (dt_at dtX12_see 26 rfl) (by decide) (by first | assumption | exact ⟨by omega, by omega⟩) (fun c8 => absurd c8 (by omega)) (fun c8 => ?_)
        refine K_aload_n (dt_at dtX12_see 27 rfl) rfl rfl ?_
        refine K_iconst (dt_at dtX12_see 28 rfl) ?_
        exact (by omega : False).elim
    · rw [if_neg z4]
      refine K_if_eq (tgt := 53) (dt_at dtX12_see 21 rfl) (by decide) (by first | assumption | exact ⟨by omega, by omega⟩) (fun c9 => ?_) (fun c9 => absurd c9 (by omega))
      refine K_aload_n (dt_at dtX12_see 27 rfl) rfl rfl ?_
      refine K_iconst (dt_at dtX12_see 28 rfl) ?_
      exact (by omega : False).elim
def mX12_forget : MI := (yX12_forget, cX12_forget, 1, none, rmK 1 0)
def tX12_forget : List (Nat × Instr × Nat) := [(0, .aload_n 0, 1), (1, .iconst 0, 1), (2, .putfield 105, 3), (5, .aload_n 0, 1), (6, .iconst 0, 1), (7, .putfield 280, 3), (10, .return_, 1)]
theorem dtX12_forget : tX12_forget.all (fun q => decide (decode cX12_forget q.1 = .ok (q.2.1, q.2.2))) = true := by decide +kernel
theorem npX12_forget : (parseMethodDescriptor (mY mX12_forget).desc).map (fun d => d.parameters.length) = some 0 := by decide +kernel
theorem vX12_forget : mV mX12_forget := ⟨wI_X12_forget, wS_X12_forget, wN_X12, wC_X12_forget, by decide +kernel, by decide +kernel⟩
set_option maxHeartbeats 4000000 in
set_option maxRecDepth 100000 in
theorem sX12_forget {h : HP} {S : HS} {f : Int → Int} {C : AC} {N : SN} {im : Option SV} {tp : Int → Int} {nt : Nat} {rf : Int × Int × Int} {fl : Int} (V : MV h (S, (f, C, N), im, tp, nt, rf, fl)) (R : rowOK S f) : SpecK mX12_forget [vr 0] h (fun o h' => o = .inl (none) ∧ MV h' (S, (f, C, (0, N.2)), im, tp, nt, rf, fl) ∧ FC h h' ∧ hI h' 0 0 = 0) := by
  refine Spec_of (by decide +kernel) (Nat.le_of_ble_eq_true rfl) ?_
  have Q0 := MV_ask V R
  have hB := Q0.1.1
  have hNt := hB.1
  have hNp := hB.2.1
  have hT := R.1
  have hW := hT.1
  refine K_aload_n (dt_at dtX12_forget 0 rfl) rfl rfl ?_
  refine K_iconst (dt_at dtX12_forget 1 rfl) ?_
  refine K_putI (a := 0) (ci := 12) (k := 0) (dt_at dtX12_forget 2 rfl) (show TT 0 = (0, 12) from rfl) rfl (by decide) wF_X12_105 rfl (Or.inl rfl) rfl rfl ?_
  obtain ⟨hu1, eu1⟩ : ∃ z, z = sI h 0 0 0 := ⟨_, rfl⟩
  rw [← eu1]
  obtain ⟨iu1, fu1, au1, ru1⟩ := sI_fx eu1
  have Gu1 := MG_0 Q0 eu1
  refine K_aload_n (dt_at dtX12_forget 3 rfl) rfl rfl ?_
  refine K_iconst (dt_at dtX12_forget 4 rfl) ?_
  refine K_putI (a := 0) (ci := 12) (k := 51) (dt_at dtX12_forget 5 rfl) (show TT 0 = (0, 12) from rfl) rfl (by decide) wF_X12_280 rfl (Or.inl rfl) rfl rfl ?_
  obtain ⟨hq2, eq2⟩ : ∃ z, z = sI hu1 0 51 0 := ⟨_, rfl⟩
  rw [← eq2]
  obtain ⟨iq2, fq2, aq2, rq2⟩ := sI_fx eq2
  exact K_vret (dt_at dtX12_forget 6 rfl) rfl (by decide) (by decide) ⟨rfl, MV_see V (fun a_ _ => by rw [aq2, au1]) (fun k_ z1 z2 => by rw [fq2 0 k_ (by omega), fu1 0 k_ (by omega)]) ⟨iq2, Nat.zero_le 8, fun i hi => absurd hi (Nat.not_lt_zero i)⟩, ⟨fun a_ _ => by rw [aq2, au1], fun a_ k_ z_ => by rw [fq2 a_ k_ (Or.inl z_), fu1 a_ k_ (Or.inl z_)], by rw [rq2, ru1]⟩, by rw [fq2 0 0 (by omega)]; exact Gu1.2.2.2⟩
