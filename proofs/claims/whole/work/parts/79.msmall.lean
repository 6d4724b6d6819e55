def mX12_isLetter : MI := (yX12_isLetter, cX12_isLetter, 1, (some .boolean), rmK 1 0)
def tX12_isLetter : List (Nat × Instr × Nat) := [(0, .iload_n 0, 1), (1, .bipush 97, 2), (3, .if_icmp .lt 13, 3), (6, .iload_n 0, 1), (7, .bipush 122, 2), (9, .if_icmp .gt 7, 3), (12, .iconst 1, 1), (13, .goto 4, 3), (16, .iconst 0, 1), (17, .ireturn, 1)]
theorem dtX12_isLetter : tX12_isLetter.all (fun q => decide (decode cX12_isLetter q.1 = .ok (q.2.1, q.2.2))) = true := by decide +kernel
theorem npX12_isLetter : (parseMethodDescriptor (mY mX12_isLetter).desc).map (fun d => d.parameters.length) = some 1 := by decide +kernel
theorem vX12_isLetter : mS mX12_isLetter := ⟨wT_X12_isLetter, wN_X12, wC_X12_isLetter, by decide +kernel, by decide +kernel⟩
set_option maxHeartbeats 4000000 in
set_option maxRecDepth 100000 in
theorem sX12_isLetter {h : HP} {c : Int} (hc : i32 c) : SpecK mX12_isLetter [vi c] h (fun o h' => o = .inl (some (vi (if 97 ≤ c ∧ c ≤ 122 then 1 else 0))) ∧ h' = h) := by
  refine Spec_of (by decide +kernel) (Nat.le_of_ble_eq_true rfl) ?_
  refine K_iload_n (dt_at dtX12_isLetter 0 rfl) rfl rfl ?_
  refine K_bipush (dt_at dtX12_isLetter 1 rfl) (by decide) ?_
  refine K_icmp_lt (tgt := 16) (dt_at dtX12_isLetter 2 rfl) (by decide) hc (by first | assumption | exact ⟨by omega, by omega⟩) (fun c1 => ?_) (fun c1 => ?_)
  · refine K_iconst (dt_at dtX12_isLetter 8 rfl) ?_
    exact K_iret (dt_at dtX12_isLetter 9 rfl) rfl (by decide) (by decide) (by decide) ⟨by rw [if_neg (by omega)], rfl⟩
  · refine K_iload_n (dt_at dtX12_isLetter 3 rfl) rfl rfl ?_
    refine K_bipush (dt_at dtX12_isLetter 4 rfl) (by decide) ?_
    refine K_icmp_gt (tgt := 16) (dt_at dtX12_isLetter 5 rfl) (by decide) hc (by first | assumption | exact ⟨by omega, by omega⟩) (fun c2 => ?_) (fun c2 => ?_)
    · refine K_iconst (dt_at dtX12_isLetter 8 rfl) ?_
      exact K_iret (dt_at dtX12_isLetter 9 rfl) rfl (by decide) (by decide) (by decide) ⟨by rw [if_neg (by omega)], rfl⟩
    · refine K_iconst (dt_at dtX12_isLetter 6 rfl) ?_
      refine K_goto (tgt := 17) (dt_at dtX12_isLetter 7 rfl) (by decide) ?_
      exact K_iret (dt_at dtX12_isLetter 9 rfl) rfl (by decide) (by decide) (by decide) ⟨by rw [if_pos (by omega)], rfl⟩
def mX12_isDigit : MI := (yX12_isDigit, cX12_isDigit, 1, (some .boolean), rmK 1 0)
def tX12_isDigit : List (Nat × Instr × Nat) := [(0, .iload_n 0, 1), (1, .bipush 48, 2), (3, .if_icmp .lt 13, 3), (6, .iload_n 0, 1), (7, .bipush 57, 2), (9, .if_icmp .gt 7, 3), (12, .iconst 1, 1), (13, .goto 4, 3), (16, .iconst 0, 1), (17, .ireturn, 1)]
theorem dtX12_isDigit : tX12_isDigit.all (fun q => decide (decode cX12_isDigit q.1 = .ok (q.2.1, q.2.2))) = true := by decide +kernel
theorem npX12_isDigit : (parseMethodDescriptor (mY mX12_isDigit).desc).map (fun d => d.parameters.length) = some 1 := by decide +kernel
theorem vX12_isDigit : mS mX12_isDigit := ⟨wT_X12_isDigit, wN_X12, wC_X12_isDigit, by decide +kernel, by decide +kernel⟩
set_option maxHeartbeats 4000000 in
set_option maxRecDepth 100000 in
theorem sX12_isDigit {h : HP} {c : Int} (hc : i32 c) : SpecK mX12_isDigit [vi c] h (fun o h' => o = .inl (some (vi (if 48 ≤ c ∧ c ≤ 57 then 1 else 0))) ∧ h' = h) := by
  refine Spec_of (by decide +kernel) (Nat.le_of_ble_eq_true rfl) ?_
  refine K_iload_n (dt_at dtX12_isDigit 0 rfl) rfl rfl ?_
  refine K_bipush (dt_at dtX12_isDigit 1 rfl) (by decide) ?_
  refine K_icmp_lt (tgt := 16) (dt_at dtX12_isDigit 2 rfl) (by decide) hc (by first | assumption | exact ⟨by omega, by omega⟩) (fun c1 => ?_) (fun c1 => ?_)
  · refine K_iconst (dt_at dtX12_isDigit 8 rfl) ?_
    exact K_iret (dt_at dtX12_isDigit 9 rfl) rfl (by decide) (by decide) (by decide) ⟨by rw [if_neg (by omega)], rfl⟩
  · refine K_iload_n (dt_at dtX12_isDigit 3 rfl) rfl rfl ?_
    refine K_bipush (dt_at dtX12_isDigit 4 rfl) (by decide) ?_
    refine K_icmp_gt (tgt := 16) (dt_at dtX12_isDigit 5 rfl) (by decide) hc (by first | assumption | exact ⟨by omega, by omega⟩) (fun c2 => ?_) (fun c2 => ?_)
    · refine K_iconst (dt_at dtX12_isDigit 8 rfl) ?_
      exact K_iret (dt_at dtX12_isDigit 9 rfl) rfl (by decide) (by decide) (by decide) ⟨by rw [if_neg (by omega)], rfl⟩
    · refine K_iconst (dt_at dtX12_isDigit 6 rfl) ?_
      refine K_goto (tgt := 17) (dt_at dtX12_isDigit 7 rfl) (by decide) ?_
      exact K_iret (dt_at dtX12_isDigit 9 rfl) rfl (by decide) (by decide) (by decide) ⟨by rw [if_pos (by omega)], rfl⟩
def mX12_isGood : MI := (yX12_isGood, cX12_isGood, 1, (some .boolean), rmK 1 0)
def tX12_isGood : List (Nat × Instr × Nat) := [(0, .aload_n 0, 1), (1, .getfield 161, 3), (4, .ifCond .ne 7, 3), (7, .iconst 1, 1), (8, .goto 4, 3), (11, .iconst 0, 1), (12, .ireturn, 1)]
theorem dtX12_isGood : tX12_isGood.all (fun q => decide (decode cX12_isGood q.1 = .ok (q.2.1, q.2.2))) = true := by decide +kernel
theorem npX12_isGood : (parseMethodDescriptor (mY mX12_isGood).desc).map (fun d => d.parameters.length) = some 0 := by decide +kernel
theorem vX12_isGood : mV mX12_isGood := ⟨wI_X12_isGood, wS_X12_isGood, wN_X12, wC_X12_isGood, by decide +kernel, by decide +kernel⟩
set_option maxHeartbeats 4000000 in
set_option maxRecDepth 100000 in
theorem sX12_isGood {h : HP} {k : Int} (e : hI h 0 13 = k) (hk9 : 0 ≤ k ∧ k ≤ 5) : SpecK mX12_isGood [vr 0] h (fun o h' => o = .inl (some (vi (if k = 0 then 1 else 0))) ∧ h' = h) := by
  refine Spec_of (by decide +kernel) (Nat.le_of_ble_eq_true rfl) ?_
  refine K_aload_n (dt_at dtX12_isGood 0 rfl) rfl rfl ?_
  refine K_get (a := 0) (ci := 12) (k := 13) (v := vi k) (dt_at dtX12_isGood 1 rfl) (show TT 0 = (0, 12) from rfl) rfl (by decide) wF_X12_161 (by show vi (hI h 0 13) = vi k; rw [e]) ?_
  refine K_if_ne (tgt := 11) (dt_at dtX12_isGood 2 rfl) (by decide) (by first | assumption | exact ⟨by omega, by omega⟩) (fun c1 => ?_) (fun c1 => ?_)
  · refine K_iconst (dt_at dtX12_isGood 5 rfl) ?_
    exact K_iret (dt_at dtX12_isGood 6 rfl) rfl (by decide) (by decide) (by decide) ⟨by rw [if_neg (by omega)], rfl⟩
  · refine K_iconst (dt_at dtX12_isGood 3 rfl) ?_
    refine K_goto (tgt := 12) (dt_at dtX12_isGood 4 rfl) (by decide) ?_
    exact K_iret (dt_at dtX12_isGood 6 rfl) rfl (by decide) (by decide) (by decide) ⟨by rw [if_pos (by omega)], rfl⟩
def mX12_byteAt : MI := (yX12_byteAt, cX12_byteAt, 2, (some .int), rmK 1 0)
def tX12_byteAt : List (Nat × Instr × Nat) := [(0, .iload_n 1, 1), (1, .aload_n 0, 1), (2, .getfield 115, 3), (5, .if_icmp .ge 12, 3), (8, .aload_n 0, 1), (9, .getfield 35, 3), (12, .iload_n 1, 1), (13, .iaload, 1), (14, .goto 4, 3), (17, .iconst 0, 1), (18, .ireturn, 1)]
theorem dtX12_byteAt : tX12_byteAt.all (fun q => decide (decode cX12_byteAt q.1 = .ok (q.2.1, q.2.2))) = true := by decide +kernel
theorem npX12_byteAt : (parseMethodDescriptor (mY mX12_byteAt).desc).map (fun d => d.parameters.length) = some 1 := by decide +kernel
theorem vX12_byteAt : mV mX12_byteAt := ⟨wI_X12_byteAt, wS_X12_byteAt, wN_X12, wC_X12_byteAt, by decide +kernel, by decide +kernel⟩
set_option maxHeartbeats 4000000 in
set_option maxRecDepth 100000 in
theorem sX12_byteAt {h : HP} {k n : Nat} (e : hI h 0 16 = (n : Int)) (hn : n ≤ 700) (hk9 : k ≤ 700) : SpecK mX12_byteAt [vr 0, vi (k : Int)] h (fun o h' => o = .inl (some (vi (if k < n then hA h 7 (k : Int) else 0))) ∧ h' = h) := by
  refine Spec_of (by decide +kernel) (Nat.le_of_ble_eq_true rfl) ?_
  refine K_iload_n (dt_at dtX12_byteAt 0 rfl) rfl rfl ?_
  refine K_aload_n (dt_at dtX12_byteAt 1 rfl) rfl rfl ?_
  refine K_get (a := 0) (ci := 12) (k := 16) (v := vi (n : Int)) (dt_at dtX12_byteAt 2 rfl) (show TT 0 = (0, 12) from rfl) rfl (by decide) wF_X12_115 (by show vi (hI h 0 16) = vi (n : Int); rw [e]) ?_
  refine K_icmp_ge (tgt := 17) (dt_at dtX12_byteAt 3 rfl) (by decide) (by first | assumption | exact ⟨by omega, by omega⟩) (by first | assumption | exact ⟨by omega, by omega⟩) (fun c1 => ?_) (fun c1 => ?_)
  · refine K_iconst (dt_at dtX12_byteAt 9 rfl) ?_
    exact K_iret (dt_at dtX12_byteAt 10 rfl) rfl rfl (by decide) (by decide) ⟨by rw [if_neg (by omega)], rfl⟩
  · refine K_aload_n (dt_at dtX12_byteAt 4 rfl) rfl rfl ?_
    refine K_get (a := 0) (ci := 12) (k := 11) (v := vr 7) (dt_at dtX12_byteAt 5 rfl) (show TT 0 = (0, 12) from rfl) rfl (by decide) wF_X12_35 rfl ?_
    refine K_iload_n (dt_at dtX12_byteAt 6 rfl) rfl rfl ?_
    refine K_iald (dt_at dtX12_byteAt 7 rfl) (show TT 7 = (1, 700) from rfl) (by omega) (by omega) ?_
    refine K_goto (tgt := 18) (dt_at dtX12_byteAt 8 rfl) (by decide) ?_
    exact K_iret (dt_at dtX12_byteAt 10 rfl) rfl rfl (by decide) (by decide) ⟨by rw [if_pos (by omega)], rfl⟩
def mX12_isSign : MI := (yX12_isSign, cX12_isSign, 2, (some .boolean), rmK 1 0)
def tX12_isSign : List (Nat × Instr × Nat) := [(0, .aload_n 0, 1), (1, .getfield 138, 3), (4, .iconst 3, 1), (5, .if_icmp .ne 15, 3), (8, .aload_n 0, 1), (9, .getfield 135, 3), (12, .iload_n 1, 1), (13, .if_icmp .ne 7, 3), (16, .iconst 1, 1), (17, .goto 4, 3), (20, .iconst 0, 1), (21, .ireturn, 1)]
theorem dtX12_isSign : tX12_isSign.all (fun q => decide (decode cX12_isSign q.1 = .ok (q.2.1, q.2.2))) = true := by decide +kernel
theorem npX12_isSign : (parseMethodDescriptor (mY mX12_isSign).desc).map (fun d => d.parameters.length) = some 1 := by decide +kernel
theorem vX12_isSign : mV mX12_isSign := ⟨wI_X12_isSign, wS_X12_isSign, wN_X12, wC_X12_isSign, by decide +kernel, by decide +kernel⟩
set_option maxHeartbeats 4000000 in
set_option maxRecDepth 100000 in
theorem sX12_isSign {h : HP} {s g c : Int} (e1 : hI h 0 18 = s) (e2 : hI h 0 22 = g) (hs : 0 ≤ s ∧ s ≤ 4) (hg : i32 g) (hc : i32 c) : SpecK mX12_isSign [vr 0, vi c] h (fun o h' => o = .inl (some (vi (if s = 3 ∧ g = c then 1 else 0))) ∧ h' = h) := by
  refine Spec_of (by decide +kernel) (Nat.le_of_ble_eq_true rfl) ?_
  refine K_aload_n (dt_at dtX12_isSign 0 rfl) rfl rfl ?_
  refine K_get (a := 0) (ci := 12) (k := 18) (v := vi s) (dt_at dtX12_isSign 1 rfl) (show TT 0 = (0, 12) from rfl) rfl (by decide) wF_X12_138 (by show vi (hI h 0 18) = vi s; rw [e1]) ?_
  refine K_iconst (dt_at dtX12_isSign 2 rfl) ?_
  refine K_icmp_ne (tgt := 20) (dt_at dtX12_isSign 3 rfl) (by decide) (by first | assumption | exact ⟨by omega, by omega⟩) (by first | assumption | exact ⟨by omega, by omega⟩) (fun c1 => ?_) (fun c1 => ?_)
  · refine K_iconst (dt_at dtX12_isSign 10 rfl) ?_
    exact K_iret (dt_at dtX12_isSign 11 rfl) rfl (by decide) (by decide) (by decide) ⟨by rw [if_neg (by omega)], rfl⟩
  · refine K_aload_n (dt_at dtX12_isSign 4 rfl) rfl rfl ?_
    refine K_get (a := 0) (ci := 12) (k := 22) (v := vi g) (dt_at dtX12_isSign 5 rfl) (show TT 0 = (0, 12) from rfl) rfl (by decide) wF_X12_135 (by show vi (hI h 0 22) = vi g; rw [e2]) ?_
    refine K_iload_n (dt_at dtX12_isSign 6 rfl) rfl rfl ?_
    refine K_icmp_ne (tgt := 20) (dt_at dtX12_isSign 7 rfl) (by decide) hg hc (fun c2 => ?_) (fun c2 => ?_)
    · refine K_iconst (dt_at dtX12_isSign 10 rfl) ?_
      exact K_iret (dt_at dtX12_isSign 11 rfl) rfl (by decide) (by decide) (by decide) ⟨by rw [if_neg (by omega)], rfl⟩
    · refine K_iconst (dt_at dtX12_isSign 8 rfl) ?_
      refine K_goto (tgt := 21) (dt_at dtX12_isSign 9 rfl) (by decide) ?_
      exact K_iret (dt_at dtX12_isSign 11 rfl) rfl (by decide) (by decide) (by decide) ⟨by rw [if_pos (by omega)], rfl⟩
