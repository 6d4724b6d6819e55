def mX12_isOpen : MI := (yX12_isOpen, cX12_isOpen, 1, (some .boolean), rmK 1 0)
def tX12_isOpen : List (Nat × Instr × Nat) := [(0, .iload_n 0, 1), (1, .bipush 14, 2), (3, .if_icmp .lt 7, 3), (6, .iconst 1, 1), (7, .goto 4, 3), (10, .iconst 0, 1), (11, .ireturn, 1)]
theorem dtX12_isOpen : tX12_isOpen.all (fun q => decide (decode cX12_isOpen q.1 = .ok (q.2.1, q.2.2))) = true := by decide +kernel
theorem npX12_isOpen : (parseMethodDescriptor (mY mX12_isOpen).desc).map (fun d => d.parameters.length) = some 1 := by decide +kernel
theorem vX12_isOpen : mS mX12_isOpen := ⟨wT_X12_isOpen, wN_X12, wC_X12_isOpen, by decide +kernel, by decide +kernel⟩
set_option maxHeartbeats 4000000 in
set_option maxRecDepth 100000 in
theorem sX12_isOpen {h : HP} {x : Int} (hx : i32 x) : SpecK mX12_isOpen [vi x] h (fun o h' => o = .inl (some (vi (if 14 ≤ x then 1 else 0))) ∧ h' = h) := by
  refine Spec_of (by decide +kernel) (Nat.le_of_ble_eq_true rfl) ?_
  refine K_iload_n (dt_at dtX12_isOpen 0 rfl) rfl rfl ?_
  refine K_bipush (dt_at dtX12_isOpen 1 rfl) (by decide) ?_
  refine K_icmp_lt (tgt := 10) (dt_at dtX12_isOpen 2 rfl) (by decide) hx (by first | assumption | exact ⟨by omega, by omega⟩) (fun c1 => ?_) (fun c1 => ?_)
  · refine K_iconst (dt_at dtX12_isOpen 5 rfl) ?_
    exact K_iret (dt_at dtX12_isOpen 6 rfl) rfl (by decide) (by decide) (by decide) ⟨by rw [if_neg (by omega)], rfl⟩
  · refine K_iconst (dt_at dtX12_isOpen 3 rfl) ?_
    refine K_goto (tgt := 11) (dt_at dtX12_isOpen 4 rfl) (by decide) ?_
    exact K_iret (dt_at dtX12_isOpen 6 rfl) rfl (by decide) (by decide) (by decide) ⟨by rw [if_pos (by omega)], rfl⟩
def stgF (x : Int) : Int := if x = 5 then 1 else if x = 4 then 2 else if x = 3 then 3 else if x = 6 ∨ x = 7 then 4 else if x = 8 ∨ x = 9 then 5 else 6
def mX12_strength : MI := (yX12_strength, cX12_strength, 1, (some .int), rmK 1 0)
def tX12_strength : List (Nat × Instr × Nat) := [(0, .iload_n 0, 1), (1, .iconst 5, 1), (2, .if_icmp .ne 7, 3), (5, .iconst 1, 1), (6, .goto 55, 3), (9, .iload_n 0, 1), (10, .iconst 4, 1), (11, .if_icmp .ne 7, 3), (14, .iconst 2, 1), (15, .goto 46, 3), (18, .iload_n 0, 1), (19, .iconst 3, 1), (20, .if_icmp .ne 7, 3), (23, .iconst 3, 1), (24, .goto 37, 3), (27, .iload_n 0, 1), (28, .bipush 6, 2), (30, .if_icmp .eq 9, 3), (33, .iload_n 0, 1), (34, .bipush 7, 2), (36, .if_icmp .ne 7, 3), (39, .iconst 4, 1), (40, .goto 21, 3), (43, .iload_n 0, 1), (44, .bipush 8, 2), (46, .if_icmp .eq 9, 3), (49, .iload_n 0, 1), (50, .bipush 9, 2), (52, .if_icmp .ne 7, 3), (55, .iconst 5, 1), (56, .goto 5, 3), (59, .bipush 6, 2), (61, .ireturn, 1)]
theorem dtX12_strength : tX12_strength.all (fun q => decide (decode cX12_strength q.1 = .ok (q.2.1, q.2.2))) = true := by decide +kernel
theorem npX12_strength : (parseMethodDescriptor (mY mX12_strength).desc).map (fun d => d.parameters.length) = some 1 := by decide +kernel
theorem vX12_strength : mS mX12_strength := ⟨wT_X12_strength, wN_X12, wC_X12_strength, by decide +kernel, by decide +kernel⟩
set_option maxHeartbeats 4000000 in
set_option maxRecDepth 100000 in
theorem sX12_strength {h : HP} {x : Int} (hx : i32 x) : SpecK mX12_strength [vi x] h (fun o h' => o = .inl (some (vi (stgF x))) ∧ h' = h) := by
  refine Spec_of (by decide +kernel) (Nat.le_of_ble_eq_true rfl) ?_
  refine K_iload_n (dt_at dtX12_strength 0 rfl) rfl rfl ?_
  refine K_iconst (dt_at dtX12_strength 1 rfl) ?_
  refine K_icmp_ne (tgt := 9) (dt_at dtX12_strength 2 rfl) (by decide) hx (by first | assumption | exact ⟨by omega, by omega⟩) (fun c1 => ?_) (fun c1 => ?_)
  · refine K_iload_n (dt_at dtX12_strength 5 rfl) rfl rfl ?_
    refine K_iconst (dt_at dtX12_strength 6 rfl) ?_
    refine K_icmp_ne (tgt := 18) (dt_at dtX12_strength 7 rfl) (by decide) hx (by first | assumption | exact ⟨by omega, by omega⟩) (fun c2 => ?_) (fun c2 => ?_)
    · refine K_iload_n (dt_at dtX12_strength 10 rfl) rfl rfl ?_
      refine K_iconst (dt_at dtX12_strength 11 rfl) ?_
      refine K_icmp_ne (tgt := 27) (dt_at dtX12_strength 12 rfl) (by decide) hx (by first | assumption | exact ⟨by omega, by omega⟩) (fun c3 => ?_) (fun c3 => ?_)
      · refine K_iload_n (dt_at dtX12_strength 15 rfl) rfl rfl ?_
        refine K_bipush (dt_at dtX12_strength 16 rfl) (by decide) ?_
        refine K_icmp_eq (tgt := 39) (dt_at dtX12_strength 17 rfl) (by decide) hx (by first | assumption | exact ⟨by omega, by omega⟩) (fun c4 => ?_) (fun c4 => ?_)
        · refine K_iconst (dt_at dtX12_strength 21 rfl) ?_
          refine K_goto (tgt := 61) (dt_at dtX12_strength 22 rfl) (by decide) ?_
          exact K_iret (dt_at dtX12_strength 32 rfl) rfl rfl (by decide) (by decide) ⟨by unfold stgF; rw [if_neg (by omega), if_neg (by omega), if_neg (by omega), if_pos (by omega)], rfl⟩
        · refine K_iload_n (dt_at dtX12_strength 18 rfl) rfl rfl ?_
          refine K_bipush (dt_at dtX12_strength 19 rfl) (by decide) ?_
          refine K_icmp_ne (tgt := 43) (dt_at dtX12_strength 20 rfl) (by decide) hx (by first | assumption | exact ⟨by omega, by omega⟩) (fun c5 => ?_) (fun c5 => ?_)
          · refine K_iload_n (dt_at dtX12_strength 23 rfl) rfl rfl ?_
            refine K_bipush (dt_at dtX12_strength 24 rfl) (by decide) ?_
            refine K_icmp_eq (tgt := 55) (dt_at dtX12_strength 25 rfl) (by decide) hx (by first | assumption | exact ⟨by omega, by omega⟩) (fun c6 => ?_) (fun c6 => ?_)
            · refine K_iconst (dt_at dtX12_strength 29 rfl) ?_
              refine K_goto (tgt := 61) (dt_at dtX12_strength 30 rfl) (by decide) ?_
              exact K_iret (dt_at dtX12_strength 32 rfl) rfl rfl (by decide) (by decide) ⟨by unfold stgF; rw [if_neg (by omega), if_neg (by omega), if_neg (by omega), if_neg (by omega), if_pos (by omega)], rfl⟩
            · refine K_iload_n (dt_at dtX12_strength 26 rfl) rfl rfl ?_
              refine K_bipush (dt_at dtX12_strength 27 rfl) (by decide) ?_
              refine K_icmp_ne (tgt := 59) (dt_at dtX12_strength 28 rfl) (by decide) hx (by first | assumption | exact ⟨by omega, by omega⟩) (fun c7 => ?_) (fun c7 => ?_)
              · refine K_bipush (dt_at dtX12_strength 31 rfl) (by decide) ?_
                exact K_iret (dt_at dtX12_strength 32 rfl) rfl rfl (by decide) (by decide) ⟨by unfold stgF; rw [if_neg (by omega), if_neg (by omega), if_neg (by omega), if_neg (by omega), if_neg (by omega)], rfl⟩
              · refine K_iconst (dt_at dtX12_strength 29 rfl) ?_
                refine K_goto (tgt := 61) (dt_at dtX12_strength 30 rfl) (by decide) ?_
                exact K_iret (dt_at dtX12_strength 32 rfl) rfl rfl (by decide) (by decide) ⟨by unfold stgF; rw [if_neg (by omega), if_neg (by omega), if_neg (by omega), if_neg (by omega), if_pos (by omega)], rfl⟩
          · refine K_iconst (dt_at dtX12_strength 21 rfl) ?_
            refine K_goto (tgt := 61) (dt_at dtX12_strength 22 rfl) (by decide) ?_
            exact K_iret (dt_at dtX12_strength 32 rfl) rfl rfl (by decide) (by decide) ⟨by unfold stgF; rw [if_neg (by omega), if_neg (by omega), if_neg (by omega), if_pos (by omega)], rfl⟩
      · refine K_iconst (dt_at dtX12_strength 13 rfl) ?_
        refine K_goto (tgt := 61) (dt_at dtX12_strength 14 rfl) (by decide) ?_
        exact K_iret (dt_at dtX12_strength 32 rfl) rfl rfl (by decide) (by decide) ⟨by unfold stgF; rw [if_neg (by omega), if_neg (by omega), if_pos (by omega)], rfl⟩
    · refine K_iconst (dt_at dtX12_strength 8 rfl) ?_
      refine K_goto (tgt := 61) (dt_at dtX12_strength 9 rfl) (by decide) ?_
      exact K_iret (dt_at dtX12_strength 32 rfl) rfl rfl (by decide) (by decide) ⟨by unfold stgF; rw [if_neg (by omega), if_pos (by omega)], rfl⟩
  · refine K_iconst (dt_at dtX12_strength 3 rfl) ?_
    refine K_goto (tgt := 61) (dt_at dtX12_strength 4 rfl) (by decide) ?_
    exact K_iret (dt_at dtX12_strength 32 rfl) rfl rfl (by decide) (by decide) ⟨by unfold stgF; rw [if_pos (by omega)], rfl⟩
def mX12_puts : MI := (yX12_puts, cX12_puts, 2, none, rmK 1 0)
def tX12_puts : List (Nat × Instr × Nat) := [(0, .aload_n 0, 1), (1, .getfield 62, 3), (4, .aload_n 0, 1), (5, .getfield 174, 3), (8, .iload_n 1, 1), (9, .iastore, 1), (10, .aload_n 0, 1), (11, .dup, 1), (12, .getfield 174, 3), (15, .iconst 1, 1), (16, .iadd, 1), (17, .putfield 174, 3), (20, .return_, 1)]
theorem dtX12_puts : tX12_puts.all (fun q => decide (decode cX12_puts q.1 = .ok (q.2.1, q.2.2))) = true := by decide +kernel
theorem npX12_puts : (parseMethodDescriptor (mY mX12_puts).desc).map (fun d => d.parameters.length) = some 1 := by decide +kernel
theorem vX12_puts : mV mX12_puts := ⟨wI_X12_puts, wS_X12_puts, wN_X12, wC_X12_puts, by decide +kernel, by decide +kernel⟩
set_option maxHeartbeats 4000000 in
set_option maxRecDepth 100000 in
theorem sX12_puts {h : HP} {v : Int} (hl : 0 ≤ hI h 0 28 ∧ hI h 0 28 < 1400) : SpecK mX12_puts [vr 0, vi v] h (fun o h' => o = .inl (none) ∧ h' = sI (sA h 15 (hI h 0 28) v) 0 28 (hI h 0 28 + 1)) := by
  refine Spec_of (by decide +kernel) (Nat.le_of_ble_eq_true rfl) ?_
  refine K_aload_n (dt_at dtX12_puts 0 rfl) rfl rfl ?_
  refine K_get (a := 0) (ci := 12) (k := 39) (v := vr 15) (dt_at dtX12_puts 1 rfl) (show TT 0 = (0, 12) from rfl) rfl (by decide) wF_X12_62 rfl ?_
  refine K_aload_n (dt_at dtX12_puts 2 rfl) rfl rfl ?_
  refine K_get (a := 0) (ci := 12) (k := 28) (v := vi (hI h 0 28)) (dt_at dtX12_puts 3 rfl) (show TT 0 = (0, 12) from rfl) rfl (by decide) wF_X12_174 rfl ?_
  refine K_iload_n (dt_at dtX12_puts 4 rfl) rfl rfl ?_
  refine K_iast (dt_at dtX12_puts 5 rfl) (show TT 15 = (1, 1400) from rfl) (by omega) (by omega) ?_
  refine K_aload_n (dt_at dtX12_puts 6 rfl) rfl rfl ?_
  refine K_dup (dt_at dtX12_puts 7 rfl) rfl ?_
  refine K_get (a := 0) (ci := 12) (k := 28) (v := vi (hI (sA h 15 (hI h 0 28) v) 0 28)) (dt_at dtX12_puts 8 rfl) (show TT 0 = (0, 12) from rfl) rfl (by decide) wF_X12_174 rfl ?_
  refine K_iconst (dt_at dtX12_puts 9 rfl) ?_
  refine K_iadd (dt_at dtX12_puts 10 rfl) ?_
  refine K_putI (a := 0) (ci := 12) (k := 28) (dt_at dtX12_puts 11 rfl) (show TT 0 = (0, 12) from rfl) rfl (by decide) wF_X12_174 rfl (Or.inl rfl) rfl rfl ?_
  exact K_vret (dt_at dtX12_puts 12 rfl) rfl (by decide) (by decide) ⟨rfl, rfl⟩
def mX12_waitsFor : MI := (yX12_waitsFor, cX12_waitsFor, 2, none, rmK 1 0)
def tX12_waitsFor : List (Nat × Instr × Nat) := [(0, .aload_n 0, 1), (1, .getfield 65, 3), (4, .aload_n 0, 1), (5, .getfield 177, 3), (8, .iload_n 1, 1), (9, .iastore, 1), (10, .aload_n 0, 1), (11, .dup, 1), (12, .getfield 177, 3), (15, .iconst 1, 1), (16, .iadd, 1), (17, .putfield 177, 3), (20, .return_, 1)]
theorem dtX12_waitsFor : tX12_waitsFor.all (fun q => decide (decode cX12_waitsFor q.1 = .ok (q.2.1, q.2.2))) = true := by decide +kernel
theorem npX12_waitsFor : (parseMethodDescriptor (mY mX12_waitsFor).desc).map (fun d => d.parameters.length) = some 1 := by decide +kernel
theorem vX12_waitsFor : mV mX12_waitsFor := ⟨wI_X12_waitsFor, wS_X12_waitsFor, wN_X12, wC_X12_waitsFor, by decide +kernel, by decide +kernel⟩
set_option maxHeartbeats 4000000 in
set_option maxRecDepth 100000 in
theorem sX12_waitsFor {h : HP} {v : Int} (hl : 0 ≤ hI h 0 31 ∧ hI h 0 31 < 950) : SpecK mX12_waitsFor [vr 0, vi v] h (fun o h' => o = .inl (none) ∧ h' = sI (sA h 16 (hI h 0 31) v) 0 31 (hI h 0 31 + 1)) := by
  refine Spec_of (by decide +kernel) (Nat.le_of_ble_eq_true rfl) ?_
  refine K_aload_n (dt_at dtX12_waitsFor 0 rfl) rfl rfl ?_
  refine K_get (a := 0) (ci := 12) (k := 40) (v := vr 16) (dt_at dtX12_waitsFor 1 rfl) (show TT 0 = (0, 12) from rfl) rfl (by decide) wF_X12_65 rfl ?_
  refine K_aload_n (dt_at dtX12_waitsFor 2 rfl) rfl rfl ?_
  refine K_get (a := 0) (ci := 12) (k := 31) (v := vi (hI h 0 31)) (dt_at dtX12_waitsFor 3 rfl) (show TT 0 = (0, 12) from rfl) rfl (by decide) wF_X12_177 rfl ?_
  refine K_iload_n (dt_at dtX12_waitsFor 4 rfl) rfl rfl ?_
  refine K_iast (dt_at dtX12_waitsFor 5 rfl) (show TT 16 = (1, 950) from rfl) (by omega) (by omega) ?_
  refine K_aload_n (dt_at dtX12_waitsFor 6 rfl) rfl rfl ?_
  refine K_dup (dt_at dtX12_waitsFor 7 rfl) rfl ?_
  refine K_get (a := 0) (ci := 12) (k := 31) (v := vi (hI (sA h 16 (hI h 0 31) v) 0 31)) (dt_at dtX12_waitsFor 8 rfl) (show TT 0 = (0, 12) from rfl) rfl (by decide) wF_X12_177 rfl ?_
  refine K_iconst (dt_at dtX12_waitsFor 9 rfl) ?_
  refine K_iadd (dt_at dtX12_waitsFor 10 rfl) ?_
  refine K_putI (a := 0) (ci := 12) (k := 31) (dt_at dtX12_waitsFor 11 rfl) (show TT 0 = (0, 12) from rfl) rfl (by decide) wF_X12_177 rfl (Or.inl rfl) rfl rfl ?_
  exact K_vret (dt_at dtX12_waitsFor 12 rfl) rfl (by decide) (by decide) ⟨rfl, rfl⟩
