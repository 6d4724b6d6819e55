def bg1 (f : Int → Int) (k : Nat) : Int → Int := fun i => if 0 ≤ i ∧ i < (k : Int) then 0 else f i
def bg2 (g st : Int → Int) (k : Nat) : Int → Int := fun i => if 29 ≤ i ∧ i < 29 + (k : Int) then st (i - 29) else g i
def bg3 (g fo bY : Int → Int) (np k : Nat) : Int → Int := fun i => if 8 ≤ i ∧ i < 8 + (k : Int) then i - 8 else if 15 ≤ i ∧ i < 15 + (k : Int) then fo (i - 15) else if 22 ≤ i ∧ i < 22 + (k : Int) then (if bY (i - 22) < (np : Int) then bY (i - 22) else -1) else g i
theorem bg1_0 (f : Int → Int) : bg1 f 0 = f := by
  funext i
  unfold bg1
  rw [if_neg (by omega)]
theorem bg2_0 (g st : Int → Int) : bg2 g st 0 = g := by
  funext i
  unfold bg2
  rw [if_neg (by omega)]
theorem bg3_0 (g fo bY : Int → Int) (np : Nat) : bg3 g fo bY np 0 = g := by
  funext i
  unfold bg3
  rw [if_neg (by omega), if_neg (by omega), if_neg (by omega)]
theorem bg1_s (f : Int → Int) (k : Nat) : upI (bg1 f k) (k : Int) 0 = bg1 f (k + 1) := by
  funext i
  unfold upI bg1
  by_cases c : i = (k : Int)
  · rw [if_pos c, if_pos (by omega)]
  · rw [if_neg c]
    by_cases d : 0 ≤ i ∧ i < (k : Int)
    · rw [if_pos d, if_pos (by omega)]
    · rw [if_neg d, if_neg (by omega)]
theorem bg2_s (g st : Int → Int) (k : Nat) : upI (bg2 g st k) (29 + (k : Int)) (st (k : Int)) = bg2 g st (k + 1) := by
  funext i
  unfold upI bg2
  by_cases c : i = 29 + (k : Int)
  · rw [if_pos c, if_pos (by omega), show i - 29 = (k : Int) by omega]
  · rw [if_neg c]
    by_cases d : 29 ≤ i ∧ i < 29 + (k : Int)
    · rw [if_pos d, if_pos (by omega)]
    · rw [if_neg d, if_neg (by omega)]
theorem bg3_s (g fo bY : Int → Int) (np k : Nat) (hk : k < 7) {y : Int} (hy : y = if bY (k : Int) < (np : Int) then bY (k : Int) else -1) : upI (upI (upI (bg3 g fo bY np k) (8 + (k : Int)) (k : Int)) (15 + (k : Int)) (fo (k : Int))) (22 + (k : Int)) y = bg3 g fo bY np (k + 1) := by
  funext i
  subst hy
  unfold upI bg3
  by_cases c1 : i = 22 + (k : Int)
  · rw [if_pos c1, if_neg (show ¬ (8 ≤ i ∧ i < 8 + ((k + 1 : Nat) : Int)) by omega), if_neg (show ¬ (15 ≤ i ∧ i < 15 + ((k + 1 : Nat) : Int)) by omega), if_pos (show 22 ≤ i ∧ i < 22 + ((k + 1 : Nat) : Int) by omega), show i - 22 = (k : Int) by omega]
  · rw [if_neg c1]
    by_cases c2 : i = 15 + (k : Int)
    · rw [if_pos c2, if_neg (by omega), if_pos (by omega), show i - 15 = (k : Int) by omega]
    · rw [if_neg c2]
      by_cases c3 : i = 8 + (k : Int)
      · rw [if_pos c3, if_pos (by omega)]
        omega
      · rw [if_neg c3]
        by_cases d1 : 8 ≤ i ∧ i < 8 + (k : Int)
        · rw [if_pos d1, if_pos (by omega)]
        · rw [if_neg d1, if_neg (show ¬ (8 ≤ i ∧ i < 8 + ((k + 1 : Nat) : Int)) by omega)]
          by_cases d2 : 15 ≤ i ∧ i < 15 + (k : Int)
          · rw [if_pos d2, if_pos (by omega)]
          · rw [if_neg d2, if_neg (show ¬ (15 ≤ i ∧ i < 15 + ((k + 1 : Nat) : Int)) by omega)]
            by_cases d3 : 22 ≤ i ∧ i < 22 + (k : Int)
            · rw [if_pos d3, if_pos (show 22 ≤ i ∧ i < 22 + ((k + 1 : Nat) : Int) by omega)]
            · rw [if_neg d3, if_neg (by omega)]
def mX8_begin : MI := (yX8_begin, cX8_begin, 3, none, rmK 1 0)
def tX8_begin : List (Nat × Instr × Nat) := [(0, .iconst 0, 1), (1, .istore_n 2, 1), (2, .iload_n 2, 1), (3, .bipush 77, 2), (5, .if_icmp .ge 16, 3), (8, .aload_n 0, 1), (9, .getfield 11, 3), (12, .iload_n 2, 1), (13, .iconst 0, 1), (14, .iastore, 1), (15, .iinc 2 1, 3), (18, .goto (-16), 3), (21, .iconst 0, 1), (22, .istore_n 2, 1), (23, .iload_n 2, 1), (24, .aload_n 1, 1), (25, .getfield 15, 3), (28, .if_icmp .ge 24, 3), (31, .aload_n 0, 1), (32, .getfield 11, 3), (35, .bipush 29, 2), (37, .iload_n 2, 1), (38, .iadd, 1), (39, .aload_n 1, 1), (40, .getfield 21, 3), (43, .iload_n 2, 1), (44, .iaload, 1), (45, .iastore, 1), (46, .iinc 2 1, 3), (49, .goto (-26), 3), (52, .iconst 0, 1), (53, .istore_n 2, 1), (54, .iload_n 2, 1), (55, .aload_n 1, 1), (56, .getfield 24, 3), (59, .if_icmp .ge 66, 3), (62, .aload_n 0, 1), (63, .getfield 11, 3), (66, .bipush 8, 2), (68, .iload_n 2, 1), (69, .iadd, 1), (70, .iload_n 2, 1), (71, .iastore, 1), (72, .aload_n 0, 1), (73, .getfield 11, 3), (76, .bipush 15, 2), (78, .iload_n 2, 1), (79, .iadd, 1), (80, .aload_n 1, 1), (81, .getfield 27, 3), (84, .iload_n 2, 1), (85, .iaload, 1), (86, .iastore, 1), (87, .aload_n 0, 1), (88, .getfield 11, 3), (91, .bipush 22, 2), (93, .iload_n 2, 1), (94, .iadd, 1), (95, .aload_n 1, 1), (96, .getfield 30, 3), (99, .iload_n 2, 1), (100, .iaload, 1), (101, .aload_n 1, 1), (102, .getfield 24, 3), (105, .if_icmp .ge 12, 3), (108, .aload_n 1, 1), (109, .getfield 30, 3), (112, .iload_n 2, 1), (113, .iaload, 1), (114, .goto 4, 3), (117, .iconst (-1), 1), (118, .iastore, 1), (119, .iinc 2 1, 3), (122, .goto (-68), 3), (125, .return_, 1)]
theorem dtX8_begin : tX8_begin.all (fun q => decide (decode cX8_begin q.1 = .ok (q.2.1, q.2.2))) = true := by decide +kernel
theorem npX8_begin : (parseMethodDescriptor (mY mX8_begin).desc).map (fun d => d.parameters.length) = some 1 := by decide +kernel
theorem vX8_begin : mV mX8_begin := ⟨wI_X8_begin, wS_X8_begin, wN_X8, wC_X8_begin, by decide +kernel, by decide +kernel⟩
set_option maxHeartbeats 4000000 in
set_option maxRecDepth 100000 in
theorem lp_X8_begin1_33 {Z : CT → State → Prop} {h : HP} {nt np : Nat} (d10 : hI h 33 10 = (nt : Int)) (d11 : hI h 33 11 = (np : Int)) (hnt : nt ≤ 6) (hnp : np ≤ 7) (hby : ∀ i : Int, 0 ≤ i → i < np → i32 (hA h 41 i)) : ∀ (d k : Nat) (hh : HP), k + d = 77 → hh = sF h 67 (bg1 (hA h 67) k) → (∀ h2 : HP, h2 = sF h 67 (bg1 (hA h 67) 77) → K mX8_begin GK Z 0 0 21 [(2, vi ((77 : Nat) : Int)), (0, vr 66), (1, vr 33)] [] h2) → K mX8_begin GK Z 0 0 2 [(2, vi (k : Int)), (0, vr 66), (1, vr 33)] [] hh := by
  intro d
  induction d with
  | zero =>
    intro k hh hk eh kx
    obtain ⟨a0, f0, g0, r0⟩ := sF_fx eh
    have i10 : hI hh 33 10 = (nt : Int) := by rw [g0]; exact d10
    have i11 : hI hh 33 11 = (np : Int) := by rw [g0]; exact d11
    obtain rfl : k = 77 := by omega
    refine K_iload_n (dt_at dtX8_begin 2 rfl) rfl rfl ?_
    refine K_bipush (dt_at dtX8_begin 3 rfl) (by decide) ?_
    refine K_icmp_ge (tgt := 21) (dt_at dtX8_begin 4 rfl) (by decide) (by first | assumption | exact ⟨by omega, by omega⟩) (by first | assumption | exact ⟨by omega, by omega⟩) (fun c1 => ?_) (fun c1 => absurd c1 (by omega))
    exact kx hh eh
  | succ d ih =>
    intro k hh hk eh kx
    obtain ⟨a0, f0, g0, r0⟩ := sF_fx eh
    have i10 : hI hh 33 10 = (nt : Int) := by rw [g0]; exact d10
    have i11 : hI hh 33 11 = (np : Int) := by rw [g0]; exact d11
    refine K_iload_n (dt_at dtX8_begin 2 rfl) rfl rfl ?_
    refine K_bipush (dt_at dtX8_begin 3 rfl) (by decide) ?_
    refine K_icmp_ge (tgt := 21) (dt_at dtX8_begin 4 rfl) (by decide) (by first | assumption | exact ⟨by omega, by omega⟩) (by first | assumption | exact ⟨by omega, by omega⟩) (fun c1 => absurd c1 (by omega)) (fun c1 => ?_)
    refine K_aload_n (dt_at dtX8_begin 5 rfl) rfl rfl ?_
    refine K_get (a := 66) (ci := 8) (k := 0) (v := vr 67) (dt_at dtX8_begin 6 rfl) (show TT 66 = (0, 8) from rfl) rfl (by decide) wF_X8_11 rfl ?_
    refine K_iload_n (dt_at dtX8_begin 7 rfl) rfl rfl ?_
    refine K_iconst (dt_at dtX8_begin 8 rfl) ?_
    refine K_iast (dt_at dtX8_begin 9 rfl) (show TT 67 = (1, 77) from rfl) (by omega) (by omega) ?_
    obtain ⟨hq1, eq1⟩ : ∃ z, z = sA hh 67 (k : Int) 0 := ⟨_, rfl⟩
    rw [← eq1]
    obtain ⟨aq1, fq1, iq1, rq1⟩ := sA_fx eq1
    rw [a0] at aq1
    refine K_iinc (ls' := [(2, vi ((k : Int) + 1)), (0, vr 66), (1, vr 33)]) (dt_at dtX8_begin 10 rfl) rfl (by decide) rfl ?_
    refine K_goto (tgt := 2) (dt_at dtX8_begin 11 rfl) (by decide) ?_
    refine K_pk [0, 1, 2] (ls' := [(2, vi ((k + 1 : Nat) : Int)), (0, vr 66), (1, vr 33)]) rfl ?_
    exact ih (k + 1) hq1 (by omega) (by rw [eq1, eh, sA_F, hA_F, sF_F, bg1_s]) kx
set_option maxHeartbeats 4000000 in
set_option maxRecDepth 100000 in
theorem lp_X8_begin2_33 {Z : CT → State → Prop} {h : HP} {nt np : Nat} (d10 : hI h 33 10 = (nt : Int)) (d11 : hI h 33 11 = (np : Int)) (hnt : nt ≤ 6) (hnp : np ≤ 7) (hby : ∀ i : Int, 0 ≤ i → i < np → i32 (hA h 41 i)) : ∀ (d k : Nat) (hh : HP), k + d = nt → hh = sF h 67 (bg2 (bg1 (hA h 67) 77) (hA h 36) k) → (∀ h2 : HP, h2 = sF h 67 (bg2 (bg1 (hA h 67) 77) (hA h 36) nt) → K mX8_begin GK Z 0 0 52 [(2, vi (nt : Int)), (0, vr 66), (1, vr 33)] [] h2) → K mX8_begin GK Z 0 0 23 [(2, vi (k : Int)), (0, vr 66), (1, vr 33)] [] hh := by
  intro d
  induction d with
  | zero =>
    intro k hh hk eh kx
    obtain ⟨a0, f0, g0, r0⟩ := sF_fx eh
    have i10 : hI hh 33 10 = (nt : Int) := by rw [g0]; exact d10
    have i11 : hI hh 33 11 = (np : Int) := by rw [g0]; exact d11
    have hkn : k = nt := by omega
    refine K_iload_n (dt_at dtX8_begin 14 rfl) rfl rfl ?_
    refine K_aload_n (dt_at dtX8_begin 15 rfl) rfl rfl ?_
    refine K_get (a := 33) (ci := 3) (k := 10) (v := vi (nt : Int)) (dt_at dtX8_begin 16 rfl) (show TT 33 = (0, 3) from rfl) rfl (by decide) wF_X8_15 (by show vi (hI hh 33 10) = vi (nt : Int); rw [i10]) ?_
    refine K_icmp_ge (tgt := 52) (dt_at dtX8_begin 17 rfl) (by decide) (by first | assumption | exact ⟨by omega, by omega⟩) (by first | assumption | exact ⟨by omega, by omega⟩) (fun c1 => ?_) (fun c1 => absurd c1 (by omega))
    rw [hkn] at eh ⊢; exact kx hh eh
  | succ d ih =>
    intro k hh hk eh kx
    obtain ⟨a0, f0, g0, r0⟩ := sF_fx eh
    have i10 : hI hh 33 10 = (nt : Int) := by rw [g0]; exact d10
    have i11 : hI hh 33 11 = (np : Int) := by rw [g0]; exact d11
    refine K_iload_n (dt_at dtX8_begin 14 rfl) rfl rfl ?_
    refine K_aload_n (dt_at dtX8_begin 15 rfl) rfl rfl ?_
    refine K_get (a := 33) (ci := 3) (k := 10) (v := vi (nt : Int)) (dt_at dtX8_begin 16 rfl) (show TT 33 = (0, 3) from rfl) rfl (by decide) wF_X8_15 (by show vi (hI hh 33 10) = vi (nt : Int); rw [i10]) ?_
    refine K_icmp_ge (tgt := 52) (dt_at dtX8_begin 17 rfl) (by decide) (by first | assumption | exact ⟨by omega, by omega⟩) (by first | assumption | exact ⟨by omega, by omega⟩) (fun c1 => absurd c1 (by omega)) (fun c1 => ?_)
    refine K_aload_n (dt_at dtX8_begin 18 rfl) rfl rfl ?_
    refine K_get (a := 66) (ci := 8) (k := 0) (v := vr 67) (dt_at dtX8_begin 19 rfl) (show TT 66 = (0, 8) from rfl) rfl (by decide) wF_X8_11 rfl ?_
    refine K_bipush (dt_at dtX8_begin 20 rfl) (by decide) ?_
    refine K_iload_n (dt_at dtX8_begin 21 rfl) rfl rfl ?_
    refine K_iadd (dt_at dtX8_begin 22 rfl) ?_
    refine K_aload_n (dt_at dtX8_begin 23 rfl) rfl rfl ?_
    refine K_get (a := 33) (ci := 3) (k := 2) (v := vr 36) (dt_at dtX8_begin 24 rfl) (show TT 33 = (0, 3) from rfl) rfl (by decide) wF_X8_21 rfl ?_
    refine K_iload_n (dt_at dtX8_begin 25 rfl) rfl rfl ?_
    refine K_iald (dt_at dtX8_begin 26 rfl) (show TT 36 = (1, 6) from rfl) (by omega) (by omega) ?_
    rw [(f0 36 (by omega))]
    refine K_iast (dt_at dtX8_begin 27 rfl) (show TT 67 = (1, 77) from rfl) (by omega) (by omega) ?_
    obtain ⟨hq1, eq1⟩ : ∃ z, z = sA hh 67 (29 + (k : Int)) (hA h 36 (k : Int)) := ⟨_, rfl⟩
    rw [← eq1]
    obtain ⟨aq1, fq1, iq1, rq1⟩ := sA_fx eq1
    rw [a0] at aq1
    refine K_iinc (ls' := [(2, vi ((k : Int) + 1)), (0, vr 66), (1, vr 33)]) (dt_at dtX8_begin 28 rfl) rfl (by decide) rfl ?_
    refine K_goto (tgt := 23) (dt_at dtX8_begin 29 rfl) (by decide) ?_
    refine K_pk [0, 1, 2] (ls' := [(2, vi ((k + 1 : Nat) : Int)), (0, vr 66), (1, vr 33)]) rfl ?_
    exact ih (k + 1) hq1 (by omega) (by rw [eq1, eh, sA_F, hA_F, sF_F, bg2_s]) kx
set_option maxHeartbeats 4000000 in
set_option maxRecDepth 100000 in
theorem lp_X8_begin3_33 {Z : CT → State → Prop} {h : HP} {nt np : Nat} (d10 : hI h 33 10 = (nt : Int)) (d11 : hI h 33 11 = (np : Int)) (hnt : nt ≤ 6) (hnp : np ≤ 7) (hby : ∀ i : Int, 0 ≤ i → i < np → i32 (hA h 41 i)) : ∀ (d k : Nat) (hh : HP), k + d = np → hh = sF h 67 (bg3 (bg2 (bg1 (hA h 67) 77) (hA h 36) nt) (hA h 40) (hA h 41) np k) → (∀ h2 : HP, h2 = sF h 67 (bg3 (bg2 (bg1 (hA h 67) 77) (hA h 36) nt) (hA h 40) (hA h 41) np np) → K mX8_begin GK Z 0 0 125 [(2, vi (np : Int)), (0, vr 66), (1, vr 33)] [] h2) → K mX8_begin GK Z 0 0 54 [(2, vi (k : Int)), (0, vr 66), (1, vr 33)] [] hh := by
  intro d
  induction d with
  | zero =>
    intro k hh hk eh kx
    obtain ⟨a0, f0, g0, r0⟩ := sF_fx eh
    have i10 : hI hh 33 10 = (nt : Int) := by rw [g0]; exact d10
    have i11 : hI hh 33 11 = (np : Int) := by rw [g0]; exact d11
    have hkn : k = np := by omega
    refine K_iload_n (dt_at dtX8_begin 32 rfl) rfl rfl ?_
    refine K_aload_n (dt_at dtX8_begin 33 rfl) rfl rfl ?_
    refine K_get (a := 33) (ci := 3) (k := 11) (v := vi (np : Int)) (dt_at dtX8_begin 34 rfl) (show TT 33 = (0, 3) from rfl) rfl (by decide) wF_X8_24 (by show vi (hI hh 33 11) = vi (np : Int); rw [i11]) ?_
    refine K_icmp_ge (tgt := 125) (dt_at dtX8_begin 35 rfl) (by decide) (by first | assumption | exact ⟨by omega, by omega⟩) (by first | assumption | exact ⟨by omega, by omega⟩) (fun c1 => ?_) (fun c1 => absurd c1 (by omega))
    rw [hkn] at eh ⊢; exact kx hh eh
  | succ d ih =>
    intro k hh hk eh kx
    obtain ⟨a0, f0, g0, r0⟩ := sF_fx eh
    have i10 : hI hh 33 10 = (nt : Int) := by rw [g0]; exact d10
    have i11 : hI hh 33 11 = (np : Int) := by rw [g0]; exact d11
    have by9 := hby (k : Int) (by omega) (by omega)
    refine K_iload_n (dt_at dtX8_begin 32 rfl) rfl rfl ?_
    refine K_aload_n (dt_at dtX8_begin 33 rfl) rfl rfl ?_
    refine K_get (a := 33) (ci := 3) (k := 11) (v := vi (np : Int)) (dt_at dtX8_begin 34 rfl) (show TT 33 = (0, 3) from rfl) rfl (by decide) wF_X8_24 (by show vi (hI hh 33 11) = vi (np : Int); rw [i11]) ?_
    refine K_icmp_ge (tgt := 125) (dt_at dtX8_begin 35 rfl) (by decide) (by first | assumption | exact ⟨by omega, by omega⟩) (by first | assumption | exact ⟨by omega, by omega⟩) (fun c1 => absurd c1 (by omega)) (fun c1 => ?_)
    refine K_aload_n (dt_at dtX8_begin 36 rfl) rfl rfl ?_
    refine K_get (a := 66) (ci := 8) (k := 0) (v := vr 67) (dt_at dtX8_begin 37 rfl) (show TT 66 = (0, 8) from rfl) rfl (by decide) wF_X8_11 rfl ?_
    refine K_bipush (dt_at dtX8_begin 38 rfl) (by decide) ?_
    refine K_iload_n (dt_at dtX8_begin 39 rfl) rfl rfl ?_
    refine K_iadd (dt_at dtX8_begin 40 rfl) ?_
    refine K_iload_n (dt_at dtX8_begin 41 rfl) rfl rfl ?_
    refine K_iast (dt_at dtX8_begin 42 rfl) (show TT 67 = (1, 77) from rfl) (by omega) (by omega) ?_
    obtain ⟨hq1, eq1⟩ : ∃ z, z = sA hh 67 (8 + (k : Int)) (k : Int) := ⟨_, rfl⟩
    rw [← eq1]
    obtain ⟨aq1, fq1, iq1, rq1⟩ := sA_fx eq1
    rw [a0] at aq1
    refine K_aload_n (dt_at dtX8_begin 43 rfl) rfl rfl ?_
    refine K_get (a := 66) (ci := 8) (k := 0) (v := vr 67) (dt_at dtX8_begin 44 rfl) (show TT 66 = (0, 8) from rfl) rfl (by decide) wF_X8_11 rfl ?_
    refine K_bipush (dt_at dtX8_begin 45 rfl) (by decide) ?_
    refine K_iload_n (dt_at dtX8_begin 46 rfl) rfl rfl ?_
    refine K_iadd (dt_at dtX8_begin 47 rfl) ?_
    refine K_aload_n (dt_at dtX8_begin 48 rfl) rfl rfl ?_
    refine K_get (a := 33) (ci := 3) (k := 6) (v := vr 40) (dt_at dtX8_begin 49 rfl) (show TT 33 = (0, 3) from rfl) rfl (by decide) wF_X8_27 rfl ?_
    refine K_iload_n (dt_at dtX8_begin 50 rfl) rfl rfl ?_
    refine K_iald (dt_at dtX8_begin 51 rfl) (show TT 40 = (1, 7) from rfl) (by omega) (by omega) ?_
    rw [(fq1 40 (by omega)), (f0 40 (by omega))]
    refine K_iast (dt_at dtX8_begin 52 rfl) (show TT 67 = (1, 77) from rfl) (by omega) (by omega) ?_
    obtain ⟨hq2, eq2⟩ : ∃ z, z = sA hq1 67 (15 + (k : Int)) (hA h 40 (k : Int)) := ⟨_, rfl⟩
    rw [← eq2]
    obtain ⟨aq2, fq2, iq2, rq2⟩ := sA_fx eq2
    rw [aq1] at aq2
    refine K_aload_n (dt_at dtX8_begin 53 rfl) rfl rfl ?_
    refine K_get (a := 66) (ci := 8) (k := 0) (v := vr 67) (dt_at dtX8_begin 54 rfl) (show TT 66 = (0, 8) from rfl) rfl (by decide) wF_X8_11 rfl ?_
    refine K_bipush (dt_at dtX8_begin 55 rfl) (by decide) ?_
    refine K_iload_n (dt_at dtX8_begin 56 rfl) rfl rfl ?_
    refine K_iadd (dt_at dtX8_begin 57 rfl) ?_
    refine K_aload_n (dt_at dtX8_begin 58 rfl) rfl rfl ?_
    refine K_get (a := 33) (ci := 3) (k := 7) (v := vr 41) (dt_at dtX8_begin 59 rfl) (show TT 33 = (0, 3) from rfl) rfl (by decide) wF_X8_30 rfl ?_
    refine K_iload_n (dt_at dtX8_begin 60 rfl) rfl rfl ?_
    refine K_iald (dt_at dtX8_begin 61 rfl) (show TT 41 = (1, 7) from rfl) (by omega) (by omega) ?_
    rw [(fq2 41 (by omega)), (fq1 41 (by omega)), (f0 41 (by omega))]
    refine K_aload_n (dt_at dtX8_begin 62 rfl) rfl rfl ?_
    refine K_get (a := 33) (ci := 3) (k := 11) (v := vi (np : Int)) (dt_at dtX8_begin 63 rfl) (show TT 33 = (0, 3) from rfl) rfl (by decide) wF_X8_24 (by show vi (hI hq2 33 11) = vi (np : Int); rw [iq2, iq1, i11]) ?_
    refine K_icmp_ge (tgt := 117) (dt_at dtX8_begin 64 rfl) (by decide) (by first | assumption | exact ⟨by omega, by omega⟩) (by first | assumption | exact ⟨by omega, by omega⟩) (fun c2 => ?_) (fun c2 => ?_)
    · refine K_iconst (dt_at dtX8_begin 70 rfl) ?_
      refine K_iast (dt_at dtX8_begin 71 rfl) (show TT 67 = (1, 77) from rfl) (by omega) (by omega) ?_
      obtain ⟨hq3, eq3⟩ : ∃ z, z = sA hq2 67 (22 + (k : Int)) (-1) := ⟨_, rfl⟩
      rw [← eq3]
      obtain ⟨aq3, fq3, iq3, rq3⟩ := sA_fx eq3
      rw [aq2] at aq3
      refine K_iinc (ls' := [(2, vi ((k : Int) + 1)), (0, vr 66), (1, vr 33)]) (dt_at dtX8_begin 72 rfl) rfl (by decide) rfl ?_
      refine K_goto (tgt := 54) (dt_at dtX8_begin 73 rfl) (by decide) ?_
      refine K_pk [0, 1, 2] (ls' := [(2, vi ((k + 1 : Nat) : Int)), (0, vr 66), (1, vr 33)]) rfl ?_
      exact ih (k + 1) hq3 (by omega) (by rw [eq3, eq2, eq1, eh, sA_F, sA_F, sA_F, hA_F, sF_F, hA_F, sF_F, hA_F, sF_F, bg3_s _ _ _ _ _ (by omega) (by first | rw [if_pos (by assumption)] | rw [if_neg (by omega)])]) kx
    · refine K_aload_n (dt_at dtX8_begin 65 rfl) rfl rfl ?_
      refine K_get (a := 33) (ci := 3) (k := 7) (v := vr 41) (dt_at dtX8_begin 66 rfl) (show TT 33 = (0, 3) from rfl) rfl (by decide) wF_X8_30 rfl ?_
      refine K_iload_n (dt_at dtX8_begin 67 rfl) rfl rfl ?_
      refine K_iald (dt_at dtX8_begin 68 rfl) (show TT 41 = (1, 7) from rfl) (by omega) (by omega) ?_
      rw [(fq2 41 (by omega)), (fq1 41 (by omega)), (f0 41 (by omega))]
      refine K_goto (tgt := 118) (dt_at dtX8_begin 69 rfl) (by decide) ?_
      refine K_iast (dt_at dtX8_begin 71 rfl) (show TT 67 = (1, 77) from rfl) (by omega) (by omega) ?_
      obtain ⟨hq4, eq4⟩ : ∃ z, z = sA hq2 67 (22 + (k : Int)) (hA h 41 (k : Int)) := ⟨_, rfl⟩
      rw [← eq4]
      obtain ⟨aq4, fq4, iq4, rq4⟩ := sA_fx eq4
      rw [aq2] at aq4
      refine K_iinc (ls' := [(2, vi ((k : Int) + 1)), (0, vr 66), (1, vr 33)]) (dt_at dtX8_begin 72 rfl) rfl (by decide) rfl ?_
      refine K_goto (tgt := 54) (dt_at dtX8_begin 73 rfl) (by decide) ?_
      refine K_pk [0, 1, 2] (ls' := [(2, vi ((k + 1 : Nat) : Int)), (0, vr 66), (1, vr 33)]) rfl ?_
      exact ih (k + 1) hq4 (by omega) (by rw [eq4, eq2, eq1, eh, sA_F, sA_F, sA_F, hA_F, sF_F, hA_F, sF_F, hA_F, sF_F, bg3_s _ _ _ _ _ (by omega) (by first | rw [if_pos (by assumption)] | rw [if_neg (by omega)])]) kx
set_option maxHeartbeats 4000000 in
set_option maxRecDepth 100000 in
theorem sX8_begin_33 {h : HP} {nt np : Nat} (d10 : hI h 33 10 = (nt : Int)) (d11 : hI h 33 11 = (np : Int)) (hnt : nt ≤ 6) (hnp : np ≤ 7) (hby : ∀ i : Int, 0 ≤ i → i < np → i32 (hA h 41 i)) : SpecK mX8_begin [vr 66, vr 33] h (fun o h' => o = .inl (none) ∧ h' = sF h 67 (bg3 (bg2 (bg1 (hA h 67) 77) (hA h 36) nt) (hA h 40) (hA h 41) np np)) := by
  refine Spec_of (by decide +kernel) (Nat.le_of_ble_eq_true rfl) ?_
  refine K_iconst (dt_at dtX8_begin 0 rfl) ?_
  refine K_istore_n (ls' := [(2, vi 0), (0, vr 66), (1, vr 33)]) (dt_at dtX8_begin 1 rfl) rfl (by decide) rfl ?_
  refine K_pk [0, 1, 2] (ls' := [(2, vi ((0 : Nat) : Int)), (0, vr 66), (1, vr 33)]) rfl (lp_X8_begin1_33 d10 d11 hnt hnp hby 77 0 h (by omega) (by rw [bg1_0, sF_self]) (fun h1 e1 => ?_))
  refine K_iconst (dt_at dtX8_begin 12 rfl) ?_
  refine K_istore_n (ls' := [(2, vi 0), (0, vr 66), (1, vr 33)]) (dt_at dtX8_begin 13 rfl) rfl (by decide) rfl ?_
  refine K_pk [0, 1, 2] (ls' := [(2, vi ((0 : Nat) : Int)), (0, vr 66), (1, vr 33)]) rfl (lp_X8_begin2_33 d10 d11 hnt hnp hby nt 0 h1 (by omega) (by rw [bg2_0]; exact e1) (fun h2 e2 => ?_))
  refine K_iconst (dt_at dtX8_begin 30 rfl) ?_
  refine K_istore_n (ls' := [(2, vi 0), (0, vr 66), (1, vr 33)]) (dt_at dtX8_begin 31 rfl) rfl (by decide) rfl ?_
  refine K_pk [0, 1, 2] (ls' := [(2, vi ((0 : Nat) : Int)), (0, vr 66), (1, vr 33)]) rfl (lp_X8_begin3_33 d10 d11 hnt hnp hby np 0 h2 (by omega) (by rw [bg3_0]; exact e2) (fun h3 e3 => ?_))
  exact K_vret (dt_at dtX8_begin 74 rfl) rfl (by decide) (by decide) ⟨rfl, e3⟩
set_option maxHeartbeats 4000000 in
set_option maxRecDepth 100000 in
theorem lp_X8_begin1_48 {Z : CT → State → Prop} {h : HP} {nt np : Nat} (d10 : hI h 48 10 = (nt : Int)) (d11 : hI h 48 11 = (np : Int)) (hnt : nt ≤ 6) (hnp : np ≤ 7) (hby : ∀ i : Int, 0 ≤ i → i < np → i32 (hA h 56 i)) : ∀ (d k : Nat) (hh : HP), k + d = 77 → hh = sF h 67 (bg1 (hA h 67) k) → (∀ h2 : HP, h2 = sF h 67 (bg1 (hA h 67) 77) → K mX8_begin GK Z 0 0 21 [(2, vi ((77 : Nat) : Int)), (0, vr 66), (1, vr 48)] [] h2) → K mX8_begin GK Z 0 0 2 [(2, vi (k : Int)), (0, vr 66), (1, vr 48)] [] hh := by
  intro d
  induction d with
  | zero =>
    intro k hh hk eh kx
    obtain ⟨a0, f0, g0, r0⟩ := sF_fx eh
    have i10 : hI hh 48 10 = (nt : Int) := by rw [g0]; exact d10
    have i11 : hI hh 48 11 = (np : Int) := by rw [g0]; exact d11
    obtain rfl : k = 77 := by omega
    refine K_iload_n (dt_at dtX8_begin 2 rfl) rfl rfl ?_
    refine K_bipush (dt_at dtX8_begin 3 rfl) (by decide) ?_
    refine K_icmp_ge (tgt := 21) (dt_at dtX8_begin 4 rfl) (by decide) (by first | assumption | exact ⟨by omega, by omega⟩) (by first | assumption | exact ⟨by omega, by omega⟩) (fun c1 => ?_) (fun c1 => absurd c1 (by omega))
    exact kx hh eh
  | succ d ih =>
    intro k hh hk eh kx
    obtain ⟨a0, f0, g0, r0⟩ := sF_fx eh
    have i10 : hI hh 48 10 = (nt : Int) := by rw [g0]; exact d10
    have i11 : hI hh 48 11 = (np : Int) := by rw [g0]; exact d11
    refine K_iload_n (dt_at dtX8_begin 2 rfl) rfl rfl ?_
    refine K_bipush (dt_at dtX8_begin 3 rfl) (by decide) ?_
    refine K_icmp_ge (tgt := 21) (dt_at dtX8_begin 4 rfl) (by decide) (by first | assumption | exact ⟨by omega, by omega⟩) (by first | assumption | exact ⟨by omega, by omega⟩) (fun c1 => absurd c1 (by omega)) (fun c1 => ?_)
    refine K_aload_n (dt_at dtX8_begin 5 rfl) rfl rfl ?_
    refine K_get (a := 66) (ci := 8) (k := 0) (v := vr 67) (dt_at dtX8_begin 6 rfl) (show TT 66 = (0, 8) from rfl) rfl (by decide) wF_X8_11 rfl ?_
    refine K_iload_n (dt_at dtX8_begin 7 rfl) rfl rfl ?_
    refine K_iconst (dt_at dtX8_begin 8 rfl) ?_
    refine K_iast (dt_at dtX8_begin 9 rfl) (show TT 67 = (1, 77) from rfl) (by omega) (by omega) ?_
    obtain ⟨hq1, eq1⟩ : ∃ z, z = sA hh 67 (k : Int) 0 := ⟨_, rfl⟩
    rw [← eq1]
    obtain ⟨aq1, fq1, iq1, rq1⟩ := sA_fx eq1
    rw [a0] at aq1
    refine K_iinc (ls' := [(2, vi ((k : Int) + 1)), (0, vr 66), (1, vr 48)]) (dt_at dtX8_begin 10 rfl) rfl (by decide) rfl ?_
    refine K_goto (tgt := 2) (dt_at dtX8_begin 11 rfl) (by decide) ?_
    refine K_pk [0, 1, 2] (ls' := [(2, vi ((k + 1 : Nat) : Int)), (0, vr 66), (1, vr 48)]) rfl ?_
    exact ih (k + 1) hq1 (by omega) (by rw [eq1, eh, sA_F, hA_F, sF_F, bg1_s]) kx
set_option maxHeartbeats 4000000 in
set_option maxRecDepth 100000 in
theorem lp_X8_begin2_48 {Z : CT → State → Prop} {h : HP} {nt np : Nat} (d10 : hI h 48 10 = (nt : Int)) (d11 : hI h 48 11 = (np : Int)) (hnt : nt ≤ 6) (hnp : np ≤ 7) (hby : ∀ i : Int, 0 ≤ i → i < np → i32 (hA h 56 i)) : ∀ (d k : Nat) (hh : HP), k + d = nt → hh = sF h 67 (bg2 (bg1 (hA h 67) 77) (hA h 51) k) → (∀ h2 : HP, h2 = sF h 67 (bg2 (bg1 (hA h 67) 77) (hA h 51) nt) → K mX8_begin GK Z 0 0 52 [(2, vi (nt : Int)), (0, vr 66), (1, vr 48)] [] h2) → K mX8_begin GK Z 0 0 23 [(2, vi (k : Int)), (0, vr 66), (1, vr 48)] [] hh := by
  intro d
  induction d with
  | zero =>
    intro k hh hk eh kx
    obtain ⟨a0, f0, g0, r0⟩ := sF_fx eh
    have i10 : hI hh 48 10 = (nt : Int) := by rw [g0]; exact d10
    have i11 : hI hh 48 11 = (np : Int) := by rw [g0]; exact d11
    have hkn : k = nt := by omega
    refine K_iload_n (dt_at dtX8_begin 14 rfl) rfl rfl ?_
    refine K_aload_n (dt_at dtX8_begin 15 rfl) rfl rfl ?_
    refine K_get (a := 48) (ci := 3) (k := 10) (v := vi (nt : Int)) (dt_at dtX8_begin 16 rfl) (show TT 48 = (0, 3) from rfl) rfl (by decide) wF_X8_15 (by show vi (hI hh 48 10) = vi (nt : Int); rw [i10]) ?_
    refine K_icmp_ge (tgt := 52) (dt_at dtX8_begin 17 rfl) (by decide) (by first | assumption | exact ⟨by omega, by omega⟩) (by first | assumption | exact ⟨by omega, by omega⟩) (fun c1 => ?_) (fun c1 => absurd c1 (by omega))
    rw [hkn] at eh ⊢; exact kx hh eh
  | succ d ih =>
    intro k hh hk eh kx
    obtain ⟨a0, f0, g0, r0⟩ := sF_fx eh
    have i10 : hI hh 48 10 = (nt : Int) := by rw [g0]; exact d10
    have i11 : hI hh 48 11 = (np : Int) := by rw [g0]; exact d11
    refine K_iload_n (dt_at dtX8_begin 14 rfl) rfl rfl ?_
    refine K_aload_n (dt_at dtX8_begin 15 rfl) rfl rfl ?_
    refine K_get (a := 48) (ci := 3) (k := 10) (v := vi (nt : Int)) (dt_at dtX8_begin 16 rfl) (show TT 48 = (0, 3) from rfl) rfl (by decide) wF_X8_15 (by show vi (hI hh 48 10) = vi (nt : Int); rw [i10]) ?_
    refine K_icmp_ge (tgt := 52) (dt_at dtX8_begin 17 rfl) (by decide) (by first | assumption | exact ⟨by omega, by omega⟩) (by first | assumption | exact ⟨by omega, by omega⟩) (fun c1 => absurd c1 (by omega)) (fun c1 => ?_)
    refine K_aload_n (dt_at dtX8_begin 18 rfl) rfl rfl ?_
    refine K_get (a := 66) (ci := 8) (k := 0) (v := vr 67) (dt_at dtX8_begin 19 rfl) (show TT 66 = (0, 8) from rfl) rfl (by decide) wF_X8_11 rfl ?_
    refine K_bipush (dt_at dtX8_begin 20 rfl) (by decide) ?_
    refine K_iload_n (dt_at dtX8_begin 21 rfl) rfl rfl ?_
    refine K_iadd (dt_at dtX8_begin 22 rfl) ?_
    refine K_aload_n (dt_at dtX8_begin 23 rfl) rfl rfl ?_
    refine K_get (a := 48) (ci := 3) (k := 2) (v := vr 51) (dt_at dtX8_begin 24 rfl) (show TT 48 = (0, 3) from rfl) rfl (by decide) wF_X8_21 rfl ?_
    refine K_iload_n (dt_at dtX8_begin 25 rfl) rfl rfl ?_
    refine K_iald (dt_at dtX8_begin 26 rfl) (show TT 51 = (1, 6) from rfl) (by omega) (by omega) ?_
    rw [(f0 51 (by omega))]
    refine K_iast (dt_at dtX8_begin 27 rfl) (show TT 67 = (1, 77) from rfl) (by omega) (by omega) ?_
    obtain ⟨hq1, eq1⟩ : ∃ z, z = sA hh 67 (29 + (k : Int)) (hA h 51 (k : Int)) := ⟨_, rfl⟩
    rw [← eq1]
    obtain ⟨aq1, fq1, iq1, rq1⟩ := sA_fx eq1
    rw [a0] at aq1
    refine K_iinc (ls' := [(2, vi ((k : Int) + 1)), (0, vr 66), (1, vr 48)]) (dt_at dtX8_begin 28 rfl) rfl (by decide) rfl ?_
    refine K_goto (tgt := 23) (dt_at dtX8_begin 29 rfl) (by decide) ?_
    refine K_pk [0, 1, 2] (ls' := [(2, vi ((k + 1 : Nat) : Int)), (0, vr 66), (1, vr 48)]) rfl ?_
    exact ih (k + 1) hq1 (by omega) (by rw [eq1, eh, sA_F, hA_F, sF_F, bg2_s]) kx
set_option maxHeartbeats 4000000 in
set_option maxRecDepth 100000 in
theorem lp_X8_begin3_48 {Z : CT → State → Prop} {h : HP} {nt np : Nat} (d10 : hI h 48 10 = (nt : Int)) (d11 : hI h 48 11 = (np : Int)) (hnt : nt ≤ 6) (hnp : np ≤ 7) (hby : ∀ i : Int, 0 ≤ i → i < np → i32 (hA h 56 i)) : ∀ (d k : Nat) (hh : HP), k + d = np → hh = sF h 67 (bg3 (bg2 (bg1 (hA h 67) 77) (hA h 51) nt) (hA h 55) (hA h 56) np k) → (∀ h2 : HP, h2 = sF h 67 (bg3 (bg2 (bg1 (hA h 67) 77) (hA h 51) nt) (hA h 55) (hA h 56) np np) → K mX8_begin GK Z 0 0 125 [(2, vi (np : Int)), (0, vr 66), (1, vr 48)] [] h2) → K mX8_begin GK Z 0 0 54 [(2, vi (k : Int)), (0, vr 66), (1, vr 48)] [] hh := by
  intro d
  induction d with
  | zero =>
    intro k hh hk eh kx
    obtain ⟨a0, f0, g0, r0⟩ := sF_fx eh
    have i10 : hI hh 48 10 = (nt : Int) := by rw [g0]; exact d10
    have i11 : hI hh 48 11 = (np : Int) := by rw [g0]; exact d11
    have hkn : k = np := by omega
    refine K_iload_n (dt_at dtX8_begin 32 rfl) rfl rfl ?_
    refine K_aload_n (dt_at dtX8_begin 33 rfl) rfl rfl ?_
    refine K_get (a := 48) (ci := 3) (k := 11) (v := vi (np : Int)) (dt_at dtX8_begin 34 rfl) (show TT 48 = (0, 3) from rfl) rfl (by decide) wF_X8_24 (by show vi (hI hh 48 11) = vi (np : Int); rw [i11]) ?_
    refine K_icmp_ge (tgt := 125) (dt_at dtX8_begin 35 rfl) (by decide) (by first | assumption | exact ⟨by omega, by omega⟩) (by first | assumption | exact ⟨by omega, by omega⟩) (fun c1 => ?_) (fun c1 => absurd c1 (by omega))
    rw [hkn] at eh ⊢; exact kx hh eh
  | succ d ih =>
    intro k hh hk eh kx
    obtain ⟨a0, f0, g0, r0⟩ := sF_fx eh
    have i10 : hI hh 48 10 = (nt : Int) := by rw [g0]; exact d10
    have i11 : hI hh 48 11 = (np : Int) := by rw [g0]; exact d11
    have by9 := hby (k : Int) (by omega) (by omega)
    refine K_iload_n (dt_at dtX8_begin 32 rfl) rfl rfl ?_
    refine K_aload_n (dt_at dtX8_begin 33 rfl) rfl rfl ?_
    refine K_get (a := 48) (ci := 3) (k := 11) (v := vi (np : Int)) (dt_at dtX8_begin 34 rfl) (show TT 48 = (0, 3) from rfl) rfl (by decide) wF_X8_24 (by show vi (hI hh 48 11) = vi (np : Int); rw [i11]) ?_
    refine K_icmp_ge (tgt := 125) (dt_at dtX8_begin 35 rfl) (by decide) (by first | assumption | exact ⟨by omega, by omega⟩) (by first | assumption | exact ⟨by omega, by omega⟩) (fun c1 => absurd c1 (by omega)) (fun c1 => ?_)
    refine K_aload_n (dt_at dtX8_begin 36 rfl) rfl rfl ?_
    refine K_get (a := 66) (ci := 8) (k := 0) (v := vr 67) (dt_at dtX8_begin 37 rfl) (show TT 66 = (0, 8) from rfl) rfl (by decide) wF_X8_11 rfl ?_
    refine K_bipush (dt_at dtX8_begin 38 rfl) (by decide) ?_
    refine K_iload_n (dt_at dtX8_begin 39 rfl) rfl rfl ?_
    refine K_iadd (dt_at dtX8_begin 40 rfl) ?_
    refine K_iload_n (dt_at dtX8_begin 41 rfl) rfl rfl ?_
    refine K_iast (dt_at dtX8_begin 42 rfl) (show TT 67 = (1, 77) from rfl) (by omega) (by omega) ?_
    obtain ⟨hq1, eq1⟩ : ∃ z, z = sA hh 67 (8 + (k : Int)) (k : Int) := ⟨_, rfl⟩
    rw [← eq1]
    obtain ⟨aq1, fq1, iq1, rq1⟩ := sA_fx eq1
    rw [a0] at aq1
    refine K_aload_n (dt_at dtX8_begin 43 rfl) rfl rfl ?_
    refine K_get (a := 66) (ci := 8) (k := 0) (v := vr 67) (dt_at dtX8_begin 44 rfl) (show TT 66 = (0, 8) from rfl) rfl (by decide) wF_X8_11 rfl ?_
    refine K_bipush (dt_at dtX8_begin 45 rfl) (by decide) ?_
    refine K_iload_n (dt_at dtX8_begin 46 rfl) rfl rfl ?_
    refine K_iadd (dt_at dtX8_begin 47 rfl) ?_
    refine K_aload_n (dt_at dtX8_begin 48 rfl) rfl rfl ?_
    refine K_get (a := 48) (ci := 3) (k := 6) (v := vr 55) (dt_at dtX8_begin 49 rfl) (show TT 48 = (0, 3) from rfl) rfl (by decide) wF_X8_27 rfl ?_
    refine K_iload_n (dt_at dtX8_begin 50 rfl) rfl rfl ?_
    refine K_iald (dt_at dtX8_begin 51 rfl) (show TT 55 = (1, 7) from rfl) (by omega) (by omega) ?_
    rw [(fq1 55 (by omega)), (f0 55 (by omega))]
    refine K_iast (dt_at dtX8_begin 52 rfl) (show TT 67 = (1, 77) from rfl) (by omega) (by omega) ?_
    obtain ⟨hq2, eq2⟩ : ∃ z, z = sA hq1 67 (15 + (k : Int)) (hA h 55 (k : Int)) := ⟨_, rfl⟩
    rw [← eq2]
    obtain ⟨aq2, fq2, iq2, rq2⟩ := sA_fx eq2
    rw [aq1] at aq2
    refine K_aload_n (dt_at dtX8_begin 53 rfl) rfl rfl ?_
    refine K_get (a := 66) (ci := 8) (k := 0) (v := vr 67) (dt_at dtX8_begin 54 rfl) (show TT 66 = (0, 8) from rfl) rfl (by decide) wF_X8_11 rfl ?_
    refine K_bipush (dt_at dtX8_begin 55 rfl) (by decide) ?_
    refine K_iload_n (dt_at dtX8_begin 56 rfl) rfl rfl ?_
    refine K_iadd (dt_at dtX8_begin 57 rfl) ?_
    refine K_aload_n (dt_at dtX8_begin 58 rfl) rfl rfl ?_
    refine K_get (a := 48) (ci := 3) (k := 7) (v := vr 56) (dt_at dtX8_begin 59 rfl) (show TT 48 = (0, 3) from rfl) rfl (by decide) wF_X8_30 rfl ?_
    refine K_iload_n (dt_at dtX8_begin 60 rfl) rfl rfl ?_
    refine K_iald (dt_at dtX8_begin 61 rfl) (show TT 56 = (1, 7) from rfl) (by omega) (by omega) ?_
    rw [(fq2 56 (by omega)), (fq1 56 (by omega)), (f0 56 (by omega))]
    refine K_aload_n (dt_at dtX8_begin 62 rfl) rfl rfl ?_
    refine K_get (a := 48) (ci := 3) (k := 11) (v := vi (np : Int)) (dt_at dtX8_begin 63 rfl) (show TT 48 = (0, 3) from rfl) rfl (by decide) wF_X8_24 (by show vi (hI hq2 48 11) = vi (np : Int); rw [iq2, iq1, i11]) ?_
    refine K_icmp_ge (tgt := 117) (dt_at dtX8_begin 64 rfl) (by decide) (by first | assumption | exact ⟨by omega, by omega⟩) (by first | assumption | exact ⟨by omega, by omega⟩) (fun c2 => ?_) (fun c2 => ?_)
    · refine K_iconst (dt_at dtX8_begin 70 rfl) ?_
      refine K_iast (dt_at dtX8_begin 71 rfl) (show TT 67 = (1, 77) from rfl) (by omega) (by omega) ?_
      obtain ⟨hq3, eq3⟩ : ∃ z, z = sA hq2 67 (22 + (k : Int)) (-1) := ⟨_, rfl⟩
      rw [← eq3]
      obtain ⟨aq3, fq3, iq3, rq3⟩ := sA_fx eq3
      rw [aq2] at aq3
      refine K_iinc (ls' := [(2, vi ((k : Int) + 1)), (0, vr 66), (1, vr 48)]) (dt_at dtX8_begin 72 rfl) rfl (by decide) rfl ?_
      refine K_goto (tgt := 54) (dt_at dtX8_begin 73 rfl) (by decide) ?_
      refine K_pk [0, 1, 2] (ls' := [(2, vi ((k + 1 : Nat) : Int)), (0, vr 66), (1, vr 48)]) rfl ?_
      exact ih (k + 1) hq3 (by omega) (by rw [eq3, eq2, eq1, eh, sA_F, sA_F, sA_F, hA_F, sF_F, hA_F, sF_F, hA_F, sF_F, bg3_s _ _ _ _ _ (by omega) (by first | rw [if_pos (by assumption)] | rw [if_neg (by omega)])]) kx
    · refine K_aload_n (dt_at dtX8_begin 65 rfl) rfl rfl ?_
      refine K_get (a := 48) (ci := 3) (k := 7) (v := vr 56) (dt_at dtX8_begin 66 rfl) (show TT 48 = (0, 3) from rfl) rfl (by decide) wF_X8_30 rfl ?_
      refine K_iload_n (dt_at dtX8_begin 67 rfl) rfl rfl ?_
      refine K_iald (dt_at dtX8_begin 68 rfl) (show TT 56 = (1, 7) from rfl) (by omega) (by omega) ?_
      rw [(fq2 56 (by omega)), (fq1 56 (by omega)), (f0 56 (by omega))]
      refine K_goto (tgt := 118) (dt_at dtX8_begin 69 rfl) (by decide) ?_
      refine K_iast (dt_at dtX8_begin 71 rfl) (show TT 67 = (1, 77) from rfl) (by omega) (by omega) ?_
      obtain ⟨hq4, eq4⟩ : ∃ z, z = sA hq2 67 (22 + (k : Int)) (hA h 56 (k : Int)) := ⟨_, rfl⟩
      rw [← eq4]
      obtain ⟨aq4, fq4, iq4, rq4⟩ := sA_fx eq4
      rw [aq2] at aq4
      refine K_iinc (ls' := [(2, vi ((k : Int) + 1)), (0, vr 66), (1, vr 48)]) (dt_at dtX8_begin 72 rfl) rfl (by decide) rfl ?_
      refine K_goto (tgt := 54) (dt_at dtX8_begin 73 rfl) (by decide) ?_
      refine K_pk [0, 1, 2] (ls' := [(2, vi ((k + 1 : Nat) : Int)), (0, vr 66), (1, vr 48)]) rfl ?_
      exact ih (k + 1) hq4 (by omega) (by rw [eq4, eq2, eq1, eh, sA_F, sA_F, sA_F, hA_F, sF_F, hA_F, sF_F, hA_F, sF_F, bg3_s _ _ _ _ _ (by omega) (by first | rw [if_pos (by assumption)] | rw [if_neg (by omega)])]) kx
set_option maxHeartbeats 4000000 in
set_option maxRecDepth 100000 in
theorem sX8_begin_48 {h : HP} {nt np : Nat} (d10 : hI h 48 10 = (nt : Int)) (d11 : hI h 48 11 = (np : Int)) (hnt : nt ≤ 6) (hnp : np ≤ 7) (hby : ∀ i : Int, 0 ≤ i → i < np → i32 (hA h 56 i)) : SpecK mX8_begin [vr 66, vr 48] h (fun o h' => o = .inl (none) ∧ h' = sF h 67 (bg3 (bg2 (bg1 (hA h 67) 77) (hA h 51) nt) (hA h 55) (hA h 56) np np)) := by
  refine Spec_of (by decide +kernel) (Nat.le_of_ble_eq_true rfl) ?_
  refine K_iconst (dt_at dtX8_begin 0 rfl) ?_
  refine K_istore_n (ls' := [(2, vi 0), (0, vr 66), (1, vr 48)]) (dt_at dtX8_begin 1 rfl) rfl (by decide) rfl ?_
  refine K_pk [0, 1, 2] (ls' := [(2, vi ((0 : Nat) : Int)), (0, vr 66), (1, vr 48)]) rfl (lp_X8_begin1_48 d10 d11 hnt hnp hby 77 0 h (by omega) (by rw [bg1_0, sF_self]) (fun h1 e1 => ?_))
  refine K_iconst (dt_at dtX8_begin 12 rfl) ?_
  refine K_istore_n (ls' := [(2, vi 0), (0, vr 66), (1, vr 48)]) (dt_at dtX8_begin 13 rfl) rfl (by decide) rfl ?_
  refine K_pk [0, 1, 2] (ls' := [(2, vi ((0 : Nat) : Int)), (0, vr 66), (1, vr 48)]) rfl (lp_X8_begin2_48 d10 d11 hnt hnp hby nt 0 h1 (by omega) (by rw [bg2_0]; exact e1) (fun h2 e2 => ?_))
  refine K_iconst (dt_at dtX8_begin 30 rfl) ?_
  refine K_istore_n (ls' := [(2, vi 0), (0, vr 66), (1, vr 48)]) (dt_at dtX8_begin 31 rfl) rfl (by decide) rfl ?_
  refine K_pk [0, 1, 2] (ls' := [(2, vi ((0 : Nat) : Int)), (0, vr 66), (1, vr 48)]) rfl (lp_X8_begin3_48 d10 d11 hnt hnp hby np 0 h2 (by omega) (by rw [bg3_0]; exact e2) (fun h3 e3 => ?_))
  exact K_vret (dt_at dtX8_begin 74 rfl) rfl (by decide) (by decide) ⟨rfl, e3⟩
