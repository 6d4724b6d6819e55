/-! words packed, five bits a letter; the reference's text and token -/
def pkF (g : Nat → Int) : Nat → Int
  | 0 => 0
  | k + 1 => pkF g k * 32 + g k
theorem pkF_b (g : Nat → Int) : ∀ k : Nat, (∀ j : Nat, j < k → 1 ≤ g j ∧ g j ≤ 26) → 0 ≤ pkF g k ∧ pkF g k < (32 ^ k : Nat)
  | 0, _ => by
    show (0 : Int) ≤ 0 ∧ (0 : Int) < ((32 ^ 0 : Nat) : Int)
    decide
  | k + 1, h => by
    have h1 := pkF_b g k (fun j hj => h j (by omega))
    have h2 := h k (by omega)
    have e : (32 ^ (k + 1) : Nat) = 32 ^ k * 32 := Nat.pow_succ ..
    have e2 : pkF g (k + 1) = pkF g k * 32 + g k := rfl
    rw [e2, e]
    omega
theorem pkF_6 {g : Nat → Int} {k : Nat} (hk : k ≤ 6) (h : ∀ j : Nat, j < k → 1 ≤ g j ∧ g j ≤ 26) : 0 ≤ pkF g k ∧ pkF g k < 1073741824 := by
  have h1 := pkF_b g k h
  have h2 : (32 ^ k : Nat) ≤ 32 ^ 6 := Nat.pow_le_pow_right (by decide) hk
  have e : (32 ^ 6 : Nat) = 1073741824 := by decide
  omega
theorem pkF_inj {g f : Nat → Int} : ∀ (k l : Nat), (∀ j : Nat, j < k → 1 ≤ g j ∧ g j ≤ 26) → (∀ j : Nat, j < l → 1 ≤ f j ∧ f j ≤ 26) → pkF g k = pkF f l → k = l ∧ ∀ j : Nat, j < k → g j = f j
  | 0, 0, _, _, _ => ⟨rfl, fun j hj => absurd hj (Nat.not_lt_zero j)⟩
  | 0, l + 1, _, hf, e => by
    have h1 := pkF_b f l (fun j hj => hf j (by omega))
    have h2 := hf l (by omega)
    have e : (0 : Int) = pkF f l * 32 + f l := e
    omega
  | k + 1, 0, hg, _, e => by
    have h1 := pkF_b g k (fun j hj => hg j (by omega))
    have h2 := hg k (by omega)
    have e : pkF g k * 32 + g k = (0 : Int) := e
    omega
  | k + 1, l + 1, hg, hf, e => by
    have h1 := pkF_b g k (fun j hj => hg j (by omega))
    have h2 := hg k (by omega)
    have h3 := pkF_b f l (fun j hj => hf j (by omega))
    have h4 := hf l (by omega)
    have e : pkF g k * 32 + g k = pkF f l * 32 + f l := e
    obtain ⟨rfl, h5⟩ := pkF_inj k l (fun j hj => hg j (by omega)) (fun j hj => hf j (by omega)) (by omega)
    exact ⟨rfl, lt_all h5 (by omega)⟩
theorem pkF_cg {g f : Nat → Int} : ∀ k : Nat, (∀ j : Nat, j < k → g j = f j) → pkF g k = pkF f k
  | 0, _ => rfl
  | k + 1, h => by
    show pkF g k * 32 + g k = pkF f k * 32 + f k
    rw [pkF_cg k (fun j hj => h j (by omega)), h k (by omega)]
def ltr (tp : Int → Int) (s : Nat) (j : Nat) : Int := tp ((s + j : Nat) : Int) - 96
def pkWd (i : Nat) : Int := pkF (fun j => wdA i (j : Int) - 96) (wdL i).length
theorem wd_az : ∀ i : Nat, i < 16 → (wdL i).length ≤ 6 ∧ ∀ j : Nat, j < (wdL i).length → 1 ≤ wdA i (j : Int) - 96 ∧ wdA i (j : Int) - 96 ≤ 26 := by decide +kernel
def byF (tp : Int → Int) (n k : Nat) : Int := if k < n then tp (k : Int) else 0
def MX (h : HP) (tp : Int → Int) (n : Nat) : Prop := hI h 0 16 = (n : Int) ∧ n ≤ 700 ∧ ∀ i : Int, 0 ≤ i → i < n → (0 ≤ tp i ∧ tp i < 256) ∧ hA h 7 i = tp i
theorem byF_b {h : HP} {tp : Int → Int} {n k : Nat} (T : MX h tp n) : 0 ≤ byF tp n k ∧ byF tp n k < 256 := by
  unfold byF
  split
  · exact (T.2.2 (k : Int) (by omega) (by omega)).1
  · decide
theorem byF_l {tp : Int → Int} {n k : Nat} (h : k < n) : byF tp n k = tp (k : Int) := if_pos h
theorem byF_g {tp : Int → Int} {n k : Nat} (h : n ≤ k) : byF tp n k = 0 := if_neg (by omega)
theorem byA {h : HP} {tp : Int → Int} {n k : Nat} (T : MX h tp n) (hk9 : k ≤ 700) : SpecK mX12_byteAt [vr 0, vi (k : Int)] h (fun o h' => o = .inl (some (vi (byF tp n k))) ∧ h' = h) := by
  have e : byF tp n k = (if k < n then hA h 7 (k : Int) else 0) := by
    unfold byF
    split
    · rename_i c; rw [(T.2.2 (k : Int) (by omega) (by omega)).2]
    · rfl
  rw [e]
  exact sX12_byteAt T.1 T.2.1 hk9
/-- the reference's token -/
def MTk (h : HP) (tp : Int → Int) (t : TK) : Prop := (hI h 0 18 = t.1 ∧ hI h 0 19 = (t.2.1 : Int) ∧ hI h 0 17 = (t.2.2 : Int) ∧ hI h 0 20 = (t.2.2 : Int) - (t.2.1 : Int)) ∧ ((0 ≤ hI h 0 21 ∧ hI h 0 21 < 10000) ∧ (t.1 = 2 → hI h 0 21 = nmT tp t)) ∧ ((0 ≤ hI h 0 22 ∧ hI h 0 22 < 256) ∧ (t.1 = 3 → hI h 0 22 = tp (t.2.1 : Int))) ∧ ((0 ≤ hI h 0 23 ∧ hI h 0 23 < 1073741824) ∧ (t.1 = 1 → hI h 0 23 = pkF (ltr tp t.2.1) (min (t.2.2 - t.2.1) 6)))
abbrev ML : List (Nat × Nat) := [(0, 17), (0, 18), (0, 19), (0, 20), (0, 21), (0, 22), (0, 23)]
theorem MX_FL {h h' : HP} {tp : Int → Int} {n : Nat} {la : List Nat} {li lr : List (Nat × Nat)} (T : MX h tp n) (F : FL la li lr h h') (h1 : la.contains 7 = false) (h2 : li.contains (0, 16) = false) : MX h' tp n :=
  ⟨by rw [F.2.1 0 16 h2]; exact T.1, T.2.1, fun i a b => by rw [F.1 7 h1]; exact T.2.2 i a b⟩
theorem MTk_FL {h h' : HP} {tp : Int → Int} {t : TK} {la : List Nat} {li lr : List (Nat × Nat)} (T : MTk h tp t) (F : FL la li lr h h') (h2 : ML.all (fun x => !(li.contains x)) = true) : MTk h' tp t := by
  have e : ∀ k : Nat, ML.contains (0, k) = true → hI h' 0 k = hI h 0 k := fun k hk => F.2.1 0 k (by
    have := List.all_eq_true.mp h2 (0, k) (List.contains_iff_mem.mp hk)
    simpa using this)
  obtain ⟨⟨a1, a2, a3, a4⟩, b, c, d⟩ := T
  unfold MTk
  rw [e 18 rfl, e 19 rfl, e 17 rfl, e 20 rfl, e 21 rfl, e 22 rfl, e 23 rfl]
  exact ⟨⟨a1, a2, a3, a4⟩, b, c, d⟩
/-- a word by its packed letters -/
theorem pk_isW {tp : Int → Int} {n : Nat} {t : TK} {i : Nat} (g : TkG tp n t) (h1 : t.1 = 1) (h6 : t.2.2 - t.2.1 ≤ 6) (hi : i < 16) : (pkF (ltr tp t.2.1) (min (t.2.2 - t.2.1) 6) = pkWd i) ↔ isWb tp t i = true := by
  obtain ⟨w6, wb⟩ := wd_az i hi
  have hm : min (t.2.2 - t.2.1) 6 = t.2.2 - t.2.1 := by omega
  rw [hm]
  have gb : ∀ j : Nat, j < t.2.2 - t.2.1 → 1 ≤ ltr tp t.2.1 j ∧ ltr tp t.2.1 j ≤ 26 := fun j hj => by
    have := kd_1i.mp ((g.2.2.2.2 (t.2.1 + j) (by omega) (by omega)).trans h1)
    unfold ltr
    omega
  constructor
  · intro e
    obtain ⟨e1, e2⟩ := pkF_inj _ _ gb wb e
    have g3 := g.2.1
    refine isWb_t h1 (by omega) (fun j hj => ?_)
    have := e2 j (by omega)
    unfold ltr at this
    omega
  · intro e
    obtain ⟨e1, e2, e3⟩ := isWb_e e
    have e4 : t.2.2 - t.2.1 = (wdL i).length := by omega
    rw [e4]
    exact pkF_cg _ (fun j hj => by unfold ltr; rw [e3 j hj])
theorem rnF_s {tp : Int → Int} {c : Int} {n s : Nat} (h : s < n) (hc : c ≤ 2) (hk9 : kd (tp (s : Int)) = c) : rnF tp c (n - s) s = rnF tp c (n - (s + 1)) (s + 1) := by
  have e : n - s = (n - (s + 1)) + 1 := by omega
  rw [e, rnF_t ⟨hc, hk9⟩]
theorem nm_all {tp : Int → Int} {s k : Nat} (h : ∀ j : Nat, s ≤ j → j < k → kd (tp (j : Int)) = 2) : 0 ≤ nm tp s (min (k - s) 4) ∧ nm tp s (min (k - s) 4) < 10000 := by
  have h1 := nm_b tp s (min (k - s) 4) (fun j hj => kd_2i.mp (h (s + j) (by omega) (by omega)))
  have h2 : (10 ^ (min (k - s) 4) : Nat) ≤ 10 ^ 4 := Nat.pow_le_pow_right (by decide) (by omega)
  have e : (10 ^ 4 : Nat) = 10000 := by decide
  omega
theorem pk_all {tp : Int → Int} {s k : Nat} (h : ∀ j : Nat, s ≤ j → j < k → kd (tp (j : Int)) = 1) : 0 ≤ pkF (ltr tp s) (min (k - s) 6) ∧ pkF (ltr tp s) (min (k - s) 6) < 1073741824 :=
  pkF_6 (by omega) (fun j hj => by
    have := kd_1i.mp (h (s + j) (by omega) (by omega))
    unfold ltr
    omega)
theorem le_all {P : Nat → Prop} {s k : Nat} (h : ∀ j : Nat, s ≤ j → j < k → P j) (hk : P k) : ∀ j : Nat, s ≤ j → j < k + 1 → P j := fun j h1 h2 => by
  by_cases q : j = k
  · rw [q]; exact hk
  · exact h j h1 (by omega)
theorem pk_nx {tp : Int → Int} {s k : Nat} (h1 : s ≤ k) (h2 : k - s < 6) : pkF (ltr tp s) (min (k - s) 6) * 32 + (tp (k : Int) - 96) = pkF (ltr tp s) (min (k + 1 - s) 6) := by
  have e1 : min (k + 1 - s) 6 = min (k - s) 6 + 1 := by omega
  rw [e1]
  show _ = pkF (ltr tp s) (min (k - s) 6) * 32 + ltr tp s (min (k - s) 6)
  unfold ltr
  have e2 : s + min (k - s) 6 = k := by omega
  rw [e2]
theorem nm_nx {tp : Int → Int} {s k : Nat} (h1 : s ≤ k) (h2 : k - s < 4) : 10 * nm tp s (min (k - s) 4) + tp (k : Int) - 48 = nm tp s (min (k + 1 - s) 4) := by
  have e1 : min (k + 1 - s) 4 = min (k - s) 4 + 1 := by omega
  rw [e1]
  show _ = nm tp s (min (k - s) 4) * 10 + (tp ((s + min (k - s) 4 : Nat) : Int) - 48)
  have e2 : s + min (k - s) 4 = k := by omega
  rw [e2]
  omega
theorem pk_st {tp : Int → Int} {s k : Nat} (h2 : ¬ k - s < 6) : pkF (ltr tp s) (min (k - s) 6) = pkF (ltr tp s) (min (k + 1 - s) 6) := by
  have e1 : min (k + 1 - s) 6 = min (k - s) 6 := by omega
  rw [e1]
theorem nm_st {tp : Int → Int} {s k : Nat} (h2 : ¬ k - s < 4) : nm tp s (min (k - s) 4) = nm tp s (min (k + 1 - s) 4) := by
  have e1 : min (k + 1 - s) 4 = min (k - s) 4 := by omega
  rw [e1]
def mX12_goes : MI := (yX12_goes, cX12_goes, 2, none, rmK 2 0)
def tX12_goes : List (Nat × Instr × Nat) := [(0, .aload_n 0, 1), (1, .getfield 118, 3), (4, .aload_n 0, 1), (5, .getfield 115, 3), (8, .if_icmp .ge 42, 3), (11, .aload_n 0, 1), (12, .aload_n 0, 1), (13, .getfield 118, 3), (16, .invokevirtual 121, 3), (19, .bipush 32, 2), (21, .if_icmp .eq 16, 3), (24, .aload_n 0, 1), (25, .aload_n 0, 1), (26, .getfield 118, 3), (29, .invokevirtual 121, 3), (32, .bipush 10, 2), (34, .if_icmp .ne 16, 3), (37, .aload_n 0, 1), (38, .dup, 1), (39, .getfield 118, 3), (42, .iconst 1, 1), (43, .iadd, 1), (44, .putfield 118, 3), (47, .goto (-47), 3), (50, .aload_n 0, 1), (51, .aload_n 0, 1), (52, .getfield 118, 3), (55, .putfield 125, 3), (58, .aload_n 0, 1), (59, .lconst 0, 1), (60, .putfield 128, 3), (63, .aload_n 0, 1), (64, .iconst 0, 1), (65, .putfield 132, 3), (68, .aload_n 0, 1), (69, .aload_n 0, 1), (70, .getfield 118, 3), (73, .invokevirtual 121, 3), (76, .istore_n 1, 1), (77, .aload_n 0, 1), (78, .iload_n 1, 1), (79, .putfield 135, 3), (82, .aload_n 0, 1), (83, .getfield 118, 3), (86, .aload_n 0, 1), (87, .getfield 115, 3), (90, .if_icmp .lt 11, 3), (93, .aload_n 0, 1), (94, .iconst 0, 1), (95, .putfield 138, 3), (98, .goto 233, 3), (101, .iload_n 1, 1), (102, .invokestatic 141, 3), (105, .ifCond .eq 75, 3), (108, .aload_n 0, 1), (109, .aload_n 0, 1), (110, .getfield 118, 3), (113, .invokevirtual 121, 3), (116, .invokestatic 141, 3), (119, .ifCond .eq 53, 3), (122, .aload_n 0, 1), (123, .getfield 118, 3), (126, .aload_n 0, 1), (127, .getfield 125, 3), (130, .isub, 1), (131, .bipush 6, 2), (133, .if_icmp .ge 26, 3), (136, .aload_n 0, 1), (137, .aload_n 0, 1), (138, .getfield 128, 3), (141, .iconst 5, 1), (142, .lshl, 1), (143, .aload_n 0, 1), (144, .aload_n 0, 1), (145, .getfield 118, 3), (148, .invokevirtual 121, 3), (151, .bipush 96, 2), (153, .isub, 1), (154, .i2l, 1), (155, .lor, 1), (156, .putfield 128, 3), (159, .aload_n 0, 1), (160, .dup, 1), (161, .getfield 118, 3), (164, .iconst 1, 1), (165, .iadd, 1), (166, .putfield 118, 3), (169, .goto (-61), 3), (172, .aload_n 0, 1), (173, .iconst 1, 1), (174, .putfield 138, 3), (177, .goto 154, 3), (180, .iload_n 1, 1), (181, .invokestatic 145, 3), (184, .ifCond .eq 74, 3), (187, .aload_n 0, 1), (188, .aload_n 0, 1), (189, .getfield 118, 3), (192, .invokevirtual 121, 3), (195, .invokestatic 145, 3), (198, .ifCond .eq 52, 3), (201, .aload_n 0, 1), (202, .getfield 118, 3), (205, .aload_n 0, 1), (206, .getfield 125, 3), (209, .isub, 1), (210, .iconst 4, 1), (211, .if_icmp .ge 26, 3), (214, .aload_n 0, 1), (215, .bipush 10, 2), (217, .aload_n 0, 1), (218, .getfield 132, 3), (221, .imul, 1), (222, .aload_n 0, 1), (223, .aload_n 0, 1), (224, .getfield 118, 3), (227, .invokevirtual 121, 3), (230, .iadd, 1), (231, .bipush 48, 2), (233, .isub, 1), (234, .putfield 132, 3), (237, .aload_n 0, 1), (238, .dup, 1), (239, .getfield 118, 3), (242, .iconst 1, 1), (243, .iadd, 1), (244, .putfield 118, 3), (247, .goto (-60), 3), (250, .aload_n 0, 1), (251, .iconst 2, 1), (252, .putfield 138, 3), (255, .goto 76, 3), (258, .aload_n 0, 1), (259, .dup, 1), (260, .getfield 118, 3), (263, .iconst 1, 1), (264, .iadd, 1), (265, .putfield 118, 3), (268, .aload_n 0, 1), (269, .iload_n 1, 1), (270, .bipush 59, 2), (272, .if_icmp .eq 51, 3), (275, .iload_n 1, 1), (276, .bipush 40, 2), (278, .if_icmp .eq 45, 3), (281, .iload_n 1, 1), (282, .bipush 41, 2), (284, .if_icmp .eq 39, 3), (287, .iload_n 1, 1), (288, .bipush 43, 2), (290, .if_icmp .eq 33, 3), (293, .iload_n 1, 1), (294, .bipush 45, 2), (296, .if_icmp .eq 27, 3), (299, .iload_n 1, 1), (300, .bipush 42, 2), (302, .if_icmp .eq 21, 3), (305, .iload_n 1, 1), (306, .bipush 47, 2), (308, .if_icmp .eq 15, 3), (311, .iload_n 1, 1), (312, .bipush 60, 2), (314, .if_icmp .eq 9, 3), (317, .iload_n 1, 1), (318, .bipush 61, 2), (320, .if_icmp .ne 7, 3), (323, .iconst 3, 1), (324, .goto 4, 3), (327, .iconst 4, 1), (328, .putfield 138, 3), (331, .aload_n 0, 1), (332, .aload_n 0, 1), (333, .getfield 118, 3), (336, .aload_n 0, 1), (337, .getfield 125, 3), (340, .isub, 1), (341, .putfield 148, 3), (344, .return_, 1)]
theorem dtX12_goes : tX12_goes.all (fun q => decide (decode cX12_goes q.1 = .ok (q.2.1, q.2.2))) = true := by decide +kernel
theorem npX12_goes : (parseMethodDescriptor (mY mX12_goes).desc).map (fun d => d.parameters.length) = some 0 := by decide +kernel
theorem vX12_goes : mV mX12_goes := ⟨wI_X12_goes, wS_X12_goes, wN_X12, wC_X12_goes, by decide +kernel, by decide +kernel⟩
set_option maxHeartbeats 4000000 in
set_option maxRecDepth 100000 in
theorem lp_goes1 {Z : CT → State → Prop} {h : HP} {tp : Int → Int} {n : Nat}  : ∀ (d k : Nat) (hh : HP), k + d = n → hI hh 0 17 = (k : Int) → MX hh tp n → FL [] ML [] h hh → (∀ h2 : HP, hI h2 0 17 = (skF tp d k : Int) → MX h2 tp n → FL [] ML [] h h2 → K mX12_goes GK Z 0 0 50 [(0, vr 0)] [] h2) → K mX12_goes GK Z 0 0 0 [(0, vr 0)] [] hh := by
  intro d
  induction d with
  | zero =>
    intro k hh hk e2 T F kx
    have hn7 := T.2.1
    have hb := byF_b (k := k) T
    refine K_aload_n (dt_at dtX12_goes 0 rfl) rfl rfl ?_
    refine K_get (a := 0) (ci := 12) (k := 17) (v := vi (k : Int)) (dt_at dtX12_goes 1 rfl) (show TT 0 = (0, 12) from rfl) rfl (by decide) wF_X12_118 (by show vi (hI hh 0 17) = vi (k : Int); rw [e2]) ?_
    refine K_aload_n (dt_at dtX12_goes 2 rfl) rfl rfl ?_
    refine K_get (a := 0) (ci := 12) (k := 16) (v := vi (n : Int)) (dt_at dtX12_goes 3 rfl) (show TT 0 = (0, 12) from rfl) rfl (by decide) wF_X12_115 (by show vi (hI hh 0 16) = vi (n : Int); rw [T.1]) ?_
    refine K_icmp_ge (tgt := 50) (dt_at dtX12_goes 4 rfl) (by decide) (by first | assumption | exact ⟨by omega, by omega⟩) (by first | assumption | exact ⟨by omega, by omega⟩) (fun c1 => ?_) (fun c1 => absurd c1 (by omega))
    exact kx hh e2 T F
  | succ d ih =>
    intro k hh hk e2 T F kx
    have hn7 := T.2.1
    have hb := byF_b (k := k) T
    have eb : byF tp n k = tp (k : Int) := byF_l (by omega)
    refine K_aload_n (dt_at dtX12_goes 0 rfl) rfl rfl ?_
    refine K_get (a := 0) (ci := 12) (k := 17) (v := vi (k : Int)) (dt_at dtX12_goes 1 rfl) (show TT 0 = (0, 12) from rfl) rfl (by decide) wF_X12_118 (by show vi (hI hh 0 17) = vi (k : Int); rw [e2]) ?_
    refine K_aload_n (dt_at dtX12_goes 2 rfl) rfl rfl ?_
    refine K_get (a := 0) (ci := 12) (k := 16) (v := vi (n : Int)) (dt_at dtX12_goes 3 rfl) (show TT 0 = (0, 12) from rfl) rfl (by decide) wF_X12_115 (by show vi (hI hh 0 16) = vi (n : Int); rw [T.1]) ?_
    refine K_icmp_ge (tgt := 50) (dt_at dtX12_goes 4 rfl) (by decide) (by first | assumption | exact ⟨by omega, by omega⟩) (by first | assumption | exact ⟨by omega, by omega⟩) (fun c1 => absurd c1 (by omega)) (fun c1 => ?_)
    refine K_aload_n (dt_at dtX12_goes 5 rfl) rfl rfl ?_
    refine K_aload_n (dt_at dtX12_goes 6 rfl) rfl rfl ?_
    refine K_get (a := 0) (ci := 12) (k := 17) (v := vi (k : Int)) (dt_at dtX12_goes 7 rfl) (show TT 0 = (0, 12) from rfl) rfl (by decide) wF_X12_118 (by show vi (hI hh 0 17) = vi (k : Int); rw [e2]) ?_
    refine K_callV (M' := mX12_byteAt) (a := 0) (ci := 12) (As := [vi (k : Int)]) (st := []) (dt_at dtX12_goes 8 rfl) (byA (k := k) T (by omega)) (show TT 0 = (0, 12) from rfl) rfl wL_X12_121 vX12_byteAt rfl npX12_byteAt (by decide) (by decide) (Nat.le_of_ble_eq_true rfl) (by decide) (by decide) GK_E (fun v9 h9 hq => ?_) (fun E h9 hq => by cases hq.1)
    obtain ⟨e9, e8⟩ := hq
    cases e9
    rw [e8]
    show K mX12_goes _ _ 0 0 19 [(0, vr 0)] [vi (byF tp n k)] hh
    refine K_bipush (dt_at dtX12_goes 9 rfl) (by decide) ?_
    refine K_icmp_eq (tgt := 37) (dt_at dtX12_goes 10 rfl) (by decide) (by first | assumption | exact ⟨by omega, by omega⟩) (by first | assumption | exact ⟨by omega, by omega⟩) (fun c2 => ?_) (fun c2 => ?_)
    · refine K_aload_n (dt_at dtX12_goes 17 rfl) rfl rfl ?_
      refine K_dup (dt_at dtX12_goes 18 rfl) rfl ?_
      refine K_get (a := 0) (ci := 12) (k := 17) (v := vi (k : Int)) (dt_at dtX12_goes 19 rfl) (show TT 0 = (0, 12) from rfl) rfl (by decide) wF_X12_118 (by show vi (hI hh 0 17) = vi (k : Int); rw [e2]) ?_
      refine K_iconst (dt_at dtX12_goes 20 rfl) ?_
      refine K_iadd (dt_at dtX12_goes 21 rfl) ?_
      refine K_putI (a := 0) (ci := 12) (k := 17) (dt_at dtX12_goes 22 rfl) (show TT 0 = (0, 12) from rfl) rfl (by decide) wF_X12_118 rfl (Or.inl rfl) rfl rfl ?_
      obtain ⟨hq1, eq1⟩ : ∃ z, z = sI hh 0 17 ((k : Int) + 1) := ⟨_, rfl⟩
      rw [← eq1]
      obtain ⟨iq1, fq1, aq1, rq1⟩ := sI_fx eq1
      refine K_goto (tgt := 0) (dt_at dtX12_goes 23 rfl) (by decide) ?_
      exact ih (k + 1) hq1 (by omega) (by rw [iq1]; rfl) (MX_FL T (FL_tr (FL_rf : FL [] ML [] hh hh) (FL_eI eq1 rfl)) rfl rfl) (FL_tr F (FL_eI eq1 rfl)) (fun h2 e9 => kx h2 (by rw [e9, skF_t (by omega)]))
    · refine K_aload_n (dt_at dtX12_goes 11 rfl) rfl rfl ?_
      refine K_aload_n (dt_at dtX12_goes 12 rfl) rfl rfl ?_
      refine K_get (a := 0) (ci := 12) (k := 17) (v := vi (k : Int)) (dt_at dtX12_goes 13 rfl) (show TT 0 = (0, 12) from rfl) rfl (by decide) wF_X12_118 (by show vi (hI hh 0 17) = vi (k : Int); rw [e2]) ?_
      refine K_callV (M' := mX12_byteAt) (a := 0) (ci := 12) (As := [vi (k : Int)]) (st := []) (dt_at dtX12_goes 14 rfl) (byA (k := k) T (by omega)) (show TT 0 = (0, 12) from rfl) rfl wL_X12_121 vX12_byteAt rfl npX12_byteAt (by decide) (by decide) (Nat.le_of_ble_eq_true rfl) (by decide) (by decide) GK_E (fun v9 h9 hq => ?_) (fun E h9 hq => by cases hq.1)
      obtain ⟨e9, e8⟩ := hq
      cases e9
      rw [e8]
      show K mX12_goes _ _ 0 0 32 [(0, vr 0)] [vi (byF tp n k)] hh
      refine K_bipush (dt_at dtX12_goes 15 rfl) (by decide) ?_
      refine K_icmp_ne (tgt := 50) (dt_at dtX12_goes 16 rfl) (by decide) (by first | assumption | exact ⟨by omega, by omega⟩) (by first | assumption | exact ⟨by omega, by omega⟩) (fun c3 => ?_) (fun c3 => ?_)
      · exact kx hh (by rw [e2, skF_f (by omega)]) T F
      · refine K_aload_n (dt_at dtX12_goes 17 rfl) rfl rfl ?_
        refine K_dup (dt_at dtX12_goes 18 rfl) rfl ?_
        refine K_get (a := 0) (ci := 12) (k := 17) (v := vi (k : Int)) (dt_at dtX12_goes 19 rfl) (show TT 0 = (0, 12) from rfl) rfl (by decide) wF_X12_118 (by show vi (hI hh 0 17) = vi (k : Int); rw [e2]) ?_
        refine K_iconst (dt_at dtX12_goes 20 rfl) ?_
        refine K_iadd (dt_at dtX12_goes 21 rfl) ?_
        refine K_putI (a := 0) (ci := 12) (k := 17) (dt_at dtX12_goes 22 rfl) (show TT 0 = (0, 12) from rfl) rfl (by decide) wF_X12_118 rfl (Or.inl rfl) rfl rfl ?_
        obtain ⟨hq2, eq2⟩ : ∃ z, z = sI hh 0 17 ((k : Int) + 1) := ⟨_, rfl⟩
        rw [← eq2]
        obtain ⟨iq2, fq2, aq2, rq2⟩ := sI_fx eq2
        refine K_goto (tgt := 0) (dt_at dtX12_goes 23 rfl) (by decide) ?_
        exact ih (k + 1) hq2 (by omega) (by rw [iq2]; rfl) (MX_FL T (FL_tr (FL_rf : FL [] ML [] hh hh) (FL_eI eq2 rfl)) rfl rfl) (FL_tr F (FL_eI eq2 rfl)) (fun h2 e9 => kx h2 (by rw [e9, skF_t (by omega)]))
set_option maxHeartbeats 4000000 in
set_option maxRecDepth 100000 in
theorem lp_goes2 {Z : CT → State → Prop} {h : HP} {tp : Int → Int} {n : Nat} {s : Nat} {w : Int}  : ∀ (d k : Nat) (hh : HP), k + d = n → s ≤ k → hI hh 0 17 = (k : Int) → hI hh 0 23 = (pkF (ltr tp s) (min (k - s) 6)) → hI hh 0 19 = (s : Int) → (∀ j : Nat, s ≤ j → j < k → kd (tp (j : Int)) = 1) → MX hh tp n → FL [] [(0, 17), (0, 23)] [] h hh → (∀ h2 : HP, hI h2 0 17 = (rnF tp 1 d k : Int) → hI h2 0 23 = (pkF (ltr tp s) (min (rnF tp 1 d k - s) 6)) → hI h2 0 19 = (s : Int) → (∀ j : Nat, s ≤ j → j < rnF tp 1 d k → kd (tp (j : Int)) = 1) → MX h2 tp n → FL [] [(0, 17), (0, 23)] [] h h2 → K mX12_goes GK Z 0 0 172 [(1, vi w), (0, vr 0)] [] h2) → K mX12_goes GK Z 0 0 108 [(1, vi w), (0, vr 0)] [] hh := by
  intro d
  induction d with
  | zero =>
    intro k hh hk hsk e2 e3 e4 hl9 T F kx
    have hn7 := T.2.1
    have hb := byF_b (k := k) T
    have hw := pk_all hl9
    have eb : byF tp n k = 0 := byF_g (by omega)
    refine K_aload_n (dt_at dtX12_goes 54 rfl) rfl rfl ?_
    refine K_aload_n (dt_at dtX12_goes 55 rfl) rfl rfl ?_
    refine K_get (a := 0) (ci := 12) (k := 17) (v := vi (k : Int)) (dt_at dtX12_goes 56 rfl) (show TT 0 = (0, 12) from rfl) rfl (by decide) wF_X12_118 (by show vi (hI hh 0 17) = vi (k : Int); rw [e2]) ?_
    refine K_callV (M' := mX12_byteAt) (a := 0) (ci := 12) (As := [vi (k : Int)]) (st := []) (dt_at dtX12_goes 57 rfl) (byA (k := k) T (by omega)) (show TT 0 = (0, 12) from rfl) rfl wL_X12_121 vX12_byteAt rfl npX12_byteAt (by decide) (by decide) (Nat.le_of_ble_eq_true rfl) (by decide) (by decide) GK_E (fun v9 h9 hq => ?_) (fun E h9 hq => by cases hq.1)
    obtain ⟨e9, e8⟩ := hq
    cases e9
    rw [e8]
    show K mX12_goes _ _ 0 0 116 [(1, vi w), (0, vr 0)] [vi (byF tp n k)] hh
    refine K_callS (M' := mX12_isLetter) (As := [vi (byF tp n k)]) (st := []) (dt_at dtX12_goes 58 rfl) (sX12_isLetter (c := (byF tp n k)) ⟨by omega, by omega⟩) wL_X12_141 vX12_isLetter rfl npX12_isLetter (by decide) (by decide) (Nat.le_of_ble_eq_true rfl) (by decide) (by decide) GK_E (fun v9 h9 hq => ?_) (fun E h9 hq => by cases hq.1)
    obtain ⟨e9, e8⟩ := hq
    cases e9
    rw [e8]
    show K mX12_goes _ _ 0 0 119 [(1, vi w), (0, vr 0)] [vi (if 97 ≤ (byF tp n k) ∧ (byF tp n k) ≤ 122 then 1 else 0)] hh
    by_cases z1 : 97 ≤ (byF tp n k) ∧ (byF tp n k) ≤ 122
    · rw [if_pos z1]
      refine K_if_eq (tgt := 172) (dt_at dtX12_goes 59 rfl) (by decide) (by first | assumption | exact ⟨by omega, by omega⟩) (fun c2 => absurd c2 (by omega)) (fun c2 => ?_)
      exfalso
      omega
    · rw [if_neg z1]
      refine K_if_eq (tgt := 172) (dt_at dtX12_goes 59 rfl) (by decide) (by first | assumption | exact ⟨by omega, by omega⟩) (fun c3 => ?_) (fun c3 => absurd c3 (by omega))
      exact kx hh e2 e3 e4 hl9 T F
  | succ d ih =>
    intro k hh hk hsk e2 e3 e4 hl9 T F kx
    have hn7 := T.2.1
    have hb := byF_b (k := k) T
    have hw := pk_all hl9
    have eb : byF tp n k = tp (k : Int) := byF_l (by omega)
    refine K_aload_n (dt_at dtX12_goes 54 rfl) rfl rfl ?_
    refine K_aload_n (dt_at dtX12_goes 55 rfl) rfl rfl ?_
    refine K_get (a := 0) (ci := 12) (k := 17) (v := vi (k : Int)) (dt_at dtX12_goes 56 rfl) (show TT 0 = (0, 12) from rfl) rfl (by decide) wF_X12_118 (by show vi (hI hh 0 17) = vi (k : Int); rw [e2]) ?_
    refine K_callV (M' := mX12_byteAt) (a := 0) (ci := 12) (As := [vi (k : Int)]) (st := []) (dt_at dtX12_goes 57 rfl) (byA (k := k) T (by omega)) (show TT 0 = (0, 12) from rfl) rfl wL_X12_121 vX12_byteAt rfl npX12_byteAt (by decide) (by decide) (Nat.le_of_ble_eq_true rfl) (by decide) (by decide) GK_E (fun v9 h9 hq => ?_) (fun E h9 hq => by cases hq.1)
    obtain ⟨e9, e8⟩ := hq
    cases e9
    rw [e8]
    show K mX12_goes _ _ 0 0 116 [(1, vi w), (0, vr 0)] [vi (byF tp n k)] hh
    refine K_callS (M' := mX12_isLetter) (As := [vi (byF tp n k)]) (st := []) (dt_at dtX12_goes 58 rfl) (sX12_isLetter (c := (byF tp n k)) ⟨by omega, by omega⟩) wL_X12_141 vX12_isLetter rfl npX12_isLetter (by decide) (by decide) (Nat.le_of_ble_eq_true rfl) (by decide) (by decide) GK_E (fun v9 h9 hq => ?_) (fun E h9 hq => by cases hq.1)
    obtain ⟨e9, e8⟩ := hq
    cases e9
    rw [e8]
    show K mX12_goes _ _ 0 0 119 [(1, vi w), (0, vr 0)] [vi (if 97 ≤ (byF tp n k) ∧ (byF tp n k) ≤ 122 then 1 else 0)] hh
    by_cases z1 : 97 ≤ (byF tp n k) ∧ (byF tp n k) ≤ 122
    · rw [if_pos z1]
      refine K_if_eq (tgt := 172) (dt_at dtX12_goes 59 rfl) (by decide) (by first | assumption | exact ⟨by omega, by omega⟩) (fun c2 => absurd c2 (by omega)) (fun c2 => ?_)
      refine K_aload_n (dt_at dtX12_goes 60 rfl) rfl rfl ?_
      refine K_get (a := 0) (ci := 12) (k := 17) (v := vi (k : Int)) (dt_at dtX12_goes 61 rfl) (show TT 0 = (0, 12) from rfl) rfl (by decide) wF_X12_118 (by show vi (hI hh 0 17) = vi (k : Int); rw [e2]) ?_
      refine K_aload_n (dt_at dtX12_goes 62 rfl) rfl rfl ?_
      refine K_get (a := 0) (ci := 12) (k := 19) (v := vi (s : Int)) (dt_at dtX12_goes 63 rfl) (show TT 0 = (0, 12) from rfl) rfl (by decide) wF_X12_125 (by show vi (hI hh 0 19) = vi (s : Int); rw [e4]) ?_
      refine K_isub (dt_at dtX12_goes 64 rfl) ?_
      refine K_bipush (dt_at dtX12_goes 65 rfl) (by decide) ?_
      refine K_icmp_ge (tgt := 159) (dt_at dtX12_goes 66 rfl) (by decide) (by first | assumption | exact ⟨by omega, by omega⟩) (by first | assumption | exact ⟨by omega, by omega⟩) (fun c3 => ?_) (fun c3 => ?_)
      · refine K_aload_n (dt_at dtX12_goes 81 rfl) rfl rfl ?_
        refine K_dup (dt_at dtX12_goes 82 rfl) rfl ?_
        refine K_get (a := 0) (ci := 12) (k := 17) (v := vi (k : Int)) (dt_at dtX12_goes 83 rfl) (show TT 0 = (0, 12) from rfl) rfl (by decide) wF_X12_118 (by show vi (hI hh 0 17) = vi (k : Int); rw [e2]) ?_
        refine K_iconst (dt_at dtX12_goes 84 rfl) ?_
        refine K_iadd (dt_at dtX12_goes 85 rfl) ?_
        refine K_putI (a := 0) (ci := 12) (k := 17) (dt_at dtX12_goes 86 rfl) (show TT 0 = (0, 12) from rfl) rfl (by decide) wF_X12_118 rfl (Or.inl rfl) rfl rfl ?_
        obtain ⟨hq1, eq1⟩ : ∃ z, z = sI hh 0 17 ((k : Int) + 1) := ⟨_, rfl⟩
        rw [← eq1]
        obtain ⟨iq1, fq1, aq1, rq1⟩ := sI_fx eq1
        refine K_goto (tgt := 108) (dt_at dtX12_goes 87 rfl) (by decide) ?_
        exact ih (k + 1) hq1 (by omega) (by omega) (by rw [iq1]; rfl) (by rw [(fq1 0 23 (by omega)), e3]; exact pk_st (by omega)) (by rw [(fq1 0 19 (by omega)), e4]) (le_all hl9 (kd_1 (by omega))) (MX_FL T (FL_tr (FL_rf : FL [] [(0, 17), (0, 23)] [] hh hh) (FL_eI eq1 rfl)) rfl rfl) (FL_tr F (FL_eI eq1 rfl)) (fun h2 e9 e8 e7 e6 => kx h2 (by rw [e9, rnF_t ⟨by decide, kd_1 (by omega)⟩]) (by rw [e8, rnF_t ⟨by decide, kd_1 (by omega)⟩]) e7 (by rw [rnF_t ⟨by decide, kd_1 (by omega)⟩]; exact e6))
      · refine K_aload_n (dt_at dtX12_goes 67 rfl) rfl rfl ?_
        refine K_aload_n (dt_at dtX12_goes 68 rfl) rfl rfl ?_
        refine K_get (a := 0) (ci := 12) (k := 23) (v := vl (pkF (ltr tp s) (min (k - s) 6))) (dt_at dtX12_goes 69 rfl) (show TT 0 = (0, 12) from rfl) rfl (by decide) wF_X12_128 (by show vl (hI hh 0 23) = vl (pkF (ltr tp s) (min (k - s) 6)); rw [e3]) ?_
        refine K_iconst (dt_at dtX12_goes 70 rfl) ?_
        refine K_lsh5 (dt_at dtX12_goes 71 rfl) ?_
        refine K_aload_n (dt_at dtX12_goes 72 rfl) rfl rfl ?_
        refine K_aload_n (dt_at dtX12_goes 73 rfl) rfl rfl ?_
        refine K_get (a := 0) (ci := 12) (k := 17) (v := vi (k : Int)) (dt_at dtX12_goes 74 rfl) (show TT 0 = (0, 12) from rfl) rfl (by decide) wF_X12_118 (by show vi (hI hh 0 17) = vi (k : Int); rw [e2]) ?_
        refine K_callV (M' := mX12_byteAt) (a := 0) (ci := 12) (As := [vi (k : Int)]) (st := [vl ((pkF (ltr tp s) (min (k - s) 6)) * 32), vr 0]) (dt_at dtX12_goes 75 rfl) (byA (k := k) T (by omega)) (show TT 0 = (0, 12) from rfl) rfl wL_X12_121 vX12_byteAt rfl npX12_byteAt (by decide) (by decide) (Nat.le_of_ble_eq_true rfl) (by decide) (by decide) GK_E (fun v9 h9 hq => ?_) (fun E h9 hq => by cases hq.1)
        obtain ⟨e9, e8⟩ := hq
        cases e9
        rw [e8]
        show K mX12_goes _ _ 0 0 151 [(1, vi w), (0, vr 0)] [vi (byF tp n k), vl ((pkF (ltr tp s) (min (k - s) 6)) * 32), vr 0] hh
        refine K_bipush (dt_at dtX12_goes 76 rfl) (by decide) ?_
        refine K_isub (dt_at dtX12_goes 77 rfl) ?_
        refine K_i2l (dt_at dtX12_goes 78 rfl) (by first | assumption | exact ⟨by omega, by omega⟩) ?_
        refine K_lor (dt_at dtX12_goes 79 rfl) (by omega) (by omega) ?_
        refine K_putL (a := 0) (ci := 12) (k := 23) (dt_at dtX12_goes 80 rfl) (show TT 0 = (0, 12) from rfl) rfl (by decide) wF_X12_128 rfl rfl rfl rfl ?_
        obtain ⟨hq2, eq2⟩ : ∃ z, z = sI hh 0 23 (((pkF (ltr tp s) (min (k - s) 6)) * 32) + ((byF tp n k) - 96)) := ⟨_, rfl⟩
        rw [← eq2]
        obtain ⟨iq2, fq2, aq2, rq2⟩ := sI_fx eq2
        refine K_aload_n (dt_at dtX12_goes 81 rfl) rfl rfl ?_
        refine K_dup (dt_at dtX12_goes 82 rfl) rfl ?_
        refine K_get (a := 0) (ci := 12) (k := 17) (v := vi (k : Int)) (dt_at dtX12_goes 83 rfl) (show TT 0 = (0, 12) from rfl) rfl (by decide) wF_X12_118 (by show vi (hI hq2 0 17) = vi (k : Int); rw [(fq2 0 17 (by omega)), e2]) ?_
        refine K_iconst (dt_at dtX12_goes 84 rfl) ?_
        refine K_iadd (dt_at dtX12_goes 85 rfl) ?_
        refine K_putI (a := 0) (ci := 12) (k := 17) (dt_at dtX12_goes 86 rfl) (show TT 0 = (0, 12) from rfl) rfl (by decide) wF_X12_118 rfl (Or.inl rfl) rfl rfl ?_
        obtain ⟨hq3, eq3⟩ : ∃ z, z = sI hq2 0 17 ((k : Int) + 1) := ⟨_, rfl⟩
        rw [← eq3]
        obtain ⟨iq3, fq3, aq3, rq3⟩ := sI_fx eq3
        refine K_goto (tgt := 108) (dt_at dtX12_goes 87 rfl) (by decide) ?_
        exact ih (k + 1) hq3 (by omega) (by omega) (by rw [iq3]; rfl) (by rw [(fq3 0 23 (by omega)), iq2, eb]; exact pk_nx (by omega) (by omega)) (by rw [(fq3 0 19 (by omega)), (fq2 0 19 (by omega)), e4]) (le_all hl9 (kd_1 (by omega))) (MX_FL T (FL_tr (FL_tr (FL_rf : FL [] [(0, 17), (0, 23)] [] hh hh) (FL_eI eq2 rfl)) (FL_eI eq3 rfl)) rfl rfl) (FL_tr (FL_tr F (FL_eI eq2 rfl)) (FL_eI eq3 rfl)) (fun h2 e9 e8 e7 e6 => kx h2 (by rw [e9, rnF_t ⟨by decide, kd_1 (by omega)⟩]) (by rw [e8, rnF_t ⟨by decide, kd_1 (by omega)⟩]) e7 (by rw [rnF_t ⟨by decide, kd_1 (by omega)⟩]; exact e6))
    · rw [if_neg z1]
      refine K_if_eq (tgt := 172) (dt_at dtX12_goes 59 rfl) (by decide) (by first | assumption | exact ⟨by omega, by omega⟩) (fun c4 => ?_) (fun c4 => absurd c4 (by omega))
      have hr : rnF tp 1 (d + 1) k = k := rnF_f (fun z => by have z1 := kd_1i.mp z.2; omega)
      rw [hr] at kx
      exact kx hh e2 e3 e4 hl9 T F
set_option maxHeartbeats 4000000 in
set_option maxRecDepth 100000 in
theorem lp_goes3 {Z : CT → State → Prop} {h : HP} {tp : Int → Int} {n : Nat} {s : Nat} {w : Int}  : ∀ (d k : Nat) (hh : HP), k + d = n → s ≤ k → hI hh 0 17 = (k : Int) → hI hh 0 21 = (nm tp s (min (k - s) 4)) → hI hh 0 19 = (s : Int) → (∀ j : Nat, s ≤ j → j < k → kd (tp (j : Int)) = 2) → MX hh tp n → FL [] [(0, 17), (0, 21)] [] h hh → (∀ h2 : HP, hI h2 0 17 = (rnF tp 2 d k : Int) → hI h2 0 21 = (nm tp s (min (rnF tp 2 d k - s) 4)) → hI h2 0 19 = (s : Int) → (∀ j : Nat, s ≤ j → j < rnF tp 2 d k → kd (tp (j : Int)) = 2) → MX h2 tp n → FL [] [(0, 17), (0, 21)] [] h h2 → K mX12_goes GK Z 0 0 250 [(1, vi w), (0, vr 0)] [] h2) → K mX12_goes GK Z 0 0 187 [(1, vi w), (0, vr 0)] [] hh := by
  intro d
  induction d with
  | zero =>
    intro k hh hk hsk e2 e3 e4 hl9 T F kx
    have hn7 := T.2.1
    have hb := byF_b (k := k) T
    have hw := nm_all hl9
    have eb : byF tp n k = 0 := byF_g (by omega)
    refine K_aload_n (dt_at dtX12_goes 95 rfl) rfl rfl ?_
    refine K_aload_n (dt_at dtX12_goes 96 rfl) rfl rfl ?_
    refine K_get (a := 0) (ci := 12) (k := 17) (v := vi (k : Int)) (dt_at dtX12_goes 97 rfl) (show TT 0 = (0, 12) from rfl) rfl (by decide) wF_X12_118 (by show vi (hI hh 0 17) = vi (k : Int); rw [e2]) ?_
    refine K_callV (M' := mX12_byteAt) (a := 0) (ci := 12) (As := [vi (k : Int)]) (st := []) (dt_at dtX12_goes 98 rfl) (byA (k := k) T (by omega)) (show TT 0 = (0, 12) from rfl) rfl wL_X12_121 vX12_byteAt rfl npX12_byteAt (by decide) (by decide) (Nat.le_of_ble_eq_true rfl) (by decide) (by decide) GK_E (fun v9 h9 hq => ?_) (fun E h9 hq => by cases hq.1)
    obtain ⟨e9, e8⟩ := hq
    cases e9
    rw [e8]
    show K mX12_goes _ _ 0 0 195 [(1, vi w), (0, vr 0)] [vi (byF tp n k)] hh
    refine K_callS (M' := mX12_isDigit) (As := [vi (byF tp n k)]) (st := []) (dt_at dtX12_goes 99 rfl) (sX12_isDigit (c := (byF tp n k)) ⟨by omega, by omega⟩) wL_X12_145 vX12_isDigit rfl npX12_isDigit (by decide) (by decide) (Nat.le_of_ble_eq_true rfl) (by decide) (by decide) GK_E (fun v9 h9 hq => ?_) (fun E h9 hq => by cases hq.1)
    obtain ⟨e9, e8⟩ := hq
    cases e9
    rw [e8]
    show K mX12_goes _ _ 0 0 198 [(1, vi w), (0, vr 0)] [vi (if 48 ≤ (byF tp n k) ∧ (byF tp n k) ≤ 57 then 1 else 0)] hh
    by_cases z1 : 48 ≤ (byF tp n k) ∧ (byF tp n k) ≤ 57
    · rw [if_pos z1]
      refine K_if_eq (tgt := 250) (dt_at dtX12_goes 100 rfl) (by decide) (by first | assumption | exact ⟨by omega, by omega⟩) (fun c2 => absurd c2 (by omega)) (fun c2 => ?_)
      exfalso
      omega
    · rw [if_neg z1]
      refine K_if_eq (tgt := 250) (dt_at dtX12_goes 100 rfl) (by decide) (by first | assumption | exact ⟨by omega, by omega⟩) (fun c3 => ?_) (fun c3 => absurd c3 (by omega))
      exact kx hh e2 e3 e4 hl9 T F
  | succ d ih =>
    intro k hh hk hsk e2 e3 e4 hl9 T F kx
    have hn7 := T.2.1
    have hb := byF_b (k := k) T
    have hw := nm_all hl9
    have eb : byF tp n k = tp (k : Int) := byF_l (by omega)
    refine K_aload_n (dt_at dtX12_goes 95 rfl) rfl rfl ?_
    refine K_aload_n (dt_at dtX12_goes 96 rfl) rfl rfl ?_
    refine K_get (a := 0) (ci := 12) (k := 17) (v := vi (k : Int)) (dt_at dtX12_goes 97 rfl) (show TT 0 = (0, 12) from rfl) rfl (by decide) wF_X12_118 (by show vi (hI hh 0 17) = vi (k : Int); rw [e2]) ?_
    refine K_callV (M' := mX12_byteAt) (a := 0) (ci := 12) (As := [vi (k : Int)]) (st := []) (dt_at dtX12_goes 98 rfl) (byA (k := k) T (by omega)) (show TT 0 = (0, 12) from rfl) rfl wL_X12_121 vX12_byteAt rfl npX12_byteAt (by decide) (by decide) (Nat.le_of_ble_eq_true rfl) (by decide) (by decide) GK_E (fun v9 h9 hq => ?_) (fun E h9 hq => by cases hq.1)
    obtain ⟨e9, e8⟩ := hq
    cases e9
    rw [e8]
    show K mX12_goes _ _ 0 0 195 [(1, vi w), (0, vr 0)] [vi (byF tp n k)] hh
    refine K_callS (M' := mX12_isDigit) (As := [vi (byF tp n k)]) (st := []) (dt_at dtX12_goes 99 rfl) (sX12_isDigit (c := (byF tp n k)) ⟨by omega, by omega⟩) wL_X12_145 vX12_isDigit rfl npX12_isDigit (by decide) (by decide) (Nat.le_of_ble_eq_true rfl) (by decide) (by decide) GK_E (fun v9 h9 hq => ?_) (fun E h9 hq => by cases hq.1)
    obtain ⟨e9, e8⟩ := hq
    cases e9
    rw [e8]
    show K mX12_goes _ _ 0 0 198 [(1, vi w), (0, vr 0)] [vi (if 48 ≤ (byF tp n k) ∧ (byF tp n k) ≤ 57 then 1 else 0)] hh
    by_cases z1 : 48 ≤ (byF tp n k) ∧ (byF tp n k) ≤ 57
    · rw [if_pos z1]
      refine K_if_eq (tgt := 250) (dt_at dtX12_goes 100 rfl) (by decide) (by first | assumption | exact ⟨by omega, by omega⟩) (fun c2 => absurd c2 (by omega)) (fun c2 => ?_)
      refine K_aload_n (dt_at dtX12_goes 101 rfl) rfl rfl ?_
      refine K_get (a := 0) (ci := 12) (k := 17) (v := vi (k : Int)) (dt_at dtX12_goes 102 rfl) (show TT 0 = (0, 12) from rfl) rfl (by decide) wF_X12_118 (by show vi (hI hh 0 17) = vi (k : Int); rw [e2]) ?_
      refine K_aload_n (dt_at dtX12_goes 103 rfl) rfl rfl ?_
      refine K_get (a := 0) (ci := 12) (k := 19) (v := vi (s : Int)) (dt_at dtX12_goes 104 rfl) (show TT 0 = (0, 12) from rfl) rfl (by decide) wF_X12_125 (by show vi (hI hh 0 19) = vi (s : Int); rw [e4]) ?_
      refine K_isub (dt_at dtX12_goes 105 rfl) ?_
      refine K_iconst (dt_at dtX12_goes 106 rfl) ?_
      refine K_icmp_ge (tgt := 237) (dt_at dtX12_goes 107 rfl) (by decide) (by first | assumption | exact ⟨by omega, by omega⟩) (by first | assumption | exact ⟨by omega, by omega⟩) (fun c3 => ?_) (fun c3 => ?_)
      · refine K_aload_n (dt_at dtX12_goes 121 rfl) rfl rfl ?_
        refine K_dup (dt_at dtX12_goes 122 rfl) rfl ?_
        refine K_get (a := 0) (ci := 12) (k := 17) (v := vi (k : Int)) (dt_at dtX12_goes 123 rfl) (show TT 0 = (0, 12) from rfl) rfl (by decide) wF_X12_118 (by show vi (hI hh 0 17) = vi (k : Int); rw [e2]) ?_
        refine K_iconst (dt_at dtX12_goes 124 rfl) ?_
        refine K_iadd (dt_at dtX12_goes 125 rfl) ?_
        refine K_putI (a := 0) (ci := 12) (k := 17) (dt_at dtX12_goes 126 rfl) (show TT 0 = (0, 12) from rfl) rfl (by decide) wF_X12_118 rfl (Or.inl rfl) rfl rfl ?_
        obtain ⟨hq1, eq1⟩ : ∃ z, z = sI hh 0 17 ((k : Int) + 1) := ⟨_, rfl⟩
        rw [← eq1]
        obtain ⟨iq1, fq1, aq1, rq1⟩ := sI_fx eq1
        refine K_goto (tgt := 187) (dt_at dtX12_goes 127 rfl) (by decide) ?_
        exact ih (k + 1) hq1 (by omega) (by omega) (by rw [iq1]; rfl) (by rw [(fq1 0 21 (by omega)), e3]; exact nm_st (by omega)) (by rw [(fq1 0 19 (by omega)), e4]) (le_all hl9 (kd_2 (by omega))) (MX_FL T (FL_tr (FL_rf : FL [] [(0, 17), (0, 21)] [] hh hh) (FL_eI eq1 rfl)) rfl rfl) (FL_tr F (FL_eI eq1 rfl)) (fun h2 e9 e8 e7 e6 => kx h2 (by rw [e9, rnF_t ⟨by decide, kd_2 (by omega)⟩]) (by rw [e8, rnF_t ⟨by decide, kd_2 (by omega)⟩]) e7 (by rw [rnF_t ⟨by decide, kd_2 (by omega)⟩]; exact e6))
      · refine K_aload_n (dt_at dtX12_goes 108 rfl) rfl rfl ?_
        refine K_bipush (dt_at dtX12_goes 109 rfl) (by decide) ?_
        refine K_aload_n (dt_at dtX12_goes 110 rfl) rfl rfl ?_
        refine K_get (a := 0) (ci := 12) (k := 21) (v := vi (nm tp s (min (k - s) 4))) (dt_at dtX12_goes 111 rfl) (show TT 0 = (0, 12) from rfl) rfl (by decide) wF_X12_132 (by show vi (hI hh 0 21) = vi (nm tp s (min (k - s) 4)); rw [e3]) ?_
        refine K_imul (dt_at dtX12_goes 112 rfl) ?_
        refine K_aload_n (dt_at dtX12_goes 113 rfl) rfl rfl ?_
        refine K_aload_n (dt_at dtX12_goes 114 rfl) rfl rfl ?_
        refine K_get (a := 0) (ci := 12) (k := 17) (v := vi (k : Int)) (dt_at dtX12_goes 115 rfl) (show TT 0 = (0, 12) from rfl) rfl (by decide) wF_X12_118 (by show vi (hI hh 0 17) = vi (k : Int); rw [e2]) ?_
        refine K_callV (M' := mX12_byteAt) (a := 0) (ci := 12) (As := [vi (k : Int)]) (st := [vi (10 * (nm tp s (min (k - s) 4))), vr 0]) (dt_at dtX12_goes 116 rfl) (byA (k := k) T (by omega)) (show TT 0 = (0, 12) from rfl) rfl wL_X12_121 vX12_byteAt rfl npX12_byteAt (by decide) (by decide) (Nat.le_of_ble_eq_true rfl) (by decide) (by decide) GK_E (fun v9 h9 hq => ?_) (fun E h9 hq => by cases hq.1)
        obtain ⟨e9, e8⟩ := hq
        cases e9
        rw [e8]
        show K mX12_goes _ _ 0 0 230 [(1, vi w), (0, vr 0)] [vi (byF tp n k), vi (10 * (nm tp s (min (k - s) 4))), vr 0] hh
        refine K_iadd (dt_at dtX12_goes 117 rfl) ?_
        refine K_bipush (dt_at dtX12_goes 118 rfl) (by decide) ?_
        refine K_isub (dt_at dtX12_goes 119 rfl) ?_
        refine K_putI (a := 0) (ci := 12) (k := 21) (dt_at dtX12_goes 120 rfl) (show TT 0 = (0, 12) from rfl) rfl (by decide) wF_X12_132 rfl (Or.inl rfl) rfl rfl ?_
        obtain ⟨hq2, eq2⟩ : ∃ z, z = sI hh 0 21 (((10 * (nm tp s (min (k - s) 4))) + (byF tp n k)) - 48) := ⟨_, rfl⟩
        rw [← eq2]
        obtain ⟨iq2, fq2, aq2, rq2⟩ := sI_fx eq2
        refine K_aload_n (dt_at dtX12_goes 121 rfl) rfl rfl ?_
        refine K_dup (dt_at dtX12_goes 122 rfl) rfl ?_
        refine K_get (a := 0) (ci := 12) (k := 17) (v := vi (k : Int)) (dt_at dtX12_goes 123 rfl) (show TT 0 = (0, 12) from rfl) rfl (by decide) wF_X12_118 (by show vi (hI hq2 0 17) = vi (k : Int); rw [(fq2 0 17 (by omega)), e2]) ?_
        refine K_iconst (dt_at dtX12_goes 124 rfl) ?_
        refine K_iadd (dt_at dtX12_goes 125 rfl) ?_
        refine K_putI (a := 0) (ci := 12) (k := 17) (dt_at dtX12_goes 126 rfl) (show TT 0 = (0, 12) from rfl) rfl (by decide) wF_X12_118 rfl (Or.inl rfl) rfl rfl ?_
        obtain ⟨hq3, eq3⟩ : ∃ z, z = sI hq2 0 17 ((k : Int) + 1) := ⟨_, rfl⟩
        rw [← eq3]
        obtain ⟨iq3, fq3, aq3, rq3⟩ := sI_fx eq3
        refine K_goto (tgt := 187) (dt_at dtX12_goes 127 rfl) (by decide) ?_
        exact ih (k + 1) hq3 (by omega) (by omega) (by rw [iq3]; rfl) (by rw [(fq3 0 21 (by omega)), iq2, eb]; exact nm_nx (by omega) (by omega)) (by rw [(fq3 0 19 (by omega)), (fq2 0 19 (by omega)), e4]) (le_all hl9 (kd_2 (by omega))) (MX_FL T (FL_tr (FL_tr (FL_rf : FL [] [(0, 17), (0, 21)] [] hh hh) (FL_eI eq2 rfl)) (FL_eI eq3 rfl)) rfl rfl) (FL_tr (FL_tr F (FL_eI eq2 rfl)) (FL_eI eq3 rfl)) (fun h2 e9 e8 e7 e6 => kx h2 (by rw [e9, rnF_t ⟨by decide, kd_2 (by omega)⟩]) (by rw [e8, rnF_t ⟨by decide, kd_2 (by omega)⟩]) e7 (by rw [rnF_t ⟨by decide, kd_2 (by omega)⟩]; exact e6))
    · rw [if_neg z1]
      refine K_if_eq (tgt := 250) (dt_at dtX12_goes 100 rfl) (by decide) (by first | assumption | exact ⟨by omega, by omega⟩) (fun c4 => ?_) (fun c4 => absurd c4 (by omega))
      have hr : rnF tp 2 (d + 1) k = k := rnF_f (fun z => by have z1 := kd_2i.mp z.2; omega)
      rw [hr] at kx
      exact kx hh e2 e3 e4 hl9 T F
set_option maxHeartbeats 4000000 in
set_option maxRecDepth 100000 in
theorem sX12_goes {h : HP} {tp : Int → Int} {n p : Nat} (T : MX h tp n) (e3 : hI h 0 17 = (p : Int)) (hp : p ≤ n) : SpecK mX12_goes [vr 0] h (fun o h' => o = .inl none ∧ MTk h' tp (tk tp n p) ∧ FL [] ML [] h h') := by
  refine Spec_of (by decide +kernel) (Nat.le_of_ble_eq_true rfl) ?_
  have hn7 := T.2.1
  refine lp_goes1 (h := h) (n - p) p h (by omega) e3 T FL_rf (fun h2 e2 T2 F2 => ?_)
  have hs := skF_b tp (n - p) p
  have ht : tk tp n p = tkE tp n (skF tp (n - p) p) := rfl
  rw [ht]
  generalize skF tp (n - p) p = s at hs e2 ⊢
  have hb := byF_b (k := s) T2
  refine K_aload_n (dt_at dtX12_goes 24 rfl) rfl rfl ?_
  refine K_aload_n (dt_at dtX12_goes 25 rfl) rfl rfl ?_
  refine K_get (a := 0) (ci := 12) (k := 17) (v := vi (s : Int)) (dt_at dtX12_goes 26 rfl) (show TT 0 = (0, 12) from rfl) rfl (by decide) wF_X12_118 (by show vi (hI h2 0 17) = vi (s : Int); rw [e2]) ?_
  refine K_putI (a := 0) (ci := 12) (k := 19) (dt_at dtX12_goes 27 rfl) (show TT 0 = (0, 12) from rfl) rfl (by decide) wF_X12_125 rfl (Or.inl rfl) rfl rfl ?_
  obtain ⟨hq1, eq1⟩ : ∃ z, z = sI h2 0 19 (s : Int) := ⟨_, rfl⟩
  rw [← eq1]
  obtain ⟨iq1, fq1, aq1, rq1⟩ := sI_fx eq1
  refine K_aload_n (dt_at dtX12_goes 28 rfl) rfl rfl ?_
  refine K_lconst0 (dt_at dtX12_goes 29 rfl) ?_
  refine K_putL (a := 0) (ci := 12) (k := 23) (dt_at dtX12_goes 30 rfl) (show TT 0 = (0, 12) from rfl) rfl (by decide) wF_X12_128 rfl rfl rfl rfl ?_
  obtain ⟨hq2, eq2⟩ : ∃ z, z = sI hq1 0 23 0 := ⟨_, rfl⟩
  rw [← eq2]
  obtain ⟨iq2, fq2, aq2, rq2⟩ := sI_fx eq2
  refine K_aload_n (dt_at dtX12_goes 31 rfl) rfl rfl ?_
  refine K_iconst (dt_at dtX12_goes 32 rfl) ?_
  refine K_putI (a := 0) (ci := 12) (k := 21) (dt_at dtX12_goes 33 rfl) (show TT 0 = (0, 12) from rfl) rfl (by decide) wF_X12_132 rfl (Or.inl rfl) rfl rfl ?_
  obtain ⟨hq3, eq3⟩ : ∃ z, z = sI hq2 0 21 0 := ⟨_, rfl⟩
  rw [← eq3]
  obtain ⟨iq3, fq3, aq3, rq3⟩ := sI_fx eq3
  refine K_aload_n (dt_at dtX12_goes 34 rfl) rfl rfl ?_
  refine K_aload_n (dt_at dtX12_goes 35 rfl) rfl rfl ?_
  refine K_get (a := 0) (ci := 12) (k := 17) (v := vi (s : Int)) (dt_at dtX12_goes 36 rfl) (show TT 0 = (0, 12) from rfl) rfl (by decide) wF_X12_118 (by show vi (hI hq3 0 17) = vi (s : Int); rw [(fq3 0 17 (by omega)), (fq2 0 17 (by omega)), (fq1 0 17 (by omega)), e2]) ?_
  refine K_callV (M' := mX12_byteAt) (a := 0) (ci := 12) (As := [vi (s : Int)]) (st := []) (dt_at dtX12_goes 37 rfl) (byA (k := s) (MX_FL T2 (FL_tr (FL_tr (FL_tr (FL_rf : FL [] ML [] h2 h2) (FL_eI eq1 rfl)) (FL_eI eq2 rfl)) (FL_eI eq3 rfl)) rfl rfl) (by omega)) (show TT 0 = (0, 12) from rfl) rfl wL_X12_121 vX12_byteAt rfl npX12_byteAt (by decide) (by decide) (Nat.le_of_ble_eq_true rfl) (by decide) (by decide) GK_E (fun v9 h9 hq => ?_) (fun E h9 hq => by cases hq.1)
  obtain ⟨e9, e8⟩ := hq
  cases e9
  rw [e8]
  show K mX12_goes _ _ 0 0 76 [(0, vr 0)] [vi (byF tp n s)] hq3
  refine K_istore_n (ls' := [(1, vi (byF tp n s)), (0, vr 0)]) (dt_at dtX12_goes 38 rfl) rfl (by decide) rfl ?_
  refine K_aload_n (dt_at dtX12_goes 39 rfl) rfl rfl ?_
  refine K_iload_n (dt_at dtX12_goes 40 rfl) rfl rfl ?_
  refine K_putI (a := 0) (ci := 12) (k := 22) (dt_at dtX12_goes 41 rfl) (show TT 0 = (0, 12) from rfl) rfl (by decide) wF_X12_135 rfl (Or.inl rfl) rfl rfl ?_
  obtain ⟨hq4, eq4⟩ : ∃ z, z = sI hq3 0 22 (byF tp n s) := ⟨_, rfl⟩
  rw [← eq4]
  obtain ⟨iq4, fq4, aq4, rq4⟩ := sI_fx eq4
  refine K_aload_n (dt_at dtX12_goes 42 rfl) rfl rfl ?_
  refine K_get (a := 0) (ci := 12) (k := 17) (v := vi (s : Int)) (dt_at dtX12_goes 43 rfl) (show TT 0 = (0, 12) from rfl) rfl (by decide) wF_X12_118 (by show vi (hI hq4 0 17) = vi (s : Int); rw [(fq4 0 17 (by omega)), (fq3 0 17 (by omega)), (fq2 0 17 (by omega)), (fq1 0 17 (by omega)), e2]) ?_
  refine K_aload_n (dt_at dtX12_goes 44 rfl) rfl rfl ?_
  refine K_get (a := 0) (ci := 12) (k := 16) (v := vi (n : Int)) (dt_at dtX12_goes 45 rfl) (show TT 0 = (0, 12) from rfl) rfl (by decide) wF_X12_115 (by show vi (hI hq4 0 16) = vi (n : Int); rw [(fq4 0 16 (by omega)), (fq3 0 16 (by omega)), (fq2 0 16 (by omega)), (fq1 0 16 (by omega)), T2.1]) ?_
  refine K_icmp_lt (tgt := 101) (dt_at dtX12_goes 46 rfl) (by decide) (by first | assumption | exact ⟨by omega, by omega⟩) (by first | assumption | exact ⟨by omega, by omega⟩) (fun c1 => ?_) (fun c1 => ?_)
  · refine K_iload_n (dt_at dtX12_goes 51 rfl) rfl rfl ?_
    refine K_callS (M' := mX12_isLetter) (As := [vi (byF tp n s)]) (st := []) (dt_at dtX12_goes 52 rfl) (sX12_isLetter (c := (byF tp n s)) ⟨by omega, by omega⟩) wL_X12_141 vX12_isLetter rfl npX12_isLetter (by decide) (by decide) (Nat.le_of_ble_eq_true rfl) (by decide) (by decide) GK_E (fun v9 h9 hq => ?_) (fun E h9 hq => by cases hq.1)
    obtain ⟨e9, e8⟩ := hq
    cases e9
    rw [e8]
    show K mX12_goes _ _ 0 0 105 [(1, vi (byF tp n s)), (0, vr 0)] [vi (if 97 ≤ (byF tp n s) ∧ (byF tp n s) ≤ 122 then 1 else 0)] hq4
    by_cases z2 : 97 ≤ (byF tp n s) ∧ (byF tp n s) ≤ 122
    · rw [if_pos z2]
      refine K_if_eq (tgt := 180) (dt_at dtX12_goes 53 rfl) (by decide) (by first | assumption | exact ⟨by omega, by omega⟩) (fun c3 => absurd c3 (by omega)) (fun c3 => ?_)
      have hsn : s < n := by omega
      have eb : byF tp n s = tp (s : Int) := byF_l hsn
      have hkd : kd (tp (s : Int)) = 1 := kd_1 (by omega)
      have hms : min (s - s) 6 = 0 := by omega
      have TT2 := (MX_FL T2 (FL_tr (FL_tr (FL_tr (FL_tr (FL_rf : FL [] ML [] h2 h2) (FL_eI eq1 rfl)) (FL_eI eq2 rfl)) (FL_eI eq3 rfl)) (FL_eI eq4 rfl)) rfl rfl)
      rw [tkE_n hsn, hkd, ← rnF_s hsn (by decide) hkd]
      have hrb := rnF_b tp 1 (n - s) s
      refine K_pk [0, 1] (ls' := [(1, vi (byF tp n s)), (0, vr 0)]) rfl (lp_goes2 (h := hq4) (s := s) (n - s) s hq4 (by omega) (by omega) (by rw [(fq4 0 17 (by omega)), (fq3 0 17 (by omega)), (fq2 0 17 (by omega)), (fq1 0 17 (by omega)), e2]) (by rw [(fq4 0 23 (by omega)), (fq3 0 23 (by omega)), iq2, hms]; rfl) (by rw [(fq4 0 19 (by omega)), (fq3 0 19 (by omega)), (fq2 0 19 (by omega)), iq1]) (fun j h1 h2 => absurd h1 (by omega)) TT2 FL_rf (fun g1 f2 f3 f4 f5 f6 f7 => ?_))
      have hrs : s < rnF tp 1 (n - s) s := by rw [rnF_s hsn (by decide) hkd]; exact (rnF_b tp 1 (n - (s + 1)) (s + 1)).1
      have hall := pk_all f5
      generalize rnF tp 1 (n - s) s = e at *
      have G21 : hI g1 0 21 = 0 := by rw [f7.2.1 0 21 rfl, (fq4 0 21 (by omega)), iq3]
      have G22 : hI g1 0 22 = byF tp n s := by rw [f7.2.1 0 22 rfl, iq4]
      have FF : FL [] ML [] h g1 := FL_tr (FL_tr (FL_tr (FL_tr (FL_tr F2 (FL_eI eq1 rfl)) (FL_eI eq2 rfl)) (FL_eI eq3 rfl)) (FL_eI eq4 rfl)) (FL_up f7 rfl rfl rfl)
      refine K_aload_n (dt_at dtX12_goes 88 rfl) rfl rfl ?_
      refine K_iconst (dt_at dtX12_goes 89 rfl) ?_
      refine K_putI (a := 0) (ci := 12) (k := 18) (dt_at dtX12_goes 90 rfl) (show TT 0 = (0, 12) from rfl) rfl (by decide) wF_X12_138 rfl (Or.inl rfl) rfl rfl ?_
      obtain ⟨hq5, eq5⟩ : ∃ z, z = sI g1 0 18 1 := ⟨_, rfl⟩
      rw [← eq5]
      obtain ⟨iq5, fq5, aq5, rq5⟩ := sI_fx eq5
      refine K_goto (tgt := 331) (dt_at dtX12_goes 91 rfl) (by decide) ?_
      refine K_aload_n (dt_at dtX12_goes 170 rfl) rfl rfl ?_
      refine K_aload_n (dt_at dtX12_goes 171 rfl) rfl rfl ?_
      refine K_get (a := 0) (ci := 12) (k := 17) (v := vi (e : Int)) (dt_at dtX12_goes 172 rfl) (show TT 0 = (0, 12) from rfl) rfl (by decide) wF_X12_118 (by show vi (hI hq5 0 17) = vi (e : Int); rw [(fq5 0 17 (by omega)), f2]) ?_
      refine K_aload_n (dt_at dtX12_goes 173 rfl) rfl rfl ?_
      refine K_get (a := 0) (ci := 12) (k := 19) (v := vi (s : Int)) (dt_at dtX12_goes 174 rfl) (show TT 0 = (0, 12) from rfl) rfl (by decide) wF_X12_125 (by show vi (hI hq5 0 19) = vi (s : Int); rw [(fq5 0 19 (by omega)), f4]) ?_
      refine K_isub (dt_at dtX12_goes 175 rfl) ?_
      refine K_putI (a := 0) (ci := 12) (k := 20) (dt_at dtX12_goes 176 rfl) (show TT 0 = (0, 12) from rfl) rfl (by decide) wF_X12_148 rfl (Or.inl rfl) rfl rfl ?_
      obtain ⟨hq6, eq6⟩ : ∃ z, z = sI hq5 0 20 ((e : Int) - (s : Int)) := ⟨_, rfl⟩
      rw [← eq6]
      obtain ⟨iq6, fq6, aq6, rq6⟩ := sI_fx eq6
      exact K_vret (dt_at dtX12_goes 177 rfl) rfl (by decide) (by decide) ⟨rfl, ⟨⟨by rw [(fq6 0 18 (by omega)), iq5], by rw [(fq6 0 19 (by omega)), (fq5 0 19 (by omega)), f4], by rw [(fq6 0 17 (by omega)), (fq5 0 17 (by omega)), f2], by rw [iq6]⟩, ⟨by rw [(fq6 0 21 (by omega)), (fq5 0 21 (by omega)), G21]; decide, fun z => absurd (show (1 : Int) = 2 from z) (by decide)⟩, ⟨by rw [(fq6 0 22 (by omega)), (fq5 0 22 (by omega)), G22]; exact hb, fun z => absurd (show (1 : Int) = 3 from z) (by decide)⟩, by rw [(fq6 0 23 (by omega)), (fq5 0 23 (by omega)), f3]; exact hall, fun _ => by rw [(fq6 0 23 (by omega)), (fq5 0 23 (by omega)), f3]⟩, (FL_tr (FL_tr FF (FL_eI eq5 rfl)) (FL_eI eq6 rfl))⟩
    · rw [if_neg z2]
      refine K_if_eq (tgt := 180) (dt_at dtX12_goes 53 rfl) (by decide) (by first | assumption | exact ⟨by omega, by omega⟩) (fun c4 => ?_) (fun c4 => absurd c4 (by omega))
      refine K_iload_n (dt_at dtX12_goes 92 rfl) rfl rfl ?_
      refine K_callS (M' := mX12_isDigit) (As := [vi (byF tp n s)]) (st := []) (dt_at dtX12_goes 93 rfl) (sX12_isDigit (c := (byF tp n s)) ⟨by omega, by omega⟩) wL_X12_145 vX12_isDigit rfl npX12_isDigit (by decide) (by decide) (Nat.le_of_ble_eq_true rfl) (by decide) (by decide) GK_E (fun v9 h9 hq => ?_) (fun E h9 hq => by cases hq.1)
      obtain ⟨e9, e8⟩ := hq
      cases e9
      rw [e8]
      show K mX12_goes _ _ 0 0 184 [(1, vi (byF tp n s)), (0, vr 0)] [vi (if 48 ≤ (byF tp n s) ∧ (byF tp n s) ≤ 57 then 1 else 0)] hq4
      by_cases z5 : 48 ≤ (byF tp n s) ∧ (byF tp n s) ≤ 57
      · rw [if_pos z5]
        refine K_if_eq (tgt := 258) (dt_at dtX12_goes 94 rfl) (by decide) (by first | assumption | exact ⟨by omega, by omega⟩) (fun c6 => absurd c6 (by omega)) (fun c6 => ?_)
        have hsn : s < n := by omega
        have eb : byF tp n s = tp (s : Int) := byF_l hsn
        have hkd : kd (tp (s : Int)) = 2 := kd_2 (by omega)
        have hms : min (s - s) 4 = 0 := by omega
        have TT2 := (MX_FL T2 (FL_tr (FL_tr (FL_tr (FL_tr (FL_rf : FL [] ML [] h2 h2) (FL_eI eq1 rfl)) (FL_eI eq2 rfl)) (FL_eI eq3 rfl)) (FL_eI eq4 rfl)) rfl rfl)
        rw [tkE_n hsn, hkd, ← rnF_s hsn (by decide) hkd]
        have hrb := rnF_b tp 2 (n - s) s
        refine K_pk [0, 1] (ls' := [(1, vi (byF tp n s)), (0, vr 0)]) rfl (lp_goes3 (h := hq4) (s := s) (n - s) s hq4 (by omega) (by omega) (by rw [(fq4 0 17 (by omega)), (fq3 0 17 (by omega)), (fq2 0 17 (by omega)), (fq1 0 17 (by omega)), e2]) (by rw [(fq4 0 21 (by omega)), iq3, hms]; rfl) (by rw [(fq4 0 19 (by omega)), (fq3 0 19 (by omega)), (fq2 0 19 (by omega)), iq1]) (fun j h1 h2 => absurd h1 (by omega)) TT2 FL_rf (fun g2 f2 f3 f4 f5 f6 f7 => ?_))
        have hrs : s < rnF tp 2 (n - s) s := by rw [rnF_s hsn (by decide) hkd]; exact (rnF_b tp 2 (n - (s + 1)) (s + 1)).1
        have hall := nm_all f5
        generalize rnF tp 2 (n - s) s = e at *
        have G21 : hI g2 0 23 = 0 := by rw [f7.2.1 0 23 rfl, (fq4 0 23 (by omega)), (fq3 0 23 (by omega)), iq2]
        have G22 : hI g2 0 22 = byF tp n s := by rw [f7.2.1 0 22 rfl, iq4]
        have FF : FL [] ML [] h g2 := FL_tr (FL_tr (FL_tr (FL_tr (FL_tr F2 (FL_eI eq1 rfl)) (FL_eI eq2 rfl)) (FL_eI eq3 rfl)) (FL_eI eq4 rfl)) (FL_up f7 rfl rfl rfl)
        refine K_aload_n (dt_at dtX12_goes 128 rfl) rfl rfl ?_
        refine K_iconst (dt_at dtX12_goes 129 rfl) ?_
        refine K_putI (a := 0) (ci := 12) (k := 18) (dt_at dtX12_goes 130 rfl) (show TT 0 = (0, 12) from rfl) rfl (by decide) wF_X12_138 rfl (Or.inl rfl) rfl rfl ?_
        obtain ⟨hq7, eq7⟩ : ∃ z, z = sI g2 0 18 2 := ⟨_, rfl⟩
        rw [← eq7]
        obtain ⟨iq7, fq7, aq7, rq7⟩ := sI_fx eq7
        refine K_goto (tgt := 331) (dt_at dtX12_goes 131 rfl) (by decide) ?_
        refine K_aload_n (dt_at dtX12_goes 170 rfl) rfl rfl ?_
        refine K_aload_n (dt_at dtX12_goes 171 rfl) rfl rfl ?_
        refine K_get (a := 0) (ci := 12) (k := 17) (v := vi (e : Int)) (dt_at dtX12_goes 172 rfl) (show TT 0 = (0, 12) from rfl) rfl (by decide) wF_X12_118 (by show vi (hI hq7 0 17) = vi (e : Int); rw [(fq7 0 17 (by omega)), f2]) ?_
        refine K_aload_n (dt_at dtX12_goes 173 rfl) rfl rfl ?_
        refine K_get (a := 0) (ci := 12) (k := 19) (v := vi (s : Int)) (dt_at dtX12_goes 174 rfl) (show TT 0 = (0, 12) from rfl) rfl (by decide) wF_X12_125 (by show vi (hI hq7 0 19) = vi (s : Int); rw [(fq7 0 19 (by omega)), f4]) ?_
        refine K_isub (dt_at dtX12_goes 175 rfl) ?_
        refine K_putI (a := 0) (ci := 12) (k := 20) (dt_at dtX12_goes 176 rfl) (show TT 0 = (0, 12) from rfl) rfl (by decide) wF_X12_148 rfl (Or.inl rfl) rfl rfl ?_
        obtain ⟨hq8, eq8⟩ : ∃ z, z = sI hq7 0 20 ((e : Int) - (s : Int)) := ⟨_, rfl⟩
        rw [← eq8]
        obtain ⟨iq8, fq8, aq8, rq8⟩ := sI_fx eq8
        exact K_vret (dt_at dtX12_goes 177 rfl) rfl (by decide) (by decide) ⟨rfl, ⟨⟨by rw [(fq8 0 18 (by omega)), iq7], by rw [(fq8 0 19 (by omega)), (fq7 0 19 (by omega)), f4], by rw [(fq8 0 17 (by omega)), (fq7 0 17 (by omega)), f2], by rw [iq8]⟩, ⟨by rw [(fq8 0 21 (by omega)), (fq7 0 21 (by omega)), f3]; exact hall, fun _ => by rw [(fq8 0 21 (by omega)), (fq7 0 21 (by omega)), f3]; rfl⟩, ⟨by rw [(fq8 0 22 (by omega)), (fq7 0 22 (by omega)), G22]; exact hb, fun z => absurd (show (2 : Int) = 3 from z) (by decide)⟩, by rw [(fq8 0 23 (by omega)), (fq7 0 23 (by omega)), G21]; decide, fun z => absurd (show (2 : Int) = 1 from z) (by decide)⟩, (FL_tr (FL_tr FF (FL_eI eq7 rfl)) (FL_eI eq8 rfl))⟩
      · rw [if_neg z5]
        refine K_if_eq (tgt := 258) (dt_at dtX12_goes 94 rfl) (by decide) (by first | assumption | exact ⟨by omega, by omega⟩) (fun c7 => ?_) (fun c7 => absurd c7 (by omega))
        refine K_aload_n (dt_at dtX12_goes 132 rfl) rfl rfl ?_
        refine K_dup (dt_at dtX12_goes 133 rfl) rfl ?_
        refine K_get (a := 0) (ci := 12) (k := 17) (v := vi (s : Int)) (dt_at dtX12_goes 134 rfl) (show TT 0 = (0, 12) from rfl) rfl (by decide) wF_X12_118 (by show vi (hI hq4 0 17) = vi (s : Int); rw [(fq4 0 17 (by omega)), (fq3 0 17 (by omega)), (fq2 0 17 (by omega)), (fq1 0 17 (by omega)), e2]) ?_
        refine K_iconst (dt_at dtX12_goes 135 rfl) ?_
        refine K_iadd (dt_at dtX12_goes 136 rfl) ?_
        refine K_putI (a := 0) (ci := 12) (k := 17) (dt_at dtX12_goes 137 rfl) (show TT 0 = (0, 12) from rfl) rfl (by decide) wF_X12_118 rfl (Or.inl rfl) rfl rfl ?_
        obtain ⟨hq9, eq9⟩ : ∃ z, z = sI hq4 0 17 ((s : Int) + 1) := ⟨_, rfl⟩
        rw [← eq9]
        obtain ⟨iq9, fq9, aq9, rq9⟩ := sI_fx eq9
        refine K_aload_n (dt_at dtX12_goes 138 rfl) rfl rfl ?_
        refine K_iload_n (dt_at dtX12_goes 139 rfl) rfl rfl ?_
        refine K_bipush (dt_at dtX12_goes 140 rfl) (by decide) ?_
        refine K_icmp_eq (tgt := 323) (dt_at dtX12_goes 141 rfl) (by decide) (by first | assumption | exact ⟨by omega, by omega⟩) (by first | assumption | exact ⟨by omega, by omega⟩) (fun c8 => ?_) (fun c8 => ?_)
        · refine K_iconst (dt_at dtX12_goes 166 rfl) ?_
          refine K_goto (tgt := 328) (dt_at dtX12_goes 167 rfl) (by decide) ?_
          refine K_putI (a := 0) (ci := 12) (k := 18) (dt_at dtX12_goes 169 rfl) (show TT 0 = (0, 12) from rfl) rfl (by decide) wF_X12_138 rfl (Or.inl rfl) rfl rfl ?_
          obtain ⟨hq10, eq10⟩ : ∃ z, z = sI hq9 0 18 3 := ⟨_, rfl⟩
          rw [← eq10]
          obtain ⟨iq10, fq10, aq10, rq10⟩ := sI_fx eq10
          refine K_aload_n (dt_at dtX12_goes 170 rfl) rfl rfl ?_
          refine K_aload_n (dt_at dtX12_goes 171 rfl) rfl rfl ?_
          refine K_get (a := 0) (ci := 12) (k := 17) (v := vi ((s : Int) + 1)) (dt_at dtX12_goes 172 rfl) (show TT 0 = (0, 12) from rfl) rfl (by decide) wF_X12_118 (by show vi (hI hq10 0 17) = vi ((s : Int) + 1); rw [(fq10 0 17 (by omega)), iq9]) ?_
          refine K_aload_n (dt_at dtX12_goes 173 rfl) rfl rfl ?_
          refine K_get (a := 0) (ci := 12) (k := 19) (v := vi (s : Int)) (dt_at dtX12_goes 174 rfl) (show TT 0 = (0, 12) from rfl) rfl (by decide) wF_X12_125 (by show vi (hI hq10 0 19) = vi (s : Int); rw [(fq10 0 19 (by omega)), (fq9 0 19 (by omega)), (fq4 0 19 (by omega)), (fq3 0 19 (by omega)), (fq2 0 19 (by omega)), iq1]) ?_
          refine K_isub (dt_at dtX12_goes 175 rfl) ?_
          refine K_putI (a := 0) (ci := 12) (k := 20) (dt_at dtX12_goes 176 rfl) (show TT 0 = (0, 12) from rfl) rfl (by decide) wF_X12_148 rfl (Or.inl rfl) rfl rfl ?_
          obtain ⟨hq11, eq11⟩ : ∃ z, z = sI hq10 0 20 (((s : Int) + 1) - (s : Int)) := ⟨_, rfl⟩
          rw [← eq11]
          obtain ⟨iq11, fq11, aq11, rq11⟩ := sI_fx eq11
          have hsn : s < n := by omega
          have eb : byF tp n s = tp (s : Int) := byF_l hsn
          have hkd : kd (tp (s : Int)) = 3 := kd_3 (by omega)
          rw [tkE_n hsn, hkd]
          have hrn : rnF tp 3 (n - (s + 1)) (s + 1) = s + 1 := by cases n - (s + 1) with | zero => rfl | succ q => exact rnF_f (fun z => absurd z.1 (by decide))
          rw [hrn]
          exact K_vret (dt_at dtX12_goes 177 rfl) rfl (by decide) (by decide) ⟨rfl, ⟨⟨by rw [(fq11 0 18 (by omega)), iq10], by rw [(fq11 0 19 (by omega)), (fq10 0 19 (by omega)), (fq9 0 19 (by omega)), (fq4 0 19 (by omega)), (fq3 0 19 (by omega)), (fq2 0 19 (by omega)), iq1], by rw [(fq11 0 17 (by omega)), (fq10 0 17 (by omega)), iq9]; rfl, by rw [iq11]; rfl⟩, ⟨by rw [(fq11 0 21 (by omega)), (fq10 0 21 (by omega)), (fq9 0 21 (by omega)), (fq4 0 21 (by omega)), iq3]; decide, fun z => absurd (show (3 : Int) = 2 from z) (by decide)⟩, ⟨by rw [(fq11 0 22 (by omega)), (fq10 0 22 (by omega)), (fq9 0 22 (by omega)), iq4]; exact hb, fun _ => by rw [(fq11 0 22 (by omega)), (fq10 0 22 (by omega)), (fq9 0 22 (by omega)), iq4, eb]⟩, by rw [(fq11 0 23 (by omega)), (fq10 0 23 (by omega)), (fq9 0 23 (by omega)), (fq4 0 23 (by omega)), (fq3 0 23 (by omega)), iq2]; decide, fun z => absurd (show (3 : Int) = 1 from z) (by decide)⟩, (FL_tr (FL_tr (FL_tr (FL_tr (FL_tr (FL_tr (FL_tr F2 (FL_eI eq1 rfl)) (FL_eI eq2 rfl)) (FL_eI eq3 rfl)) (FL_eI eq4 rfl)) (FL_eI eq9 rfl)) (FL_eI eq10 rfl)) (FL_eI eq11 rfl))⟩
        · refine K_iload_n (dt_at dtX12_goes 142 rfl) rfl rfl ?_
          refine K_bipush (dt_at dtX12_goes 143 rfl) (by decide) ?_
          refine K_icmp_eq (tgt := 323) (dt_at dtX12_goes 144 rfl) (by decide) (by first | assumption | exact ⟨by omega, by omega⟩) (by first | assumption | exact ⟨by omega, by omega⟩) (fun c9 => ?_) (fun c9 => ?_)
          · refine K_iconst (dt_at dtX12_goes 166 rfl) ?_
            refine K_goto (tgt := 328) (dt_at dtX12_goes 167 rfl) (by decide) ?_
            refine K_putI (a := 0) (ci := 12) (k := 18) (dt_at dtX12_goes 169 rfl) (show TT 0 = (0, 12) from rfl) rfl (by decide) wF_X12_138 rfl (Or.inl rfl) rfl rfl ?_
            obtain ⟨hq12, eq12⟩ : ∃ z, z = sI hq9 0 18 3 := ⟨_, rfl⟩
            rw [← eq12]
            obtain ⟨iq12, fq12, aq12, rq12⟩ := sI_fx eq12
            refine K_aload_n (dt_at dtX12_goes 170 rfl) rfl rfl ?_
            refine K_aload_n (dt_at dtX12_goes 171 rfl) rfl rfl ?_
            refine K_get (a := 0) (ci := 12) (k := 17) (v := vi ((s : Int) + 1)) (dt_at dtX12_goes 172 rfl) (show TT 0 = (0, 12) from rfl) rfl (by decide) wF_X12_118 (by show vi (hI hq12 0 17) = vi ((s : Int) + 1); rw [(fq12 0 17 (by omega)), iq9]) ?_
            refine K_aload_n (dt_at dtX12_goes 173 rfl) rfl rfl ?_
            refine K_get (a := 0) (ci := 12) (k := 19) (v := vi (s : Int)) (dt_at dtX12_goes 174 rfl) (show TT 0 = (0, 12) from rfl) rfl (by decide) wF_X12_125 (by show vi (hI hq12 0 19) = vi (s : Int); rw [(fq12 0 19 (by omega)), (fq9 0 19 (by omega)), (fq4 0 19 (by omega)), (fq3 0 19 (by omega)), (fq2 0 19 (by omega)), iq1]) ?_
            refine K_isub (dt_at dtX12_goes 175 rfl) ?_
            refine K_putI (a := 0) (ci := 12) (k := 20) (dt_at dtX12_goes 176 rfl) (show TT 0 = (0, 12) from rfl) rfl (by decide) wF_X12_148 rfl (Or.inl rfl) rfl rfl ?_
            obtain ⟨hq13, eq13⟩ : ∃ z, z = sI hq12 0 20 (((s : Int) + 1) - (s : Int)) := ⟨_, rfl⟩
            rw [← eq13]
            obtain ⟨iq13, fq13, aq13, rq13⟩ := sI_fx eq13
            have hsn : s < n := by omega
            have eb : byF tp n s = tp (s : Int) := byF_l hsn
            have hkd : kd (tp (s : Int)) = 3 := kd_3 (by omega)
            rw [tkE_n hsn, hkd]
            have hrn : rnF tp 3 (n - (s + 1)) (s + 1) = s + 1 := by cases n - (s + 1) with | zero => rfl | succ q => exact rnF_f (fun z => absurd z.1 (by decide))
            rw [hrn]
            exact K_vret (dt_at dtX12_goes 177 rfl) rfl (by decide) (by decide) ⟨rfl, ⟨⟨by rw [(fq13 0 18 (by omega)), iq12], by rw [(fq13 0 19 (by omega)), (fq12 0 19 (by omega)), (fq9 0 19 (by omega)), (fq4 0 19 (by omega)), (fq3 0 19 (by omega)), (fq2 0 19 (by omega)), iq1], by rw [(fq13 0 17 (by omega)), (fq12 0 17 (by omega)), iq9]; rfl, by rw [iq13]; rfl⟩, ⟨by rw [(fq13 0 21 (by omega)), (fq12 0 21 (by omega)), (fq9 0 21 (by omega)), (fq4 0 21 (by omega)), iq3]; decide, fun z => absurd (show (3 : Int) = 2 from z) (by decide)⟩, ⟨by rw [(fq13 0 22 (by omega)), (fq12 0 22 (by omega)), (fq9 0 22 (by omega)), iq4]; exact hb, fun _ => by rw [(fq13 0 22 (by omega)), (fq12 0 22 (by omega)), (fq9 0 22 (by omega)), iq4, eb]⟩, by rw [(fq13 0 23 (by omega)), (fq12 0 23 (by omega)), (fq9 0 23 (by omega)), (fq4 0 23 (by omega)), (fq3 0 23 (by omega)), iq2]; decide, fun z => absurd (show (3 : Int) = 1 from z) (by decide)⟩, (FL_tr (FL_tr (FL_tr (FL_tr (FL_tr (FL_tr (FL_tr F2 (FL_eI eq1 rfl)) (FL_eI eq2 rfl)) (FL_eI eq3 rfl)) (FL_eI eq4 rfl)) (FL_eI eq9 rfl)) (FL_eI eq12 rfl)) (FL_eI eq13 rfl))⟩
          · refine K_iload_n (dt_at dtX12_goes 145 rfl) rfl rfl ?_
            refine K_bipush (dt_at dtX12_goes 146 rfl) (by decide) ?_
            refine K_icmp_eq (tgt := 323) (dt_at dtX12_goes 147 rfl) (by decide) (by first | assumption | exact ⟨by omega, by omega⟩) (by first | assumption | exact ⟨by omega, by omega⟩) (fun c10 => ?_) (fun c10 => ?_)
            · refine K_iconst (dt_at dtX12_goes 166 rfl) ?_
              refine K_goto (tgt := 328) (dt_at dtX12_goes 167 rfl) (by decide) ?_
              refine K_putI (a := 0) (ci := 12) (k := 18) (dt_at dtX12_goes 169 rfl) (show TT 0 = (0, 12) from rfl) rfl (by decide) wF_X12_138 rfl (Or.inl rfl) rfl rfl ?_
              obtain ⟨hq14, eq14⟩ : ∃ z, z = sI hq9 0 18 3 := ⟨_, rfl⟩
              rw [← eq14]
              obtain ⟨iq14, fq14, aq14, rq14⟩ := sI_fx eq14
              refine K_aload_n (dt_at dtX12_goes 170 rfl) rfl rfl ?_
              refine K_aload_n (dt_at dtX12_goes 171 rfl) rfl rfl ?_
              refine K_get (a := 0) (ci := 12) (k := 17) (v := vi ((s : Int) + 1)) (dt_at dtX12_goes 172 rfl) (show TT 0 = (0, 12) from rfl) rfl (by decide) wF_X12_118 (by show vi (hI hq14 0 17) = vi ((s : Int) + 1); rw [(fq14 0 17 (by omega)), iq9]) ?_
              refine K_aload_n (dt_at dtX12_goes 173 rfl) rfl rfl ?_
              refine K_get (a := 0) (ci := 12) (k := 19) (v := vi (s : Int)) (dt_at dtX12_goes 174 rfl) (show TT 0 = (0, 12) from rfl) rfl (by decide) wF_X12_125 (by show vi (hI hq14 0 19) = vi (s : Int); rw [(fq14 0 19 (by omega)), (fq9 0 19 (by omega)), (fq4 0 19 (by omega)), (fq3 0 19 (by omega)), (fq2 0 19 (by omega)), iq1]) ?_
              refine K_isub (dt_at dtX12_goes 175 rfl) ?_
              refine K_putI (a := 0) (ci := 12) (k := 20) (dt_at dtX12_goes 176 rfl) (show TT 0 = (0, 12) from rfl) rfl (by decide) wF_X12_148 rfl (Or.inl rfl) rfl rfl ?_
              obtain ⟨hq15, eq15⟩ : ∃ z, z = sI hq14 0 20 (((s : Int) + 1) - (s : Int)) := ⟨_, rfl⟩
              rw [← eq15]
              obtain ⟨iq15, fq15, aq15, rq15⟩ := sI_fx eq15
              have hsn : s < n := by omega
              have eb : byF tp n s = tp (s : Int) := byF_l hsn
              have hkd : kd (tp (s : Int)) = 3 := kd_3 (by omega)
              rw [tkE_n hsn, hkd]
              have hrn : rnF tp 3 (n - (s + 1)) (s + 1) = s + 1 := by cases n - (s + 1) with | zero => rfl | succ q => exact rnF_f (fun z => absurd z.1 (by decide))
              rw [hrn]
              exact K_vret (dt_at dtX12_goes 177 rfl) rfl (by decide) (by decide) ⟨rfl, ⟨⟨by rw [(fq15 0 18 (by omega)), iq14], by rw [(fq15 0 19 (by omega)), (fq14 0 19 (by omega)), (fq9 0 19 (by omega)), (fq4 0 19 (by omega)), (fq3 0 19 (by omega)), (fq2 0 19 (by omega)), iq1], by rw [(fq15 0 17 (by omega)), (fq14 0 17 (by omega)), iq9]; rfl, by rw [iq15]; rfl⟩, ⟨by rw [(fq15 0 21 (by omega)), (fq14 0 21 (by omega)), (fq9 0 21 (by omega)), (fq4 0 21 (by omega)), iq3]; decide, fun z => absurd (show (3 : Int) = 2 from z) (by decide)⟩, ⟨by rw [(fq15 0 22 (by omega)), (fq14 0 22 (by omega)), (fq9 0 22 (by omega)), iq4]; exact hb, fun _ => by rw [(fq15 0 22 (by omega)), (fq14 0 22 (by omega)), (fq9 0 22 (by omega)), iq4, eb]⟩, by rw [(fq15 0 23 (by omega)), (fq14 0 23 (by omega)), (fq9 0 23 (by omega)), (fq4 0 23 (by omega)), (fq3 0 23 (by omega)), iq2]; decide, fun z => absurd (show (3 : Int) = 1 from z) (by decide)⟩, (FL_tr (FL_tr (FL_tr (FL_tr (FL_tr (FL_tr (FL_tr F2 (FL_eI eq1 rfl)) (FL_eI eq2 rfl)) (FL_eI eq3 rfl)) (FL_eI eq4 rfl)) (FL_eI eq9 rfl)) (FL_eI eq14 rfl)) (FL_eI eq15 rfl))⟩
            · refine K_iload_n (dt_at dtX12_goes 148 rfl) rfl rfl ?_
              refine K_bipush (dt_at dtX12_goes 149 rfl) (by decide) ?_
              refine K_icmp_eq (tgt := 323) (dt_at dtX12_goes 150 rfl) (by decide) (by first | assumption | exact ⟨by omega, by omega⟩) (by first | assumption | exact ⟨by omega, by omega⟩) (fun c11 => ?_) (fun c11 => ?_)
              · refine K_iconst (dt_at dtX12_goes 166 rfl) ?_
                refine K_goto (tgt := 328) (dt_at dtX12_goes 167 rfl) (by decide) ?_
                refine K_putI (a := 0) (ci := 12) (k := 18) (dt_at dtX12_goes 169 rfl) (show TT 0 = (0, 12) from rfl) rfl (by decide) wF_X12_138 rfl (Or.inl rfl) rfl rfl ?_
                obtain ⟨hq16, eq16⟩ : ∃ z, z = sI hq9 0 18 3 := ⟨_, rfl⟩
                rw [← eq16]
                obtain ⟨iq16, fq16, aq16, rq16⟩ := sI_fx eq16
                refine K_aload_n (dt_at dtX12_goes 170 rfl) rfl rfl ?_
                refine K_aload_n (dt_at dtX12_goes 171 rfl) rfl rfl ?_
                refine K_get (a := 0) (ci := 12) (k := 17) (v := vi ((s : Int) + 1)) (dt_at dtX12_goes 172 rfl) (show TT 0 = (0, 12) from rfl) rfl (by decide) wF_X12_118 (by show vi (hI hq16 0 17) = vi ((s : Int) + 1); rw [(fq16 0 17 (by omega)), iq9]) ?_
                refine K_aload_n (dt_at dtX12_goes 173 rfl) rfl rfl ?_
                refine K_get (a := 0) (ci := 12) (k := 19) (v := vi (s : Int)) (dt_at dtX12_goes 174 rfl) (show TT 0 = (0, 12) from rfl) rfl (by decide) wF_X12_125 (by show vi (hI hq16 0 19) = vi (s : Int); rw [(fq16 0 19 (by omega)), (fq9 0 19 (by omega)), (fq4 0 19 (by omega)), (fq3 0 19 (by omega)), (fq2 0 19 (by omega)), iq1]) ?_
                refine K_isub (dt_at dtX12_goes 175 rfl) ?_
                refine K_putI (a := 0) (ci := 12) (k := 20) (dt_at dtX12_goes 176 rfl) (show TT 0 = (0, 12) from rfl) rfl (by decide) wF_X12_148 rfl (Or.inl rfl) rfl rfl ?_
                obtain ⟨hq17, eq17⟩ : ∃ z, z = sI hq16 0 20 (((s : Int) + 1) - (s : Int)) := ⟨_, rfl⟩
                rw [← eq17]
                obtain ⟨iq17, fq17, aq17, rq17⟩ := sI_fx eq17
                have hsn : s < n := by omega
                have eb : byF tp n s = tp (s : Int) := byF_l hsn
                have hkd : kd (tp (s : Int)) = 3 := kd_3 (by omega)
                rw [tkE_n hsn, hkd]
                have hrn : rnF tp 3 (n - (s + 1)) (s + 1) = s + 1 := by cases n - (s + 1) with | zero => rfl | succ q => exact rnF_f (fun z => absurd z.1 (by decide))
                rw [hrn]
                exact K_vret (dt_at dtX12_goes 177 rfl) rfl (by decide) (by decide) ⟨rfl, ⟨⟨by rw [(fq17 0 18 (by omega)), iq16], by rw [(fq17 0 19 (by omega)), (fq16 0 19 (by omega)), (fq9 0 19 (by omega)), (fq4 0 19 (by omega)), (fq3 0 19 (by omega)), (fq2 0 19 (by omega)), iq1], by rw [(fq17 0 17 (by omega)), (fq16 0 17 (by omega)), iq9]; rfl, by rw [iq17]; rfl⟩, ⟨by rw [(fq17 0 21 (by omega)), (fq16 0 21 (by omega)), (fq9 0 21 (by omega)), (fq4 0 21 (by omega)), iq3]; decide, fun z => absurd (show (3 : Int) = 2 from z) (by decide)⟩, ⟨by rw [(fq17 0 22 (by omega)), (fq16 0 22 (by omega)), (fq9 0 22 (by omega)), iq4]; exact hb, fun _ => by rw [(fq17 0 22 (by omega)), (fq16 0 22 (by omega)), (fq9 0 22 (by omega)), iq4, eb]⟩, by rw [(fq17 0 23 (by omega)), (fq16 0 23 (by omega)), (fq9 0 23 (by omega)), (fq4 0 23 (by omega)), (fq3 0 23 (by omega)), iq2]; decide, fun z => absurd (show (3 : Int) = 1 from z) (by decide)⟩, (FL_tr (FL_tr (FL_tr (FL_tr (FL_tr (FL_tr (FL_tr F2 (FL_eI eq1 rfl)) (FL_eI eq2 rfl)) (FL_eI eq3 rfl)) (FL_eI eq4 rfl)) (FL_eI eq9 rfl)) (FL_eI eq16 rfl)) (FL_eI eq17 rfl))⟩
              · refine K_iload_n (dt_at dtX12_goes 151 rfl) rfl rfl ?_
                refine K_bipush (dt_at dtX12_goes 152 rfl) (by decide) ?_
                refine K_icmp_eq (tgt := 323) (dt_at dtX12_goes 153 rfl) (by decide) (by first | assumption | exact ⟨by omega, by omega⟩) (by first | assumption | exact ⟨by omega, by omega⟩) (fun c12 => ?_) (fun c12 => ?_)
                · refine K_iconst (dt_at dtX12_goes 166 rfl) ?_
                  refine K_goto (tgt := 328) (dt_at dtX12_goes 167 rfl) (by decide) ?_
                  refine K_putI (a := 0) (ci := 12) (k := 18) (dt_at dtX12_goes 169 rfl) (show TT 0 = (0, 12) from rfl) rfl (by decide) wF_X12_138 rfl (Or.inl rfl) rfl rfl ?_
                  obtain ⟨hq18, eq18⟩ : ∃ z, z = sI hq9 0 18 3 := ⟨_, rfl⟩
                  rw [← eq18]
                  obtain ⟨iq18, fq18, aq18, rq18⟩ := sI_fx eq18
                  refine K_aload_n (dt_at dtX12_goes 170 rfl) rfl rfl ?_
                  refine K_aload_n (dt_at dtX12_goes 171 rfl) rfl rfl ?_
                  refine K_get (a := 0) (ci := 12) (k := 17) (v := vi ((s : Int) + 1)) (dt_at dtX12_goes 172 rfl) (show TT 0 = (0, 12) from rfl) rfl (by decide) wF_X12_118 (by show vi (hI hq18 0 17) = vi ((s : Int) + 1); rw [(fq18 0 17 (by omega)), iq9]) ?_
                  refine K_aload_n (dt_at dtX12_goes 173 rfl) rfl rfl ?_
                  refine K_get (a := 0) (ci := 12) (k := 19) (v := vi (s : Int)) (dt_at dtX12_goes 174 rfl) (show TT 0 = (0, 12) from rfl) rfl (by decide) wF_X12_125 (by show vi (hI hq18 0 19) = vi (s : Int); rw [(fq18 0 19 (by omega)), (fq9 0 19 (by omega)), (fq4 0 19 (by omega)), (fq3 0 19 (by omega)), (fq2 0 19 (by omega)), iq1]) ?_
                  refine K_isub (dt_at dtX12_goes 175 rfl) ?_
                  refine K_putI (a := 0) (ci := 12) (k := 20) (dt_at dtX12_goes 176 rfl) (show TT 0 = (0, 12) from rfl) rfl (by decide) wF_X12_148 rfl (Or.inl rfl) rfl rfl ?_
                  obtain ⟨hq19, eq19⟩ : ∃ z, z = sI hq18 0 20 (((s : Int) + 1) - (s : Int)) := ⟨_, rfl⟩
                  rw [← eq19]
                  obtain ⟨iq19, fq19, aq19, rq19⟩ := sI_fx eq19
                  have hsn : s < n := by omega
                  have eb : byF tp n s = tp (s : Int) := byF_l hsn
                  have hkd : kd (tp (s : Int)) = 3 := kd_3 (by omega)
                  rw [tkE_n hsn, hkd]
                  have hrn : rnF tp 3 (n - (s + 1)) (s + 1) = s + 1 := by cases n - (s + 1) with | zero => rfl | succ q => exact rnF_f (fun z => absurd z.1 (by decide))
                  rw [hrn]
                  exact K_vret (dt_at dtX12_goes 177 rfl) rfl (by decide) (by decide) ⟨rfl, ⟨⟨by rw [(fq19 0 18 (by omega)), iq18], by rw [(fq19 0 19 (by omega)), (fq18 0 19 (by omega)), (fq9 0 19 (by omega)), (fq4 0 19 (by omega)), (fq3 0 19 (by omega)), (fq2 0 19 (by omega)), iq1], by rw [(fq19 0 17 (by omega)), (fq18 0 17 (by omega)), iq9]; rfl, by rw [iq19]; rfl⟩, ⟨by rw [(fq19 0 21 (by omega)), (fq18 0 21 (by omega)), (fq9 0 21 (by omega)), (fq4 0 21 (by omega)), iq3]; decide, fun z => absurd (show (3 : Int) = 2 from z) (by decide)⟩, ⟨by rw [(fq19 0 22 (by omega)), (fq18 0 22 (by omega)), (fq9 0 22 (by omega)), iq4]; exact hb, fun _ => by rw [(fq19 0 22 (by omega)), (fq18 0 22 (by omega)), (fq9 0 22 (by omega)), iq4, eb]⟩, by rw [(fq19 0 23 (by omega)), (fq18 0 23 (by omega)), (fq9 0 23 (by omega)), (fq4 0 23 (by omega)), (fq3 0 23 (by omega)), iq2]; decide, fun z => absurd (show (3 : Int) = 1 from z) (by decide)⟩, (FL_tr (FL_tr (FL_tr (FL_tr (FL_tr (FL_tr (FL_tr F2 (FL_eI eq1 rfl)) (FL_eI eq2 rfl)) (FL_eI eq3 rfl)) (FL_eI eq4 rfl)) (FL_eI eq9 rfl)) (FL_eI eq18 rfl)) (FL_eI eq19 rfl))⟩
                · refine K_iload_n (dt_at dtX12_goes 154 rfl) rfl rfl ?_
                  refine K_bipush (dt_at dtX12_goes 155 rfl) (by decide) ?_
                  refine K_icmp_eq (tgt := 323) (dt_at dtX12_goes 156 rfl) (by decide) (by first | assumption | exact ⟨by omega, by omega⟩) (by first | assumption | exact ⟨by omega, by omega⟩) (fun c13 => ?_) (fun c13 => ?_)
                  · refine K_iconst (dt_at dtX12_goes 166 rfl) ?_
                    refine K_goto (tgt := 328) (dt_at dtX12_goes 167 rfl) (by decide) ?_
                    refine K_putI (a := 0) (ci := 12) (k := 18) (dt_at dtX12_goes 169 rfl) (show TT 0 = (0, 12) from rfl) rfl (by decide) wF_X12_138 rfl (Or.inl rfl) rfl rfl ?_
                    obtain ⟨hq20, eq20⟩ : ∃ z, z = sI hq9 0 18 3 := ⟨_, rfl⟩
                    rw [← eq20]
                    obtain ⟨iq20, fq20, aq20, rq20⟩ := sI_fx eq20
                    refine K_aload_n (dt_at dtX12_goes 170 rfl) rfl rfl ?_
                    refine K_aload_n (dt_at dtX12_goes 171 rfl) rfl rfl ?_
                    refine K_get (a := 0) (ci := 12) (k := 17) (v := vi ((s : Int) + 1)) (dt_at dtX12_goes 172 rfl) (show TT 0 = (0, 12) from rfl) rfl (by decide) wF_X12_118 (by show vi (hI hq20 0 17) = vi ((s : Int) + 1); rw [(fq20 0 17 (by omega)), iq9]) ?_
                    refine K_aload_n (dt_at dtX12_goes 173 rfl) rfl rfl ?_
                    refine K_get (a := 0) (ci := 12) (k := 19) (v := vi (s : Int)) (dt_at dtX12_goes 174 rfl) (show TT 0 = (0, 12) from rfl) rfl (by decide) wF_X12_125 (by show vi (hI hq20 0 19) = vi (s : Int); rw [(fq20 0 19 (by omega)), (fq9 0 19 (by omega)), (fq4 0 19 (by omega)), (fq3 0 19 (by omega)), (fq2 0 19 (by omega)), iq1]) ?_
                    refine K_isub (dt_at dtX12_goes 175 rfl) ?_
                    refine K_putI (a := 0) (ci := 12) (k := 20) (dt_at dtX12_goes 176 rfl) (show TT 0 = (0, 12) from rfl) rfl (by decide) wF_X12_148 rfl (Or.inl rfl) rfl rfl ?_
                    obtain ⟨hq21, eq21⟩ : ∃ z, z = sI hq20 0 20 (((s : Int) + 1) - (s : Int)) := ⟨_, rfl⟩
                    rw [← eq21]
                    obtain ⟨iq21, fq21, aq21, rq21⟩ := sI_fx eq21
                    have hsn : s < n := by omega
                    have eb : byF tp n s = tp (s : Int) := byF_l hsn
                    have hkd : kd (tp (s : Int)) = 3 := kd_3 (by omega)
                    rw [tkE_n hsn, hkd]
                    have hrn : rnF tp 3 (n - (s + 1)) (s + 1) = s + 1 := by cases n - (s + 1) with | zero => rfl | succ q => exact rnF_f (fun z => absurd z.1 (by decide))
                    rw [hrn]
                    exact K_vret (dt_at dtX12_goes 177 rfl) rfl (by decide) (by decide) ⟨rfl, ⟨⟨by rw [(fq21 0 18 (by omega)), iq20], by rw [(fq21 0 19 (by omega)), (fq20 0 19 (by omega)), (fq9 0 19 (by omega)), (fq4 0 19 (by omega)), (fq3 0 19 (by omega)), (fq2 0 19 (by omega)), iq1], by rw [(fq21 0 17 (by omega)), (fq20 0 17 (by omega)), iq9]; rfl, by rw [iq21]; rfl⟩, ⟨by rw [(fq21 0 21 (by omega)), (fq20 0 21 (by omega)), (fq9 0 21 (by omega)), (fq4 0 21 (by omega)), iq3]; decide, fun z => absurd (show (3 : Int) = 2 from z) (by decide)⟩, ⟨by rw [(fq21 0 22 (by omega)), (fq20 0 22 (by omega)), (fq9 0 22 (by omega)), iq4]; exact hb, fun _ => by rw [(fq21 0 22 (by omega)), (fq20 0 22 (by omega)), (fq9 0 22 (by omega)), iq4, eb]⟩, by rw [(fq21 0 23 (by omega)), (fq20 0 23 (by omega)), (fq9 0 23 (by omega)), (fq4 0 23 (by omega)), (fq3 0 23 (by omega)), iq2]; decide, fun z => absurd (show (3 : Int) = 1 from z) (by decide)⟩, (FL_tr (FL_tr (FL_tr (FL_tr (FL_tr (FL_tr (FL_tr F2 (FL_eI eq1 rfl)) (FL_eI eq2 rfl)) (FL_eI eq3 rfl)) (FL_eI eq4 rfl)) (FL_eI eq9 rfl)) (FL_eI eq20 rfl)) (FL_eI eq21 rfl))⟩
                  · refine K_iload_n (dt_at dtX12_goes 157 rfl) rfl rfl ?_
                    refine K_bipush (dt_at dtX12_goes 158 rfl) (by decide) ?_
                    refine K_icmp_eq (tgt := 323) (dt_at dtX12_goes 159 rfl) (by decide) (by first | assumption | exact ⟨by omega, by omega⟩) (by first | assumption | exact ⟨by omega, by omega⟩) (fun c14 => ?_) (fun c14 => ?_)
                    · refine K_iconst (dt_at dtX12_goes 166 rfl) ?_
                      refine K_goto (tgt := 328) (dt_at dtX12_goes 167 rfl) (by decide) ?_
                      refine K_putI (a := 0) (ci := 12) (k := 18) (dt_at dtX12_goes 169 rfl) (show TT 0 = (0, 12) from rfl) rfl (by decide) wF_X12_138 rfl (Or.inl rfl) rfl rfl ?_
                      obtain ⟨hq22, eq22⟩ : ∃ z, z = sI hq9 0 18 3 := ⟨_, rfl⟩
                      rw [← eq22]
                      obtain ⟨iq22, fq22, aq22, rq22⟩ := sI_fx eq22
                      refine K_aload_n (dt_at dtX12_goes 170 rfl) rfl rfl ?_
                      refine K_aload_n (dt_at dtX12_goes 171 rfl) rfl rfl ?_
                      refine K_get (a := 0) (ci := 12) (k := 17) (v := vi ((s : Int) + 1)) (dt_at dtX12_goes 172 rfl) (show TT 0 = (0, 12) from rfl) rfl (by decide) wF_X12_118 (by show vi (hI hq22 0 17) = vi ((s : Int) + 1); rw [(fq22 0 17 (by omega)), iq9]) ?_
                      refine K_aload_n (dt_at dtX12_goes 173 rfl) rfl rfl ?_
                      refine K_get (a := 0) (ci := 12) (k := 19) (v := vi (s : Int)) (dt_at dtX12_goes 174 rfl) (show TT 0 = (0, 12) from rfl) rfl (by decide) wF_X12_125 (by show vi (hI hq22 0 19) = vi (s : Int); rw [(fq22 0 19 (by omega)), (fq9 0 19 (by omega)), (fq4 0 19 (by omega)), (fq3 0 19 (by omega)), (fq2 0 19 (by omega)), iq1]) ?_
                      refine K_isub (dt_at dtX12_goes 175 rfl) ?_
                      refine K_putI (a := 0) (ci := 12) (k := 20) (dt_at dtX12_goes 176 rfl) (show TT 0 = (0, 12) from rfl) rfl (by decide) wF_X12_148 rfl (Or.inl rfl) rfl rfl ?_
                      obtain ⟨hq23, eq23⟩ : ∃ z, z = sI hq22 0 20 (((s : Int) + 1) - (s : Int)) := ⟨_, rfl⟩
                      rw [← eq23]
                      obtain ⟨iq23, fq23, aq23, rq23⟩ := sI_fx eq23
                      have hsn : s < n := by omega
                      have eb : byF tp n s = tp (s : Int) := byF_l hsn
                      have hkd : kd (tp (s : Int)) = 3 := kd_3 (by omega)
                      rw [tkE_n hsn, hkd]
                      have hrn : rnF tp 3 (n - (s + 1)) (s + 1) = s + 1 := by cases n - (s + 1) with | zero => rfl | succ q => exact rnF_f (fun z => absurd z.1 (by decide))
                      rw [hrn]
                      exact K_vret (dt_at dtX12_goes 177 rfl) rfl (by decide) (by decide) ⟨rfl, ⟨⟨by rw [(fq23 0 18 (by omega)), iq22], by rw [(fq23 0 19 (by omega)), (fq22 0 19 (by omega)), (fq9 0 19 (by omega)), (fq4 0 19 (by omega)), (fq3 0 19 (by omega)), (fq2 0 19 (by omega)), iq1], by rw [(fq23 0 17 (by omega)), (fq22 0 17 (by omega)), iq9]; rfl, by rw [iq23]; rfl⟩, ⟨by rw [(fq23 0 21 (by omega)), (fq22 0 21 (by omega)), (fq9 0 21 (by omega)), (fq4 0 21 (by omega)), iq3]; decide, fun z => absurd (show (3 : Int) = 2 from z) (by decide)⟩, ⟨by rw [(fq23 0 22 (by omega)), (fq22 0 22 (by omega)), (fq9 0 22 (by omega)), iq4]; exact hb, fun _ => by rw [(fq23 0 22 (by omega)), (fq22 0 22 (by omega)), (fq9 0 22 (by omega)), iq4, eb]⟩, by rw [(fq23 0 23 (by omega)), (fq22 0 23 (by omega)), (fq9 0 23 (by omega)), (fq4 0 23 (by omega)), (fq3 0 23 (by omega)), iq2]; decide, fun z => absurd (show (3 : Int) = 1 from z) (by decide)⟩, (FL_tr (FL_tr (FL_tr (FL_tr (FL_tr (FL_tr (FL_tr F2 (FL_eI eq1 rfl)) (FL_eI eq2 rfl)) (FL_eI eq3 rfl)) (FL_eI eq4 rfl)) (FL_eI eq9 rfl)) (FL_eI eq22 rfl)) (FL_eI eq23 rfl))⟩
                    · refine K_iload_n (dt_at dtX12_goes 160 rfl) rfl rfl ?_
                      refine K_bipush (dt_at dtX12_goes 161 rfl) (by decide) ?_
                      refine K_icmp_eq (tgt := 323) (dt_at dtX12_goes 162 rfl) (by decide) (by first | assumption | exact ⟨by omega, by omega⟩) (by first | assumption | exact ⟨by omega, by omega⟩) (fun c15 => ?_) (fun c15 => ?_)
                      · refine K_iconst (dt_at dtX12_goes 166 rfl) ?_
                        refine K_goto (tgt := 328) (dt_at dtX12_goes 167 rfl) (by decide) ?_
                        refine K_putI (a := 0) (ci := 12) (k := 18) (dt_at dtX12_goes 169 rfl) (show TT 0 = (0, 12) from rfl) rfl (by decide) wF_X12_138 rfl (Or.inl rfl) rfl rfl ?_
                        obtain ⟨hq24, eq24⟩ : ∃ z, z = sI hq9 0 18 3 := ⟨_, rfl⟩
                        rw [← eq24]
                        obtain ⟨iq24, fq24, aq24, rq24⟩ := sI_fx eq24
                        refine K_aload_n (dt_at dtX12_goes 170 rfl) rfl rfl ?_
                        refine K_aload_n (dt_at dtX12_goes 171 rfl) rfl rfl ?_
                        refine K_get (a := 0) (ci := 12) (k := 17) (v := vi ((s : Int) + 1)) (dt_at dtX12_goes 172 rfl) (show TT 0 = (0, 12) from rfl) rfl (by decide) wF_X12_118 (by show vi (hI hq24 0 17) = vi ((s : Int) + 1); rw [(fq24 0 17 (by omega)), iq9]) ?_
                        refine K_aload_n (dt_at dtX12_goes 173 rfl) rfl rfl ?_
                        refine K_get (a := 0) (ci := 12) (k := 19) (v := vi (s : Int)) (dt_at dtX12_goes 174 rfl) (show TT 0 = (0, 12) from rfl) rfl (by decide) wF_X12_125 (by show vi (hI hq24 0 19) = vi (s : Int); rw [(fq24 0 19 (by omega)), (fq9 0 19 (by omega)), (fq4 0 19 (by omega)), (fq3 0 19 (by omega)), (fq2 0 19 (by omega)), iq1]) ?_
                        refine K_isub (dt_at dtX12_goes 175 rfl) ?_
                        refine K_putI (a := 0) (ci := 12) (k := 20) (dt_at dtX12_goes 176 rfl) (show TT 0 = (0, 12) from rfl) rfl (by decide) wF_X12_148 rfl (Or.inl rfl) rfl rfl ?_
                        obtain ⟨hq25, eq25⟩ : ∃ z, z = sI hq24 0 20 (((s : Int) + 1) - (s : Int)) := ⟨_, rfl⟩
                        rw [← eq25]
                        obtain ⟨iq25, fq25, aq25, rq25⟩ := sI_fx eq25
                        have hsn : s < n := by omega
                        have eb : byF tp n s = tp (s : Int) := byF_l hsn
                        have hkd : kd (tp (s : Int)) = 3 := kd_3 (by omega)
                        rw [tkE_n hsn, hkd]
                        have hrn : rnF tp 3 (n - (s + 1)) (s + 1) = s + 1 := by cases n - (s + 1) with | zero => rfl | succ q => exact rnF_f (fun z => absurd z.1 (by decide))
                        rw [hrn]
                        exact K_vret (dt_at dtX12_goes 177 rfl) rfl (by decide) (by decide) ⟨rfl, ⟨⟨by rw [(fq25 0 18 (by omega)), iq24], by rw [(fq25 0 19 (by omega)), (fq24 0 19 (by omega)), (fq9 0 19 (by omega)), (fq4 0 19 (by omega)), (fq3 0 19 (by omega)), (fq2 0 19 (by omega)), iq1], by rw [(fq25 0 17 (by omega)), (fq24 0 17 (by omega)), iq9]; rfl, by rw [iq25]; rfl⟩, ⟨by rw [(fq25 0 21 (by omega)), (fq24 0 21 (by omega)), (fq9 0 21 (by omega)), (fq4 0 21 (by omega)), iq3]; decide, fun z => absurd (show (3 : Int) = 2 from z) (by decide)⟩, ⟨by rw [(fq25 0 22 (by omega)), (fq24 0 22 (by omega)), (fq9 0 22 (by omega)), iq4]; exact hb, fun _ => by rw [(fq25 0 22 (by omega)), (fq24 0 22 (by omega)), (fq9 0 22 (by omega)), iq4, eb]⟩, by rw [(fq25 0 23 (by omega)), (fq24 0 23 (by omega)), (fq9 0 23 (by omega)), (fq4 0 23 (by omega)), (fq3 0 23 (by omega)), iq2]; decide, fun z => absurd (show (3 : Int) = 1 from z) (by decide)⟩, (FL_tr (FL_tr (FL_tr (FL_tr (FL_tr (FL_tr (FL_tr F2 (FL_eI eq1 rfl)) (FL_eI eq2 rfl)) (FL_eI eq3 rfl)) (FL_eI eq4 rfl)) (FL_eI eq9 rfl)) (FL_eI eq24 rfl)) (FL_eI eq25 rfl))⟩
                      · refine K_iload_n (dt_at dtX12_goes 163 rfl) rfl rfl ?_
                        refine K_bipush (dt_at dtX12_goes 164 rfl) (by decide) ?_
                        refine K_icmp_ne (tgt := 327) (dt_at dtX12_goes 165 rfl) (by decide) (by first | assumption | exact ⟨by omega, by omega⟩) (by first | assumption | exact ⟨by omega, by omega⟩) (fun c16 => ?_) (fun c16 => ?_)
                        · refine K_iconst (dt_at dtX12_goes 168 rfl) ?_
                          refine K_putI (a := 0) (ci := 12) (k := 18) (dt_at dtX12_goes 169 rfl) (show TT 0 = (0, 12) from rfl) rfl (by decide) wF_X12_138 rfl (Or.inl rfl) rfl rfl ?_
                          obtain ⟨hq26, eq26⟩ : ∃ z, z = sI hq9 0 18 4 := ⟨_, rfl⟩
                          rw [← eq26]
                          obtain ⟨iq26, fq26, aq26, rq26⟩ := sI_fx eq26
                          refine K_aload_n (dt_at dtX12_goes 170 rfl) rfl rfl ?_
                          refine K_aload_n (dt_at dtX12_goes 171 rfl) rfl rfl ?_
                          refine K_get (a := 0) (ci := 12) (k := 17) (v := vi ((s : Int) + 1)) (dt_at dtX12_goes 172 rfl) (show TT 0 = (0, 12) from rfl) rfl (by decide) wF_X12_118 (by show vi (hI hq26 0 17) = vi ((s : Int) + 1); rw [(fq26 0 17 (by omega)), iq9]) ?_
                          refine K_aload_n (dt_at dtX12_goes 173 rfl) rfl rfl ?_
                          refine K_get (a := 0) (ci := 12) (k := 19) (v := vi (s : Int)) (dt_at dtX12_goes 174 rfl) (show TT 0 = (0, 12) from rfl) rfl (by decide) wF_X12_125 (by show vi (hI hq26 0 19) = vi (s : Int); rw [(fq26 0 19 (by omega)), (fq9 0 19 (by omega)), (fq4 0 19 (by omega)), (fq3 0 19 (by omega)), (fq2 0 19 (by omega)), iq1]) ?_
                          refine K_isub (dt_at dtX12_goes 175 rfl) ?_
                          refine K_putI (a := 0) (ci := 12) (k := 20) (dt_at dtX12_goes 176 rfl) (show TT 0 = (0, 12) from rfl) rfl (by decide) wF_X12_148 rfl (Or.inl rfl) rfl rfl ?_
                          obtain ⟨hq27, eq27⟩ : ∃ z, z = sI hq26 0 20 (((s : Int) + 1) - (s : Int)) := ⟨_, rfl⟩
                          rw [← eq27]
                          obtain ⟨iq27, fq27, aq27, rq27⟩ := sI_fx eq27
                          have hsn : s < n := by omega
                          have eb : byF tp n s = tp (s : Int) := byF_l hsn
                          have hkd : kd (tp (s : Int)) = 4 := kd_4 (by omega) (by omega) (by omega)
                          rw [tkE_n hsn, hkd]
                          have hrn : rnF tp 4 (n - (s + 1)) (s + 1) = s + 1 := by cases n - (s + 1) with | zero => rfl | succ q => exact rnF_f (fun z => absurd z.1 (by decide))
                          rw [hrn]
                          exact K_vret (dt_at dtX12_goes 177 rfl) rfl (by decide) (by decide) ⟨rfl, ⟨⟨by rw [(fq27 0 18 (by omega)), iq26], by rw [(fq27 0 19 (by omega)), (fq26 0 19 (by omega)), (fq9 0 19 (by omega)), (fq4 0 19 (by omega)), (fq3 0 19 (by omega)), (fq2 0 19 (by omega)), iq1], by rw [(fq27 0 17 (by omega)), (fq26 0 17 (by omega)), iq9]; rfl, by rw [iq27]; rfl⟩, ⟨by rw [(fq27 0 21 (by omega)), (fq26 0 21 (by omega)), (fq9 0 21 (by omega)), (fq4 0 21 (by omega)), iq3]; decide, fun z => absurd (show (4 : Int) = 2 from z) (by decide)⟩, ⟨by rw [(fq27 0 22 (by omega)), (fq26 0 22 (by omega)), (fq9 0 22 (by omega)), iq4]; exact hb, fun z => absurd (show (4 : Int) = 3 from z) (by decide)⟩, by rw [(fq27 0 23 (by omega)), (fq26 0 23 (by omega)), (fq9 0 23 (by omega)), (fq4 0 23 (by omega)), (fq3 0 23 (by omega)), iq2]; decide, fun z => absurd (show (4 : Int) = 1 from z) (by decide)⟩, (FL_tr (FL_tr (FL_tr (FL_tr (FL_tr (FL_tr (FL_tr F2 (FL_eI eq1 rfl)) (FL_eI eq2 rfl)) (FL_eI eq3 rfl)) (FL_eI eq4 rfl)) (FL_eI eq9 rfl)) (FL_eI eq26 rfl)) (FL_eI eq27 rfl))⟩
                        · refine K_iconst (dt_at dtX12_goes 166 rfl) ?_
                          refine K_goto (tgt := 328) (dt_at dtX12_goes 167 rfl) (by decide) ?_
                          refine K_putI (a := 0) (ci := 12) (k := 18) (dt_at dtX12_goes 169 rfl) (show TT 0 = (0, 12) from rfl) rfl (by decide) wF_X12_138 rfl (Or.inl rfl) rfl rfl ?_
                          obtain ⟨hq28, eq28⟩ : ∃ z, z = sI hq9 0 18 3 := ⟨_, rfl⟩
                          rw [← eq28]
                          obtain ⟨iq28, fq28, aq28, rq28⟩ := sI_fx eq28
                          refine K_aload_n (dt_at dtX12_goes 170 rfl) rfl rfl ?_
                          refine K_aload_n (dt_at dtX12_goes 171 rfl) rfl rfl ?_
                          refine K_get (a := 0) (ci := 12) (k := 17) (v := vi ((s : Int) + 1)) (dt_at dtX12_goes 172 rfl) (show TT 0 = (0, 12) from rfl) rfl (by decide) wF_X12_118 (by show vi (hI hq28 0 17) = vi ((s : Int) + 1); rw [(fq28 0 17 (by omega)), iq9]) ?_
                          refine K_aload_n (dt_at dtX12_goes 173 rfl) rfl rfl ?_
                          refine K_get (a := 0) (ci := 12) (k := 19) (v := vi (s : Int)) (dt_at dtX12_goes 174 rfl) (show TT 0 = (0, 12) from rfl) rfl (by decide) wF_X12_125 (by show vi (hI hq28 0 19) = vi (s : Int); rw [(fq28 0 19 (by omega)), (fq9 0 19 (by omega)), (fq4 0 19 (by omega)), (fq3 0 19 (by omega)), (fq2 0 19 (by omega)), iq1]) ?_
                          refine K_isub (dt_at dtX12_goes 175 rfl) ?_
                          refine K_putI (a := 0) (ci := 12) (k := 20) (dt_at dtX12_goes 176 rfl) (show TT 0 = (0, 12) from rfl) rfl (by decide) wF_X12_148 rfl (Or.inl rfl) rfl rfl ?_
                          obtain ⟨hq29, eq29⟩ : ∃ z, z = sI hq28 0 20 (((s : Int) + 1) - (s : Int)) := ⟨_, rfl⟩
                          rw [← eq29]
                          obtain ⟨iq29, fq29, aq29, rq29⟩ := sI_fx eq29
                          have hsn : s < n := by omega
                          have eb : byF tp n s = tp (s : Int) := byF_l hsn
                          have hkd : kd (tp (s : Int)) = 3 := kd_3 (by omega)
                          rw [tkE_n hsn, hkd]
                          have hrn : rnF tp 3 (n - (s + 1)) (s + 1) = s + 1 := by cases n - (s + 1) with | zero => rfl | succ q => exact rnF_f (fun z => absurd z.1 (by decide))
                          rw [hrn]
                          exact K_vret (dt_at dtX12_goes 177 rfl) rfl (by decide) (by decide) ⟨rfl, ⟨⟨by rw [(fq29 0 18 (by omega)), iq28], by rw [(fq29 0 19 (by omega)), (fq28 0 19 (by omega)), (fq9 0 19 (by omega)), (fq4 0 19 (by omega)), (fq3 0 19 (by omega)), (fq2 0 19 (by omega)), iq1], by rw [(fq29 0 17 (by omega)), (fq28 0 17 (by omega)), iq9]; rfl, by rw [iq29]; rfl⟩, ⟨by rw [(fq29 0 21 (by omega)), (fq28 0 21 (by omega)), (fq9 0 21 (by omega)), (fq4 0 21 (by omega)), iq3]; decide, fun z => absurd (show (3 : Int) = 2 from z) (by decide)⟩, ⟨by rw [(fq29 0 22 (by omega)), (fq28 0 22 (by omega)), (fq9 0 22 (by omega)), iq4]; exact hb, fun _ => by rw [(fq29 0 22 (by omega)), (fq28 0 22 (by omega)), (fq9 0 22 (by omega)), iq4, eb]⟩, by rw [(fq29 0 23 (by omega)), (fq28 0 23 (by omega)), (fq9 0 23 (by omega)), (fq4 0 23 (by omega)), (fq3 0 23 (by omega)), iq2]; decide, fun z => absurd (show (3 : Int) = 1 from z) (by decide)⟩, (FL_tr (FL_tr (FL_tr (FL_tr (FL_tr (FL_tr (FL_tr F2 (FL_eI eq1 rfl)) (FL_eI eq2 rfl)) (FL_eI eq3 rfl)) (FL_eI eq4 rfl)) (FL_eI eq9 rfl)) (FL_eI eq28 rfl)) (FL_eI eq29 rfl))⟩
  · refine K_aload_n (dt_at dtX12_goes 47 rfl) rfl rfl ?_
    refine K_iconst (dt_at dtX12_goes 48 rfl) ?_
    refine K_putI (a := 0) (ci := 12) (k := 18) (dt_at dtX12_goes 49 rfl) (show TT 0 = (0, 12) from rfl) rfl (by decide) wF_X12_138 rfl (Or.inl rfl) rfl rfl ?_
    obtain ⟨hq30, eq30⟩ : ∃ z, z = sI hq4 0 18 0 := ⟨_, rfl⟩
    rw [← eq30]
    obtain ⟨iq30, fq30, aq30, rq30⟩ := sI_fx eq30
    refine K_goto (tgt := 331) (dt_at dtX12_goes 50 rfl) (by decide) ?_
    refine K_aload_n (dt_at dtX12_goes 170 rfl) rfl rfl ?_
    refine K_aload_n (dt_at dtX12_goes 171 rfl) rfl rfl ?_
    refine K_get (a := 0) (ci := 12) (k := 17) (v := vi (s : Int)) (dt_at dtX12_goes 172 rfl) (show TT 0 = (0, 12) from rfl) rfl (by decide) wF_X12_118 (by show vi (hI hq30 0 17) = vi (s : Int); rw [(fq30 0 17 (by omega)), (fq4 0 17 (by omega)), (fq3 0 17 (by omega)), (fq2 0 17 (by omega)), (fq1 0 17 (by omega)), e2]) ?_
    refine K_aload_n (dt_at dtX12_goes 173 rfl) rfl rfl ?_
    refine K_get (a := 0) (ci := 12) (k := 19) (v := vi (s : Int)) (dt_at dtX12_goes 174 rfl) (show TT 0 = (0, 12) from rfl) rfl (by decide) wF_X12_125 (by show vi (hI hq30 0 19) = vi (s : Int); rw [(fq30 0 19 (by omega)), (fq4 0 19 (by omega)), (fq3 0 19 (by omega)), (fq2 0 19 (by omega)), iq1]) ?_
    refine K_isub (dt_at dtX12_goes 175 rfl) ?_
    refine K_putI (a := 0) (ci := 12) (k := 20) (dt_at dtX12_goes 176 rfl) (show TT 0 = (0, 12) from rfl) rfl (by decide) wF_X12_148 rfl (Or.inl rfl) rfl rfl ?_
    obtain ⟨hq31, eq31⟩ : ∃ z, z = sI hq30 0 20 ((s : Int) - (s : Int)) := ⟨_, rfl⟩
    rw [← eq31]
    obtain ⟨iq31, fq31, aq31, rq31⟩ := sI_fx eq31
    rw [tkE_e (by omega)]
    exact K_vret (dt_at dtX12_goes 177 rfl) rfl (by decide) (by decide) ⟨rfl, ⟨⟨by rw [(fq31 0 18 (by omega)), iq30], by rw [(fq31 0 19 (by omega)), (fq30 0 19 (by omega)), (fq4 0 19 (by omega)), (fq3 0 19 (by omega)), (fq2 0 19 (by omega)), iq1], by rw [(fq31 0 17 (by omega)), (fq30 0 17 (by omega)), (fq4 0 17 (by omega)), (fq3 0 17 (by omega)), (fq2 0 17 (by omega)), (fq1 0 17 (by omega)), e2], by rw [iq31]⟩, ⟨by rw [(fq31 0 21 (by omega)), (fq30 0 21 (by omega)), (fq4 0 21 (by omega)), iq3]; decide, fun z => absurd (show (0 : Int) = 2 from z) (by decide)⟩, ⟨by rw [(fq31 0 22 (by omega)), (fq30 0 22 (by omega)), iq4]; exact hb, fun z => absurd (show (0 : Int) = 3 from z) (by decide)⟩, by rw [(fq31 0 23 (by omega)), (fq30 0 23 (by omega)), (fq4 0 23 (by omega)), (fq3 0 23 (by omega)), iq2]; decide, fun z => absurd (show (0 : Int) = 1 from z) (by decide)⟩, (FL_tr (FL_tr (FL_tr (FL_tr (FL_tr (FL_tr F2 (FL_eI eq1 rfl)) (FL_eI eq2 rfl)) (FL_eI eq3 rfl)) (FL_eI eq4 rfl)) (FL_eI eq30 rfl)) (FL_eI eq31 rfl))⟩
