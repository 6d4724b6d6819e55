theorem DRm_th {h h' : HP} {p q : Nat} {D : DR} {w u s : Int} (d : DRm h p D) (hn : D.1.1 < 6) (hq : p ≤ q) (e24 : hI h' 0 24 = ((D.1.1 + 1 : Nat) : Int)) (a9 : hA h' 9 = upI (hA h 9) (D.1.1 : Int) w) (a10 : hA h' 10 = upI (hA h 10) (D.1.1 : Int) u) (a14 : hA h' 14 = upI (hA h 14) (57 + (D.1.1 : Int)) s) (F : FL [9, 10, 14] ((0, 24) :: MRl) [] h h') : DRm h' q ((D.1.1 + 1, D.1.2), (upI D.2.1.1 (D.1.1 : Int) w, upI D.2.1.2.1 (D.1.1 : Int) u, upI D.2.1.2.2 (D.1.1 : Int) s), D.2.2.1, D.2.2.2.1, D.2.2.2.2) := by
  obtain ⟨⟨⟨d1, d2⟩, d3, d4⟩, d5, d6, d7, ⟨d8, d9⟩, da, db⟩ := d
  refine ⟨⟨⟨e24, by show D.1.1 + 1 ≤ 6; omega⟩, by rw [F.2.1 0 25 rfl]; exact d3, d4⟩, fun i h0 h1 => ?_, by rw [F.1 11 rfl, F.1 12 rfl, F.1 13 rfl]; exact d6, fun j h0 h1 => ?_, ⟨mRd_fr d8 (F.2.1 0 26 rfl) (by rw [F.2.1 0 28 rfl]; omega) (fun i _ => by rw [F.1 15 rfl]), mRd_fr d9 (F.2.1 0 27 rfl) (by rw [F.2.1 0 28 rfl]; omega) (fun i _ => by rw [F.1 15 rfl])⟩, by rw [F.2.1 0 28 rfl]; exact da, by rw [F.2.1 0 28 rfl]; omega⟩
  · have h1 : i < ((D.1.1 + 1 : Nat) : Int) := h1
    rw [a9, a10]
    show upI (hA h 9) (D.1.1 : Int) w i = upI D.2.1.1 (D.1.1 : Int) w i ∧ upI (hA h 10) (D.1.1 : Int) u i = upI D.2.1.2.1 (D.1.1 : Int) u i
    by_cases c : i = (D.1.1 : Int)
    · rw [c, upI_s, upI_s, upI_s, upI_s]; exact ⟨rfl, rfl⟩
    · rw [upI_n c, upI_n c, upI_n c, upI_n c]; exact d5 i h0 (by omega)
  · show hA h' 14 (pm j) = drR (D.1.1 + 1) D.1.2 (upI D.2.1.2.2 (D.1.1 : Int) s) D.2.2.1.2.2.2.1 D.2.2.1.2.2.2.2 j
    rw [a14, drR_t hn]
    have e9 : (57 : Int) + (D.1.1 : Int) = pm (29 + (D.1.1 : Int)) := (pm_s (by omega)).symm
    by_cases c : j = 29 + (D.1.1 : Int)
    · rw [if_pos c, e9, c, upI_s]
    · rw [if_neg c, upI_n (fun z => c (pm_inj h0 h1 (by omega) (by omega) (by rw [← e9]; exact z)))]
      exact d7 j h0 h1
theorem DRm_pe {h h' : HP} {p q : Nat} {D : DR} {a b c f y : Int} (d : DRm h p D) (hn : D.1.2 < 7) (hq : p ≤ q) (e25 : hI h' 0 25 = ((D.1.2 + 1 : Nat) : Int)) (a11 : hA h' 11 = upI (hA h 11) (D.1.2 : Int) a) (a12 : hA h' 12 = upI (hA h 12) (D.1.2 : Int) b) (a13 : hA h' 13 = upI (hA h 13) (D.1.2 : Int) c) (a14 : ∀ i : Int, hA h' 14 i = (if i = 70 + (D.1.2 : Int) then y else if i = 8 + (D.1.2 : Int) then (D.1.2 : Int) else if i = 63 + (D.1.2 : Int) then f else hA h 14 i)) (F : FL [11, 12, 13, 14] ((0, 25) :: MRl) [] h h') : DRm h' q ((D.1.1, D.1.2 + 1), D.2.1, (upI D.2.2.1.1 (D.1.2 : Int) a, upI D.2.2.1.2.1 (D.1.2 : Int) b, upI D.2.2.1.2.2.1 (D.1.2 : Int) c, upI D.2.2.1.2.2.2.1 (D.1.2 : Int) f, upI D.2.2.1.2.2.2.2 (D.1.2 : Int) y), D.2.2.2.1, D.2.2.2.2) := by
  obtain ⟨⟨⟨d1, d2⟩, d3, d4⟩, d5, d6, d7, ⟨d8, d9⟩, da, db⟩ := d
  refine ⟨⟨⟨by rw [F.2.1 0 24 rfl]; exact d1, d2⟩, e25, by show D.1.2 + 1 ≤ 7; omega⟩, by rw [F.1 9 rfl, F.1 10 rfl]; exact d5, fun i h0 h1 => ?_, fun j h0 h1 => ?_, ⟨mRd_fr d8 (F.2.1 0 26 rfl) (by rw [F.2.1 0 28 rfl]; omega) (fun i _ => by rw [F.1 15 rfl]), mRd_fr d9 (F.2.1 0 27 rfl) (by rw [F.2.1 0 28 rfl]; omega) (fun i _ => by rw [F.1 15 rfl])⟩, by rw [F.2.1 0 28 rfl]; exact da, by rw [F.2.1 0 28 rfl]; omega⟩
  · have h1 : i < ((D.1.2 + 1 : Nat) : Int) := h1
    rw [a11, a12, a13]
    show upI (hA h 11) (D.1.2 : Int) a i = upI D.2.2.1.1 (D.1.2 : Int) a i ∧ upI (hA h 12) (D.1.2 : Int) b i = upI D.2.2.1.2.1 (D.1.2 : Int) b i ∧ upI (hA h 13) (D.1.2 : Int) c i = upI D.2.2.1.2.2.1 (D.1.2 : Int) c i
    by_cases z : i = (D.1.2 : Int)
    · rw [z, upI_s, upI_s, upI_s, upI_s, upI_s, upI_s]; exact ⟨rfl, rfl, rfl⟩
    · rw [upI_n z, upI_n z, upI_n z, upI_n z, upI_n z, upI_n z]; exact d6 i h0 (by omega)
  · show hA h' 14 (pm j) = drR D.1.1 (D.1.2 + 1) D.2.1.2.2 (upI D.2.2.1.2.2.2.1 (D.1.2 : Int) f) (upI D.2.2.1.2.2.2.2 (D.1.2 : Int) y) j
    rw [a14, drR_p hn]
    have e1 : (70 : Int) + (D.1.2 : Int) = pm (22 + (D.1.2 : Int)) := (pm_k (by omega)).symm
    have e2 : (8 : Int) + (D.1.2 : Int) = pm (8 + (D.1.2 : Int)) := (pm_lo (by omega)).symm
    have e3 : (63 : Int) + (D.1.2 : Int) = pm (15 + (D.1.2 : Int)) := (pm_f (by omega)).symm
    by_cases z1 : j = 22 + (D.1.2 : Int)
    · rw [if_pos z1, if_pos (by rw [z1, e1])]
    · rw [if_neg z1, if_neg (fun z => z1 (pm_inj h0 h1 (by omega) (by omega) (by rw [← e1]; exact z)))]
      by_cases z2 : j = 8 + (D.1.2 : Int)
      · rw [if_pos z2, if_pos (by rw [z2, ← e2])]
      · rw [if_neg z2, if_neg (fun z => z2 (pm_inj h0 h1 (by omega) (by omega) (by rw [← e2]; exact z)))]
        by_cases z3 : j = 15 + (D.1.2 : Int)
        · rw [if_pos z3, if_pos (by rw [z3, e3])]
        · rw [if_neg z3, if_neg (fun z => z3 (pm_inj h0 h1 (by omega) (by omega) (by rw [← e3]; exact z)))]
          exact d7 j h0 h1
/-- a rule has been read: k is where its place is told -/
theorem DRm_pu {h h' : HP} {p q a : Nat} {D : DR} {M : List Int} (d : DRm h p D) (ha : hI h 0 28 = (a : Int)) (e26 : hI h' 0 26 = (a : Int)) (e27 : hI h' 0 27 = hI h 0 27) (e28 : hI h' 0 28 = (a : Int) + (clN M : Int) + 1) (hq : a + clN M + 1 ≤ 2 * q) (hc : cdR (hA h' 15) (a : Int) M) (hl : ∀ i : Int, i < (a : Int) → hA h' 15 i = hA h 15 i) (F : FL [15, 16, 17] ((0, 26) :: (0, 27) :: YL) [] h h') : DRm h' q (D.1, D.2.1, D.2.2.1, some M, D.2.2.2.2) := by
  obtain ⟨⟨⟨d1, d2⟩, d3, d4⟩, d5, d6, d7, ⟨d8, d9⟩, da, db⟩ := d
  exact ⟨⟨⟨by rw [F.2.1 0 24 rfl]; exact d1, d2⟩, by rw [F.2.1 0 25 rfl]; exact d3, d4⟩, by rw [F.1 9 rfl, F.1 10 rfl]; exact d5, by rw [F.1 11 rfl, F.1 12 rfl, F.1 13 rfl]; exact d6, by rw [F.1 14 rfl]; exact d7, ⟨⟨a, e26, hc, by omega⟩, mRd_fr d9 e27 (by omega) (fun i hi => hl i (by omega))⟩, by omega, by omega⟩
theorem DRm_fe {h h' : HP} {p q a : Nat} {D : DR} {M : List Int} (d : DRm h p D) (ha : hI h 0 28 = (a : Int)) (e27 : hI h' 0 27 = (a : Int)) (e26 : hI h' 0 26 = hI h 0 26) (e28 : hI h' 0 28 = (a : Int) + (clN M : Int) + 1) (hq : a + clN M + 1 ≤ 2 * q) (hc : cdR (hA h' 15) (a : Int) M) (hl : ∀ i : Int, i < (a : Int) → hA h' 15 i = hA h 15 i) (F : FL [15, 16, 17] ((0, 26) :: (0, 27) :: YL) [] h h') : DRm h' q (D.1, D.2.1, D.2.2.1, D.2.2.2.1, some M) := by
  obtain ⟨⟨⟨d1, d2⟩, d3, d4⟩, d5, d6, d7, ⟨d8, d9⟩, da, db⟩ := d
  exact ⟨⟨⟨by rw [F.2.1 0 24 rfl]; exact d1, d2⟩, by rw [F.2.1 0 25 rfl]; exact d3, d4⟩, by rw [F.1 9 rfl, F.1 10 rfl]; exact d5, by rw [F.1 11 rfl, F.1 12 rfl, F.1 13 rfl]; exact d6, by rw [F.1 14 rfl]; exact d7, ⟨mRd_fr d8 e26 (by omega) (fun i hi => hl i (by omega)), ⟨a, e27, hc, by omega⟩⟩, by omega, by omega⟩
section LNS
variable {tp : Int → Int} {n p : Nat} {D : DR}
theorem lnW_0 (h : isWb tp (tk tp n p) 0 = true) : lnB tp n D p = thB tp n D p := by unfold lnB; rw [if_pos h]
theorem lnW_1 (h : isWb tp (tk tp n p) 1 = true) : lnB tp n D p = peB tp n D p := by unfold lnB; rw [if_neg (fun z => absurd (isWb_1 (by decide) (by decide) h z) (by decide)), if_pos h]
theorem lnW_3 (h : isWb tp (tk tp n p) 3 = true) : lnB tp n D p = puB tp n D p := by unfold lnB; rw [if_neg (fun z => absurd (isWb_1 (by decide) (by decide) h z) (by decide)), if_neg (fun z => absurd (isWb_1 (by decide) (by decide) h z) (by decide)), if_pos h]
theorem lnW_15 (h : isWb tp (tk tp n p) 15 = true) : lnB tp n D p = feB tp n D p := by unfold lnB; rw [if_neg (fun z => absurd (isWb_1 (by decide) (by decide) h z) (by decide)), if_neg (fun z => absurd (isWb_1 (by decide) (by decide) h z) (by decide)), if_neg (fun z => absurd (isWb_1 (by decide) (by decide) h z) (by decide)), if_pos h]
theorem lnW_n (h0 : ¬ isWb tp (tk tp n p) 0 = true) (h1 : ¬ isWb tp (tk tp n p) 1 = true) (h3 : ¬ isWb tp (tk tp n p) 3 = true) (h5 : ¬ isWb tp (tk tp n p) 15 = true) : lnB tp n D p = .inl (1, (tk tp n p).2.1) := by unfold lnB; rw [if_neg h0, if_neg h1, if_neg h3, if_neg h5]
end LNS
theorem expr_1 {h : HP} {tp : Int → Int} {n p a : Nat} (A : MGd h tp n p) (ha : hI h 0 28 = (a : Int)) (hb : a + 8 ≤ 2 * p) : SpecK mX12_expression [vr 0, vi 0, vi 5] h (fun o h' => o = .inl none ∧ EXo h h' tp n a (exP tp n 1 6 p)) := expr_K (pu := 1) (Or.inr rfl) A ha hb
theorem expr_0 {h : HP} {tp : Int → Int} {n p a : Nat} (A : MGd h tp n p) (ha : hI h 0 28 = (a : Int)) (hb : a + 8 ≤ 2 * p) : SpecK mX12_expression [vr 0, vi 4, vi 7] h (fun o h' => o = .inl none ∧ EXo h h' tp n a (exP tp n 0 6 p)) := expr_K (pu := 0) (Or.inl rfl) A ha hb
theorem nuP_q {tp : Int → Int} {n p q : Nat} {lo up v : Int} (hp : p ≤ n) (h : nuP tp n lo up p = .inr (v, q)) : p ≤ q ∧ q ≤ n := by
  have h1 := (nuP_b h).2.2.2
  have h2 := tk_is (tp := tp) hp
  omega
theorem thN_q {tp : Int → Int} {n p q : Nat} {w x s : Int} (hp : p ≤ n) (h : thN tp n p = .inr (w, x, s, q)) : p ≤ q := by
  unfold thN at h
  rcases u1 : nuP tp n 1 20 p with e | ⟨v1, p1⟩
  · rw [u1] at h; cases h
  · rw [u1] at h
    have b1 := nuP_q hp u1
    rcases u2 : nuP tp n 0 9 p1 with e | ⟨v2, p2⟩
    · simp only [u2] at h; cases h
    · simp only [u2] at h
      have b2 := nuP_q b1.2 u2
      rcases u3 : nuP tp n 0 9 p2 with e | ⟨v3, p3⟩
      · simp only [u3] at h; cases h
      · simp only [u3] at h
        have b3 := nuP_q b2.2 u3
        cases h
        omega
theorem byP_q {tp : Int → Int} {n p q : Nat} {me y : Int} (hp : p ≤ n) (h : byP tp n me p = .inr (y, q)) : p ≤ q := by
  unfold byP at h
  by_cases c : isWb tp (tk tp n p) 2 = true
  · rw [if_pos c] at h
    unfold pakP at h
    have h2 := tk_is (tp := tp) hp
    split at h
    · cases h
    · have := nuP_q h2.2.2.1 h
      omega
  · rw [if_neg c] at h
    cases h
    exact Nat.le_refl _
theorem peN_q {tp : Int → Int} {n p q : Nat} {me a b c f y : Int} (hp : p ≤ n) (h : peN tp n me p = .inr (a, b, c, f, y, q)) : p ≤ q := by
  unfold peN at h
  rcases u1 : nuP tp n 0 60 p with e | ⟨v1, p1⟩
  · rw [u1] at h; cases h
  · rw [u1] at h
    have b1 := nuP_q hp u1
    rcases u2 : nuP tp n 2 9 p1 with e | ⟨v2, p2⟩
    · simp only [u2] at h; cases h
    · simp only [u2] at h
      have b2 := nuP_q b1.2 u2
      rcases u3 : nuP tp n 1 (v2 - 1) p2 with e | ⟨v3, p3⟩
      · simp only [u3] at h; cases h
      · simp only [u3] at h
        have b3 := nuP_q b2.2 u3
        rcases u4 : nuP tp n 0 9 p3 with e | ⟨v4, p4⟩
        · simp only [u4] at h; cases h
        · simp only [u4] at h
          have b4 := nuP_q b3.2 u4
          rcases u5 : byP tp n me p4 with e | ⟨v5, p5⟩
          · simp only [u5] at h; cases h
          · simp only [u5] at h
            have b5 := byP_q b4.2 u5
            cases h
            omega
def mX12_line : MI := (yX12_line, cX12_line, 2, none, rmK 7 0)
def tX12_line : List (Nat × Instr × Nat) := [(0, .aload_n 0, 1), (1, .invokevirtual 189, 3), (4, .istore_n 1, 1), (5, .iload_n 1, 1), (6, .bipush 8, 2), (8, .if_icmp .ne 32, 3), (11, .aload_n 0, 1), (12, .aload_n 0, 1), (13, .getfield 227, 3), (16, .bipush 6, 2), (18, .if_icmp .ne 7, 3), (21, .iconst 1, 1), (22, .goto 4, 3), (25, .iconst 0, 1), (26, .iconst 0, 1), (27, .invokevirtual 237, 3), (30, .ifCond .eq 139, 3), (33, .aload_n 0, 1), (34, .invokevirtual 241, 3), (37, .goto 132, 3), (40, .iload_n 1, 1), (41, .bipush 9, 2), (43, .if_icmp .ne 32, 3), (46, .aload_n 0, 1), (47, .aload_n 0, 1), (48, .getfield 234, 3), (51, .bipush 7, 2), (53, .if_icmp .ne 7, 3), (56, .iconst 1, 1), (57, .goto 4, 3), (60, .iconst 0, 1), (61, .iconst 0, 1), (62, .invokevirtual 237, 3), (65, .ifCond .eq 104, 3), (68, .aload_n 0, 1), (69, .invokevirtual 244, 3), (72, .goto 97, 3), (75, .iload_n 1, 1), (76, .bipush 11, 2), (78, .if_icmp .ne 41, 3), (81, .aload_n 0, 1), (82, .iconst 0, 1), (83, .aload_n 0, 1), (84, .getfield 247, 3), (87, .iconst (-1), 1), (88, .if_icmp .eq 7, 3), (91, .iconst 1, 1), (92, .goto 4, 3), (95, .iconst 0, 1), (96, .invokevirtual 237, 3), (99, .ifCond .eq 70, 3), (102, .aload_n 0, 1), (103, .aload_n 0, 1), (104, .getfield 174, 3), (107, .putfield 247, 3), (110, .aload_n 0, 1), (111, .iconst 0, 1), (112, .iconst 5, 1), (113, .invokevirtual 250, 3), (116, .goto 53, 3), (119, .iload_n 1, 1), (120, .bipush 12, 2), (122, .if_icmp .ne 42, 3), (125, .aload_n 0, 1), (126, .iconst 0, 1), (127, .aload_n 0, 1), (128, .getfield 254, 3), (131, .iconst (-1), 1), (132, .if_icmp .eq 7, 3), (135, .iconst 1, 1), (136, .goto 4, 3), (139, .iconst 0, 1), (140, .invokevirtual 237, 3), (143, .ifCond .eq 26, 3), (146, .aload_n 0, 1), (147, .aload_n 0, 1), (148, .getfield 174, 3), (151, .putfield 254, 3), (154, .aload_n 0, 1), (155, .iconst 4, 1), (156, .bipush 7, 2), (158, .invokevirtual 250, 3), (161, .goto 8, 3), (164, .aload_n 0, 1), (165, .iconst 1, 1), (166, .invokevirtual 171, 3), (169, .aload_n 0, 1), (170, .aload_n 0, 1), (171, .bipush 59, 2), (173, .invokevirtual 202, 3), (176, .invokevirtual 257, 3), (179, .return_, 1)]
theorem dtX12_line : tX12_line.all (fun q => decide (decode cX12_line q.1 = .ok (q.2.1, q.2.2))) = true := by decide +kernel
theorem npX12_line : (parseMethodDescriptor (mY mX12_line).desc).map (fun d => d.parameters.length) = some 0 := by decide +kernel
theorem vX12_line : mV mX12_line := ⟨wI_X12_line, wS_X12_line, wN_X12, wC_X12_line, by decide +kernel, by decide +kernel⟩
set_option maxHeartbeats 4000000 in
set_option maxRecDepth 100000 in
theorem tail_169 {h hh : HP} {tp : Int → Int} {n : Nat} {kq : Int} {X : (Int × Nat) ⊕ (DR × Nat)} (l : LNm hh tp n X) (F : LRf h hh) : K mX12_line GK (ZK (fun o h' => o = .inl none ∧ LNm h' tp n (siP tp n X) ∧ LRf h h') 0 0) 0 0 169 [(1, vi kq), (0, vr 0)] [] hh := by
  cases X with
  | inl e =>
    have l : MEr hh tp n e := l
    refine K_aload_n (dt_at dtX12_line 86 rfl) rfl rfl ?_
    refine K_aload_n (dt_at dtX12_line 87 rfl) rfl rfl ?_
    refine K_bipush (dt_at dtX12_line 88 rfl) (by decide) ?_
    refine K_callV (M' := mX12_isSign) (a := 0) (ci := 12) (As := [vi 59]) (st := [vr 0]) (dt_at dtX12_line 89 rfl) (sg_e l ⟨by decide, by decide⟩) (show TT 0 = (0, 12) from rfl) rfl wL_X12_202 vX12_isSign rfl npX12_isSign (by decide) (by decide) (Nat.le_of_ble_eq_true rfl) (by decide) (by decide) GK_E (fun v9 h9 hq => ?_) (fun E h9 hq => by obtain ⟨⟨_, e9⟩, _⟩ := hq; cases e9)
    obtain ⟨⟨x9, e9⟩, e8⟩ := hq
    cases e9
    rw [e8]
    show K mX12_line _ _ 0 0 176 [(1, vi kq), (0, vr 0)] [vi x9, vr 0] hh
    refine K_callV (M' := mX12_need) (a := 0) (ci := 12) (As := [vi x9]) (st := []) (dt_at dtX12_line 90 rfl) (need_e l) (show TT 0 = (0, 12) from rfl) rfl wL_X12_257 vX12_need rfl npX12_need (by decide) (by decide) (Nat.le_of_ble_eq_true rfl) (by decide) (by decide) GK_E (fun v9 h9 hq => ?_) (fun E h9 hq => by cases hq.1)
    obtain ⟨e9, e8⟩ := hq
    cases e9
    rw [e8]
    show K mX12_line _ _ 0 0 179 [(1, vi kq), (0, vr 0)] [] hh
    exact K_vret (dt_at dtX12_line 91 rfl) rfl (by decide) (by decide) ⟨rfl, l, F⟩
  | inr Dq =>
    obtain ⟨D, q⟩ := Dq
    obtain ⟨A, dd⟩ := l
    have hle : q ≤ (tk tp n q).2.2 := Nat.le_trans (tk_is (tp := tp) A.2.2.1).1 (tk_is (tp := tp) A.2.2.1).2.1
    refine K_aload_n (dt_at dtX12_line 86 rfl) rfl rfl ?_
    refine K_aload_n (dt_at dtX12_line 87 rfl) rfl rfl ?_
    refine K_bipush (dt_at dtX12_line 88 rfl) (by decide) ?_
    refine K_callV (M' := mX12_isSign) (a := 0) (ci := 12) (As := [vi 59]) (st := [vr 0]) (dt_at dtX12_line 89 rfl) (sg_g (c := 59) A ⟨by decide, by decide⟩) (show TT 0 = (0, 12) from rfl) rfl wL_X12_202 vX12_isSign rfl npX12_isSign (by decide) (by decide) (Nat.le_of_ble_eq_true rfl) (by decide) (by decide) GK_E (fun v9 h9 hq => ?_) (fun E h9 hq => by cases hq.1)
    obtain ⟨e9, e8⟩ := hq
    cases e9
    rw [e8]
    show K mX12_line _ _ 0 0 176 [(1, vi kq), (0, vr 0)] [vi (if Sg tp (tk tp n q) 59 then 1 else 0), vr 0] hh
    by_cases z1 : Sg tp (tk tp n q) 59
    · rw [if_pos z1]
      refine K_callV (M' := mX12_need) (a := 0) (ci := 12) (As := [vi 1]) (st := []) (dt_at dtX12_line 90 rfl) (need_t A) (show TT 0 = (0, 12) from rfl) rfl wL_X12_257 vX12_need rfl npX12_need (by decide) (by decide) (Nat.le_of_ble_eq_true rfl) (by decide) (by decide) GK_E (fun v9 hc1 hq => ?_) (fun E h9 hq => by cases hq.1)
      have hqq2 := hq
      obtain ⟨e9q2, Bq2, Gq2⟩ := hqq2
      cases e9q2
      show K mX12_line _ _ 0 0 179 [(1, vi kq), (0, vr 0)] [] hc1
      exact K_vret (dt_at dtX12_line 91 rfl) rfl (by decide) (by decide) ⟨rfl, by rw [siP_t (by assumption)]; exact ⟨Bq2, DRm_FL dd hle Gq2⟩, FL_tr F (FL_up Gq2 rfl rfl rfl)⟩
    · rw [if_neg z1]
      refine K_callV (M' := mX12_need) (a := 0) (ci := 12) (As := [vi 0]) (st := []) (dt_at dtX12_line 90 rfl) (need_f A) (show TT 0 = (0, 12) from rfl) rfl wL_X12_257 vX12_need rfl npX12_need (by decide) (by decide) (Nat.le_of_ble_eq_true rfl) (by decide) (by decide) GK_E (fun v9 hc3 hq => ?_) (fun E h9 hq => by cases hq.1)
      have hqq4 := hq
      obtain ⟨e9q4, Bq4, Gq4⟩ := hqq4
      cases e9q4
      show K mX12_line _ _ 0 0 179 [(1, vi kq), (0, vr 0)] [] hc3
      exact K_vret (dt_at dtX12_line 91 rfl) rfl (by decide) (by decide) ⟨rfl, by rw [siP_f (by assumption)]; exact Bq4, FL_tr F (FL_up Gq4 rfl rfl rfl)⟩
set_option maxHeartbeats 4000000 in
set_option maxRecDepth 100000 in
theorem line_th_x {h : HP} {tp : Int → Int} {n p : Nat} {D : DR} (A : MGd h tp n p) (dd : DRm h p D) (hw : isWb tp (tk tp n p) 0 = true) (hc9 : D.1.1 = 6) : SpecK mX12_line [vr 0] h (fun o h' => o = .inl none ∧ LNm h' tp n (lnP tp n D p) ∧ LRf h h') := by
  refine Spec_of (by decide +kernel) (Nat.le_of_ble_eq_true rfl) ?_
  have hnz : (tk tp n p).1 ≠ 0 := isWb_0 hw
  have hlt := tk_lt A.2.2.1 hnz
  have hwl := (isWb_e hw).2.1
  have hst := (tk_is (tp := tp) A.2.2.1).1
  have hkw := kwF_8 hw
  have ec : hI h 0 24 = 6 := by rw [dd.1.1.1, hc9]; rfl
  have eX : lnP tp n D p = siP tp n (.inl (2, (tk tp n p).2.1)) := by unfold lnP; rw [lnW_0 hw]; unfold thB; rw [if_pos hc9]
  rw [eX]
  refine K_aload_n (dt_at dtX12_line 0 rfl) rfl rfl ?_
  refine K_callV (M' := mX12_knownWord) (a := 0) (ci := 12) (As := []) (st := []) (dt_at dtX12_line 1 rfl) (kw_g A) (show TT 0 = (0, 12) from rfl) rfl wL_X12_189 vX12_knownWord rfl npX12_knownWord (by decide) (by decide) (Nat.le_of_ble_eq_true rfl) (by decide) (by decide) GK_E (fun v9 h9 hq => ?_) (fun E h9 hq => by cases hq.1)
  obtain ⟨e9, e8⟩ := hq
  cases e9
  rw [e8]
  show K mX12_line _ _ 0 0 4 [(0, vr 0)] [vi (kwF tp (tk tp n p))] h
  rw [hkw]
  refine K_istore_n (ls' := [(1, vi 8), (0, vr 0)]) (dt_at dtX12_line 2 rfl) rfl (by decide) rfl ?_
  refine K_iload_n (dt_at dtX12_line 3 rfl) rfl rfl ?_
  refine K_bipush (dt_at dtX12_line 4 rfl) (by decide) ?_
  refine K_icmp_ne (tgt := 40) (dt_at dtX12_line 5 rfl) (by decide) (by first | assumption | exact ⟨by omega, by omega⟩) (by first | assumption | exact ⟨by omega, by omega⟩) (fun c1 => absurd c1 (by omega)) (fun c1 => ?_)
  refine K_aload_n (dt_at dtX12_line 6 rfl) rfl rfl ?_
  refine K_aload_n (dt_at dtX12_line 7 rfl) rfl rfl ?_
  refine K_get (a := 0) (ci := 12) (k := 24) (v := vi 6) (dt_at dtX12_line 8 rfl) (show TT 0 = (0, 12) from rfl) rfl (by decide) wF_X12_227 (by show vi (hI h 0 24) = vi 6; rw [ec]) ?_
  refine K_bipush (dt_at dtX12_line 9 rfl) (by decide) ?_
  refine K_icmp_ne (tgt := 25) (dt_at dtX12_line 10 rfl) (by decide) (by first | assumption | exact ⟨by omega, by omega⟩) (by first | assumption | exact ⟨by omega, by omega⟩) (fun c2 => absurd c2 (by omega)) (fun c2 => ?_)
  refine K_iconst (dt_at dtX12_line 11 rfl) ?_
  refine K_goto (tgt := 26) (dt_at dtX12_line 12 rfl) (by decide) ?_
  refine K_iconst (dt_at dtX12_line 14 rfl) ?_
  refine K_callV (M' := mX12_begins) (a := 0) (ci := 12) (As := [vi 1, vi 0]) (st := []) (dt_at dtX12_line 15 rfl) (begins_m A) (show TT 0 = (0, 12) from rfl) rfl wL_X12_237 vX12_begins rfl npX12_begins (by decide) (by decide) (Nat.le_of_ble_eq_true rfl) (by decide) (by decide) GK_E (fun v9 hc1 hq => ?_) (fun E h9 hq => by cases hq.1)
  have hqq2 := hq
  obtain ⟨e9q2, Bq2, Gq2⟩ := hqq2
  cases e9q2
  show K mX12_line _ _ 0 0 30 [(1, vi 8), (0, vr 0)] [vi 0] hc1
  refine K_if_eq (tgt := 169) (dt_at dtX12_line 16 rfl) (by decide) (by first | assumption | exact ⟨by omega, by omega⟩) (fun c3 => ?_) (fun c3 => absurd c3 (by omega))
  exact K_pk [0, 1] (ls' := [(1, vi 8), (0, vr 0)]) rfl (tail_169 (X := .inl (2, (tk tp n p).2.1)) (Bq2) (FL_up Gq2 rfl rfl rfl))
set_option maxHeartbeats 4000000 in
set_option maxRecDepth 100000 in
theorem line_th {h : HP} {tp : Int → Int} {n p : Nat} {D : DR} (A : MGd h tp n p) (dd : DRm h p D) (hw : isWb tp (tk tp n p) 0 = true) (hc9 : D.1.1 < 6) : SpecK mX12_line [vr 0] h (fun o h' => o = .inl none ∧ LNm h' tp n (lnP tp n D p) ∧ LRf h h') := by
  refine Spec_of (by decide +kernel) (Nat.le_of_ble_eq_true rfl) ?_
  have hnz : (tk tp n p).1 ≠ 0 := isWb_0 hw
  have hlt := tk_lt A.2.2.1 hnz
  have hwl := (isWb_e hw).2.1
  have hst := (tk_is (tp := tp) A.2.2.1).1
  have hkw := kwF_8 hw
  have ec : hI h 0 24 = (D.1.1 : Int) := dd.1.1.1
  have eX : lnP tp n D p = siP tp n (thB tp n D p) := by unfold lnP; rw [lnW_0 hw]
  rw [eX]
  refine K_aload_n (dt_at dtX12_line 0 rfl) rfl rfl ?_
  refine K_callV (M' := mX12_knownWord) (a := 0) (ci := 12) (As := []) (st := []) (dt_at dtX12_line 1 rfl) (kw_g A) (show TT 0 = (0, 12) from rfl) rfl wL_X12_189 vX12_knownWord rfl npX12_knownWord (by decide) (by decide) (Nat.le_of_ble_eq_true rfl) (by decide) (by decide) GK_E (fun v9 h9 hq => ?_) (fun E h9 hq => by cases hq.1)
  obtain ⟨e9, e8⟩ := hq
  cases e9
  rw [e8]
  show K mX12_line _ _ 0 0 4 [(0, vr 0)] [vi (kwF tp (tk tp n p))] h
  rw [hkw]
  refine K_istore_n (ls' := [(1, vi 8), (0, vr 0)]) (dt_at dtX12_line 2 rfl) rfl (by decide) rfl ?_
  refine K_iload_n (dt_at dtX12_line 3 rfl) rfl rfl ?_
  refine K_bipush (dt_at dtX12_line 4 rfl) (by decide) ?_
  refine K_icmp_ne (tgt := 40) (dt_at dtX12_line 5 rfl) (by decide) (by first | assumption | exact ⟨by omega, by omega⟩) (by first | assumption | exact ⟨by omega, by omega⟩) (fun c1 => absurd c1 (by omega)) (fun c1 => ?_)
  refine K_aload_n (dt_at dtX12_line 6 rfl) rfl rfl ?_
  refine K_aload_n (dt_at dtX12_line 7 rfl) rfl rfl ?_
  refine K_get (a := 0) (ci := 12) (k := 24) (v := vi (D.1.1 : Int)) (dt_at dtX12_line 8 rfl) (show TT 0 = (0, 12) from rfl) rfl (by decide) wF_X12_227 (by show vi (hI h 0 24) = vi (D.1.1 : Int); rw [ec]) ?_
  refine K_bipush (dt_at dtX12_line 9 rfl) (by decide) ?_
  refine K_icmp_ne (tgt := 25) (dt_at dtX12_line 10 rfl) (by decide) (by first | assumption | exact ⟨by omega, by omega⟩) (by first | assumption | exact ⟨by omega, by omega⟩) (fun c2 => ?_) (fun c2 => absurd c2 (by omega))
  refine K_iconst (dt_at dtX12_line 13 rfl) ?_
  refine K_iconst (dt_at dtX12_line 14 rfl) ?_
  refine K_callV (M' := mX12_begins) (a := 0) (ci := 12) (As := [vi 0, vi 0]) (st := []) (dt_at dtX12_line 15 rfl) (begins_t A) (show TT 0 = (0, 12) from rfl) rfl wL_X12_237 vX12_begins rfl npX12_begins (by decide) (by decide) (Nat.le_of_ble_eq_true rfl) (by decide) (by decide) GK_E (fun v9 hc1 hq => ?_) (fun E h9 hq => by cases hq.1)
  have hqq2 := hq
  obtain ⟨e9q2, Bq2, Gq2⟩ := hqq2
  cases e9q2
  show K mX12_line _ _ 0 0 30 [(1, vi 8), (0, vr 0)] [vi 1] hc1
  refine K_if_eq (tgt := 169) (dt_at dtX12_line 16 rfl) (by decide) (by first | assumption | exact ⟨by omega, by omega⟩) (fun c3 => absurd c3 (by omega)) (fun c3 => ?_)
  refine K_aload_n (dt_at dtX12_line 17 rfl) rfl rfl ?_
  refine K_callV (M' := mX12_readsThing) (a := 0) (ci := 12) (As := []) (st := []) (dt_at dtX12_line 18 rfl) (sX12_readsThing Bq2 (by rw [Gq2.2.1 0 24 rfl]; exact ec) hc9) (show TT 0 = (0, 12) from rfl) rfl wL_X12_241 vX12_readsThing rfl npX12_readsThing (by decide) (by decide) (Nat.le_of_ble_eq_true rfl) (by decide) (by decide) GK_E (fun v9 hc3 hq => ?_) (fun E h9 hq => by cases hq.1)
  have hqq4 := hq
  obtain ⟨e9q4, Nq4, Gq4⟩ := hqq4
  cases e9q4
  show K mX12_line _ _ 0 0 37 [(1, vi 8), (0, vr 0)] [] hc3
  refine K_goto (tgt := 169) (dt_at dtX12_line 19 rfl) (by decide) ?_
  have dd1 := DRm_FL dd (q := (tk tp n p).2.2) (by omega) Gq2
  have FT : LRf h hc3 := FL_tr (FL_up Gq2 rfl rfl rfl) (FL_up Gq4 rfl rfl rfl)
  have lX : LNm hc3 tp n (thB tp n D p) := by
    unfold thB
    rw [if_neg (by omega)]
    have N9 := Nq4
    rcases u : thN tp n (tk tp n p).2.2 with e | ⟨w, x, s, q9⟩
    · rw [u] at N9; exact N9
    · rw [u] at N9
      obtain ⟨n1, n2, n3, n4, n5⟩ := N9
      exact ⟨n1, DRm_th dd1 hc9 (thN_q (tk_e A.2.2.1) u) n2 n3 n4 n5 Gq4⟩
  exact K_pk [0, 1] (ls' := [(1, vi 8), (0, vr 0)]) rfl (tail_169 (X := thB tp n D p) (lX) (FT))
set_option maxHeartbeats 4000000 in
set_option maxRecDepth 100000 in
theorem line_pe_x {h : HP} {tp : Int → Int} {n p : Nat} {D : DR} (A : MGd h tp n p) (dd : DRm h p D) (hw : isWb tp (tk tp n p) 1 = true) (hc9 : D.1.2 = 7) : SpecK mX12_line [vr 0] h (fun o h' => o = .inl none ∧ LNm h' tp n (lnP tp n D p) ∧ LRf h h') := by
  refine Spec_of (by decide +kernel) (Nat.le_of_ble_eq_true rfl) ?_
  have hnz : (tk tp n p).1 ≠ 0 := isWb_0 hw
  have hlt := tk_lt A.2.2.1 hnz
  have hwl := (isWb_e hw).2.1
  have hst := (tk_is (tp := tp) A.2.2.1).1
  have hkw := kwF_9 hw
  have ec : hI h 0 25 = 7 := by rw [dd.1.2.1, hc9]; rfl
  have eX : lnP tp n D p = siP tp n (.inl (2, (tk tp n p).2.1)) := by unfold lnP; rw [lnW_1 hw]; unfold peB; rw [if_pos hc9]
  rw [eX]
  refine K_aload_n (dt_at dtX12_line 0 rfl) rfl rfl ?_
  refine K_callV (M' := mX12_knownWord) (a := 0) (ci := 12) (As := []) (st := []) (dt_at dtX12_line 1 rfl) (kw_g A) (show TT 0 = (0, 12) from rfl) rfl wL_X12_189 vX12_knownWord rfl npX12_knownWord (by decide) (by decide) (Nat.le_of_ble_eq_true rfl) (by decide) (by decide) GK_E (fun v9 h9 hq => ?_) (fun E h9 hq => by cases hq.1)
  obtain ⟨e9, e8⟩ := hq
  cases e9
  rw [e8]
  show K mX12_line _ _ 0 0 4 [(0, vr 0)] [vi (kwF tp (tk tp n p))] h
  rw [hkw]
  refine K_istore_n (ls' := [(1, vi 9), (0, vr 0)]) (dt_at dtX12_line 2 rfl) rfl (by decide) rfl ?_
  refine K_iload_n (dt_at dtX12_line 3 rfl) rfl rfl ?_
  refine K_bipush (dt_at dtX12_line 4 rfl) (by decide) ?_
  refine K_icmp_ne (tgt := 40) (dt_at dtX12_line 5 rfl) (by decide) (by first | assumption | exact ⟨by omega, by omega⟩) (by first | assumption | exact ⟨by omega, by omega⟩) (fun c1 => ?_) (fun c1 => absurd c1 (by omega))
  refine K_iload_n (dt_at dtX12_line 20 rfl) rfl rfl ?_
  refine K_bipush (dt_at dtX12_line 21 rfl) (by decide) ?_
  refine K_icmp_ne (tgt := 75) (dt_at dtX12_line 22 rfl) (by decide) (by first | assumption | exact ⟨by omega, by omega⟩) (by first | assumption | exact ⟨by omega, by omega⟩) (fun c2 => absurd c2 (by omega)) (fun c2 => ?_)
  refine K_aload_n (dt_at dtX12_line 23 rfl) rfl rfl ?_
  refine K_aload_n (dt_at dtX12_line 24 rfl) rfl rfl ?_
  refine K_get (a := 0) (ci := 12) (k := 25) (v := vi 7) (dt_at dtX12_line 25 rfl) (show TT 0 = (0, 12) from rfl) rfl (by decide) wF_X12_234 (by show vi (hI h 0 25) = vi 7; rw [ec]) ?_
  refine K_bipush (dt_at dtX12_line 26 rfl) (by decide) ?_
  refine K_icmp_ne (tgt := 60) (dt_at dtX12_line 27 rfl) (by decide) (by first | assumption | exact ⟨by omega, by omega⟩) (by first | assumption | exact ⟨by omega, by omega⟩) (fun c3 => absurd c3 (by omega)) (fun c3 => ?_)
  refine K_iconst (dt_at dtX12_line 28 rfl) ?_
  refine K_goto (tgt := 61) (dt_at dtX12_line 29 rfl) (by decide) ?_
  refine K_iconst (dt_at dtX12_line 31 rfl) ?_
  refine K_callV (M' := mX12_begins) (a := 0) (ci := 12) (As := [vi 1, vi 0]) (st := []) (dt_at dtX12_line 32 rfl) (begins_m A) (show TT 0 = (0, 12) from rfl) rfl wL_X12_237 vX12_begins rfl npX12_begins (by decide) (by decide) (Nat.le_of_ble_eq_true rfl) (by decide) (by decide) GK_E (fun v9 hc1 hq => ?_) (fun E h9 hq => by cases hq.1)
  have hqq2 := hq
  obtain ⟨e9q2, Bq2, Gq2⟩ := hqq2
  cases e9q2
  show K mX12_line _ _ 0 0 65 [(1, vi 9), (0, vr 0)] [vi 0] hc1
  refine K_if_eq (tgt := 169) (dt_at dtX12_line 33 rfl) (by decide) (by first | assumption | exact ⟨by omega, by omega⟩) (fun c4 => ?_) (fun c4 => absurd c4 (by omega))
  exact K_pk [0, 1] (ls' := [(1, vi 9), (0, vr 0)]) rfl (tail_169 (X := .inl (2, (tk tp n p).2.1)) (Bq2) (FL_up Gq2 rfl rfl rfl))
set_option maxHeartbeats 4000000 in
set_option maxRecDepth 100000 in
theorem line_pe {h : HP} {tp : Int → Int} {n p : Nat} {D : DR} (A : MGd h tp n p) (dd : DRm h p D) (hw : isWb tp (tk tp n p) 1 = true) (hc9 : D.1.2 < 7) : SpecK mX12_line [vr 0] h (fun o h' => o = .inl none ∧ LNm h' tp n (lnP tp n D p) ∧ LRf h h') := by
  refine Spec_of (by decide +kernel) (Nat.le_of_ble_eq_true rfl) ?_
  have hnz : (tk tp n p).1 ≠ 0 := isWb_0 hw
  have hlt := tk_lt A.2.2.1 hnz
  have hwl := (isWb_e hw).2.1
  have hst := (tk_is (tp := tp) A.2.2.1).1
  have hkw := kwF_9 hw
  have ec : hI h 0 25 = (D.1.2 : Int) := dd.1.2.1
  have eX : lnP tp n D p = siP tp n (peB tp n D p) := by unfold lnP; rw [lnW_1 hw]
  rw [eX]
  refine K_aload_n (dt_at dtX12_line 0 rfl) rfl rfl ?_
  refine K_callV (M' := mX12_knownWord) (a := 0) (ci := 12) (As := []) (st := []) (dt_at dtX12_line 1 rfl) (kw_g A) (show TT 0 = (0, 12) from rfl) rfl wL_X12_189 vX12_knownWord rfl npX12_knownWord (by decide) (by decide) (Nat.le_of_ble_eq_true rfl) (by decide) (by decide) GK_E (fun v9 h9 hq => ?_) (fun E h9 hq => by cases hq.1)
  obtain ⟨e9, e8⟩ := hq
  cases e9
  rw [e8]
  show K mX12_line _ _ 0 0 4 [(0, vr 0)] [vi (kwF tp (tk tp n p))] h
  rw [hkw]
  refine K_istore_n (ls' := [(1, vi 9), (0, vr 0)]) (dt_at dtX12_line 2 rfl) rfl (by decide) rfl ?_
  refine K_iload_n (dt_at dtX12_line 3 rfl) rfl rfl ?_
  refine K_bipush (dt_at dtX12_line 4 rfl) (by decide) ?_
  refine K_icmp_ne (tgt := 40) (dt_at dtX12_line 5 rfl) (by decide) (by first | assumption | exact ⟨by omega, by omega⟩) (by first | assumption | exact ⟨by omega, by omega⟩) (fun c1 => ?_) (fun c1 => absurd c1 (by omega))
  refine K_iload_n (dt_at dtX12_line 20 rfl) rfl rfl ?_
  refine K_bipush (dt_at dtX12_line 21 rfl) (by decide) ?_
  refine K_icmp_ne (tgt := 75) (dt_at dtX12_line 22 rfl) (by decide) (by first | assumption | exact ⟨by omega, by omega⟩) (by first | assumption | exact ⟨by omega, by omega⟩) (fun c2 => absurd c2 (by omega)) (fun c2 => ?_)
  refine K_aload_n (dt_at dtX12_line 23 rfl) rfl rfl ?_
  refine K_aload_n (dt_at dtX12_line 24 rfl) rfl rfl ?_
  refine K_get (a := 0) (ci := 12) (k := 25) (v := vi (D.1.2 : Int)) (dt_at dtX12_line 25 rfl) (show TT 0 = (0, 12) from rfl) rfl (by decide) wF_X12_234 (by show vi (hI h 0 25) = vi (D.1.2 : Int); rw [ec]) ?_
  refine K_bipush (dt_at dtX12_line 26 rfl) (by decide) ?_
  refine K_icmp_ne (tgt := 60) (dt_at dtX12_line 27 rfl) (by decide) (by first | assumption | exact ⟨by omega, by omega⟩) (by first | assumption | exact ⟨by omega, by omega⟩) (fun c3 => ?_) (fun c3 => absurd c3 (by omega))
  refine K_iconst (dt_at dtX12_line 30 rfl) ?_
  refine K_iconst (dt_at dtX12_line 31 rfl) ?_
  refine K_callV (M' := mX12_begins) (a := 0) (ci := 12) (As := [vi 0, vi 0]) (st := []) (dt_at dtX12_line 32 rfl) (begins_t A) (show TT 0 = (0, 12) from rfl) rfl wL_X12_237 vX12_begins rfl npX12_begins (by decide) (by decide) (Nat.le_of_ble_eq_true rfl) (by decide) (by decide) GK_E (fun v9 hc1 hq => ?_) (fun E h9 hq => by cases hq.1)
  have hqq2 := hq
  obtain ⟨e9q2, Bq2, Gq2⟩ := hqq2
  cases e9q2
  show K mX12_line _ _ 0 0 65 [(1, vi 9), (0, vr 0)] [vi 1] hc1
  refine K_if_eq (tgt := 169) (dt_at dtX12_line 33 rfl) (by decide) (by first | assumption | exact ⟨by omega, by omega⟩) (fun c4 => absurd c4 (by omega)) (fun c4 => ?_)
  refine K_aload_n (dt_at dtX12_line 34 rfl) rfl rfl ?_
  refine K_callV (M' := mX12_readsPerson) (a := 0) (ci := 12) (As := []) (st := []) (dt_at dtX12_line 35 rfl) (sX12_readsPerson Bq2 (by rw [Gq2.2.1 0 25 rfl]; exact ec) hc9) (show TT 0 = (0, 12) from rfl) rfl wL_X12_244 vX12_readsPerson rfl npX12_readsPerson (by decide) (by decide) (Nat.le_of_ble_eq_true rfl) (by decide) (by decide) GK_E (fun v9 hc3 hq => ?_) (fun E h9 hq => by cases hq.1)
  have hqq4 := hq
  obtain ⟨e9q4, Nq4, Gq4⟩ := hqq4
  cases e9q4
  show K mX12_line _ _ 0 0 72 [(1, vi 9), (0, vr 0)] [] hc3
  refine K_goto (tgt := 169) (dt_at dtX12_line 36 rfl) (by decide) ?_
  have dd1 := DRm_FL dd (q := (tk tp n p).2.2) (by omega) Gq2
  have FT : LRf h hc3 := FL_tr (FL_up Gq2 rfl rfl rfl) (FL_up Gq4 rfl rfl rfl)
  have lX : LNm hc3 tp n (peB tp n D p) := by
    unfold peB
    rw [if_neg (by omega)]
    have N9 := Nq4
    rcases u : peN tp n (D.1.2 : Int) (tk tp n p).2.2 with e | ⟨a, b, c, f, y, q9⟩
    · rw [u] at N9; exact N9
    · rw [u] at N9
      obtain ⟨n1, n2, n3, n4, n5, n6⟩ := N9
      exact ⟨n1, DRm_pe dd1 hc9 (peN_q (tk_e A.2.2.1) u) n2 n3 n4 n5 n6 Gq4⟩
  exact K_pk [0, 1] (ls' := [(1, vi 9), (0, vr 0)]) rfl (tail_169 (X := peB tp n D p) (lX) (FT))
set_option maxHeartbeats 4000000 in
set_option maxRecDepth 100000 in
theorem line_pu_x {h : HP} {tp : Int → Int} {n p : Nat} {D : DR} (A : MGd h tp n p) (dd : DRm h p D) (hw : isWb tp (tk tp n p) 3 = true) (ho : D.2.2.2.1.isSome = true) : SpecK mX12_line [vr 0] h (fun o h' => o = .inl none ∧ LNm h' tp n (lnP tp n D p) ∧ LRf h h') := by
  refine Spec_of (by decide +kernel) (Nat.le_of_ble_eq_true rfl) ?_
  have hnz : (tk tp n p).1 ≠ 0 := isWb_0 hw
  have hlt := tk_lt A.2.2.1 hnz
  have hwl := (isWb_e hw).2.1
  have hst := (tk_is (tp := tp) A.2.2.1).1
  have hkw := kwF_11 hw
  have eX : lnP tp n D p = siP tp n (.inl (5, (tk tp n p).2.1)) := by unfold lnP; rw [lnW_3 hw]; unfold puB; rw [if_pos ho]
  rw [eX]
  have hm := dd.2.2.2.2.1.1
  obtain ⟨L0, e0⟩ := Option.isSome_iff_exists.mp ho
  rw [e0] at hm
  obtain ⟨a0, m1, m2, m3⟩ := hm
  have dta := dd.2.2.2.2.2
  have hn7 := A.1.2.1
  have hp7 := A.2.2.1
  refine K_aload_n (dt_at dtX12_line 0 rfl) rfl rfl ?_
  refine K_callV (M' := mX12_knownWord) (a := 0) (ci := 12) (As := []) (st := []) (dt_at dtX12_line 1 rfl) (kw_g A) (show TT 0 = (0, 12) from rfl) rfl wL_X12_189 vX12_knownWord rfl npX12_knownWord (by decide) (by decide) (Nat.le_of_ble_eq_true rfl) (by decide) (by decide) GK_E (fun v9 h9 hq => ?_) (fun E h9 hq => by cases hq.1)
  obtain ⟨e9, e8⟩ := hq
  cases e9
  rw [e8]
  show K mX12_line _ _ 0 0 4 [(0, vr 0)] [vi (kwF tp (tk tp n p))] h
  rw [hkw]
  refine K_istore_n (ls' := [(1, vi 11), (0, vr 0)]) (dt_at dtX12_line 2 rfl) rfl (by decide) rfl ?_
  refine K_iload_n (dt_at dtX12_line 3 rfl) rfl rfl ?_
  refine K_bipush (dt_at dtX12_line 4 rfl) (by decide) ?_
  refine K_icmp_ne (tgt := 40) (dt_at dtX12_line 5 rfl) (by decide) (by first | assumption | exact ⟨by omega, by omega⟩) (by first | assumption | exact ⟨by omega, by omega⟩) (fun c1 => ?_) (fun c1 => absurd c1 (by omega))
  refine K_iload_n (dt_at dtX12_line 20 rfl) rfl rfl ?_
  refine K_bipush (dt_at dtX12_line 21 rfl) (by decide) ?_
  refine K_icmp_ne (tgt := 75) (dt_at dtX12_line 22 rfl) (by decide) (by first | assumption | exact ⟨by omega, by omega⟩) (by first | assumption | exact ⟨by omega, by omega⟩) (fun c2 => ?_) (fun c2 => absurd c2 (by omega))
  refine K_iload_n (dt_at dtX12_line 37 rfl) rfl rfl ?_
  refine K_bipush (dt_at dtX12_line 38 rfl) (by decide) ?_
  refine K_icmp_ne (tgt := 119) (dt_at dtX12_line 39 rfl) (by decide) (by first | assumption | exact ⟨by omega, by omega⟩) (by first | assumption | exact ⟨by omega, by omega⟩) (fun c3 => absurd c3 (by omega)) (fun c3 => ?_)
  refine K_aload_n (dt_at dtX12_line 40 rfl) rfl rfl ?_
  refine K_iconst (dt_at dtX12_line 41 rfl) ?_
  refine K_aload_n (dt_at dtX12_line 42 rfl) rfl rfl ?_
  refine K_get (a := 0) (ci := 12) (k := 26) (v := vi (a0 : Int)) (dt_at dtX12_line 43 rfl) (show TT 0 = (0, 12) from rfl) rfl (by decide) wF_X12_247 (by show vi (hI h 0 26) = vi (a0 : Int); rw [m1]) ?_
  refine K_iconst (dt_at dtX12_line 44 rfl) ?_
  refine K_icmp_eq (tgt := 95) (dt_at dtX12_line 45 rfl) (by decide) (by first | assumption | exact ⟨by omega, by omega⟩) (by first | assumption | exact ⟨by omega, by omega⟩) (fun c4 => absurd c4 (by omega)) (fun c4 => ?_)
  refine K_iconst (dt_at dtX12_line 46 rfl) ?_
  refine K_goto (tgt := 96) (dt_at dtX12_line 47 rfl) (by decide) ?_
  refine K_callV (M' := mX12_begins) (a := 0) (ci := 12) (As := [vi 0, vi 1]) (st := []) (dt_at dtX12_line 49 rfl) (begins_a A) (show TT 0 = (0, 12) from rfl) rfl wL_X12_237 vX12_begins rfl npX12_begins (by decide) (by decide) (Nat.le_of_ble_eq_true rfl) (by decide) (by decide) GK_E (fun v9 hc1 hq => ?_) (fun E h9 hq => by cases hq.1)
  have hqq2 := hq
  obtain ⟨e9q2, Bq2, Gq2⟩ := hqq2
  cases e9q2
  show K mX12_line _ _ 0 0 99 [(1, vi 11), (0, vr 0)] [vi 0] hc1
  refine K_if_eq (tgt := 169) (dt_at dtX12_line 50 rfl) (by decide) (by first | assumption | exact ⟨by omega, by omega⟩) (fun c5 => ?_) (fun c5 => absurd c5 (by omega))
  exact K_pk [0, 1] (ls' := [(1, vi 11), (0, vr 0)]) rfl (tail_169 (X := .inl (5, (tk tp n p).2.1)) (Bq2) (FL_up Gq2 rfl rfl rfl))
set_option maxHeartbeats 4000000 in
set_option maxRecDepth 100000 in
theorem line_pu {h : HP} {tp : Int → Int} {n p : Nat} {D : DR} (A : MGd h tp n p) (dd : DRm h p D) (hw : isWb tp (tk tp n p) 3 = true) (ho : ¬ D.2.2.2.1.isSome = true) : SpecK mX12_line [vr 0] h (fun o h' => o = .inl none ∧ LNm h' tp n (lnP tp n D p) ∧ LRf h h') := by
  refine Spec_of (by decide +kernel) (Nat.le_of_ble_eq_true rfl) ?_
  have hnz : (tk tp n p).1 ≠ 0 := isWb_0 hw
  have hlt := tk_lt A.2.2.1 hnz
  have hwl := (isWb_e hw).2.1
  have hst := (tk_is (tp := tp) A.2.2.1).1
  have hkw := kwF_11 hw
  have eX : lnP tp n D p = siP tp n (puB tp n D p) := by unfold lnP; rw [lnW_3 hw]
  rw [eX]
  have hm := dd.2.2.2.2.1.1
  have e0 : D.2.2.2.1 = none := by cases e : D.2.2.2.1 with | none => rfl | some L0 => rw [e] at ho; exact absurd rfl ho
  rw [e0] at hm
  have m1 : hI h 0 26 = -1 := hm
  have dta := dd.2.2.2.2.2
  obtain ⟨a, ha⟩ : ∃ a : Nat, hI h 0 28 = (a : Int) := ⟨(hI h 0 28).toNat, by omega⟩
  have hlen : (wdL 3).length = 4 := by decide
  refine K_aload_n (dt_at dtX12_line 0 rfl) rfl rfl ?_
  refine K_callV (M' := mX12_knownWord) (a := 0) (ci := 12) (As := []) (st := []) (dt_at dtX12_line 1 rfl) (kw_g A) (show TT 0 = (0, 12) from rfl) rfl wL_X12_189 vX12_knownWord rfl npX12_knownWord (by decide) (by decide) (Nat.le_of_ble_eq_true rfl) (by decide) (by decide) GK_E (fun v9 h9 hq => ?_) (fun E h9 hq => by cases hq.1)
  obtain ⟨e9, e8⟩ := hq
  cases e9
  rw [e8]
  show K mX12_line _ _ 0 0 4 [(0, vr 0)] [vi (kwF tp (tk tp n p))] h
  rw [hkw]
  refine K_istore_n (ls' := [(1, vi 11), (0, vr 0)]) (dt_at dtX12_line 2 rfl) rfl (by decide) rfl ?_
  refine K_iload_n (dt_at dtX12_line 3 rfl) rfl rfl ?_
  refine K_bipush (dt_at dtX12_line 4 rfl) (by decide) ?_
  refine K_icmp_ne (tgt := 40) (dt_at dtX12_line 5 rfl) (by decide) (by first | assumption | exact ⟨by omega, by omega⟩) (by first | assumption | exact ⟨by omega, by omega⟩) (fun c1 => ?_) (fun c1 => absurd c1 (by omega))
  refine K_iload_n (dt_at dtX12_line 20 rfl) rfl rfl ?_
  refine K_bipush (dt_at dtX12_line 21 rfl) (by decide) ?_
  refine K_icmp_ne (tgt := 75) (dt_at dtX12_line 22 rfl) (by decide) (by first | assumption | exact ⟨by omega, by omega⟩) (by first | assumption | exact ⟨by omega, by omega⟩) (fun c2 => ?_) (fun c2 => absurd c2 (by omega))
  refine K_iload_n (dt_at dtX12_line 37 rfl) rfl rfl ?_
  refine K_bipush (dt_at dtX12_line 38 rfl) (by decide) ?_
  refine K_icmp_ne (tgt := 119) (dt_at dtX12_line 39 rfl) (by decide) (by first | assumption | exact ⟨by omega, by omega⟩) (by first | assumption | exact ⟨by omega, by omega⟩) (fun c3 => absurd c3 (by omega)) (fun c3 => ?_)
  refine K_aload_n (dt_at dtX12_line 40 rfl) rfl rfl ?_
  refine K_iconst (dt_at dtX12_line 41 rfl) ?_
  refine K_aload_n (dt_at dtX12_line 42 rfl) rfl rfl ?_
  refine K_get (a := 0) (ci := 12) (k := 26) (v := vi (-1)) (dt_at dtX12_line 43 rfl) (show TT 0 = (0, 12) from rfl) rfl (by decide) wF_X12_247 (by show vi (hI h 0 26) = vi (-1); rw [m1]) ?_
  refine K_iconst (dt_at dtX12_line 44 rfl) ?_
  refine K_icmp_eq (tgt := 95) (dt_at dtX12_line 45 rfl) (by decide) (by first | assumption | exact ⟨by omega, by omega⟩) (by first | assumption | exact ⟨by omega, by omega⟩) (fun c4 => ?_) (fun c4 => absurd c4 (by omega))
  refine K_iconst (dt_at dtX12_line 48 rfl) ?_
  refine K_callV (M' := mX12_begins) (a := 0) (ci := 12) (As := [vi 0, vi 0]) (st := []) (dt_at dtX12_line 49 rfl) (begins_t A) (show TT 0 = (0, 12) from rfl) rfl wL_X12_237 vX12_begins rfl npX12_begins (by decide) (by decide) (Nat.le_of_ble_eq_true rfl) (by decide) (by decide) GK_E (fun v9 hc1 hq => ?_) (fun E h9 hq => by cases hq.1)
  have hqq2 := hq
  obtain ⟨e9q2, Bq2, Gq2⟩ := hqq2
  cases e9q2
  show K mX12_line _ _ 0 0 99 [(1, vi 11), (0, vr 0)] [vi 1] hc1
  refine K_if_eq (tgt := 169) (dt_at dtX12_line 50 rfl) (by decide) (by first | assumption | exact ⟨by omega, by omega⟩) (fun c5 => absurd c5 (by omega)) (fun c5 => ?_)
  refine K_aload_n (dt_at dtX12_line 51 rfl) rfl rfl ?_
  refine K_aload_n (dt_at dtX12_line 52 rfl) rfl rfl ?_
  refine K_get (a := 0) (ci := 12) (k := 28) (v := vi (hI h 0 28)) (dt_at dtX12_line 53 rfl) (show TT 0 = (0, 12) from rfl) rfl (by decide) wF_X12_174 (by show vi (hI hc1 0 28) = vi (hI h 0 28); rw [(Gq2.2.1 0 28 rfl)]) ?_
  refine K_putI (a := 0) (ci := 12) (k := 26) (dt_at dtX12_line 54 rfl) (show TT 0 = (0, 12) from rfl) rfl (by decide) wF_X12_247 rfl (Or.inl rfl) rfl rfl ?_
  obtain ⟨hq3, eq3⟩ : ∃ z, z = sI hc1 0 26 (hI h 0 28) := ⟨_, rfl⟩
  rw [← eq3]
  obtain ⟨iq3, fq3, aq3, rq3⟩ := sI_fx eq3
  refine K_aload_n (dt_at dtX12_line 55 rfl) rfl rfl ?_
  refine K_iconst (dt_at dtX12_line 56 rfl) ?_
  refine K_iconst (dt_at dtX12_line 57 rfl) ?_
  have B9 := MGd_up Bq2 (FL_eI eq3 rfl : FL [] [(0, 26)] [] hc1 hq3) rfl rfl
  have h28 : hI hq3 0 28 = (a : Int) := by rw [(fq3 0 28 (by omega)), (Gq2.2.1 0 28 rfl)]; exact ha
  refine K_callV (M' := mX12_expression) (a := 0) (ci := 12) (As := [vi 0, vi 5]) (st := []) (dt_at dtX12_line 58 rfl) (expr_1 B9 h28 (by omega)) (show TT 0 = (0, 12) from rfl) rfl wL_X12_250 vX12_expression rfl npX12_expression (by decide) (by decide) (Nat.le_of_ble_eq_true rfl) (by decide) (by decide) GK_E (fun v9 hc4 hq => ?_) (fun E h9 hq => by cases hq.1)
  have hqq5 := hq
  obtain ⟨e9q5, Nq5⟩ := hqq5
  cases e9q5
  show K mX12_line _ _ 0 0 116 [(1, vi 11), (0, vr 0)] [] hc4
  refine K_goto (tgt := 169) (dt_at dtX12_line 59 rfl) (by decide) ?_
  have F1 : FL [15, 16, 17] ((0, 26) :: (0, 27) :: YL) [] h hq3 := FL_tr (FL_up Gq2 rfl rfl rfl) (FL_eI eq3 rfl)
  have l1 : hA hq3 15 = hA h 15 := by rw [aq3, (Gq2.1 15 rfl)]
  have lX : LNm hc4 tp n (puB tp n D p) ∧ LRf h hc4 := by
    unfold puB
    rw [if_neg ho]
    have N9 := Nq5
    rcases u : exP tp n 1 6 (tk tp n p).2.2 with e | ⟨q9, M⟩
    · rw [u] at N9
      obtain ⟨n1, n2, n3⟩ := N9
      exact ⟨n1, FL_tr (FL_up F1 rfl rfl rfl) (FL_up n3.2 rfl rfl rfl)⟩
    · rw [u] at N9
      obtain ⟨n1, n2, n3, n4, n5⟩ := N9
      exact ⟨⟨n1, DRm_pu dd ha (by rw [n5.2.2.1 0 26 rfl, iq3]; exact ha) (by rw [n5.2.2.1 0 27 rfl, (fq3 0 27 (by omega)), (Gq2.2.1 0 27 rfl)]) n2 n3 n4 (fun i hi => by rw [n5.1 i hi, l1]) (FL_tr F1 (FL_up n5.2 rfl rfl rfl))⟩, FL_tr (FL_up F1 rfl rfl rfl) (FL_up n5.2 rfl rfl rfl)⟩
  exact K_pk [0, 1] (ls' := [(1, vi 11), (0, vr 0)]) rfl (tail_169 (X := puB tp n D p) (lX.1) (lX.2))
set_option maxHeartbeats 4000000 in
set_option maxRecDepth 100000 in
theorem line_fe_x {h : HP} {tp : Int → Int} {n p : Nat} {D : DR} (A : MGd h tp n p) (dd : DRm h p D) (hw : isWb tp (tk tp n p) 15 = true) (ho : D.2.2.2.2.isSome = true) : SpecK mX12_line [vr 0] h (fun o h' => o = .inl none ∧ LNm h' tp n (lnP tp n D p) ∧ LRf h h') := by
  refine Spec_of (by decide +kernel) (Nat.le_of_ble_eq_true rfl) ?_
  have hnz : (tk tp n p).1 ≠ 0 := isWb_0 hw
  have hlt := tk_lt A.2.2.1 hnz
  have hwl := (isWb_e hw).2.1
  have hst := (tk_is (tp := tp) A.2.2.1).1
  have hkw := kwF_12 hw
  have eX : lnP tp n D p = siP tp n (.inl (5, (tk tp n p).2.1)) := by unfold lnP; rw [lnW_15 hw]; unfold feB; rw [if_pos ho]
  rw [eX]
  have hm := dd.2.2.2.2.1.2
  obtain ⟨L0, e0⟩ := Option.isSome_iff_exists.mp ho
  rw [e0] at hm
  obtain ⟨a0, m1, m2, m3⟩ := hm
  have dta := dd.2.2.2.2.2
  have hn7 := A.1.2.1
  have hp7 := A.2.2.1
  refine K_aload_n (dt_at dtX12_line 0 rfl) rfl rfl ?_
  refine K_callV (M' := mX12_knownWord) (a := 0) (ci := 12) (As := []) (st := []) (dt_at dtX12_line 1 rfl) (kw_g A) (show TT 0 = (0, 12) from rfl) rfl wL_X12_189 vX12_knownWord rfl npX12_knownWord (by decide) (by decide) (Nat.le_of_ble_eq_true rfl) (by decide) (by decide) GK_E (fun v9 h9 hq => ?_) (fun E h9 hq => by cases hq.1)
  obtain ⟨e9, e8⟩ := hq
  cases e9
  rw [e8]
  show K mX12_line _ _ 0 0 4 [(0, vr 0)] [vi (kwF tp (tk tp n p))] h
  rw [hkw]
  refine K_istore_n (ls' := [(1, vi 12), (0, vr 0)]) (dt_at dtX12_line 2 rfl) rfl (by decide) rfl ?_
  refine K_iload_n (dt_at dtX12_line 3 rfl) rfl rfl ?_
  refine K_bipush (dt_at dtX12_line 4 rfl) (by decide) ?_
  refine K_icmp_ne (tgt := 40) (dt_at dtX12_line 5 rfl) (by decide) (by first | assumption | exact ⟨by omega, by omega⟩) (by first | assumption | exact ⟨by omega, by omega⟩) (fun c1 => ?_) (fun c1 => absurd c1 (by omega))
  refine K_iload_n (dt_at dtX12_line 20 rfl) rfl rfl ?_
  refine K_bipush (dt_at dtX12_line 21 rfl) (by decide) ?_
  refine K_icmp_ne (tgt := 75) (dt_at dtX12_line 22 rfl) (by decide) (by first | assumption | exact ⟨by omega, by omega⟩) (by first | assumption | exact ⟨by omega, by omega⟩) (fun c2 => ?_) (fun c2 => absurd c2 (by omega))
  refine K_iload_n (dt_at dtX12_line 37 rfl) rfl rfl ?_
  refine K_bipush (dt_at dtX12_line 38 rfl) (by decide) ?_
  refine K_icmp_ne (tgt := 119) (dt_at dtX12_line 39 rfl) (by decide) (by first | assumption | exact ⟨by omega, by omega⟩) (by first | assumption | exact ⟨by omega, by omega⟩) (fun c3 => ?_) (fun c3 => absurd c3 (by omega))
  refine K_iload_n (dt_at dtX12_line 60 rfl) rfl rfl ?_
  refine K_bipush (dt_at dtX12_line 61 rfl) (by decide) ?_
  refine K_icmp_ne (tgt := 164) (dt_at dtX12_line 62 rfl) (by decide) (by first | assumption | exact ⟨by omega, by omega⟩) (by first | assumption | exact ⟨by omega, by omega⟩) (fun c4 => absurd c4 (by omega)) (fun c4 => ?_)
  refine K_aload_n (dt_at dtX12_line 63 rfl) rfl rfl ?_
  refine K_iconst (dt_at dtX12_line 64 rfl) ?_
  refine K_aload_n (dt_at dtX12_line 65 rfl) rfl rfl ?_
  refine K_get (a := 0) (ci := 12) (k := 27) (v := vi (a0 : Int)) (dt_at dtX12_line 66 rfl) (show TT 0 = (0, 12) from rfl) rfl (by decide) wF_X12_254 (by show vi (hI h 0 27) = vi (a0 : Int); rw [m1]) ?_
  refine K_iconst (dt_at dtX12_line 67 rfl) ?_
  refine K_icmp_eq (tgt := 139) (dt_at dtX12_line 68 rfl) (by decide) (by first | assumption | exact ⟨by omega, by omega⟩) (by first | assumption | exact ⟨by omega, by omega⟩) (fun c5 => absurd c5 (by omega)) (fun c5 => ?_)
  refine K_iconst (dt_at dtX12_line 69 rfl) ?_
  refine K_goto (tgt := 140) (dt_at dtX12_line 70 rfl) (by decide) ?_
  refine K_callV (M' := mX12_begins) (a := 0) (ci := 12) (As := [vi 0, vi 1]) (st := []) (dt_at dtX12_line 72 rfl) (begins_a A) (show TT 0 = (0, 12) from rfl) rfl wL_X12_237 vX12_begins rfl npX12_begins (by decide) (by decide) (Nat.le_of_ble_eq_true rfl) (by decide) (by decide) GK_E (fun v9 hc1 hq => ?_) (fun E h9 hq => by cases hq.1)
  have hqq2 := hq
  obtain ⟨e9q2, Bq2, Gq2⟩ := hqq2
  cases e9q2
  show K mX12_line _ _ 0 0 143 [(1, vi 12), (0, vr 0)] [vi 0] hc1
  refine K_if_eq (tgt := 169) (dt_at dtX12_line 73 rfl) (by decide) (by first | assumption | exact ⟨by omega, by omega⟩) (fun c6 => ?_) (fun c6 => absurd c6 (by omega))
  exact K_pk [0, 1] (ls' := [(1, vi 12), (0, vr 0)]) rfl (tail_169 (X := .inl (5, (tk tp n p).2.1)) (Bq2) (FL_up Gq2 rfl rfl rfl))
set_option maxHeartbeats 4000000 in
set_option maxRecDepth 100000 in
theorem line_fe {h : HP} {tp : Int → Int} {n p : Nat} {D : DR} (A : MGd h tp n p) (dd : DRm h p D) (hw : isWb tp (tk tp n p) 15 = true) (ho : ¬ D.2.2.2.2.isSome = true) : SpecK mX12_line [vr 0] h (fun o h' => o = .inl none ∧ LNm h' tp n (lnP tp n D p) ∧ LRf h h') := by
  refine Spec_of (by decide +kernel) (Nat.le_of_ble_eq_true rfl) ?_
  have hnz : (tk tp n p).1 ≠ 0 := isWb_0 hw
  have hlt := tk_lt A.2.2.1 hnz
  have hwl := (isWb_e hw).2.1
  have hst := (tk_is (tp := tp) A.2.2.1).1
  have hkw := kwF_12 hw
  have eX : lnP tp n D p = siP tp n (feB tp n D p) := by unfold lnP; rw [lnW_15 hw]
  rw [eX]
  have hm := dd.2.2.2.2.1.2
  have e0 : D.2.2.2.2 = none := by cases e : D.2.2.2.2 with | none => rfl | some L0 => rw [e] at ho; exact absurd rfl ho
  rw [e0] at hm
  have m1 : hI h 0 27 = -1 := hm
  have dta := dd.2.2.2.2.2
  obtain ⟨a, ha⟩ : ∃ a : Nat, hI h 0 28 = (a : Int) := ⟨(hI h 0 28).toNat, by omega⟩
  have hlen : (wdL 15).length = 5 := by decide
  refine K_aload_n (dt_at dtX12_line 0 rfl) rfl rfl ?_
  refine K_callV (M' := mX12_knownWord) (a := 0) (ci := 12) (As := []) (st := []) (dt_at dtX12_line 1 rfl) (kw_g A) (show TT 0 = (0, 12) from rfl) rfl wL_X12_189 vX12_knownWord rfl npX12_knownWord (by decide) (by decide) (Nat.le_of_ble_eq_true rfl) (by decide) (by decide) GK_E (fun v9 h9 hq => ?_) (fun E h9 hq => by cases hq.1)
  obtain ⟨e9, e8⟩ := hq
  cases e9
  rw [e8]
  show K mX12_line _ _ 0 0 4 [(0, vr 0)] [vi (kwF tp (tk tp n p))] h
  rw [hkw]
  refine K_istore_n (ls' := [(1, vi 12), (0, vr 0)]) (dt_at dtX12_line 2 rfl) rfl (by decide) rfl ?_
  refine K_iload_n (dt_at dtX12_line 3 rfl) rfl rfl ?_
  refine K_bipush (dt_at dtX12_line 4 rfl) (by decide) ?_
  refine K_icmp_ne (tgt := 40) (dt_at dtX12_line 5 rfl) (by decide) (by first | assumption | exact ⟨by omega, by omega⟩) (by first | assumption | exact ⟨by omega, by omega⟩) (fun c1 => ?_) (fun c1 => absurd c1 (by omega))
  refine K_iload_n (dt_at dtX12_line 20 rfl) rfl rfl ?_
  refine K_bipush (dt_at dtX12_line 21 rfl) (by decide) ?_
  refine K_icmp_ne (tgt := 75) (dt_at dtX12_line 22 rfl) (by decide) (by first | assumption | exact ⟨by omega, by omega⟩) (by first | assumption | exact ⟨by omega, by omega⟩) (fun c2 => ?_) (fun c2 => absurd c2 (by omega))
  refine K_iload_n (dt_at dtX12_line 37 rfl) rfl rfl ?_
  refine K_bipush (dt_at dtX12_line 38 rfl) (by decide) ?_
  refine K_icmp_ne (tgt := 119) (dt_at dtX12_line 39 rfl) (by decide) (by first | assumption | exact ⟨by omega, by omega⟩) (by first | assumption | exact ⟨by omega, by omega⟩) (fun c3 => ?_) (fun c3 => absurd c3 (by omega))
  refine K_iload_n (dt_at dtX12_line 60 rfl) rfl rfl ?_
  refine K_bipush (dt_at dtX12_line 61 rfl) (by decide) ?_
  refine K_icmp_ne (tgt := 164) (dt_at dtX12_line 62 rfl) (by decide) (by first | assumption | exact ⟨by omega, by omega⟩) (by first | assumption | exact ⟨by omega, by omega⟩) (fun c4 => absurd c4 (by omega)) (fun c4 => ?_)
  refine K_aload_n (dt_at dtX12_line 63 rfl) rfl rfl ?_
  refine K_iconst (dt_at dtX12_line 64 rfl) ?_
  refine K_aload_n (dt_at dtX12_line 65 rfl) rfl rfl ?_
  refine K_get (a := 0) (ci := 12) (k := 27) (v := vi (-1)) (dt_at dtX12_line 66 rfl) (show TT 0 = (0, 12) from rfl) rfl (by decide) wF_X12_254 (by show vi (hI h 0 27) = vi (-1); rw [m1]) ?_
  refine K_iconst (dt_at dtX12_line 67 rfl) ?_
  refine K_icmp_eq (tgt := 139) (dt_at dtX12_line 68 rfl) (by decide) (by first | assumption | exact ⟨by omega, by omega⟩) (by first | assumption | exact ⟨by omega, by omega⟩) (fun c5 => ?_) (fun c5 => absurd c5 (by omega))
  refine K_iconst (dt_at dtX12_line 71 rfl) ?_
  refine K_callV (M' := mX12_begins) (a := 0) (ci := 12) (As := [vi 0, vi 0]) (st := []) (dt_at dtX12_line 72 rfl) (begins_t A) (show TT 0 = (0, 12) from rfl) rfl wL_X12_237 vX12_begins rfl npX12_begins (by decide) (by decide) (Nat.le_of_ble_eq_true rfl) (by decide) (by decide) GK_E (fun v9 hc1 hq => ?_) (fun E h9 hq => by cases hq.1)
  have hqq2 := hq
  obtain ⟨e9q2, Bq2, Gq2⟩ := hqq2
  cases e9q2
  show K mX12_line _ _ 0 0 143 [(1, vi 12), (0, vr 0)] [vi 1] hc1
  refine K_if_eq (tgt := 169) (dt_at dtX12_line 73 rfl) (by decide) (by first | assumption | exact ⟨by omega, by omega⟩) (fun c6 => absurd c6 (by omega)) (fun c6 => ?_)
  refine K_aload_n (dt_at dtX12_line 74 rfl) rfl rfl ?_
  refine K_aload_n (dt_at dtX12_line 75 rfl) rfl rfl ?_
  refine K_get (a := 0) (ci := 12) (k := 28) (v := vi (hI h 0 28)) (dt_at dtX12_line 76 rfl) (show TT 0 = (0, 12) from rfl) rfl (by decide) wF_X12_174 (by show vi (hI hc1 0 28) = vi (hI h 0 28); rw [(Gq2.2.1 0 28 rfl)]) ?_
  refine K_putI (a := 0) (ci := 12) (k := 27) (dt_at dtX12_line 77 rfl) (show TT 0 = (0, 12) from rfl) rfl (by decide) wF_X12_254 rfl (Or.inl rfl) rfl rfl ?_
  obtain ⟨hq3, eq3⟩ : ∃ z, z = sI hc1 0 27 (hI h 0 28) := ⟨_, rfl⟩
  rw [← eq3]
  obtain ⟨iq3, fq3, aq3, rq3⟩ := sI_fx eq3
  refine K_aload_n (dt_at dtX12_line 78 rfl) rfl rfl ?_
  refine K_iconst (dt_at dtX12_line 79 rfl) ?_
  refine K_bipush (dt_at dtX12_line 80 rfl) (by decide) ?_
  have B9 := MGd_up Bq2 (FL_eI eq3 rfl : FL [] [(0, 27)] [] hc1 hq3) rfl rfl
  have h28 : hI hq3 0 28 = (a : Int) := by rw [(fq3 0 28 (by omega)), (Gq2.2.1 0 28 rfl)]; exact ha
  refine K_callV (M' := mX12_expression) (a := 0) (ci := 12) (As := [vi 4, vi 7]) (st := []) (dt_at dtX12_line 81 rfl) (expr_0 B9 h28 (by omega)) (show TT 0 = (0, 12) from rfl) rfl wL_X12_250 vX12_expression rfl npX12_expression (by decide) (by decide) (Nat.le_of_ble_eq_true rfl) (by decide) (by decide) GK_E (fun v9 hc4 hq => ?_) (fun E h9 hq => by cases hq.1)
  have hqq5 := hq
  obtain ⟨e9q5, Nq5⟩ := hqq5
  cases e9q5
  show K mX12_line _ _ 0 0 161 [(1, vi 12), (0, vr 0)] [] hc4
  refine K_goto (tgt := 169) (dt_at dtX12_line 82 rfl) (by decide) ?_
  have F1 : FL [15, 16, 17] ((0, 26) :: (0, 27) :: YL) [] h hq3 := FL_tr (FL_up Gq2 rfl rfl rfl) (FL_eI eq3 rfl)
  have l1 : hA hq3 15 = hA h 15 := by rw [aq3, (Gq2.1 15 rfl)]
  have lX : LNm hc4 tp n (feB tp n D p) ∧ LRf h hc4 := by
    unfold feB
    rw [if_neg ho]
    have N9 := Nq5
    rcases u : exP tp n 0 6 (tk tp n p).2.2 with e | ⟨q9, M⟩
    · rw [u] at N9
      obtain ⟨n1, n2, n3⟩ := N9
      exact ⟨n1, FL_tr (FL_up F1 rfl rfl rfl) (FL_up n3.2 rfl rfl rfl)⟩
    · rw [u] at N9
      obtain ⟨n1, n2, n3, n4, n5⟩ := N9
      exact ⟨⟨n1, DRm_fe dd ha (by rw [n5.2.2.1 0 27 rfl, iq3]; exact ha) (by rw [n5.2.2.1 0 26 rfl, (fq3 0 26 (by omega)), (Gq2.2.1 0 26 rfl)]) n2 n3 n4 (fun i hi => by rw [n5.1 i hi, l1]) (FL_tr F1 (FL_up n5.2 rfl rfl rfl))⟩, FL_tr (FL_up F1 rfl rfl rfl) (FL_up n5.2 rfl rfl rfl)⟩
  exact K_pk [0, 1] (ls' := [(1, vi 12), (0, vr 0)]) rfl (tail_169 (X := feB tp n D p) (lX.1) (lX.2))
set_option maxHeartbeats 4000000 in
set_option maxRecDepth 100000 in
theorem line_no {h : HP} {tp : Int → Int} {n p : Nat} {D : DR} (A : MGd h tp n p) (dd : DRm h p D) (w0 : ¬ isWb tp (tk tp n p) 0 = true) (w1 : ¬ isWb tp (tk tp n p) 1 = true) (w3 : ¬ isWb tp (tk tp n p) 3 = true) (w5 : ¬ isWb tp (tk tp n p) 15 = true) : SpecK mX12_line [vr 0] h (fun o h' => o = .inl none ∧ LNm h' tp n (lnP tp n D p) ∧ LRf h h') := by
  refine Spec_of (by decide +kernel) (Nat.le_of_ble_eq_true rfl) ?_
  have kb := kwF_b tp (tk tp n p)
  have k8 : kwF tp (tk tp n p) ≠ 8 := fun z => w0 (kwI_8 z)
  have k9 : kwF tp (tk tp n p) ≠ 9 := fun z => w1 (kwI_9 z)
  have k11 : kwF tp (tk tp n p) ≠ 11 := fun z => w3 (kwI_11 z)
  have k12 : kwF tp (tk tp n p) ≠ 12 := fun z => w5 (kwI_12 z)
  have eX : lnP tp n D p = siP tp n (.inl (1, (tk tp n p).2.1)) := by unfold lnP; rw [lnW_n w0 w1 w3 w5]
  rw [eX]
  refine K_aload_n (dt_at dtX12_line 0 rfl) rfl rfl ?_
  refine K_callV (M' := mX12_knownWord) (a := 0) (ci := 12) (As := []) (st := []) (dt_at dtX12_line 1 rfl) (kw_g A) (show TT 0 = (0, 12) from rfl) rfl wL_X12_189 vX12_knownWord rfl npX12_knownWord (by decide) (by decide) (Nat.le_of_ble_eq_true rfl) (by decide) (by decide) GK_E (fun v9 h9 hq => ?_) (fun E h9 hq => by cases hq.1)
  obtain ⟨e9, e8⟩ := hq
  cases e9
  rw [e8]
  show K mX12_line _ _ 0 0 4 [(0, vr 0)] [vi (kwF tp (tk tp n p))] h
  refine K_istore_n (ls' := [(1, vi (kwF tp (tk tp n p))), (0, vr 0)]) (dt_at dtX12_line 2 rfl) rfl (by decide) rfl ?_
  refine K_iload_n (dt_at dtX12_line 3 rfl) rfl rfl ?_
  refine K_bipush (dt_at dtX12_line 4 rfl) (by decide) ?_
  refine K_icmp_ne (tgt := 40) (dt_at dtX12_line 5 rfl) (by decide) ⟨by omega, by omega⟩ (by first | assumption | exact ⟨by omega, by omega⟩) (fun c1 => ?_) (fun c1 => absurd c1 (by omega))
  refine K_iload_n (dt_at dtX12_line 20 rfl) rfl rfl ?_
  refine K_bipush (dt_at dtX12_line 21 rfl) (by decide) ?_
  refine K_icmp_ne (tgt := 75) (dt_at dtX12_line 22 rfl) (by decide) ⟨by omega, by omega⟩ (by first | assumption | exact ⟨by omega, by omega⟩) (fun c2 => ?_) (fun c2 => absurd c2 (by omega))
  refine K_iload_n (dt_at dtX12_line 37 rfl) rfl rfl ?_
  refine K_bipush (dt_at dtX12_line 38 rfl) (by decide) ?_
  refine K_icmp_ne (tgt := 119) (dt_at dtX12_line 39 rfl) (by decide) ⟨by omega, by omega⟩ (by first | assumption | exact ⟨by omega, by omega⟩) (fun c3 => ?_) (fun c3 => absurd c3 (by omega))
  refine K_iload_n (dt_at dtX12_line 60 rfl) rfl rfl ?_
  refine K_bipush (dt_at dtX12_line 61 rfl) (by decide) ?_
  refine K_icmp_ne (tgt := 164) (dt_at dtX12_line 62 rfl) (by decide) ⟨by omega, by omega⟩ (by first | assumption | exact ⟨by omega, by omega⟩) (fun c4 => ?_) (fun c4 => absurd c4 (by omega))
  refine K_aload_n (dt_at dtX12_line 83 rfl) rfl rfl ?_
  refine K_iconst (dt_at dtX12_line 84 rfl) ?_
  refine K_callV (M' := mX12_wrong) (a := 0) (ci := 12) (As := [vi 1]) (st := []) (dt_at dtX12_line 85 rfl) (wrong_g (k := 1) A (by omega)) (show TT 0 = (0, 12) from rfl) rfl wL_X12_171 vX12_wrong rfl npX12_wrong (by decide) (by decide) (Nat.le_of_ble_eq_true rfl) (by decide) (by decide) GK_E (fun v9 hc1 hq => ?_) (fun E h9 hq => by cases hq.1)
  have hqq2 := hq
  obtain ⟨e9q2, Bq2, Gq2⟩ := hqq2
  cases e9q2
  show K mX12_line _ _ 0 0 169 [(1, vi (kwF tp (tk tp n p))), (0, vr 0)] [] hc1
  exact K_pk [0, 1] (ls' := [(1, vi (kwF tp (tk tp n p))), (0, vr 0)]) rfl (tail_169 (X := .inl (1, (tk tp n p).2.1)) (Bq2) (FL_up Gq2 rfl rfl rfl))
theorem line_K {h : HP} {tp : Int → Int} {n p : Nat} {D : DR} (A : MGd h tp n p) (dd : DRm h p D) : SpecK mX12_line [vr 0] h (fun o h' => o = .inl none ∧ LNm h' tp n (lnP tp n D p) ∧ LRf h h') := by
  by_cases w0 : isWb tp (tk tp n p) 0 = true
  · by_cases c : D.1.1 = 6
    · exact line_th_x A dd w0 c
    · exact line_th A dd w0 (by have := dd.1.1.2; omega)
  · by_cases w1 : isWb tp (tk tp n p) 1 = true
    · by_cases c : D.1.2 = 7
      · exact line_pe_x A dd w1 c
      · exact line_pe A dd w1 (by have := dd.1.2.2; omega)
    · by_cases w3 : isWb tp (tk tp n p) 3 = true
      · by_cases c : D.2.2.2.1.isSome = true
        · exact line_pu_x A dd w3 c
        · exact line_pu A dd w3 c
      · by_cases w5 : isWb tp (tk tp n p) 15 = true
        · by_cases c : D.2.2.2.2.isSome = true
          · exact line_fe_x A dd w5 c
          · exact line_fe A dd w5 c
        · exact line_no A dd w0 w1 w3 w5
