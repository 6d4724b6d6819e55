/-! what the reference has read: the draft -/
def drR (nt np : Nat) (st fo bw : Int → Int) (j : Int) : Int := if j < 8 then 0 else if j < 15 then (if j - 8 < np then j - 8 else 0) else if j < 22 then (if j - 15 < np then fo (j - 15) else 0) else if j < 29 then (if j - 22 < np then bw (j - 22) else 0) else if j < 35 then (if j - 29 < nt then st (j - 29) else 0) else 0
theorem drR_0 {st fo bw : Int → Int} (j : Int) (h : 8 ≤ j) : drR 0 0 st fo bw j = 0 := by
  unfold drR
  rw [if_neg (by omega)]
  by_cases a : j < 15
  · rw [if_pos a, if_neg (by omega)]
  · rw [if_neg a]
    by_cases b : j < 22
    · rw [if_pos b, if_neg (by omega)]
    · rw [if_neg b]
      by_cases c : j < 29
      · rw [if_pos c, if_neg (by omega)]
      · rw [if_neg c]
        by_cases d : j < 35
        · rw [if_pos d, if_neg (by omega)]
        · rw [if_neg d]
theorem drR_00 {st fo bw : Int → Int} (j : Int) : drR 0 0 st fo bw j = 0 := by
  by_cases h : j < 8
  · unfold drR; rw [if_pos h]
  · exact drR_0 j (by omega)
theorem drR_t {nt np : Nat} {st fo bw : Int → Int} {s : Int} (hn : nt < 6) (j : Int) : drR (nt + 1) np (upI st (nt : Int) s) fo bw j = (if j = 29 + (nt : Int) then s else drR nt np st fo bw j) := by
  unfold drR
  by_cases e : j = 29 + (nt : Int)
  · rw [if_pos e, if_neg (by omega), if_neg (by omega), if_neg (by omega), if_neg (by omega), if_pos (by omega), if_pos (by omega)]
    unfold upI
    rw [if_pos (by omega)]
  · rw [if_neg e]
    by_cases a : j < 8
    · rw [if_pos a, if_pos a]
    · rw [if_neg a, if_neg a]
      by_cases b : j < 15
      · rw [if_pos b, if_pos b]
      · rw [if_neg b, if_neg b]
        by_cases c : j < 22
        · rw [if_pos c, if_pos c]
        · rw [if_neg c, if_neg c]
          by_cases d : j < 29
          · rw [if_pos d, if_pos d]
          · rw [if_neg d, if_neg d]
            by_cases f : j < 35
            · rw [if_pos f, if_pos f]
              by_cases g : j - 29 < (nt : Int)
              · rw [if_pos g, if_pos (by omega), upI_n (by omega)]
              · rw [if_neg g, if_neg (by omega)]
            · rw [if_neg f, if_neg f]
theorem drR_p {nt np : Nat} {st fo bw : Int → Int} {f y : Int} (hn : np < 7) (j : Int) : drR nt (np + 1) st (upI fo (np : Int) f) (upI bw (np : Int) y) j = (if j = 22 + (np : Int) then y else if j = 8 + (np : Int) then (np : Int) else if j = 15 + (np : Int) then f else drR nt np st fo bw j) := by
  unfold drR
  by_cases e1 : j = 22 + (np : Int)
  · rw [if_pos e1, if_neg (by omega), if_neg (by omega), if_neg (by omega), if_pos (by omega), if_pos (by omega)]
    unfold upI
    rw [if_pos (by omega)]
  · rw [if_neg e1]
    by_cases e2 : j = 8 + (np : Int)
    · rw [if_pos e2, if_neg (by omega), if_pos (by omega), if_pos (by omega)]
      omega
    · rw [if_neg e2]
      by_cases e3 : j = 15 + (np : Int)
      · rw [if_pos e3, if_neg (by omega), if_neg (by omega), if_pos (by omega), if_pos (by omega)]
        unfold upI
        rw [if_pos (by omega)]
      · rw [if_neg e3]
        by_cases a : j < 8
        · rw [if_pos a, if_pos a]
        · rw [if_neg a, if_neg a]
          by_cases b : j < 15
          · rw [if_pos b, if_pos b]
            by_cases g : j - 8 < (np : Int)
            · rw [if_pos g, if_pos (by omega)]
            · rw [if_neg g, if_neg (by omega)]
          · rw [if_neg b, if_neg b]
            by_cases c : j < 22
            · rw [if_pos c, if_pos c]
              by_cases g : j - 15 < (np : Int)
              · rw [if_pos g, if_pos (by omega), upI_n (by omega)]
              · rw [if_neg g, if_neg (by omega)]
            · rw [if_neg c, if_neg c]
              by_cases d : j < 29
              · rw [if_pos d, if_pos d]
                by_cases g : j - 22 < (np : Int)
                · rw [if_pos g, if_pos (by omega), upI_n (by omega)]
                · rw [if_neg g, if_neg (by omega)]
              · rw [if_neg d, if_neg d]
def mRd (h : HP) (k : Nat) (o : Option (List Int)) : Prop := match o with
  | none => hI h 0 k = -1
  | some L => ∃ a : Nat, hI h 0 k = (a : Int) ∧ cdR (hA h 15) (a : Int) L ∧ (a : Int) + (clN L : Int) + 1 ≤ hI h 0 28
theorem cdR_cg {c c' : Int → Int} : ∀ (L : List Int) (a : Int), (∀ i : Int, a ≤ i → i ≤ a + (clN L : Int) → c' i = c i) → cdR c a L → cdR c' a L
  | [], a, h, g => by
    have g : (0 ≤ a ∧ a < 1400) ∧ c a = 0 := g
    exact ⟨g.1, by rw [h a (by omega) (by omega)]; exact g.2⟩
  | s :: r, a, h, g => by
    have hl : (clN (s :: r) : Nat) = (if -8 ≤ s then 2 else 1) + clN r := rfl
    have g : (0 ≤ a ∧ a + 1 < 1400) ∧ (if 0 ≤ s then c a = 1 ∧ c (a + 1) = s ∧ cdR c (a + 2) r else if -8 ≤ s then c a = 2 ∧ c (a + 1) = vkF s ∧ cdR c (a + 2) r else c a = opF s ∧ cdR c (a + 1) r) := g
    show (0 ≤ a ∧ a + 1 < 1400) ∧ (if 0 ≤ s then c' a = 1 ∧ c' (a + 1) = s ∧ cdR c' (a + 2) r else if -8 ≤ s then c' a = 2 ∧ c' (a + 1) = vkF s ∧ cdR c' (a + 2) r else c' a = opF s ∧ cdR c' (a + 1) r)
    refine ⟨g.1, ?_⟩
    have g := g.2
    by_cases c0 : 0 ≤ s
    · rw [if_pos c0] at g ⊢
      rw [if_pos (by omega)] at hl
      exact ⟨by rw [h a (by omega) (by omega)]; exact g.1, by rw [h (a + 1) (by omega) (by omega)]; exact g.2.1, cdR_cg r (a + 2) (fun i h1 h2 => h i (by omega) (by omega)) g.2.2⟩
    · rw [if_neg c0] at g ⊢
      by_cases c8 : -8 ≤ s
      · rw [if_pos c8] at g ⊢
        rw [if_pos c8] at hl
        exact ⟨by rw [h a (by omega) (by omega)]; exact g.1, by rw [h (a + 1) (by omega) (by omega)]; exact g.2.1, cdR_cg r (a + 2) (fun i h1 h2 => h i (by omega) (by omega)) g.2.2⟩
      · rw [if_neg c8] at g ⊢
        rw [if_neg c8] at hl
        exact ⟨by rw [h a (by omega) (by omega)]; exact g.1, cdR_cg r (a + 1) (fun i h1 h2 => h i (by omega) (by omega)) g.2⟩
theorem mRd_fr {h h' : HP} {k : Nat} {o : Option (List Int)} (m : mRd h k o) (e : hI h' 0 k = hI h 0 k) (e8 : hI h 0 28 ≤ hI h' 0 28) (ea : ∀ i : Int, i < hI h 0 28 → hA h' 15 i = hA h 15 i) : mRd h' k o := by
  cases o with
  | none => show hI h' 0 k = -1; rw [e]; exact m
  | some L =>
    obtain ⟨a, m1, m2, m3⟩ := m
    exact ⟨a, by rw [e]; exact m1, cdR_cg L _ (fun i _ h2 => ea i (by omega)) m2, by omega⟩
def DRm (h : HP) (p : Nat) (D : DR) : Prop := ((hI h 0 24 = (D.1.1 : Int) ∧ D.1.1 ≤ 6) ∧ hI h 0 25 = (D.1.2 : Int) ∧ D.1.2 ≤ 7) ∧ (∀ i : Int, 0 ≤ i → i < D.1.1 → hA h 9 i = D.2.1.1 i ∧ hA h 10 i = D.2.1.2.1 i) ∧ (∀ i : Int, 0 ≤ i → i < D.1.2 → hA h 11 i = D.2.2.1.1 i ∧ hA h 12 i = D.2.2.1.2.1 i ∧ hA h 13 i = D.2.2.1.2.2.1 i) ∧ (∀ j : Int, 0 ≤ j → j < 77 → hA h 14 (pm j) = drR D.1.1 D.1.2 D.2.1.2.2 D.2.2.1.2.2.2.1 D.2.2.1.2.2.2.2 j) ∧ (mRd h 26 D.2.2.2.1 ∧ mRd h 27 D.2.2.2.2) ∧ 0 ≤ hI h 0 28 ∧ hI h 0 28 ≤ 2 * (p : Int)
abbrev LL : List (Nat × Nat) := [(0, 17), (0, 18), (0, 19), (0, 20), (0, 21), (0, 22), (0, 23), (0, 13), (0, 14), (0, 28), (0, 29), (0, 30), (0, 31), (0, 32), (0, 24), (0, 25), (0, 26), (0, 27)]
abbrev LRf (h h' : HP) : Prop := FL [9, 10, 11, 12, 13, 14, 15, 16, 17] LL [] h h'
theorem DRm_FL {h h' : HP} {p q : Nat} {D : DR} (d : DRm h p D) (hq : p ≤ q) (F : FL [] MRl [] h h') : DRm h' q D := by
  obtain ⟨⟨⟨d1, d2⟩, d3, d4⟩, d5, d6, d7, ⟨d8, d9⟩, da, db⟩ := d
  have ea : ∀ a, hA h' a = hA h a := fun a => F.1 a rfl
  refine ⟨⟨⟨by rw [F.2.1 0 24 rfl]; exact d1, d2⟩, by rw [F.2.1 0 25 rfl]; exact d3, d4⟩, by rw [ea, ea]; exact d5, by rw [ea, ea, ea]; exact d6, by rw [ea]; exact d7, ⟨mRd_fr d8 (F.2.1 0 26 rfl) (by rw [F.2.1 0 28 rfl]; omega) (fun i _ => by rw [ea]), mRd_fr d9 (F.2.1 0 27 rfl) (by rw [F.2.1 0 28 rfl]; omega) (fun i _ => by rw [ea])⟩, by rw [F.2.1 0 28 rfl]; exact da, by rw [F.2.1 0 28 rfl]; omega⟩
def LNm (h : HP) (tp : Int → Int) (n : Nat) : (Int × Nat) ⊕ (DR × Nat) → Prop
  | .inl e => MEr h tp n e
  | .inr (D, q) => MGd h tp n q ∧ DRm h q D
theorem sg_e {h : HP} {tp : Int → Int} {n : Nat} {e : Int × Nat} {c : Int} (A : MEr h tp n e) (hc : i32 c) : SpecK mX12_isSign [vr 0, vi c] h (fun o h' => (∃ x, o = .inl (some (vi x))) ∧ h' = h) := by
  obtain ⟨-, ⟨t, ⟨⟨a1, -⟩, -, ⟨a2, a3⟩, -⟩, g⟩, -⟩ := A
  exact Spec_mono (fun o h' q => ⟨⟨_, q.1⟩, q.2⟩) (sX12_isSign a1 rfl g.1 ⟨by omega, by omega⟩ hc)
def THm (h' h : HP) (tp : Int → Int) (n nt : Nat) : (Int × Nat) ⊕ (Int × Int × Int × Nat) → Prop
  | .inl e => MEr h' tp n e
  | .inr (w, u, s, q) => MGd h' tp n q ∧ hI h' 0 24 = ((nt + 1 : Nat) : Int) ∧ hA h' 9 = upI (hA h 9) (nt : Int) w ∧ hA h' 10 = upI (hA h 10) (nt : Int) u ∧ hA h' 14 = upI (hA h 14) (57 + (nt : Int)) s
def PEm (h' h : HP) (tp : Int → Int) (n np : Nat) : (Int × Nat) ⊕ (Int × Int × Int × Int × Int × Nat) → Prop
  | .inl e => MEr h' tp n e
  | .inr (a, b, c, f, y, q) => MGd h' tp n q ∧ hI h' 0 25 = ((np + 1 : Nat) : Int) ∧ hA h' 11 = upI (hA h 11) (np : Int) a ∧ hA h' 12 = upI (hA h 12) (np : Int) b ∧ hA h' 13 = upI (hA h 13) (np : Int) c ∧ ∀ i : Int, hA h' 14 i = (if i = 70 + (np : Int) then y else if i = 8 + (np : Int) then (np : Int) else if i = 63 + (np : Int) then f else hA h 14 i)
theorem up4a {g : Int → Int} {k f : Int} (hk9 : 0 ≤ k ∧ k < 7) (i : Int) : upI (upI (upI g (63 + k) f) (70 + k) (-1)) (8 + k) k i = (if i = 70 + k then -1 else if i = 8 + k then k else if i = 63 + k then f else g i) := by
  unfold upI
  by_cases a : i = 70 + k
  · rw [if_neg (by omega), if_pos a, if_pos a]
  · by_cases b : i = 8 + k
    · simp only [if_neg a, if_pos b]
    · simp only [if_neg a, if_neg b]
theorem up4b {g : Int → Int} {k f y : Int} (hk9 : 0 ≤ k ∧ k < 7) (i : Int) : upI (upI (upI (upI g (63 + k) f) (70 + k) (-1)) (8 + k) k) (70 + k) y i = (if i = 70 + k then y else if i = 8 + k then k else if i = 63 + k then f else g i) := by
  by_cases a : i = 70 + k
  · rw [a, upI_s, if_pos rfl]
  · rw [upI_n a, up4a hk9, if_neg a, if_neg a]
def mX12_readsThing : MI := (yX12_readsThing, cX12_readsThing, 2, none, rmK 4 0)
def tX12_readsThing : List (Nat × Instr × Nat) := [(0, .aload_n 0, 1), (1, .getfield 227, 3), (4, .istore_n 1, 1), (5, .aload_n 0, 1), (6, .getfield 44, 3), (9, .iload_n 1, 1), (10, .aload_n 0, 1), (11, .iconst 1, 1), (12, .bipush 20, 2), (14, .invokevirtual 230, 3), (17, .iastore, 1), (18, .aload_n 0, 1), (19, .getfield 47, 3), (22, .iload_n 1, 1), (23, .aload_n 0, 1), (24, .iconst 0, 1), (25, .bipush 9, 2), (27, .invokevirtual 230, 3), (30, .iastore, 1), (31, .aload_n 0, 1), (32, .getfield 59, 3), (35, .bipush 57, 2), (37, .iload_n 1, 1), (38, .iadd, 1), (39, .aload_n 0, 1), (40, .iconst 0, 1), (41, .bipush 9, 2), (43, .invokevirtual 230, 3), (46, .iastore, 1), (47, .aload_n 0, 1), (48, .invokevirtual 164, 3), (51, .ifCond .eq 13, 3), (54, .aload_n 0, 1), (55, .dup, 1), (56, .getfield 227, 3), (59, .iconst 1, 1), (60, .iadd, 1), (61, .putfield 227, 3), (64, .return_, 1)]
theorem dtX12_readsThing : tX12_readsThing.all (fun q => decide (decode cX12_readsThing q.1 = .ok (q.2.1, q.2.2))) = true := by decide +kernel
theorem npX12_readsThing : (parseMethodDescriptor (mY mX12_readsThing).desc).map (fun d => d.parameters.length) = some 0 := by decide +kernel
theorem vX12_readsThing : mV mX12_readsThing := ⟨wI_X12_readsThing, wS_X12_readsThing, wN_X12, wC_X12_readsThing, by decide +kernel, by decide +kernel⟩
set_option maxHeartbeats 4000000 in
set_option maxRecDepth 100000 in
theorem sX12_readsThing {h : HP} {tp : Int → Int} {n p nt : Nat} (A : MGd h tp n p) (d10 : hI h 0 24 = (nt : Int)) (hnt : nt < 6) : SpecK mX12_readsThing [vr 0] h (fun o h' => o = .inl none ∧ THm h' h tp n nt (thN tp n p) ∧ FL [9, 10, 14] ((0, 24) :: MRl) [] h h') := by
  refine Spec_of (by decide +kernel) (Nat.le_of_ble_eq_true rfl) ?_
  refine K_aload_n (dt_at dtX12_readsThing 0 rfl) rfl rfl ?_
  refine K_get (a := 0) (ci := 12) (k := 24) (v := vi (nt : Int)) (dt_at dtX12_readsThing 1 rfl) (show TT 0 = (0, 12) from rfl) rfl (by decide) wF_X12_227 (by show vi (hI h 0 24) = vi (nt : Int); rw [d10]) ?_
  refine K_istore_n (ls' := [(1, vi (nt : Int)), (0, vr 0)]) (dt_at dtX12_readsThing 2 rfl) rfl (by decide) rfl ?_
  refine K_aload_n (dt_at dtX12_readsThing 3 rfl) rfl rfl ?_
  refine K_get (a := 0) (ci := 12) (k := 33) (v := vr 9) (dt_at dtX12_readsThing 4 rfl) (show TT 0 = (0, 12) from rfl) rfl (by decide) wF_X12_44 rfl ?_
  refine K_iload_n (dt_at dtX12_readsThing 5 rfl) rfl rfl ?_
  refine K_aload_n (dt_at dtX12_readsThing 6 rfl) rfl rfl ?_
  refine K_iconst (dt_at dtX12_readsThing 7 rfl) ?_
  refine K_bipush (dt_at dtX12_readsThing 8 rfl) (by decide) ?_
  have Aq1 : MGd h tp n p := A
  refine K_callV (M' := mX12_number) (a := 0) (ci := 12) (As := [vi 1, vi 20]) (st := [vi (nt : Int), vr 9]) (dt_at dtX12_readsThing 9 rfl) (number_P Aq1 ⟨by omega, by omega⟩ ⟨by omega, by omega⟩) (show TT 0 = (0, 12) from rfl) rfl wL_X12_230 vX12_number rfl npX12_number (by decide) (by decide) (Nat.le_of_ble_eq_true rfl) (by decide) (by decide) GK_E (fun v9 hcq1 hq => ?_) (fun E h9 hq => by obtain ⟨⟨_, e9⟩, _⟩ := hq; cases e9)
  obtain ⟨⟨xq1, exq1⟩, Nq1, Fq1⟩ := hq
  cases exq1
  rcases uq1 : nuP tp n 1 20 p with ekq1 | ⟨vq1, pq1⟩
  · rw [uq1] at Nq1
    have Bq1 : MEr hcq1 tp n ekq1 := Nq1
    show K mX12_readsThing _ _ 0 0 17 [(1, vi (nt : Int)), (0, vr 0)] [vi xq1, vi (nt : Int), vr 9] hcq1
    refine K_iast (dt_at dtX12_readsThing 10 rfl) (show TT 9 = (1, 6) from rfl) (by omega) (by omega) ?_
    obtain ⟨hq2, eq2⟩ : ∃ z, z = sA hcq1 9 (nt : Int) xq1 := ⟨_, rfl⟩
    rw [← eq2]
    obtain ⟨aq2, fq2, iq2, rq2⟩ := sA_fx eq2
    rw [(Fq1.1 9 rfl)] at aq2
    refine K_aload_n (dt_at dtX12_readsThing 11 rfl) rfl rfl ?_
    refine K_get (a := 0) (ci := 12) (k := 34) (v := vr 10) (dt_at dtX12_readsThing 12 rfl) (show TT 0 = (0, 12) from rfl) rfl (by decide) wF_X12_47 rfl ?_
    refine K_iload_n (dt_at dtX12_readsThing 13 rfl) rfl rfl ?_
    refine K_aload_n (dt_at dtX12_readsThing 14 rfl) rfl rfl ?_
    refine K_iconst (dt_at dtX12_readsThing 15 rfl) ?_
    refine K_bipush (dt_at dtX12_readsThing 16 rfl) (by decide) ?_
    have Aq3 : MEr hq2 tp n ekq1 := (MEr_up Bq1 (FL_tr (FL_rf : FL [9, 10, 14] [(0, 24)] [] hcq1 hcq1) (FL_eA eq2 rfl)) rfl rfl)
    refine K_callV (M' := mX12_number) (a := 0) (ci := 12) (As := [vi 0, vi 9]) (st := [vi (nt : Int), vr 10]) (dt_at dtX12_readsThing 17 rfl) (number_e Aq3) (show TT 0 = (0, 12) from rfl) rfl wL_X12_230 vX12_number rfl npX12_number (by decide) (by decide) (Nat.le_of_ble_eq_true rfl) (by decide) (by decide) GK_E (fun v9 h9 hq => ?_) (fun E h9 hq => by cases hq.1)
    obtain ⟨e9, e8⟩ := hq
    cases e9
    rw [e8]
    show K mX12_readsThing _ _ 0 0 30 [(1, vi (nt : Int)), (0, vr 0)] [vi 0, vi (nt : Int), vr 10] hq2
    refine K_iast (dt_at dtX12_readsThing 18 rfl) (show TT 10 = (1, 6) from rfl) (by omega) (by omega) ?_
    obtain ⟨hq4, eq4⟩ : ∃ z, z = sA hq2 10 (nt : Int) 0 := ⟨_, rfl⟩
    rw [← eq4]
    obtain ⟨aq4, fq4, iq4, rq4⟩ := sA_fx eq4
    rw [(fq2 10 (by omega)), (Fq1.1 10 rfl)] at aq4
    refine K_aload_n (dt_at dtX12_readsThing 19 rfl) rfl rfl ?_
    refine K_get (a := 0) (ci := 12) (k := 38) (v := vr 14) (dt_at dtX12_readsThing 20 rfl) (show TT 0 = (0, 12) from rfl) rfl (by decide) wF_X12_59 rfl ?_
    refine K_bipush (dt_at dtX12_readsThing 21 rfl) (by decide) ?_
    refine K_iload_n (dt_at dtX12_readsThing 22 rfl) rfl rfl ?_
    refine K_iadd (dt_at dtX12_readsThing 23 rfl) ?_
    refine K_aload_n (dt_at dtX12_readsThing 24 rfl) rfl rfl ?_
    refine K_iconst (dt_at dtX12_readsThing 25 rfl) ?_
    refine K_bipush (dt_at dtX12_readsThing 26 rfl) (by decide) ?_
    have Aq5 : MEr hq4 tp n ekq1 := (MEr_up Bq1 (FL_tr (FL_tr (FL_rf : FL [9, 10, 14] [(0, 24)] [] hcq1 hcq1) (FL_eA eq2 rfl)) (FL_eA eq4 rfl)) rfl rfl)
    refine K_callV (M' := mX12_number) (a := 0) (ci := 12) (As := [vi 0, vi 9]) (st := [vi (57 + (nt : Int)), vr 14]) (dt_at dtX12_readsThing 27 rfl) (number_e Aq5) (show TT 0 = (0, 12) from rfl) rfl wL_X12_230 vX12_number rfl npX12_number (by decide) (by decide) (Nat.le_of_ble_eq_true rfl) (by decide) (by decide) GK_E (fun v9 h9 hq => ?_) (fun E h9 hq => by cases hq.1)
    obtain ⟨e9, e8⟩ := hq
    cases e9
    rw [e8]
    show K mX12_readsThing _ _ 0 0 46 [(1, vi (nt : Int)), (0, vr 0)] [vi 0, vi (57 + (nt : Int)), vr 14] hq4
    refine K_iast (dt_at dtX12_readsThing 28 rfl) (show TT 14 = (1, 77) from rfl) (by omega) (by omega) ?_
    obtain ⟨hq6, eq6⟩ : ∃ z, z = sA hq4 14 (57 + (nt : Int)) 0 := ⟨_, rfl⟩
    rw [← eq6]
    obtain ⟨aq6, fq6, iq6, rq6⟩ := sA_fx eq6
    rw [(fq4 14 (by omega)), (fq2 14 (by omega)), (Fq1.1 14 rfl)] at aq6
    refine K_aload_n (dt_at dtX12_readsThing 29 rfl) rfl rfl ?_
    have Aq7 : MEr hq6 tp n ekq1 := (MEr_up Bq1 (FL_tr (FL_tr (FL_tr (FL_rf : FL [9, 10, 14] [(0, 24)] [] hcq1 hcq1) (FL_eA eq2 rfl)) (FL_eA eq4 rfl)) (FL_eA eq6 rfl)) rfl rfl)
    refine K_callV (M' := mX12_isGood) (a := 0) (ci := 12) (As := []) (st := []) (dt_at dtX12_readsThing 30 rfl) (good_f Aq7.2.2.2.1 Aq7.2.2.1) (show TT 0 = (0, 12) from rfl) rfl wL_X12_164 vX12_isGood rfl npX12_isGood (by decide) (by decide) (Nat.le_of_ble_eq_true rfl) (by decide) (by decide) GK_E (fun v9 h9 hq => ?_) (fun E h9 hq => by cases hq.1)
    obtain ⟨e9, e8⟩ := hq
    cases e9
    rw [e8]
    show K mX12_readsThing _ _ 0 0 51 [(1, vi (nt : Int)), (0, vr 0)] [vi 0] hq6
    refine K_if_eq (tgt := 64) (dt_at dtX12_readsThing 31 rfl) (by decide) (by first | assumption | exact ⟨by omega, by omega⟩) (fun c1 => ?_) (fun c1 => absurd c1 (by omega))
    have FE : MEr hq6 tp n ekq1 := (MEr_up Bq1 (FL_tr (FL_tr (FL_tr (FL_rf : FL [9, 10, 14] [(0, 24)] [] hcq1 hcq1) (FL_eA eq2 rfl)) (FL_eA eq4 rfl)) (FL_eA eq6 rfl)) rfl rfl)
    exact K_vret (dt_at dtX12_readsThing 38 rfl) rfl (by decide) (by decide) ⟨rfl, by simp only [thN, uq1]; exact FE, (FL_tr (FL_tr (FL_tr (FL_tr (FL_rf : FL [9, 10, 14] ((0, 24) :: MRl) [] h h) (FL_up Fq1 rfl rfl rfl)) (FL_eA eq2 rfl)) (FL_eA eq4 rfl)) (FL_eA eq6 rfl))⟩
  · rw [uq1] at Nq1
    obtain ⟨eyq1, Bq1⟩ := Nq1
    have ezq1 : xq1 = vq1 := by injection eyq1 with z; injection z with z; injection z
    show K mX12_readsThing _ _ 0 0 17 [(1, vi (nt : Int)), (0, vr 0)] [vi xq1, vi (nt : Int), vr 9] hcq1
    rw [ezq1]
    have bq1 := nuP_b uq1
    refine K_iast (dt_at dtX12_readsThing 10 rfl) (show TT 9 = (1, 6) from rfl) (by omega) (by omega) ?_
    obtain ⟨hq8, eq8⟩ : ∃ z, z = sA hcq1 9 (nt : Int) vq1 := ⟨_, rfl⟩
    rw [← eq8]
    obtain ⟨aq8, fq8, iq8, rq8⟩ := sA_fx eq8
    rw [(Fq1.1 9 rfl)] at aq8
    refine K_aload_n (dt_at dtX12_readsThing 11 rfl) rfl rfl ?_
    refine K_get (a := 0) (ci := 12) (k := 34) (v := vr 10) (dt_at dtX12_readsThing 12 rfl) (show TT 0 = (0, 12) from rfl) rfl (by decide) wF_X12_47 rfl ?_
    refine K_iload_n (dt_at dtX12_readsThing 13 rfl) rfl rfl ?_
    refine K_aload_n (dt_at dtX12_readsThing 14 rfl) rfl rfl ?_
    refine K_iconst (dt_at dtX12_readsThing 15 rfl) ?_
    refine K_bipush (dt_at dtX12_readsThing 16 rfl) (by decide) ?_
    have Aq9 : MGd hq8 tp n pq1 := (MGd_up Bq1 (FL_tr (FL_rf : FL [9, 10, 14] [(0, 24)] [] hcq1 hcq1) (FL_eA eq8 rfl)) rfl rfl)
    refine K_callV (M' := mX12_number) (a := 0) (ci := 12) (As := [vi 0, vi 9]) (st := [vi (nt : Int), vr 10]) (dt_at dtX12_readsThing 17 rfl) (number_P Aq9 ⟨by omega, by omega⟩ ⟨by omega, by omega⟩) (show TT 0 = (0, 12) from rfl) rfl wL_X12_230 vX12_number rfl npX12_number (by decide) (by decide) (Nat.le_of_ble_eq_true rfl) (by decide) (by decide) GK_E (fun v9 hcq9 hq => ?_) (fun E h9 hq => by obtain ⟨⟨_, e9⟩, _⟩ := hq; cases e9)
    obtain ⟨⟨xq9, exq9⟩, Nq9, Fq9⟩ := hq
    cases exq9
    rcases uq9 : nuP tp n 0 9 pq1 with ekq9 | ⟨vq9, pq9⟩
    · rw [uq9] at Nq9
      have Bq9 : MEr hcq9 tp n ekq9 := Nq9
      show K mX12_readsThing _ _ 0 0 30 [(1, vi (nt : Int)), (0, vr 0)] [vi xq9, vi (nt : Int), vr 10] hcq9
      refine K_iast (dt_at dtX12_readsThing 18 rfl) (show TT 10 = (1, 6) from rfl) (by omega) (by omega) ?_
      obtain ⟨hq10, eq10⟩ : ∃ z, z = sA hcq9 10 (nt : Int) xq9 := ⟨_, rfl⟩
      rw [← eq10]
      obtain ⟨aq10, fq10, iq10, rq10⟩ := sA_fx eq10
      rw [(Fq9.1 10 rfl), (fq8 10 (by omega)), (Fq1.1 10 rfl)] at aq10
      refine K_aload_n (dt_at dtX12_readsThing 19 rfl) rfl rfl ?_
      refine K_get (a := 0) (ci := 12) (k := 38) (v := vr 14) (dt_at dtX12_readsThing 20 rfl) (show TT 0 = (0, 12) from rfl) rfl (by decide) wF_X12_59 rfl ?_
      refine K_bipush (dt_at dtX12_readsThing 21 rfl) (by decide) ?_
      refine K_iload_n (dt_at dtX12_readsThing 22 rfl) rfl rfl ?_
      refine K_iadd (dt_at dtX12_readsThing 23 rfl) ?_
      refine K_aload_n (dt_at dtX12_readsThing 24 rfl) rfl rfl ?_
      refine K_iconst (dt_at dtX12_readsThing 25 rfl) ?_
      refine K_bipush (dt_at dtX12_readsThing 26 rfl) (by decide) ?_
      have Aq11 : MEr hq10 tp n ekq9 := (MEr_up Bq9 (FL_tr (FL_rf : FL [9, 10, 14] [(0, 24)] [] hcq9 hcq9) (FL_eA eq10 rfl)) rfl rfl)
      refine K_callV (M' := mX12_number) (a := 0) (ci := 12) (As := [vi 0, vi 9]) (st := [vi (57 + (nt : Int)), vr 14]) (dt_at dtX12_readsThing 27 rfl) (number_e Aq11) (show TT 0 = (0, 12) from rfl) rfl wL_X12_230 vX12_number rfl npX12_number (by decide) (by decide) (Nat.le_of_ble_eq_true rfl) (by decide) (by decide) GK_E (fun v9 h9 hq => ?_) (fun E h9 hq => by cases hq.1)
      obtain ⟨e9, e8⟩ := hq
      cases e9
      rw [e8]
      show K mX12_readsThing _ _ 0 0 46 [(1, vi (nt : Int)), (0, vr 0)] [vi 0, vi (57 + (nt : Int)), vr 14] hq10
      refine K_iast (dt_at dtX12_readsThing 28 rfl) (show TT 14 = (1, 77) from rfl) (by omega) (by omega) ?_
      obtain ⟨hq12, eq12⟩ : ∃ z, z = sA hq10 14 (57 + (nt : Int)) 0 := ⟨_, rfl⟩
      rw [← eq12]
      obtain ⟨aq12, fq12, iq12, rq12⟩ := sA_fx eq12
      rw [(fq10 14 (by omega)), (Fq9.1 14 rfl), (fq8 14 (by omega)), (Fq1.1 14 rfl)] at aq12
      refine K_aload_n (dt_at dtX12_readsThing 29 rfl) rfl rfl ?_
      have Aq13 : MEr hq12 tp n ekq9 := (MEr_up Bq9 (FL_tr (FL_tr (FL_rf : FL [9, 10, 14] [(0, 24)] [] hcq9 hcq9) (FL_eA eq10 rfl)) (FL_eA eq12 rfl)) rfl rfl)
      refine K_callV (M' := mX12_isGood) (a := 0) (ci := 12) (As := []) (st := []) (dt_at dtX12_readsThing 30 rfl) (good_f Aq13.2.2.2.1 Aq13.2.2.1) (show TT 0 = (0, 12) from rfl) rfl wL_X12_164 vX12_isGood rfl npX12_isGood (by decide) (by decide) (Nat.le_of_ble_eq_true rfl) (by decide) (by decide) GK_E (fun v9 h9 hq => ?_) (fun E h9 hq => by cases hq.1)
      obtain ⟨e9, e8⟩ := hq
      cases e9
      rw [e8]
      show K mX12_readsThing _ _ 0 0 51 [(1, vi (nt : Int)), (0, vr 0)] [vi 0] hq12
      refine K_if_eq (tgt := 64) (dt_at dtX12_readsThing 31 rfl) (by decide) (by first | assumption | exact ⟨by omega, by omega⟩) (fun c2 => ?_) (fun c2 => absurd c2 (by omega))
      have FE : MEr hq12 tp n ekq9 := (MEr_up Bq9 (FL_tr (FL_tr (FL_rf : FL [9, 10, 14] [(0, 24)] [] hcq9 hcq9) (FL_eA eq10 rfl)) (FL_eA eq12 rfl)) rfl rfl)
      exact K_vret (dt_at dtX12_readsThing 38 rfl) rfl (by decide) (by decide) ⟨rfl, by simp only [thN, uq1, uq9]; exact FE, (FL_tr (FL_tr (FL_tr (FL_tr (FL_tr (FL_rf : FL [9, 10, 14] ((0, 24) :: MRl) [] h h) (FL_up Fq1 rfl rfl rfl)) (FL_eA eq8 rfl)) (FL_up Fq9 rfl rfl rfl)) (FL_eA eq10 rfl)) (FL_eA eq12 rfl))⟩
    · rw [uq9] at Nq9
      obtain ⟨eyq9, Bq9⟩ := Nq9
      have ezq9 : xq9 = vq9 := by injection eyq9 with z; injection z with z; injection z
      show K mX12_readsThing _ _ 0 0 30 [(1, vi (nt : Int)), (0, vr 0)] [vi xq9, vi (nt : Int), vr 10] hcq9
      rw [ezq9]
      have bq9 := nuP_b uq9
      refine K_iast (dt_at dtX12_readsThing 18 rfl) (show TT 10 = (1, 6) from rfl) (by omega) (by omega) ?_
      obtain ⟨hq14, eq14⟩ : ∃ z, z = sA hcq9 10 (nt : Int) vq9 := ⟨_, rfl⟩
      rw [← eq14]
      obtain ⟨aq14, fq14, iq14, rq14⟩ := sA_fx eq14
      rw [(Fq9.1 10 rfl), (fq8 10 (by omega)), (Fq1.1 10 rfl)] at aq14
      refine K_aload_n (dt_at dtX12_readsThing 19 rfl) rfl rfl ?_
      refine K_get (a := 0) (ci := 12) (k := 38) (v := vr 14) (dt_at dtX12_readsThing 20 rfl) (show TT 0 = (0, 12) from rfl) rfl (by decide) wF_X12_59 rfl ?_
      refine K_bipush (dt_at dtX12_readsThing 21 rfl) (by decide) ?_
      refine K_iload_n (dt_at dtX12_readsThing 22 rfl) rfl rfl ?_
      refine K_iadd (dt_at dtX12_readsThing 23 rfl) ?_
      refine K_aload_n (dt_at dtX12_readsThing 24 rfl) rfl rfl ?_
      refine K_iconst (dt_at dtX12_readsThing 25 rfl) ?_
      refine K_bipush (dt_at dtX12_readsThing 26 rfl) (by decide) ?_
      have Aq15 : MGd hq14 tp n pq9 := (MGd_up Bq9 (FL_tr (FL_rf : FL [9, 10, 14] [(0, 24)] [] hcq9 hcq9) (FL_eA eq14 rfl)) rfl rfl)
      refine K_callV (M' := mX12_number) (a := 0) (ci := 12) (As := [vi 0, vi 9]) (st := [vi (57 + (nt : Int)), vr 14]) (dt_at dtX12_readsThing 27 rfl) (number_P Aq15 ⟨by omega, by omega⟩ ⟨by omega, by omega⟩) (show TT 0 = (0, 12) from rfl) rfl wL_X12_230 vX12_number rfl npX12_number (by decide) (by decide) (Nat.le_of_ble_eq_true rfl) (by decide) (by decide) GK_E (fun v9 hcq15 hq => ?_) (fun E h9 hq => by obtain ⟨⟨_, e9⟩, _⟩ := hq; cases e9)
      obtain ⟨⟨xq15, exq15⟩, Nq15, Fq15⟩ := hq
      cases exq15
      rcases uq15 : nuP tp n 0 9 pq9 with ekq15 | ⟨vq15, pq15⟩
      · rw [uq15] at Nq15
        have Bq15 : MEr hcq15 tp n ekq15 := Nq15
        show K mX12_readsThing _ _ 0 0 46 [(1, vi (nt : Int)), (0, vr 0)] [vi xq15, vi (57 + (nt : Int)), vr 14] hcq15
        refine K_iast (dt_at dtX12_readsThing 28 rfl) (show TT 14 = (1, 77) from rfl) (by omega) (by omega) ?_
        obtain ⟨hq16, eq16⟩ : ∃ z, z = sA hcq15 14 (57 + (nt : Int)) xq15 := ⟨_, rfl⟩
        rw [← eq16]
        obtain ⟨aq16, fq16, iq16, rq16⟩ := sA_fx eq16
        rw [(Fq15.1 14 rfl), (fq14 14 (by omega)), (Fq9.1 14 rfl), (fq8 14 (by omega)), (Fq1.1 14 rfl)] at aq16
        refine K_aload_n (dt_at dtX12_readsThing 29 rfl) rfl rfl ?_
        have Aq17 : MEr hq16 tp n ekq15 := (MEr_up Bq15 (FL_tr (FL_rf : FL [9, 10, 14] [(0, 24)] [] hcq15 hcq15) (FL_eA eq16 rfl)) rfl rfl)
        refine K_callV (M' := mX12_isGood) (a := 0) (ci := 12) (As := []) (st := []) (dt_at dtX12_readsThing 30 rfl) (good_f Aq17.2.2.2.1 Aq17.2.2.1) (show TT 0 = (0, 12) from rfl) rfl wL_X12_164 vX12_isGood rfl npX12_isGood (by decide) (by decide) (Nat.le_of_ble_eq_true rfl) (by decide) (by decide) GK_E (fun v9 h9 hq => ?_) (fun E h9 hq => by cases hq.1)
        obtain ⟨e9, e8⟩ := hq
        cases e9
        rw [e8]
        show K mX12_readsThing _ _ 0 0 51 [(1, vi (nt : Int)), (0, vr 0)] [vi 0] hq16
        refine K_if_eq (tgt := 64) (dt_at dtX12_readsThing 31 rfl) (by decide) (by first | assumption | exact ⟨by omega, by omega⟩) (fun c3 => ?_) (fun c3 => absurd c3 (by omega))
        have FE : MEr hq16 tp n ekq15 := (MEr_up Bq15 (FL_tr (FL_rf : FL [9, 10, 14] [(0, 24)] [] hcq15 hcq15) (FL_eA eq16 rfl)) rfl rfl)
        exact K_vret (dt_at dtX12_readsThing 38 rfl) rfl (by decide) (by decide) ⟨rfl, by simp only [thN, uq1, uq9, uq15]; exact FE, (FL_tr (FL_tr (FL_tr (FL_tr (FL_tr (FL_tr (FL_rf : FL [9, 10, 14] ((0, 24) :: MRl) [] h h) (FL_up Fq1 rfl rfl rfl)) (FL_eA eq8 rfl)) (FL_up Fq9 rfl rfl rfl)) (FL_eA eq14 rfl)) (FL_up Fq15 rfl rfl rfl)) (FL_eA eq16 rfl))⟩
      · rw [uq15] at Nq15
        obtain ⟨eyq15, Bq15⟩ := Nq15
        have ezq15 : xq15 = vq15 := by injection eyq15 with z; injection z with z; injection z
        show K mX12_readsThing _ _ 0 0 46 [(1, vi (nt : Int)), (0, vr 0)] [vi xq15, vi (57 + (nt : Int)), vr 14] hcq15
        rw [ezq15]
        have bq15 := nuP_b uq15
        refine K_iast (dt_at dtX12_readsThing 28 rfl) (show TT 14 = (1, 77) from rfl) (by omega) (by omega) ?_
        obtain ⟨hq18, eq18⟩ : ∃ z, z = sA hcq15 14 (57 + (nt : Int)) vq15 := ⟨_, rfl⟩
        rw [← eq18]
        obtain ⟨aq18, fq18, iq18, rq18⟩ := sA_fx eq18
        rw [(Fq15.1 14 rfl), (fq14 14 (by omega)), (Fq9.1 14 rfl), (fq8 14 (by omega)), (Fq1.1 14 rfl)] at aq18
        refine K_aload_n (dt_at dtX12_readsThing 29 rfl) rfl rfl ?_
        have Aq19 : MGd hq18 tp n pq15 := (MGd_up Bq15 (FL_tr (FL_rf : FL [9, 10, 14] [(0, 24)] [] hcq15 hcq15) (FL_eA eq18 rfl)) rfl rfl)
        refine K_callV (M' := mX12_isGood) (a := 0) (ci := 12) (As := []) (st := []) (dt_at dtX12_readsThing 30 rfl) (good_t Aq19.2.2.2.1) (show TT 0 = (0, 12) from rfl) rfl wL_X12_164 vX12_isGood rfl npX12_isGood (by decide) (by decide) (Nat.le_of_ble_eq_true rfl) (by decide) (by decide) GK_E (fun v9 h9 hq => ?_) (fun E h9 hq => by cases hq.1)
        obtain ⟨e9, e8⟩ := hq
        cases e9
        rw [e8]
        show K mX12_readsThing _ _ 0 0 51 [(1, vi (nt : Int)), (0, vr 0)] [vi 1] hq18
        refine K_if_eq (tgt := 64) (dt_at dtX12_readsThing 31 rfl) (by decide) (by first | assumption | exact ⟨by omega, by omega⟩) (fun c4 => absurd c4 (by omega)) (fun c4 => ?_)
        refine K_aload_n (dt_at dtX12_readsThing 32 rfl) rfl rfl ?_
        refine K_dup (dt_at dtX12_readsThing 33 rfl) rfl ?_
        refine K_get (a := 0) (ci := 12) (k := 24) (v := vi (nt : Int)) (dt_at dtX12_readsThing 34 rfl) (show TT 0 = (0, 12) from rfl) rfl (by decide) wF_X12_227 (by show vi (hI hq18 0 24) = vi (nt : Int); rw [iq18, (Fq15.2.1 0 24 rfl), iq14, (Fq9.2.1 0 24 rfl), iq8, (Fq1.2.1 0 24 rfl), d10]) ?_
        refine K_iconst (dt_at dtX12_readsThing 35 rfl) ?_
        refine K_iadd (dt_at dtX12_readsThing 36 rfl) ?_
        refine K_putI (a := 0) (ci := 12) (k := 24) (dt_at dtX12_readsThing 37 rfl) (show TT 0 = (0, 12) from rfl) rfl (by decide) wF_X12_227 rfl (Or.inl rfl) rfl rfl ?_
        obtain ⟨hq20, eq20⟩ : ∃ z, z = sI hq18 0 24 ((nt : Int) + 1) := ⟨_, rfl⟩
        rw [← eq20]
        obtain ⟨iq20, fq20, aq20, rq20⟩ := sI_fx eq20
        have FE : MGd hq20 tp n pq15 := (MGd_up Bq15 (FL_tr (FL_tr (FL_rf : FL [9, 10, 14] [(0, 24)] [] hcq15 hcq15) (FL_eA eq18 rfl)) (FL_eI eq20 rfl)) rfl rfl)
        exact K_vret (dt_at dtX12_readsThing 38 rfl) rfl (by decide) (by decide) ⟨rfl, by simp only [thN, uq1, uq9, uq15]; exact ⟨FE, by rw [iq20]; rfl, by rw [aq20, (fq18 9 (by omega)), (Fq15.1 9 rfl), (fq14 9 (by omega)), (Fq9.1 9 rfl), aq8], by rw [aq20, (fq18 10 (by omega)), (Fq15.1 10 rfl), aq14], by rw [aq20, aq18]⟩, (FL_tr (FL_tr (FL_tr (FL_tr (FL_tr (FL_tr (FL_tr (FL_rf : FL [9, 10, 14] ((0, 24) :: MRl) [] h h) (FL_up Fq1 rfl rfl rfl)) (FL_eA eq8 rfl)) (FL_up Fq9 rfl rfl rfl)) (FL_eA eq14 rfl)) (FL_up Fq15 rfl rfl rfl)) (FL_eA eq18 rfl)) (FL_eI eq20 rfl))⟩
def mX12_readsPerson : MI := (yX12_readsPerson, cX12_readsPerson, 2, none, rmK 4 0)
def tX12_readsPerson : List (Nat × Instr × Nat) := [(0, .aload_n 0, 1), (1, .getfield 234, 3), (4, .istore_n 1, 1), (5, .aload_n 0, 1), (6, .getfield 50, 3), (9, .iload_n 1, 1), (10, .aload_n 0, 1), (11, .iconst 0, 1), (12, .bipush 60, 2), (14, .invokevirtual 230, 3), (17, .iastore, 1), (18, .aload_n 0, 1), (19, .getfield 53, 3), (22, .iload_n 1, 1), (23, .aload_n 0, 1), (24, .iconst 2, 1), (25, .bipush 9, 2), (27, .invokevirtual 230, 3), (30, .iastore, 1), (31, .aload_n 0, 1), (32, .getfield 56, 3), (35, .iload_n 1, 1), (36, .aload_n 0, 1), (37, .iconst 1, 1), (38, .aload_n 0, 1), (39, .getfield 53, 3), (42, .iload_n 1, 1), (43, .iaload, 1), (44, .iconst 1, 1), (45, .isub, 1), (46, .invokevirtual 230, 3), (49, .iastore, 1), (50, .aload_n 0, 1), (51, .getfield 59, 3), (54, .bipush 63, 2), (56, .iload_n 1, 1), (57, .iadd, 1), (58, .aload_n 0, 1), (59, .iconst 0, 1), (60, .bipush 9, 2), (62, .invokevirtual 230, 3), (65, .iastore, 1), (66, .aload_n 0, 1), (67, .getfield 59, 3), (70, .bipush 70, 2), (72, .iload_n 1, 1), (73, .iadd, 1), (74, .iconst (-1), 1), (75, .iastore, 1), (76, .aload_n 0, 1), (77, .getfield 59, 3), (80, .bipush 8, 2), (82, .iload_n 1, 1), (83, .iadd, 1), (84, .iload_n 1, 1), (85, .iastore, 1), (86, .aload_n 0, 1), (87, .invokevirtual 164, 3), (90, .ifCond .eq 61, 3), (93, .aload_n 0, 1), (94, .invokevirtual 189, 3), (97, .bipush 10, 2), (99, .if_icmp .ne 52, 3), (102, .aload_n 0, 1), (103, .invokevirtual 168, 3), (106, .aload_n 0, 1), (107, .getfield 138, 3), (110, .iconst 2, 1), (111, .if_icmp .ne 24, 3), (114, .aload_n 0, 1), (115, .getfield 148, 3), (118, .iconst 4, 1), (119, .if_icmp .gt 16, 3), (122, .aload_n 0, 1), (123, .getfield 132, 3), (126, .iload_n 1, 1), (127, .if_icmp .ne 8, 3), (130, .aload_n 0, 1), (131, .iconst 4, 1), (132, .invokevirtual 171, 3), (135, .aload_n 0, 1), (136, .getfield 59, 3), (139, .bipush 70, 2), (141, .iload_n 1, 1), (142, .iadd, 1), (143, .aload_n 0, 1), (144, .iconst 0, 1), (145, .bipush 6, 2), (147, .invokevirtual 230, 3), (150, .iastore, 1), (151, .aload_n 0, 1), (152, .invokevirtual 164, 3), (155, .ifCond .eq 13, 3), (158, .aload_n 0, 1), (159, .dup, 1), (160, .getfield 234, 3), (163, .iconst 1, 1), (164, .iadd, 1), (165, .putfield 234, 3), (168, .return_, 1)]
theorem dtX12_readsPerson : tX12_readsPerson.all (fun q => decide (decode cX12_readsPerson q.1 = .ok (q.2.1, q.2.2))) = true := by decide +kernel
theorem npX12_readsPerson : (parseMethodDescriptor (mY mX12_readsPerson).desc).map (fun d => d.parameters.length) = some 0 := by decide +kernel
theorem vX12_readsPerson : mV mX12_readsPerson := ⟨wI_X12_readsPerson, wS_X12_readsPerson, wN_X12, wC_X12_readsPerson, by decide +kernel, by decide +kernel⟩
set_option maxHeartbeats 4000000 in
set_option maxRecDepth 100000 in
theorem sX12_readsPerson {h : HP} {tp : Int → Int} {n p np : Nat} (A : MGd h tp n p) (d11 : hI h 0 25 = (np : Int)) (hnp : np < 7) : SpecK mX12_readsPerson [vr 0] h (fun o h' => o = .inl none ∧ PEm h' h tp n np (peN tp n (np : Int) p) ∧ FL [11, 12, 13, 14] ((0, 25) :: MRl) [] h h') := by
  refine Spec_of (by decide +kernel) (Nat.le_of_ble_eq_true rfl) ?_
  refine K_aload_n (dt_at dtX12_readsPerson 0 rfl) rfl rfl ?_
  refine K_get (a := 0) (ci := 12) (k := 25) (v := vi (np : Int)) (dt_at dtX12_readsPerson 1 rfl) (show TT 0 = (0, 12) from rfl) rfl (by decide) wF_X12_234 (by show vi (hI h 0 25) = vi (np : Int); rw [d11]) ?_
  refine K_istore_n (ls' := [(1, vi (np : Int)), (0, vr 0)]) (dt_at dtX12_readsPerson 2 rfl) rfl (by decide) rfl ?_
  refine K_aload_n (dt_at dtX12_readsPerson 3 rfl) rfl rfl ?_
  refine K_get (a := 0) (ci := 12) (k := 35) (v := vr 11) (dt_at dtX12_readsPerson 4 rfl) (show TT 0 = (0, 12) from rfl) rfl (by decide) wF_X12_50 rfl ?_
  refine K_iload_n (dt_at dtX12_readsPerson 5 rfl) rfl rfl ?_
  refine K_aload_n (dt_at dtX12_readsPerson 6 rfl) rfl rfl ?_
  refine K_iconst (dt_at dtX12_readsPerson 7 rfl) ?_
  refine K_bipush (dt_at dtX12_readsPerson 8 rfl) (by decide) ?_
  have Aq1 : MGd h tp n p := A
  refine K_callV (M' := mX12_number) (a := 0) (ci := 12) (As := [vi 0, vi 60]) (st := [vi (np : Int), vr 11]) (dt_at dtX12_readsPerson 9 rfl) (number_P Aq1 ⟨by omega, by omega⟩ ⟨by omega, by omega⟩) (show TT 0 = (0, 12) from rfl) rfl wL_X12_230 vX12_number rfl npX12_number (by decide) (by decide) (Nat.le_of_ble_eq_true rfl) (by decide) (by decide) GK_E (fun v9 hcq1 hq => ?_) (fun E h9 hq => by obtain ⟨⟨_, e9⟩, _⟩ := hq; cases e9)
  obtain ⟨⟨xq1, exq1⟩, Nq1, Fq1⟩ := hq
  cases exq1
  rcases uq1 : nuP tp n 0 60 p with ekq1 | ⟨vq1, pq1⟩
  · rw [uq1] at Nq1
    have Bq1 : MEr hcq1 tp n ekq1 := Nq1
    show K mX12_readsPerson _ _ 0 0 17 [(1, vi (np : Int)), (0, vr 0)] [vi xq1, vi (np : Int), vr 11] hcq1
    refine K_iast (dt_at dtX12_readsPerson 10 rfl) (show TT 11 = (1, 7) from rfl) (by omega) (by omega) ?_
    obtain ⟨hq2, eq2⟩ : ∃ z, z = sA hcq1 11 (np : Int) xq1 := ⟨_, rfl⟩
    rw [← eq2]
    obtain ⟨aq2, fq2, iq2, rq2⟩ := sA_fx eq2
    rw [(Fq1.1 11 rfl)] at aq2
    refine K_aload_n (dt_at dtX12_readsPerson 11 rfl) rfl rfl ?_
    refine K_get (a := 0) (ci := 12) (k := 36) (v := vr 12) (dt_at dtX12_readsPerson 12 rfl) (show TT 0 = (0, 12) from rfl) rfl (by decide) wF_X12_53 rfl ?_
    refine K_iload_n (dt_at dtX12_readsPerson 13 rfl) rfl rfl ?_
    refine K_aload_n (dt_at dtX12_readsPerson 14 rfl) rfl rfl ?_
    refine K_iconst (dt_at dtX12_readsPerson 15 rfl) ?_
    refine K_bipush (dt_at dtX12_readsPerson 16 rfl) (by decide) ?_
    have Aq3 : MEr hq2 tp n ekq1 := (MEr_up Bq1 (FL_tr (FL_rf : FL [11, 12, 13, 14] [(0, 25)] [] hcq1 hcq1) (FL_eA eq2 rfl)) rfl rfl)
    refine K_callV (M' := mX12_number) (a := 0) (ci := 12) (As := [vi 2, vi 9]) (st := [vi (np : Int), vr 12]) (dt_at dtX12_readsPerson 17 rfl) (number_e Aq3) (show TT 0 = (0, 12) from rfl) rfl wL_X12_230 vX12_number rfl npX12_number (by decide) (by decide) (Nat.le_of_ble_eq_true rfl) (by decide) (by decide) GK_E (fun v9 h9 hq => ?_) (fun E h9 hq => by cases hq.1)
    obtain ⟨e9, e8⟩ := hq
    cases e9
    rw [e8]
    show K mX12_readsPerson _ _ 0 0 30 [(1, vi (np : Int)), (0, vr 0)] [vi 0, vi (np : Int), vr 12] hq2
    refine K_iast (dt_at dtX12_readsPerson 18 rfl) (show TT 12 = (1, 7) from rfl) (by omega) (by omega) ?_
    obtain ⟨hq4, eq4⟩ : ∃ z, z = sA hq2 12 (np : Int) 0 := ⟨_, rfl⟩
    rw [← eq4]
    obtain ⟨aq4, fq4, iq4, rq4⟩ := sA_fx eq4
    rw [(fq2 12 (by omega)), (Fq1.1 12 rfl)] at aq4
    refine K_aload_n (dt_at dtX12_readsPerson 19 rfl) rfl rfl ?_
    refine K_get (a := 0) (ci := 12) (k := 37) (v := vr 13) (dt_at dtX12_readsPerson 20 rfl) (show TT 0 = (0, 12) from rfl) rfl (by decide) wF_X12_56 rfl ?_
    refine K_iload_n (dt_at dtX12_readsPerson 21 rfl) rfl rfl ?_
    refine K_aload_n (dt_at dtX12_readsPerson 22 rfl) rfl rfl ?_
    refine K_iconst (dt_at dtX12_readsPerson 23 rfl) ?_
    refine K_aload_n (dt_at dtX12_readsPerson 24 rfl) rfl rfl ?_
    refine K_get (a := 0) (ci := 12) (k := 36) (v := vr 12) (dt_at dtX12_readsPerson 25 rfl) (show TT 0 = (0, 12) from rfl) rfl (by decide) wF_X12_53 rfl ?_
    refine K_iload_n (dt_at dtX12_readsPerson 26 rfl) rfl rfl ?_
    refine K_iald (dt_at dtX12_readsPerson 27 rfl) (show TT 12 = (1, 7) from rfl) (by omega) (by omega) ?_
    rw [aq4]
    refine K_iconst (dt_at dtX12_readsPerson 28 rfl) ?_
    refine K_isub (dt_at dtX12_readsPerson 29 rfl) ?_
    have Aq5 : MEr hq4 tp n ekq1 := (MEr_up Bq1 (FL_tr (FL_tr (FL_rf : FL [11, 12, 13, 14] [(0, 25)] [] hcq1 hcq1) (FL_eA eq2 rfl)) (FL_eA eq4 rfl)) rfl rfl)
    refine K_callV (M' := mX12_number) (a := 0) (ci := 12) (As := [vi 1, vi (((upI (hA h 12) (np : Int) 0) (np : Int)) - 1)]) (st := [vi (np : Int), vr 13]) (dt_at dtX12_readsPerson 30 rfl) (number_e Aq5) (show TT 0 = (0, 12) from rfl) rfl wL_X12_230 vX12_number rfl npX12_number (by decide) (by decide) (Nat.le_of_ble_eq_true rfl) (by decide) (by decide) GK_E (fun v9 h9 hq => ?_) (fun E h9 hq => by cases hq.1)
    obtain ⟨e9, e8⟩ := hq
    cases e9
    rw [e8]
    show K mX12_readsPerson _ _ 0 0 49 [(1, vi (np : Int)), (0, vr 0)] [vi 0, vi (np : Int), vr 13] hq4
    refine K_iast (dt_at dtX12_readsPerson 31 rfl) (show TT 13 = (1, 7) from rfl) (by omega) (by omega) ?_
    obtain ⟨hq6, eq6⟩ : ∃ z, z = sA hq4 13 (np : Int) 0 := ⟨_, rfl⟩
    rw [← eq6]
    obtain ⟨aq6, fq6, iq6, rq6⟩ := sA_fx eq6
    rw [(fq4 13 (by omega)), (fq2 13 (by omega)), (Fq1.1 13 rfl)] at aq6
    refine K_aload_n (dt_at dtX12_readsPerson 32 rfl) rfl rfl ?_
    refine K_get (a := 0) (ci := 12) (k := 38) (v := vr 14) (dt_at dtX12_readsPerson 33 rfl) (show TT 0 = (0, 12) from rfl) rfl (by decide) wF_X12_59 rfl ?_
    refine K_bipush (dt_at dtX12_readsPerson 34 rfl) (by decide) ?_
    refine K_iload_n (dt_at dtX12_readsPerson 35 rfl) rfl rfl ?_
    refine K_iadd (dt_at dtX12_readsPerson 36 rfl) ?_
    refine K_aload_n (dt_at dtX12_readsPerson 37 rfl) rfl rfl ?_
    refine K_iconst (dt_at dtX12_readsPerson 38 rfl) ?_
    refine K_bipush (dt_at dtX12_readsPerson 39 rfl) (by decide) ?_
    have Aq7 : MEr hq6 tp n ekq1 := (MEr_up Bq1 (FL_tr (FL_tr (FL_tr (FL_rf : FL [11, 12, 13, 14] [(0, 25)] [] hcq1 hcq1) (FL_eA eq2 rfl)) (FL_eA eq4 rfl)) (FL_eA eq6 rfl)) rfl rfl)
    refine K_callV (M' := mX12_number) (a := 0) (ci := 12) (As := [vi 0, vi 9]) (st := [vi (63 + (np : Int)), vr 14]) (dt_at dtX12_readsPerson 40 rfl) (number_e Aq7) (show TT 0 = (0, 12) from rfl) rfl wL_X12_230 vX12_number rfl npX12_number (by decide) (by decide) (Nat.le_of_ble_eq_true rfl) (by decide) (by decide) GK_E (fun v9 h9 hq => ?_) (fun E h9 hq => by cases hq.1)
    obtain ⟨e9, e8⟩ := hq
    cases e9
    rw [e8]
    show K mX12_readsPerson _ _ 0 0 65 [(1, vi (np : Int)), (0, vr 0)] [vi 0, vi (63 + (np : Int)), vr 14] hq6
    refine K_iast (dt_at dtX12_readsPerson 41 rfl) (show TT 14 = (1, 77) from rfl) (by omega) (by omega) ?_
    obtain ⟨hq8, eq8⟩ : ∃ z, z = sA hq6 14 (63 + (np : Int)) 0 := ⟨_, rfl⟩
    rw [← eq8]
    obtain ⟨aq8, fq8, iq8, rq8⟩ := sA_fx eq8
    rw [(fq6 14 (by omega)), (fq4 14 (by omega)), (fq2 14 (by omega)), (Fq1.1 14 rfl)] at aq8
    refine K_aload_n (dt_at dtX12_readsPerson 42 rfl) rfl rfl ?_
    refine K_get (a := 0) (ci := 12) (k := 38) (v := vr 14) (dt_at dtX12_readsPerson 43 rfl) (show TT 0 = (0, 12) from rfl) rfl (by decide) wF_X12_59 rfl ?_
    refine K_bipush (dt_at dtX12_readsPerson 44 rfl) (by decide) ?_
    refine K_iload_n (dt_at dtX12_readsPerson 45 rfl) rfl rfl ?_
    refine K_iadd (dt_at dtX12_readsPerson 46 rfl) ?_
    refine K_iconst (dt_at dtX12_readsPerson 47 rfl) ?_
    refine K_iast (dt_at dtX12_readsPerson 48 rfl) (show TT 14 = (1, 77) from rfl) (by omega) (by omega) ?_
    obtain ⟨hq9, eq9⟩ : ∃ z, z = sA hq8 14 (70 + (np : Int)) (-1) := ⟨_, rfl⟩
    rw [← eq9]
    obtain ⟨aq9, fq9, iq9, rq9⟩ := sA_fx eq9
    rw [aq8] at aq9
    refine K_aload_n (dt_at dtX12_readsPerson 49 rfl) rfl rfl ?_
    refine K_get (a := 0) (ci := 12) (k := 38) (v := vr 14) (dt_at dtX12_readsPerson 50 rfl) (show TT 0 = (0, 12) from rfl) rfl (by decide) wF_X12_59 rfl ?_
    refine K_bipush (dt_at dtX12_readsPerson 51 rfl) (by decide) ?_
    refine K_iload_n (dt_at dtX12_readsPerson 52 rfl) rfl rfl ?_
    refine K_iadd (dt_at dtX12_readsPerson 53 rfl) ?_
    refine K_iload_n (dt_at dtX12_readsPerson 54 rfl) rfl rfl ?_
    refine K_iast (dt_at dtX12_readsPerson 55 rfl) (show TT 14 = (1, 77) from rfl) (by omega) (by omega) ?_
    obtain ⟨hq10, eq10⟩ : ∃ z, z = sA hq9 14 (8 + (np : Int)) (np : Int) := ⟨_, rfl⟩
    rw [← eq10]
    obtain ⟨aq10, fq10, iq10, rq10⟩ := sA_fx eq10
    rw [aq9] at aq10
    refine K_aload_n (dt_at dtX12_readsPerson 56 rfl) rfl rfl ?_
    have Aq11 : MEr hq10 tp n ekq1 := (MEr_up Bq1 (FL_tr (FL_tr (FL_tr (FL_tr (FL_tr (FL_tr (FL_rf : FL [11, 12, 13, 14] [(0, 25)] [] hcq1 hcq1) (FL_eA eq2 rfl)) (FL_eA eq4 rfl)) (FL_eA eq6 rfl)) (FL_eA eq8 rfl)) (FL_eA eq9 rfl)) (FL_eA eq10 rfl)) rfl rfl)
    refine K_callV (M' := mX12_isGood) (a := 0) (ci := 12) (As := []) (st := []) (dt_at dtX12_readsPerson 57 rfl) (good_f Aq11.2.2.2.1 Aq11.2.2.1) (show TT 0 = (0, 12) from rfl) rfl wL_X12_164 vX12_isGood rfl npX12_isGood (by decide) (by decide) (Nat.le_of_ble_eq_true rfl) (by decide) (by decide) GK_E (fun v9 h9 hq => ?_) (fun E h9 hq => by cases hq.1)
    obtain ⟨e9, e8⟩ := hq
    cases e9
    rw [e8]
    show K mX12_readsPerson _ _ 0 0 90 [(1, vi (np : Int)), (0, vr 0)] [vi 0] hq10
    refine K_if_eq (tgt := 151) (dt_at dtX12_readsPerson 58 rfl) (by decide) (by first | assumption | exact ⟨by omega, by omega⟩) (fun c1 => ?_) (fun c1 => absurd c1 (by omega))
    refine K_aload_n (dt_at dtX12_readsPerson 90 rfl) rfl rfl ?_
    have Aq12 : MEr hq10 tp n ekq1 := (MEr_up Bq1 (FL_tr (FL_tr (FL_tr (FL_tr (FL_tr (FL_tr (FL_rf : FL [11, 12, 13, 14] [(0, 25)] [] hcq1 hcq1) (FL_eA eq2 rfl)) (FL_eA eq4 rfl)) (FL_eA eq6 rfl)) (FL_eA eq8 rfl)) (FL_eA eq9 rfl)) (FL_eA eq10 rfl)) rfl rfl)
    refine K_callV (M' := mX12_isGood) (a := 0) (ci := 12) (As := []) (st := []) (dt_at dtX12_readsPerson 91 rfl) (good_f Aq12.2.2.2.1 Aq12.2.2.1) (show TT 0 = (0, 12) from rfl) rfl wL_X12_164 vX12_isGood rfl npX12_isGood (by decide) (by decide) (Nat.le_of_ble_eq_true rfl) (by decide) (by decide) GK_E (fun v9 h9 hq => ?_) (fun E h9 hq => by cases hq.1)
    obtain ⟨e9, e8⟩ := hq
    cases e9
    rw [e8]
    show K mX12_readsPerson _ _ 0 0 155 [(1, vi (np : Int)), (0, vr 0)] [vi 0] hq10
    refine K_if_eq (tgt := 168) (dt_at dtX12_readsPerson 92 rfl) (by decide) (by first | assumption | exact ⟨by omega, by omega⟩) (fun c2 => ?_) (fun c2 => absurd c2 (by omega))
    have FE : MEr hq10 tp n ekq1 := (MEr_up Bq1 (FL_tr (FL_tr (FL_tr (FL_tr (FL_tr (FL_tr (FL_rf : FL [11, 12, 13, 14] [(0, 25)] [] hcq1 hcq1) (FL_eA eq2 rfl)) (FL_eA eq4 rfl)) (FL_eA eq6 rfl)) (FL_eA eq8 rfl)) (FL_eA eq9 rfl)) (FL_eA eq10 rfl)) rfl rfl)
    exact K_vret (dt_at dtX12_readsPerson 99 rfl) rfl (by decide) (by decide) ⟨rfl, by simp only [peN, uq1]; exact FE, (FL_tr (FL_tr (FL_tr (FL_tr (FL_tr (FL_tr (FL_tr (FL_rf : FL [11, 12, 13, 14] ((0, 25) :: MRl) [] h h) (FL_up Fq1 rfl rfl rfl)) (FL_eA eq2 rfl)) (FL_eA eq4 rfl)) (FL_eA eq6 rfl)) (FL_eA eq8 rfl)) (FL_eA eq9 rfl)) (FL_eA eq10 rfl))⟩
  · rw [uq1] at Nq1
    obtain ⟨eyq1, Bq1⟩ := Nq1
    have ezq1 : xq1 = vq1 := by injection eyq1 with z; injection z with z; injection z
    show K mX12_readsPerson _ _ 0 0 17 [(1, vi (np : Int)), (0, vr 0)] [vi xq1, vi (np : Int), vr 11] hcq1
    rw [ezq1]
    have bq1 := nuP_b uq1
    refine K_iast (dt_at dtX12_readsPerson 10 rfl) (show TT 11 = (1, 7) from rfl) (by omega) (by omega) ?_
    obtain ⟨hq13, eq13⟩ : ∃ z, z = sA hcq1 11 (np : Int) vq1 := ⟨_, rfl⟩
    rw [← eq13]
    obtain ⟨aq13, fq13, iq13, rq13⟩ := sA_fx eq13
    rw [(Fq1.1 11 rfl)] at aq13
    refine K_aload_n (dt_at dtX12_readsPerson 11 rfl) rfl rfl ?_
    refine K_get (a := 0) (ci := 12) (k := 36) (v := vr 12) (dt_at dtX12_readsPerson 12 rfl) (show TT 0 = (0, 12) from rfl) rfl (by decide) wF_X12_53 rfl ?_
    refine K_iload_n (dt_at dtX12_readsPerson 13 rfl) rfl rfl ?_
    refine K_aload_n (dt_at dtX12_readsPerson 14 rfl) rfl rfl ?_
    refine K_iconst (dt_at dtX12_readsPerson 15 rfl) ?_
    refine K_bipush (dt_at dtX12_readsPerson 16 rfl) (by decide) ?_
    have Aq14 : MGd hq13 tp n pq1 := (MGd_up Bq1 (FL_tr (FL_rf : FL [11, 12, 13, 14] [(0, 25)] [] hcq1 hcq1) (FL_eA eq13 rfl)) rfl rfl)
    refine K_callV (M' := mX12_number) (a := 0) (ci := 12) (As := [vi 2, vi 9]) (st := [vi (np : Int), vr 12]) (dt_at dtX12_readsPerson 17 rfl) (number_P Aq14 ⟨by omega, by omega⟩ ⟨by omega, by omega⟩) (show TT 0 = (0, 12) from rfl) rfl wL_X12_230 vX12_number rfl npX12_number (by decide) (by decide) (Nat.le_of_ble_eq_true rfl) (by decide) (by decide) GK_E (fun v9 hcq14 hq => ?_) (fun E h9 hq => by obtain ⟨⟨_, e9⟩, _⟩ := hq; cases e9)
    obtain ⟨⟨xq14, exq14⟩, Nq14, Fq14⟩ := hq
    cases exq14
    rcases uq14 : nuP tp n 2 9 pq1 with ekq14 | ⟨vq14, pq14⟩
    · rw [uq14] at Nq14
      have Bq14 : MEr hcq14 tp n ekq14 := Nq14
      show K mX12_readsPerson _ _ 0 0 30 [(1, vi (np : Int)), (0, vr 0)] [vi xq14, vi (np : Int), vr 12] hcq14
      refine K_iast (dt_at dtX12_readsPerson 18 rfl) (show TT 12 = (1, 7) from rfl) (by omega) (by omega) ?_
      obtain ⟨hq15, eq15⟩ : ∃ z, z = sA hcq14 12 (np : Int) xq14 := ⟨_, rfl⟩
      rw [← eq15]
      obtain ⟨aq15, fq15, iq15, rq15⟩ := sA_fx eq15
      rw [(Fq14.1 12 rfl), (fq13 12 (by omega)), (Fq1.1 12 rfl)] at aq15
      refine K_aload_n (dt_at dtX12_readsPerson 19 rfl) rfl rfl ?_
      refine K_get (a := 0) (ci := 12) (k := 37) (v := vr 13) (dt_at dtX12_readsPerson 20 rfl) (show TT 0 = (0, 12) from rfl) rfl (by decide) wF_X12_56 rfl ?_
      refine K_iload_n (dt_at dtX12_readsPerson 21 rfl) rfl rfl ?_
      refine K_aload_n (dt_at dtX12_readsPerson 22 rfl) rfl rfl ?_
      refine K_iconst (dt_at dtX12_readsPerson 23 rfl) ?_
      refine K_aload_n (dt_at dtX12_readsPerson 24 rfl) rfl rfl ?_
      refine K_get (a := 0) (ci := 12) (k := 36) (v := vr 12) (dt_at dtX12_readsPerson 25 rfl) (show TT 0 = (0, 12) from rfl) rfl (by decide) wF_X12_53 rfl ?_
      refine K_iload_n (dt_at dtX12_readsPerson 26 rfl) rfl rfl ?_
      refine K_iald (dt_at dtX12_readsPerson 27 rfl) (show TT 12 = (1, 7) from rfl) (by omega) (by omega) ?_
      rw [aq15]
      refine K_iconst (dt_at dtX12_readsPerson 28 rfl) ?_
      refine K_isub (dt_at dtX12_readsPerson 29 rfl) ?_
      have Aq16 : MEr hq15 tp n ekq14 := (MEr_up Bq14 (FL_tr (FL_rf : FL [11, 12, 13, 14] [(0, 25)] [] hcq14 hcq14) (FL_eA eq15 rfl)) rfl rfl)
      refine K_callV (M' := mX12_number) (a := 0) (ci := 12) (As := [vi 1, vi (((upI (hA h 12) (np : Int) xq14) (np : Int)) - 1)]) (st := [vi (np : Int), vr 13]) (dt_at dtX12_readsPerson 30 rfl) (number_e Aq16) (show TT 0 = (0, 12) from rfl) rfl wL_X12_230 vX12_number rfl npX12_number (by decide) (by decide) (Nat.le_of_ble_eq_true rfl) (by decide) (by decide) GK_E (fun v9 h9 hq => ?_) (fun E h9 hq => by cases hq.1)
      obtain ⟨e9, e8⟩ := hq
      cases e9
      rw [e8]
      show K mX12_readsPerson _ _ 0 0 49 [(1, vi (np : Int)), (0, vr 0)] [vi 0, vi (np : Int), vr 13] hq15
      refine K_iast (dt_at dtX12_readsPerson 31 rfl) (show TT 13 = (1, 7) from rfl) (by omega) (by omega) ?_
      obtain ⟨hq17, eq17⟩ : ∃ z, z = sA hq15 13 (np : Int) 0 := ⟨_, rfl⟩
      rw [← eq17]
      obtain ⟨aq17, fq17, iq17, rq17⟩ := sA_fx eq17
      rw [(fq15 13 (by omega)), (Fq14.1 13 rfl), (fq13 13 (by omega)), (Fq1.1 13 rfl)] at aq17
      refine K_aload_n (dt_at dtX12_readsPerson 32 rfl) rfl rfl ?_
      refine K_get (a := 0) (ci := 12) (k := 38) (v := vr 14) (dt_at dtX12_readsPerson 33 rfl) (show TT 0 = (0, 12) from rfl) rfl (by decide) wF_X12_59 rfl ?_
      refine K_bipush (dt_at dtX12_readsPerson 34 rfl) (by decide) ?_
      refine K_iload_n (dt_at dtX12_readsPerson 35 rfl) rfl rfl ?_
      refine K_iadd (dt_at dtX12_readsPerson 36 rfl) ?_
      refine K_aload_n (dt_at dtX12_readsPerson 37 rfl) rfl rfl ?_
      refine K_iconst (dt_at dtX12_readsPerson 38 rfl) ?_
      refine K_bipush (dt_at dtX12_readsPerson 39 rfl) (by decide) ?_
      have Aq18 : MEr hq17 tp n ekq14 := (MEr_up Bq14 (FL_tr (FL_tr (FL_rf : FL [11, 12, 13, 14] [(0, 25)] [] hcq14 hcq14) (FL_eA eq15 rfl)) (FL_eA eq17 rfl)) rfl rfl)
      refine K_callV (M' := mX12_number) (a := 0) (ci := 12) (As := [vi 0, vi 9]) (st := [vi (63 + (np : Int)), vr 14]) (dt_at dtX12_readsPerson 40 rfl) (number_e Aq18) (show TT 0 = (0, 12) from rfl) rfl wL_X12_230 vX12_number rfl npX12_number (by decide) (by decide) (Nat.le_of_ble_eq_true rfl) (by decide) (by decide) GK_E (fun v9 h9 hq => ?_) (fun E h9 hq => by cases hq.1)
      obtain ⟨e9, e8⟩ := hq
      cases e9
      rw [e8]
      show K mX12_readsPerson _ _ 0 0 65 [(1, vi (np : Int)), (0, vr 0)] [vi 0, vi (63 + (np : Int)), vr 14] hq17
      refine K_iast (dt_at dtX12_readsPerson 41 rfl) (show TT 14 = (1, 77) from rfl) (by omega) (by omega) ?_
      obtain ⟨hq19, eq19⟩ : ∃ z, z = sA hq17 14 (63 + (np : Int)) 0 := ⟨_, rfl⟩
      rw [← eq19]
      obtain ⟨aq19, fq19, iq19, rq19⟩ := sA_fx eq19
      rw [(fq17 14 (by omega)), (fq15 14 (by omega)), (Fq14.1 14 rfl), (fq13 14 (by omega)), (Fq1.1 14 rfl)] at aq19
      refine K_aload_n (dt_at dtX12_readsPerson 42 rfl) rfl rfl ?_
      refine K_get (a := 0) (ci := 12) (k := 38) (v := vr 14) (dt_at dtX12_readsPerson 43 rfl) (show TT 0 = (0, 12) from rfl) rfl (by decide) wF_X12_59 rfl ?_
      refine K_bipush (dt_at dtX12_readsPerson 44 rfl) (by decide) ?_
      refine K_iload_n (dt_at dtX12_readsPerson 45 rfl) rfl rfl ?_
      refine K_iadd (dt_at dtX12_readsPerson 46 rfl) ?_
      refine K_iconst (dt_at dtX12_readsPerson 47 rfl) ?_
      refine K_iast (dt_at dtX12_readsPerson 48 rfl) (show TT 14 = (1, 77) from rfl) (by omega) (by omega) ?_
      obtain ⟨hq20, eq20⟩ : ∃ z, z = sA hq19 14 (70 + (np : Int)) (-1) := ⟨_, rfl⟩
      rw [← eq20]
      obtain ⟨aq20, fq20, iq20, rq20⟩ := sA_fx eq20
      rw [aq19] at aq20
      refine K_aload_n (dt_at dtX12_readsPerson 49 rfl) rfl rfl ?_
      refine K_get (a := 0) (ci := 12) (k := 38) (v := vr 14) (dt_at dtX12_readsPerson 50 rfl) (show TT 0 = (0, 12) from rfl) rfl (by decide) wF_X12_59 rfl ?_
      refine K_bipush (dt_at dtX12_readsPerson 51 rfl) (by decide) ?_
      refine K_iload_n (dt_at dtX12_readsPerson 52 rfl) rfl rfl ?_
      refine K_iadd (dt_at dtX12_readsPerson 53 rfl) ?_
      refine K_iload_n (dt_at dtX12_readsPerson 54 rfl) rfl rfl ?_
      refine K_iast (dt_at dtX12_readsPerson 55 rfl) (show TT 14 = (1, 77) from rfl) (by omega) (by omega) ?_
      obtain ⟨hq21, eq21⟩ : ∃ z, z = sA hq20 14 (8 + (np : Int)) (np : Int) := ⟨_, rfl⟩
      rw [← eq21]
      obtain ⟨aq21, fq21, iq21, rq21⟩ := sA_fx eq21
      rw [aq20] at aq21
      refine K_aload_n (dt_at dtX12_readsPerson 56 rfl) rfl rfl ?_
      have Aq22 : MEr hq21 tp n ekq14 := (MEr_up Bq14 (FL_tr (FL_tr (FL_tr (FL_tr (FL_tr (FL_rf : FL [11, 12, 13, 14] [(0, 25)] [] hcq14 hcq14) (FL_eA eq15 rfl)) (FL_eA eq17 rfl)) (FL_eA eq19 rfl)) (FL_eA eq20 rfl)) (FL_eA eq21 rfl)) rfl rfl)
      refine K_callV (M' := mX12_isGood) (a := 0) (ci := 12) (As := []) (st := []) (dt_at dtX12_readsPerson 57 rfl) (good_f Aq22.2.2.2.1 Aq22.2.2.1) (show TT 0 = (0, 12) from rfl) rfl wL_X12_164 vX12_isGood rfl npX12_isGood (by decide) (by decide) (Nat.le_of_ble_eq_true rfl) (by decide) (by decide) GK_E (fun v9 h9 hq => ?_) (fun E h9 hq => by cases hq.1)
      obtain ⟨e9, e8⟩ := hq
      cases e9
      rw [e8]
      show K mX12_readsPerson _ _ 0 0 90 [(1, vi (np : Int)), (0, vr 0)] [vi 0] hq21
      refine K_if_eq (tgt := 151) (dt_at dtX12_readsPerson 58 rfl) (by decide) (by first | assumption | exact ⟨by omega, by omega⟩) (fun c3 => ?_) (fun c3 => absurd c3 (by omega))
      refine K_aload_n (dt_at dtX12_readsPerson 90 rfl) rfl rfl ?_
      have Aq23 : MEr hq21 tp n ekq14 := (MEr_up Bq14 (FL_tr (FL_tr (FL_tr (FL_tr (FL_tr (FL_rf : FL [11, 12, 13, 14] [(0, 25)] [] hcq14 hcq14) (FL_eA eq15 rfl)) (FL_eA eq17 rfl)) (FL_eA eq19 rfl)) (FL_eA eq20 rfl)) (FL_eA eq21 rfl)) rfl rfl)
      refine K_callV (M' := mX12_isGood) (a := 0) (ci := 12) (As := []) (st := []) (dt_at dtX12_readsPerson 91 rfl) (good_f Aq23.2.2.2.1 Aq23.2.2.1) (show TT 0 = (0, 12) from rfl) rfl wL_X12_164 vX12_isGood rfl npX12_isGood (by decide) (by decide) (Nat.le_of_ble_eq_true rfl) (by decide) (by decide) GK_E (fun v9 h9 hq => ?_) (fun E h9 hq => by cases hq.1)
      obtain ⟨e9, e8⟩ := hq
      cases e9
      rw [e8]
      show K mX12_readsPerson _ _ 0 0 155 [(1, vi (np : Int)), (0, vr 0)] [vi 0] hq21
      refine K_if_eq (tgt := 168) (dt_at dtX12_readsPerson 92 rfl) (by decide) (by first | assumption | exact ⟨by omega, by omega⟩) (fun c4 => ?_) (fun c4 => absurd c4 (by omega))
      have FE : MEr hq21 tp n ekq14 := (MEr_up Bq14 (FL_tr (FL_tr (FL_tr (FL_tr (FL_tr (FL_rf : FL [11, 12, 13, 14] [(0, 25)] [] hcq14 hcq14) (FL_eA eq15 rfl)) (FL_eA eq17 rfl)) (FL_eA eq19 rfl)) (FL_eA eq20 rfl)) (FL_eA eq21 rfl)) rfl rfl)
      exact K_vret (dt_at dtX12_readsPerson 99 rfl) rfl (by decide) (by decide) ⟨rfl, by simp only [peN, uq1, uq14]; exact FE, (FL_tr (FL_tr (FL_tr (FL_tr (FL_tr (FL_tr (FL_tr (FL_tr (FL_rf : FL [11, 12, 13, 14] ((0, 25) :: MRl) [] h h) (FL_up Fq1 rfl rfl rfl)) (FL_eA eq13 rfl)) (FL_up Fq14 rfl rfl rfl)) (FL_eA eq15 rfl)) (FL_eA eq17 rfl)) (FL_eA eq19 rfl)) (FL_eA eq20 rfl)) (FL_eA eq21 rfl))⟩
    · rw [uq14] at Nq14
      obtain ⟨eyq14, Bq14⟩ := Nq14
      have ezq14 : xq14 = vq14 := by injection eyq14 with z; injection z with z; injection z
      show K mX12_readsPerson _ _ 0 0 30 [(1, vi (np : Int)), (0, vr 0)] [vi xq14, vi (np : Int), vr 12] hcq14
      rw [ezq14]
      have bq14 := nuP_b uq14
      refine K_iast (dt_at dtX12_readsPerson 18 rfl) (show TT 12 = (1, 7) from rfl) (by omega) (by omega) ?_
      obtain ⟨hq24, eq24⟩ : ∃ z, z = sA hcq14 12 (np : Int) vq14 := ⟨_, rfl⟩
      rw [← eq24]
      obtain ⟨aq24, fq24, iq24, rq24⟩ := sA_fx eq24
      rw [(Fq14.1 12 rfl), (fq13 12 (by omega)), (Fq1.1 12 rfl)] at aq24
      refine K_aload_n (dt_at dtX12_readsPerson 19 rfl) rfl rfl ?_
      refine K_get (a := 0) (ci := 12) (k := 37) (v := vr 13) (dt_at dtX12_readsPerson 20 rfl) (show TT 0 = (0, 12) from rfl) rfl (by decide) wF_X12_56 rfl ?_
      refine K_iload_n (dt_at dtX12_readsPerson 21 rfl) rfl rfl ?_
      refine K_aload_n (dt_at dtX12_readsPerson 22 rfl) rfl rfl ?_
      refine K_iconst (dt_at dtX12_readsPerson 23 rfl) ?_
      refine K_aload_n (dt_at dtX12_readsPerson 24 rfl) rfl rfl ?_
      refine K_get (a := 0) (ci := 12) (k := 36) (v := vr 12) (dt_at dtX12_readsPerson 25 rfl) (show TT 0 = (0, 12) from rfl) rfl (by decide) wF_X12_53 rfl ?_
      refine K_iload_n (dt_at dtX12_readsPerson 26 rfl) rfl rfl ?_
      refine K_iald (dt_at dtX12_readsPerson 27 rfl) (show TT 12 = (1, 7) from rfl) (by omega) (by omega) ?_
      rw [aq24]
      rw [upI_me]
      refine K_iconst (dt_at dtX12_readsPerson 28 rfl) ?_
      refine K_isub (dt_at dtX12_readsPerson 29 rfl) ?_
      have Aq25 : MGd hq24 tp n pq14 := (MGd_up Bq14 (FL_tr (FL_rf : FL [11, 12, 13, 14] [(0, 25)] [] hcq14 hcq14) (FL_eA eq24 rfl)) rfl rfl)
      refine K_callV (M' := mX12_number) (a := 0) (ci := 12) (As := [vi 1, vi (vq14 - 1)]) (st := [vi (np : Int), vr 13]) (dt_at dtX12_readsPerson 30 rfl) (number_P Aq25 ⟨by omega, by omega⟩ ⟨by omega, by omega⟩) (show TT 0 = (0, 12) from rfl) rfl wL_X12_230 vX12_number rfl npX12_number (by decide) (by decide) (Nat.le_of_ble_eq_true rfl) (by decide) (by decide) GK_E (fun v9 hcq25 hq => ?_) (fun E h9 hq => by obtain ⟨⟨_, e9⟩, _⟩ := hq; cases e9)
      obtain ⟨⟨xq25, exq25⟩, Nq25, Fq25⟩ := hq
      cases exq25
      rcases uq25 : nuP tp n 1 (vq14 - 1) pq14 with ekq25 | ⟨vq25, pq25⟩
      · rw [uq25] at Nq25
        have Bq25 : MEr hcq25 tp n ekq25 := Nq25
        show K mX12_readsPerson _ _ 0 0 49 [(1, vi (np : Int)), (0, vr 0)] [vi xq25, vi (np : Int), vr 13] hcq25
        refine K_iast (dt_at dtX12_readsPerson 31 rfl) (show TT 13 = (1, 7) from rfl) (by omega) (by omega) ?_
        obtain ⟨hq26, eq26⟩ : ∃ z, z = sA hcq25 13 (np : Int) xq25 := ⟨_, rfl⟩
        rw [← eq26]
        obtain ⟨aq26, fq26, iq26, rq26⟩ := sA_fx eq26
        rw [(Fq25.1 13 rfl), (fq24 13 (by omega)), (Fq14.1 13 rfl), (fq13 13 (by omega)), (Fq1.1 13 rfl)] at aq26
        refine K_aload_n (dt_at dtX12_readsPerson 32 rfl) rfl rfl ?_
        refine K_get (a := 0) (ci := 12) (k := 38) (v := vr 14) (dt_at dtX12_readsPerson 33 rfl) (show TT 0 = (0, 12) from rfl) rfl (by decide) wF_X12_59 rfl ?_
        refine K_bipush (dt_at dtX12_readsPerson 34 rfl) (by decide) ?_
        refine K_iload_n (dt_at dtX12_readsPerson 35 rfl) rfl rfl ?_
        refine K_iadd (dt_at dtX12_readsPerson 36 rfl) ?_
        refine K_aload_n (dt_at dtX12_readsPerson 37 rfl) rfl rfl ?_
        refine K_iconst (dt_at dtX12_readsPerson 38 rfl) ?_
        refine K_bipush (dt_at dtX12_readsPerson 39 rfl) (by decide) ?_
        have Aq27 : MEr hq26 tp n ekq25 := (MEr_up Bq25 (FL_tr (FL_rf : FL [11, 12, 13, 14] [(0, 25)] [] hcq25 hcq25) (FL_eA eq26 rfl)) rfl rfl)
        refine K_callV (M' := mX12_number) (a := 0) (ci := 12) (As := [vi 0, vi 9]) (st := [vi (63 + (np : Int)), vr 14]) (dt_at dtX12_readsPerson 40 rfl) (number_e Aq27) (show TT 0 = (0, 12) from rfl) rfl wL_X12_230 vX12_number rfl npX12_number (by decide) (by decide) (Nat.le_of_ble_eq_true rfl) (by decide) (by decide) GK_E (fun v9 h9 hq => ?_) (fun E h9 hq => by cases hq.1)
        obtain ⟨e9, e8⟩ := hq
        cases e9
        rw [e8]
        show K mX12_readsPerson _ _ 0 0 65 [(1, vi (np : Int)), (0, vr 0)] [vi 0, vi (63 + (np : Int)), vr 14] hq26
        refine K_iast (dt_at dtX12_readsPerson 41 rfl) (show TT 14 = (1, 77) from rfl) (by omega) (by omega) ?_
        obtain ⟨hq28, eq28⟩ : ∃ z, z = sA hq26 14 (63 + (np : Int)) 0 := ⟨_, rfl⟩
        rw [← eq28]
        obtain ⟨aq28, fq28, iq28, rq28⟩ := sA_fx eq28
        rw [(fq26 14 (by omega)), (Fq25.1 14 rfl), (fq24 14 (by omega)), (Fq14.1 14 rfl), (fq13 14 (by omega)), (Fq1.1 14 rfl)] at aq28
        refine K_aload_n (dt_at dtX12_readsPerson 42 rfl) rfl rfl ?_
        refine K_get (a := 0) (ci := 12) (k := 38) (v := vr 14) (dt_at dtX12_readsPerson 43 rfl) (show TT 0 = (0, 12) from rfl) rfl (by decide) wF_X12_59 rfl ?_
        refine K_bipush (dt_at dtX12_readsPerson 44 rfl) (by decide) ?_
        refine K_iload_n (dt_at dtX12_readsPerson 45 rfl) rfl rfl ?_
        refine K_iadd (dt_at dtX12_readsPerson 46 rfl) ?_
        refine K_iconst (dt_at dtX12_readsPerson 47 rfl) ?_
        refine K_iast (dt_at dtX12_readsPerson 48 rfl) (show TT 14 = (1, 77) from rfl) (by omega) (by omega) ?_
        obtain ⟨hq29, eq29⟩ : ∃ z, z = sA hq28 14 (70 + (np : Int)) (-1) := ⟨_, rfl⟩
        rw [← eq29]
        obtain ⟨aq29, fq29, iq29, rq29⟩ := sA_fx eq29
        rw [aq28] at aq29
        refine K_aload_n (dt_at dtX12_readsPerson 49 rfl) rfl rfl ?_
        refine K_get (a := 0) (ci := 12) (k := 38) (v := vr 14) (dt_at dtX12_readsPerson 50 rfl) (show TT 0 = (0, 12) from rfl) rfl (by decide) wF_X12_59 rfl ?_
        refine K_bipush (dt_at dtX12_readsPerson 51 rfl) (by decide) ?_
        refine K_iload_n (dt_at dtX12_readsPerson 52 rfl) rfl rfl ?_
        refine K_iadd (dt_at dtX12_readsPerson 53 rfl) ?_
        refine K_iload_n (dt_at dtX12_readsPerson 54 rfl) rfl rfl ?_
        refine K_iast (dt_at dtX12_readsPerson 55 rfl) (show TT 14 = (1, 77) from rfl) (by omega) (by omega) ?_
        obtain ⟨hq30, eq30⟩ : ∃ z, z = sA hq29 14 (8 + (np : Int)) (np : Int) := ⟨_, rfl⟩
        rw [← eq30]
        obtain ⟨aq30, fq30, iq30, rq30⟩ := sA_fx eq30
        rw [aq29] at aq30
        refine K_aload_n (dt_at dtX12_readsPerson 56 rfl) rfl rfl ?_
        have Aq31 : MEr hq30 tp n ekq25 := (MEr_up Bq25 (FL_tr (FL_tr (FL_tr (FL_tr (FL_rf : FL [11, 12, 13, 14] [(0, 25)] [] hcq25 hcq25) (FL_eA eq26 rfl)) (FL_eA eq28 rfl)) (FL_eA eq29 rfl)) (FL_eA eq30 rfl)) rfl rfl)
        refine K_callV (M' := mX12_isGood) (a := 0) (ci := 12) (As := []) (st := []) (dt_at dtX12_readsPerson 57 rfl) (good_f Aq31.2.2.2.1 Aq31.2.2.1) (show TT 0 = (0, 12) from rfl) rfl wL_X12_164 vX12_isGood rfl npX12_isGood (by decide) (by decide) (Nat.le_of_ble_eq_true rfl) (by decide) (by decide) GK_E (fun v9 h9 hq => ?_) (fun E h9 hq => by cases hq.1)
        obtain ⟨e9, e8⟩ := hq
        cases e9
        rw [e8]
        show K mX12_readsPerson _ _ 0 0 90 [(1, vi (np : Int)), (0, vr 0)] [vi 0] hq30
        refine K_if_eq (tgt := 151) (dt_at dtX12_readsPerson 58 rfl) (by decide) (by first | assumption | exact ⟨by omega, by omega⟩) (fun c5 => ?_) (fun c5 => absurd c5 (by omega))
        refine K_aload_n (dt_at dtX12_readsPerson 90 rfl) rfl rfl ?_
        have Aq32 : MEr hq30 tp n ekq25 := (MEr_up Bq25 (FL_tr (FL_tr (FL_tr (FL_tr (FL_rf : FL [11, 12, 13, 14] [(0, 25)] [] hcq25 hcq25) (FL_eA eq26 rfl)) (FL_eA eq28 rfl)) (FL_eA eq29 rfl)) (FL_eA eq30 rfl)) rfl rfl)
        refine K_callV (M' := mX12_isGood) (a := 0) (ci := 12) (As := []) (st := []) (dt_at dtX12_readsPerson 91 rfl) (good_f Aq32.2.2.2.1 Aq32.2.2.1) (show TT 0 = (0, 12) from rfl) rfl wL_X12_164 vX12_isGood rfl npX12_isGood (by decide) (by decide) (Nat.le_of_ble_eq_true rfl) (by decide) (by decide) GK_E (fun v9 h9 hq => ?_) (fun E h9 hq => by cases hq.1)
        obtain ⟨e9, e8⟩ := hq
        cases e9
        rw [e8]
        show K mX12_readsPerson _ _ 0 0 155 [(1, vi (np : Int)), (0, vr 0)] [vi 0] hq30
        refine K_if_eq (tgt := 168) (dt_at dtX12_readsPerson 92 rfl) (by decide) (by first | assumption | exact ⟨by omega, by omega⟩) (fun c6 => ?_) (fun c6 => absurd c6 (by omega))
        have FE : MEr hq30 tp n ekq25 := (MEr_up Bq25 (FL_tr (FL_tr (FL_tr (FL_tr (FL_rf : FL [11, 12, 13, 14] [(0, 25)] [] hcq25 hcq25) (FL_eA eq26 rfl)) (FL_eA eq28 rfl)) (FL_eA eq29 rfl)) (FL_eA eq30 rfl)) rfl rfl)
        exact K_vret (dt_at dtX12_readsPerson 99 rfl) rfl (by decide) (by decide) ⟨rfl, by simp only [peN, uq1, uq14, uq25]; exact FE, (FL_tr (FL_tr (FL_tr (FL_tr (FL_tr (FL_tr (FL_tr (FL_tr (FL_tr (FL_rf : FL [11, 12, 13, 14] ((0, 25) :: MRl) [] h h) (FL_up Fq1 rfl rfl rfl)) (FL_eA eq13 rfl)) (FL_up Fq14 rfl rfl rfl)) (FL_eA eq24 rfl)) (FL_up Fq25 rfl rfl rfl)) (FL_eA eq26 rfl)) (FL_eA eq28 rfl)) (FL_eA eq29 rfl)) (FL_eA eq30 rfl))⟩
      · rw [uq25] at Nq25
        obtain ⟨eyq25, Bq25⟩ := Nq25
        have ezq25 : xq25 = vq25 := by injection eyq25 with z; injection z with z; injection z
        show K mX12_readsPerson _ _ 0 0 49 [(1, vi (np : Int)), (0, vr 0)] [vi xq25, vi (np : Int), vr 13] hcq25
        rw [ezq25]
        have bq25 := nuP_b uq25
        refine K_iast (dt_at dtX12_readsPerson 31 rfl) (show TT 13 = (1, 7) from rfl) (by omega) (by omega) ?_
        obtain ⟨hq33, eq33⟩ : ∃ z, z = sA hcq25 13 (np : Int) vq25 := ⟨_, rfl⟩
        rw [← eq33]
        obtain ⟨aq33, fq33, iq33, rq33⟩ := sA_fx eq33
        rw [(Fq25.1 13 rfl), (fq24 13 (by omega)), (Fq14.1 13 rfl), (fq13 13 (by omega)), (Fq1.1 13 rfl)] at aq33
        refine K_aload_n (dt_at dtX12_readsPerson 32 rfl) rfl rfl ?_
        refine K_get (a := 0) (ci := 12) (k := 38) (v := vr 14) (dt_at dtX12_readsPerson 33 rfl) (show TT 0 = (0, 12) from rfl) rfl (by decide) wF_X12_59 rfl ?_
        refine K_bipush (dt_at dtX12_readsPerson 34 rfl) (by decide) ?_
        refine K_iload_n (dt_at dtX12_readsPerson 35 rfl) rfl rfl ?_
        refine K_iadd (dt_at dtX12_readsPerson 36 rfl) ?_
        refine K_aload_n (dt_at dtX12_readsPerson 37 rfl) rfl rfl ?_
        refine K_iconst (dt_at dtX12_readsPerson 38 rfl) ?_
        refine K_bipush (dt_at dtX12_readsPerson 39 rfl) (by decide) ?_
        have Aq34 : MGd hq33 tp n pq25 := (MGd_up Bq25 (FL_tr (FL_rf : FL [11, 12, 13, 14] [(0, 25)] [] hcq25 hcq25) (FL_eA eq33 rfl)) rfl rfl)
        refine K_callV (M' := mX12_number) (a := 0) (ci := 12) (As := [vi 0, vi 9]) (st := [vi (63 + (np : Int)), vr 14]) (dt_at dtX12_readsPerson 40 rfl) (number_P Aq34 ⟨by omega, by omega⟩ ⟨by omega, by omega⟩) (show TT 0 = (0, 12) from rfl) rfl wL_X12_230 vX12_number rfl npX12_number (by decide) (by decide) (Nat.le_of_ble_eq_true rfl) (by decide) (by decide) GK_E (fun v9 hcq34 hq => ?_) (fun E h9 hq => by obtain ⟨⟨_, e9⟩, _⟩ := hq; cases e9)
        obtain ⟨⟨xq34, exq34⟩, Nq34, Fq34⟩ := hq
        cases exq34
        rcases uq34 : nuP tp n 0 9 pq25 with ekq34 | ⟨vq34, pq34⟩
        · rw [uq34] at Nq34
          have Bq34 : MEr hcq34 tp n ekq34 := Nq34
          show K mX12_readsPerson _ _ 0 0 65 [(1, vi (np : Int)), (0, vr 0)] [vi xq34, vi (63 + (np : Int)), vr 14] hcq34
          refine K_iast (dt_at dtX12_readsPerson 41 rfl) (show TT 14 = (1, 77) from rfl) (by omega) (by omega) ?_
          obtain ⟨hq35, eq35⟩ : ∃ z, z = sA hcq34 14 (63 + (np : Int)) xq34 := ⟨_, rfl⟩
          rw [← eq35]
          obtain ⟨aq35, fq35, iq35, rq35⟩ := sA_fx eq35
          rw [(Fq34.1 14 rfl), (fq33 14 (by omega)), (Fq25.1 14 rfl), (fq24 14 (by omega)), (Fq14.1 14 rfl), (fq13 14 (by omega)), (Fq1.1 14 rfl)] at aq35
          refine K_aload_n (dt_at dtX12_readsPerson 42 rfl) rfl rfl ?_
          refine K_get (a := 0) (ci := 12) (k := 38) (v := vr 14) (dt_at dtX12_readsPerson 43 rfl) (show TT 0 = (0, 12) from rfl) rfl (by decide) wF_X12_59 rfl ?_
          refine K_bipush (dt_at dtX12_readsPerson 44 rfl) (by decide) ?_
          refine K_iload_n (dt_at dtX12_readsPerson 45 rfl) rfl rfl ?_
          refine K_iadd (dt_at dtX12_readsPerson 46 rfl) ?_
          refine K_iconst (dt_at dtX12_readsPerson 47 rfl) ?_
          refine K_iast (dt_at dtX12_readsPerson 48 rfl) (show TT 14 = (1, 77) from rfl) (by omega) (by omega) ?_
          obtain ⟨hq36, eq36⟩ : ∃ z, z = sA hq35 14 (70 + (np : Int)) (-1) := ⟨_, rfl⟩
          rw [← eq36]
          obtain ⟨aq36, fq36, iq36, rq36⟩ := sA_fx eq36
          rw [aq35] at aq36
          refine K_aload_n (dt_at dtX12_readsPerson 49 rfl) rfl rfl ?_
          refine K_get (a := 0) (ci := 12) (k := 38) (v := vr 14) (dt_at dtX12_readsPerson 50 rfl) (show TT 0 = (0, 12) from rfl) rfl (by decide) wF_X12_59 rfl ?_
          refine K_bipush (dt_at dtX12_readsPerson 51 rfl) (by decide) ?_
          refine K_iload_n (dt_at dtX12_readsPerson 52 rfl) rfl rfl ?_
          refine K_iadd (dt_at dtX12_readsPerson 53 rfl) ?_
          refine K_iload_n (dt_at dtX12_readsPerson 54 rfl) rfl rfl ?_
          refine K_iast (dt_at dtX12_readsPerson 55 rfl) (show TT 14 = (1, 77) from rfl) (by omega) (by omega) ?_
          obtain ⟨hq37, eq37⟩ : ∃ z, z = sA hq36 14 (8 + (np : Int)) (np : Int) := ⟨_, rfl⟩
          rw [← eq37]
          obtain ⟨aq37, fq37, iq37, rq37⟩ := sA_fx eq37
          rw [aq36] at aq37
          refine K_aload_n (dt_at dtX12_readsPerson 56 rfl) rfl rfl ?_
          have Aq38 : MEr hq37 tp n ekq34 := (MEr_up Bq34 (FL_tr (FL_tr (FL_tr (FL_rf : FL [11, 12, 13, 14] [(0, 25)] [] hcq34 hcq34) (FL_eA eq35 rfl)) (FL_eA eq36 rfl)) (FL_eA eq37 rfl)) rfl rfl)
          refine K_callV (M' := mX12_isGood) (a := 0) (ci := 12) (As := []) (st := []) (dt_at dtX12_readsPerson 57 rfl) (good_f Aq38.2.2.2.1 Aq38.2.2.1) (show TT 0 = (0, 12) from rfl) rfl wL_X12_164 vX12_isGood rfl npX12_isGood (by decide) (by decide) (Nat.le_of_ble_eq_true rfl) (by decide) (by decide) GK_E (fun v9 h9 hq => ?_) (fun E h9 hq => by cases hq.1)
          obtain ⟨e9, e8⟩ := hq
          cases e9
          rw [e8]
          show K mX12_readsPerson _ _ 0 0 90 [(1, vi (np : Int)), (0, vr 0)] [vi 0] hq37
          refine K_if_eq (tgt := 151) (dt_at dtX12_readsPerson 58 rfl) (by decide) (by first | assumption | exact ⟨by omega, by omega⟩) (fun c7 => ?_) (fun c7 => absurd c7 (by omega))
          refine K_aload_n (dt_at dtX12_readsPerson 90 rfl) rfl rfl ?_
          have Aq39 : MEr hq37 tp n ekq34 := (MEr_up Bq34 (FL_tr (FL_tr (FL_tr (FL_rf : FL [11, 12, 13, 14] [(0, 25)] [] hcq34 hcq34) (FL_eA eq35 rfl)) (FL_eA eq36 rfl)) (FL_eA eq37 rfl)) rfl rfl)
          refine K_callV (M' := mX12_isGood) (a := 0) (ci := 12) (As := []) (st := []) (dt_at dtX12_readsPerson 91 rfl) (good_f Aq39.2.2.2.1 Aq39.2.2.1) (show TT 0 = (0, 12) from rfl) rfl wL_X12_164 vX12_isGood rfl npX12_isGood (by decide) (by decide) (Nat.le_of_ble_eq_true rfl) (by decide) (by decide) GK_E (fun v9 h9 hq => ?_) (fun E h9 hq => by cases hq.1)
          obtain ⟨e9, e8⟩ := hq
          cases e9
          rw [e8]
          show K mX12_readsPerson _ _ 0 0 155 [(1, vi (np : Int)), (0, vr 0)] [vi 0] hq37
          refine K_if_eq (tgt := 168) (dt_at dtX12_readsPerson 92 rfl) (by decide) (by first | assumption | exact ⟨by omega, by omega⟩) (fun c8 => ?_) (fun c8 => absurd c8 (by omega))
          have FE : MEr hq37 tp n ekq34 := (MEr_up Bq34 (FL_tr (FL_tr (FL_tr (FL_rf : FL [11, 12, 13, 14] [(0, 25)] [] hcq34 hcq34) (FL_eA eq35 rfl)) (FL_eA eq36 rfl)) (FL_eA eq37 rfl)) rfl rfl)
          exact K_vret (dt_at dtX12_readsPerson 99 rfl) rfl (by decide) (by decide) ⟨rfl, by simp only [peN, uq1, uq14, uq25, uq34]; exact FE, (FL_tr (FL_tr (FL_tr (FL_tr (FL_tr (FL_tr (FL_tr (FL_tr (FL_tr (FL_tr (FL_rf : FL [11, 12, 13, 14] ((0, 25) :: MRl) [] h h) (FL_up Fq1 rfl rfl rfl)) (FL_eA eq13 rfl)) (FL_up Fq14 rfl rfl rfl)) (FL_eA eq24 rfl)) (FL_up Fq25 rfl rfl rfl)) (FL_eA eq33 rfl)) (FL_up Fq34 rfl rfl rfl)) (FL_eA eq35 rfl)) (FL_eA eq36 rfl)) (FL_eA eq37 rfl))⟩
        · rw [uq34] at Nq34
          obtain ⟨eyq34, Bq34⟩ := Nq34
          have ezq34 : xq34 = vq34 := by injection eyq34 with z; injection z with z; injection z
          show K mX12_readsPerson _ _ 0 0 65 [(1, vi (np : Int)), (0, vr 0)] [vi xq34, vi (63 + (np : Int)), vr 14] hcq34
          rw [ezq34]
          have bq34 := nuP_b uq34
          refine K_iast (dt_at dtX12_readsPerson 41 rfl) (show TT 14 = (1, 77) from rfl) (by omega) (by omega) ?_
          obtain ⟨hq40, eq40⟩ : ∃ z, z = sA hcq34 14 (63 + (np : Int)) vq34 := ⟨_, rfl⟩
          rw [← eq40]
          obtain ⟨aq40, fq40, iq40, rq40⟩ := sA_fx eq40
          rw [(Fq34.1 14 rfl), (fq33 14 (by omega)), (Fq25.1 14 rfl), (fq24 14 (by omega)), (Fq14.1 14 rfl), (fq13 14 (by omega)), (Fq1.1 14 rfl)] at aq40
          refine K_aload_n (dt_at dtX12_readsPerson 42 rfl) rfl rfl ?_
          refine K_get (a := 0) (ci := 12) (k := 38) (v := vr 14) (dt_at dtX12_readsPerson 43 rfl) (show TT 0 = (0, 12) from rfl) rfl (by decide) wF_X12_59 rfl ?_
          refine K_bipush (dt_at dtX12_readsPerson 44 rfl) (by decide) ?_
          refine K_iload_n (dt_at dtX12_readsPerson 45 rfl) rfl rfl ?_
          refine K_iadd (dt_at dtX12_readsPerson 46 rfl) ?_
          refine K_iconst (dt_at dtX12_readsPerson 47 rfl) ?_
          refine K_iast (dt_at dtX12_readsPerson 48 rfl) (show TT 14 = (1, 77) from rfl) (by omega) (by omega) ?_
          obtain ⟨hq41, eq41⟩ : ∃ z, z = sA hq40 14 (70 + (np : Int)) (-1) := ⟨_, rfl⟩
          rw [← eq41]
          obtain ⟨aq41, fq41, iq41, rq41⟩ := sA_fx eq41
          rw [aq40] at aq41
          refine K_aload_n (dt_at dtX12_readsPerson 49 rfl) rfl rfl ?_
          refine K_get (a := 0) (ci := 12) (k := 38) (v := vr 14) (dt_at dtX12_readsPerson 50 rfl) (show TT 0 = (0, 12) from rfl) rfl (by decide) wF_X12_59 rfl ?_
          refine K_bipush (dt_at dtX12_readsPerson 51 rfl) (by decide) ?_
          refine K_iload_n (dt_at dtX12_readsPerson 52 rfl) rfl rfl ?_
          refine K_iadd (dt_at dtX12_readsPerson 53 rfl) ?_
          refine K_iload_n (dt_at dtX12_readsPerson 54 rfl) rfl rfl ?_
          refine K_iast (dt_at dtX12_readsPerson 55 rfl) (show TT 14 = (1, 77) from rfl) (by omega) (by omega) ?_
          obtain ⟨hq42, eq42⟩ : ∃ z, z = sA hq41 14 (8 + (np : Int)) (np : Int) := ⟨_, rfl⟩
          rw [← eq42]
          obtain ⟨aq42, fq42, iq42, rq42⟩ := sA_fx eq42
          rw [aq41] at aq42
          refine K_aload_n (dt_at dtX12_readsPerson 56 rfl) rfl rfl ?_
          have Aq43 : MGd hq42 tp n pq34 := (MGd_up Bq34 (FL_tr (FL_tr (FL_tr (FL_rf : FL [11, 12, 13, 14] [(0, 25)] [] hcq34 hcq34) (FL_eA eq40 rfl)) (FL_eA eq41 rfl)) (FL_eA eq42 rfl)) rfl rfl)
          refine K_callV (M' := mX12_isGood) (a := 0) (ci := 12) (As := []) (st := []) (dt_at dtX12_readsPerson 57 rfl) (good_t Aq43.2.2.2.1) (show TT 0 = (0, 12) from rfl) rfl wL_X12_164 vX12_isGood rfl npX12_isGood (by decide) (by decide) (Nat.le_of_ble_eq_true rfl) (by decide) (by decide) GK_E (fun v9 h9 hq => ?_) (fun E h9 hq => by cases hq.1)
          obtain ⟨e9, e8⟩ := hq
          cases e9
          rw [e8]
          show K mX12_readsPerson _ _ 0 0 90 [(1, vi (np : Int)), (0, vr 0)] [vi 1] hq42
          refine K_if_eq (tgt := 151) (dt_at dtX12_readsPerson 58 rfl) (by decide) (by first | assumption | exact ⟨by omega, by omega⟩) (fun c9 => absurd c9 (by omega)) (fun c9 => ?_)
          refine K_aload_n (dt_at dtX12_readsPerson 59 rfl) rfl rfl ?_
          have Aq44 : MGd hq42 tp n pq34 := (MGd_up Bq34 (FL_tr (FL_tr (FL_tr (FL_rf : FL [11, 12, 13, 14] [(0, 25)] [] hcq34 hcq34) (FL_eA eq40 rfl)) (FL_eA eq41 rfl)) (FL_eA eq42 rfl)) rfl rfl)
          refine K_callV (M' := mX12_knownWord) (a := 0) (ci := 12) (As := []) (st := []) (dt_at dtX12_readsPerson 60 rfl) (kw_g Aq44) (show TT 0 = (0, 12) from rfl) rfl wL_X12_189 vX12_knownWord rfl npX12_knownWord (by decide) (by decide) (Nat.le_of_ble_eq_true rfl) (by decide) (by decide) GK_E (fun v9 h9 hq => ?_) (fun E h9 hq => by cases hq.1)
          obtain ⟨e9, e8⟩ := hq
          cases e9
          rw [e8]
          show K mX12_readsPerson _ _ 0 0 97 [(1, vi (np : Int)), (0, vr 0)] [vi (kwF tp (tk tp n pq34))] hq42
          by_cases hby : isWb tp (tk tp n pq34) 2 = true
          · rw [kwF_10 hby]
            refine K_bipush (dt_at dtX12_readsPerson 61 rfl) (by decide) ?_
            refine K_icmp_ne (tgt := 151) (dt_at dtX12_readsPerson 62 rfl) (by decide) (by first | assumption | exact ⟨by omega, by omega⟩) (by first | assumption | exact ⟨by omega, by omega⟩) (fun c10 => absurd c10 (by omega)) (fun c10 => ?_)
            refine K_aload_n (dt_at dtX12_readsPerson 63 rfl) rfl rfl ?_
            have Aq45 : MGd hq42 tp n pq34 := (MGd_up Bq34 (FL_tr (FL_tr (FL_tr (FL_rf : FL [11, 12, 13, 14] [(0, 25)] [] hcq34 hcq34) (FL_eA eq40 rfl)) (FL_eA eq41 rfl)) (FL_eA eq42 rfl)) rfl rfl)
            refine K_callV (M' := mX12_goes) (a := 0) (ci := 12) (As := []) (st := []) (dt_at dtX12_readsPerson 64 rfl) (goes_g Aq45) (show TT 0 = (0, 12) from rfl) rfl wL_X12_168 vX12_goes rfl npX12_goes (by decide) (by decide) (Nat.le_of_ble_eq_true rfl) (by decide) (by decide) GK_E (fun v9 hc46 hq => ?_) (fun E h9 hq => by cases hq.1)
            have hqq47 := hq
            obtain ⟨e9q47, Bq47, Fq47⟩ := hqq47
            obtain ⟨wq47, hwq47⟩ : ∃ z, hI hc46 0 21 = z := ⟨_, rfl⟩
            have tbq47 := tk_G (tp := tp) Bq47.2.2.1
            have wbq47 := Bq47.2.1.2.1
            rw [hwq47] at wbq47
            obtain ⟨⟨taq47, tcq47⟩, tdq47, teq47, -, -⟩ := id tbq47
            have hn7q47 := Bq47.1.2.1
            cases e9q47
            show K mX12_readsPerson _ _ 0 0 106 [(1, vi (np : Int)), (0, vr 0)] [] hc46
            refine K_aload_n (dt_at dtX12_readsPerson 65 rfl) rfl rfl ?_
            refine K_get (a := 0) (ci := 12) (k := 18) (v := vi ((tk tp n (tk tp n pq34).2.2).1)) (dt_at dtX12_readsPerson 66 rfl) (show TT 0 = (0, 12) from rfl) rfl (by decide) wF_X12_138 (by show vi (hI hc46 0 18) = vi ((tk tp n (tk tp n pq34).2.2).1); rw [Bq47.2.1.1.1]) ?_
            refine K_iconst (dt_at dtX12_readsPerson 67 rfl) ?_
            refine K_icmp_ne (tgt := 135) (dt_at dtX12_readsPerson 68 rfl) (by decide) (by first | assumption | exact ⟨by omega, by omega⟩) (by first | assumption | exact ⟨by omega, by omega⟩) (fun c11 => ?_) (fun c11 => ?_)
            · have epk : pakP tp n (np : Int) ((tk tp n pq34).2.2) = nuP tp n 0 6 ((tk tp n pq34).2.2) := by rw [pakP, if_neg (fun z => by have z1 := wbq47.2 z.1; have z2 := z.2.1; have z3 := z.2.2; omega)]
              refine K_aload_n (dt_at dtX12_readsPerson 80 rfl) rfl rfl ?_
              refine K_get (a := 0) (ci := 12) (k := 38) (v := vr 14) (dt_at dtX12_readsPerson 81 rfl) (show TT 0 = (0, 12) from rfl) rfl (by decide) wF_X12_59 rfl ?_
              refine K_bipush (dt_at dtX12_readsPerson 82 rfl) (by decide) ?_
              refine K_iload_n (dt_at dtX12_readsPerson 83 rfl) rfl rfl ?_
              refine K_iadd (dt_at dtX12_readsPerson 84 rfl) ?_
              refine K_aload_n (dt_at dtX12_readsPerson 85 rfl) rfl rfl ?_
              refine K_iconst (dt_at dtX12_readsPerson 86 rfl) ?_
              refine K_bipush (dt_at dtX12_readsPerson 87 rfl) (by decide) ?_
              have Aq48 : MGd hc46 tp n ((tk tp n pq34).2.2) := Bq47
              refine K_callV (M' := mX12_number) (a := 0) (ci := 12) (As := [vi 0, vi 6]) (st := [vi (70 + (np : Int)), vr 14]) (dt_at dtX12_readsPerson 88 rfl) (number_P Aq48 ⟨by omega, by omega⟩ ⟨by omega, by omega⟩) (show TT 0 = (0, 12) from rfl) rfl wL_X12_230 vX12_number rfl npX12_number (by decide) (by decide) (Nat.le_of_ble_eq_true rfl) (by decide) (by decide) GK_E (fun v9 hcq48 hq => ?_) (fun E h9 hq => by obtain ⟨⟨_, e9⟩, _⟩ := hq; cases e9)
              obtain ⟨⟨xq48, exq48⟩, Nq48, Fq48⟩ := hq
              cases exq48
              rcases uq48 : nuP tp n 0 6 ((tk tp n pq34).2.2) with ekq48 | ⟨vq48, pq48⟩
              · rw [uq48] at Nq48
                have Bq48 : MEr hcq48 tp n ekq48 := Nq48
                show K mX12_readsPerson _ _ 0 0 150 [(1, vi (np : Int)), (0, vr 0)] [vi xq48, vi (70 + (np : Int)), vr 14] hcq48
                refine K_iast (dt_at dtX12_readsPerson 89 rfl) (show TT 14 = (1, 77) from rfl) (by omega) (by omega) ?_
                obtain ⟨hq49, eq49⟩ : ∃ z, z = sA hcq48 14 (70 + (np : Int)) xq48 := ⟨_, rfl⟩
                rw [← eq49]
                obtain ⟨aq49, fq49, iq49, rq49⟩ := sA_fx eq49
                rw [(Fq48.1 14 rfl), (Fq47.1 14 rfl), aq42] at aq49
                refine K_aload_n (dt_at dtX12_readsPerson 90 rfl) rfl rfl ?_
                have Aq50 : MEr hq49 tp n ekq48 := (MEr_up Bq48 (FL_tr (FL_rf : FL [11, 12, 13, 14] [(0, 25)] [] hcq48 hcq48) (FL_eA eq49 rfl)) rfl rfl)
                refine K_callV (M' := mX12_isGood) (a := 0) (ci := 12) (As := []) (st := []) (dt_at dtX12_readsPerson 91 rfl) (good_f Aq50.2.2.2.1 Aq50.2.2.1) (show TT 0 = (0, 12) from rfl) rfl wL_X12_164 vX12_isGood rfl npX12_isGood (by decide) (by decide) (Nat.le_of_ble_eq_true rfl) (by decide) (by decide) GK_E (fun v9 h9 hq => ?_) (fun E h9 hq => by cases hq.1)
                obtain ⟨e9, e8⟩ := hq
                cases e9
                rw [e8]
                show K mX12_readsPerson _ _ 0 0 155 [(1, vi (np : Int)), (0, vr 0)] [vi 0] hq49
                refine K_if_eq (tgt := 168) (dt_at dtX12_readsPerson 92 rfl) (by decide) (by first | assumption | exact ⟨by omega, by omega⟩) (fun c12 => ?_) (fun c12 => absurd c12 (by omega))
                have FE : MEr hq49 tp n ekq48 := (MEr_up Bq48 (FL_tr (FL_rf : FL [11, 12, 13, 14] [(0, 25)] [] hcq48 hcq48) (FL_eA eq49 rfl)) rfl rfl)
                have eby := (byP_t (me := (np : Int)) hby).trans (epk.trans uq48)
                exact K_vret (dt_at dtX12_readsPerson 99 rfl) rfl (by decide) (by decide) ⟨rfl, by simp only [peN, uq1, uq14, uq25, uq34, eby]; exact FE, (FL_tr (FL_tr (FL_tr (FL_tr (FL_tr (FL_tr (FL_tr (FL_tr (FL_tr (FL_tr (FL_tr (FL_tr (FL_tr (FL_rf : FL [11, 12, 13, 14] ((0, 25) :: MRl) [] h h) (FL_up Fq1 rfl rfl rfl)) (FL_eA eq13 rfl)) (FL_up Fq14 rfl rfl rfl)) (FL_eA eq24 rfl)) (FL_up Fq25 rfl rfl rfl)) (FL_eA eq33 rfl)) (FL_up Fq34 rfl rfl rfl)) (FL_eA eq40 rfl)) (FL_eA eq41 rfl)) (FL_eA eq42 rfl)) (FL_up Fq47 rfl rfl rfl)) (FL_up Fq48 rfl rfl rfl)) (FL_eA eq49 rfl))⟩
              · rw [uq48] at Nq48
                obtain ⟨eyq48, Bq48⟩ := Nq48
                have ezq48 : xq48 = vq48 := by injection eyq48 with z; injection z with z; injection z
                show K mX12_readsPerson _ _ 0 0 150 [(1, vi (np : Int)), (0, vr 0)] [vi xq48, vi (70 + (np : Int)), vr 14] hcq48
                rw [ezq48]
                have bq48 := nuP_b uq48
                refine K_iast (dt_at dtX12_readsPerson 89 rfl) (show TT 14 = (1, 77) from rfl) (by omega) (by omega) ?_
                obtain ⟨hq51, eq51⟩ : ∃ z, z = sA hcq48 14 (70 + (np : Int)) vq48 := ⟨_, rfl⟩
                rw [← eq51]
                obtain ⟨aq51, fq51, iq51, rq51⟩ := sA_fx eq51
                rw [(Fq48.1 14 rfl), (Fq47.1 14 rfl), aq42] at aq51
                refine K_aload_n (dt_at dtX12_readsPerson 90 rfl) rfl rfl ?_
                have Aq52 : MGd hq51 tp n pq48 := (MGd_up Bq48 (FL_tr (FL_rf : FL [11, 12, 13, 14] [(0, 25)] [] hcq48 hcq48) (FL_eA eq51 rfl)) rfl rfl)
                refine K_callV (M' := mX12_isGood) (a := 0) (ci := 12) (As := []) (st := []) (dt_at dtX12_readsPerson 91 rfl) (good_t Aq52.2.2.2.1) (show TT 0 = (0, 12) from rfl) rfl wL_X12_164 vX12_isGood rfl npX12_isGood (by decide) (by decide) (Nat.le_of_ble_eq_true rfl) (by decide) (by decide) GK_E (fun v9 h9 hq => ?_) (fun E h9 hq => by cases hq.1)
                obtain ⟨e9, e8⟩ := hq
                cases e9
                rw [e8]
                show K mX12_readsPerson _ _ 0 0 155 [(1, vi (np : Int)), (0, vr 0)] [vi 1] hq51
                refine K_if_eq (tgt := 168) (dt_at dtX12_readsPerson 92 rfl) (by decide) (by first | assumption | exact ⟨by omega, by omega⟩) (fun c13 => absurd c13 (by omega)) (fun c13 => ?_)
                refine K_aload_n (dt_at dtX12_readsPerson 93 rfl) rfl rfl ?_
                refine K_dup (dt_at dtX12_readsPerson 94 rfl) rfl ?_
                refine K_get (a := 0) (ci := 12) (k := 25) (v := vi (np : Int)) (dt_at dtX12_readsPerson 95 rfl) (show TT 0 = (0, 12) from rfl) rfl (by decide) wF_X12_234 (by show vi (hI hq51 0 25) = vi (np : Int); rw [iq51, (Fq48.2.1 0 25 rfl), (Fq47.2.1 0 25 rfl), iq42, iq41, iq40, (Fq34.2.1 0 25 rfl), iq33, (Fq25.2.1 0 25 rfl), iq24, (Fq14.2.1 0 25 rfl), iq13, (Fq1.2.1 0 25 rfl), d11]) ?_
                refine K_iconst (dt_at dtX12_readsPerson 96 rfl) ?_
                refine K_iadd (dt_at dtX12_readsPerson 97 rfl) ?_
                refine K_putI (a := 0) (ci := 12) (k := 25) (dt_at dtX12_readsPerson 98 rfl) (show TT 0 = (0, 12) from rfl) rfl (by decide) wF_X12_234 rfl (Or.inl rfl) rfl rfl ?_
                obtain ⟨hq53, eq53⟩ : ∃ z, z = sI hq51 0 25 ((np : Int) + 1) := ⟨_, rfl⟩
                rw [← eq53]
                obtain ⟨iq53, fq53, aq53, rq53⟩ := sI_fx eq53
                have FE : MGd hq53 tp n pq48 := (MGd_up Bq48 (FL_tr (FL_tr (FL_rf : FL [11, 12, 13, 14] [(0, 25)] [] hcq48 hcq48) (FL_eA eq51 rfl)) (FL_eI eq53 rfl)) rfl rfl)
                have eby := (byP_t (me := (np : Int)) hby).trans (epk.trans uq48)
                exact K_vret (dt_at dtX12_readsPerson 99 rfl) rfl (by decide) (by decide) ⟨rfl, by simp only [peN, uq1, uq14, uq25, uq34, eby]; exact ⟨FE, by rw [iq53]; rfl, by rw [aq53, (fq51 11 (by omega)), (Fq48.1 11 rfl), (Fq47.1 11 rfl), (fq42 11 (by omega)), (fq41 11 (by omega)), (fq40 11 (by omega)), (Fq34.1 11 rfl), (fq33 11 (by omega)), (Fq25.1 11 rfl), (fq24 11 (by omega)), (Fq14.1 11 rfl), aq13], by rw [aq53, (fq51 12 (by omega)), (Fq48.1 12 rfl), (Fq47.1 12 rfl), (fq42 12 (by omega)), (fq41 12 (by omega)), (fq40 12 (by omega)), (Fq34.1 12 rfl), (fq33 12 (by omega)), (Fq25.1 12 rfl), aq24], by rw [aq53, (fq51 13 (by omega)), (Fq48.1 13 rfl), (Fq47.1 13 rfl), (fq42 13 (by omega)), (fq41 13 (by omega)), (fq40 13 (by omega)), (Fq34.1 13 rfl), aq33], fun i => by rw [aq53, aq51]; exact up4b (by omega) i⟩, (FL_tr (FL_tr (FL_tr (FL_tr (FL_tr (FL_tr (FL_tr (FL_tr (FL_tr (FL_tr (FL_tr (FL_tr (FL_tr (FL_tr (FL_rf : FL [11, 12, 13, 14] ((0, 25) :: MRl) [] h h) (FL_up Fq1 rfl rfl rfl)) (FL_eA eq13 rfl)) (FL_up Fq14 rfl rfl rfl)) (FL_eA eq24 rfl)) (FL_up Fq25 rfl rfl rfl)) (FL_eA eq33 rfl)) (FL_up Fq34 rfl rfl rfl)) (FL_eA eq40 rfl)) (FL_eA eq41 rfl)) (FL_eA eq42 rfl)) (FL_up Fq47 rfl rfl rfl)) (FL_up Fq48 rfl rfl rfl)) (FL_eA eq51 rfl)) (FL_eI eq53 rfl))⟩
            · refine K_aload_n (dt_at dtX12_readsPerson 69 rfl) rfl rfl ?_
              refine K_get (a := 0) (ci := 12) (k := 20) (v := vi (((tk tp n (tk tp n pq34).2.2).2.2 : Int) - ((tk tp n (tk tp n pq34).2.2).2.1 : Int))) (dt_at dtX12_readsPerson 70 rfl) (show TT 0 = (0, 12) from rfl) rfl (by decide) wF_X12_148 (by show vi (hI hc46 0 20) = vi (((tk tp n (tk tp n pq34).2.2).2.2 : Int) - ((tk tp n (tk tp n pq34).2.2).2.1 : Int)); rw [Bq47.2.1.1.2.2.2]) ?_
              refine K_iconst (dt_at dtX12_readsPerson 71 rfl) ?_
              refine K_icmp_gt (tgt := 135) (dt_at dtX12_readsPerson 72 rfl) (by decide) (by first | assumption | exact ⟨by omega, by omega⟩) (by first | assumption | exact ⟨by omega, by omega⟩) (fun c14 => ?_) (fun c14 => ?_)
              · have epk : pakP tp n (np : Int) ((tk tp n pq34).2.2) = nuP tp n 0 6 ((tk tp n pq34).2.2) := by rw [pakP, if_neg (fun z => by have z1 := wbq47.2 z.1; have z2 := z.2.1; have z3 := z.2.2; omega)]
                refine K_aload_n (dt_at dtX12_readsPerson 80 rfl) rfl rfl ?_
                refine K_get (a := 0) (ci := 12) (k := 38) (v := vr 14) (dt_at dtX12_readsPerson 81 rfl) (show TT 0 = (0, 12) from rfl) rfl (by decide) wF_X12_59 rfl ?_
                refine K_bipush (dt_at dtX12_readsPerson 82 rfl) (by decide) ?_
                refine K_iload_n (dt_at dtX12_readsPerson 83 rfl) rfl rfl ?_
                refine K_iadd (dt_at dtX12_readsPerson 84 rfl) ?_
                refine K_aload_n (dt_at dtX12_readsPerson 85 rfl) rfl rfl ?_
                refine K_iconst (dt_at dtX12_readsPerson 86 rfl) ?_
                refine K_bipush (dt_at dtX12_readsPerson 87 rfl) (by decide) ?_
                have Aq54 : MGd hc46 tp n ((tk tp n pq34).2.2) := Bq47
                refine K_callV (M' := mX12_number) (a := 0) (ci := 12) (As := [vi 0, vi 6]) (st := [vi (70 + (np : Int)), vr 14]) (dt_at dtX12_readsPerson 88 rfl) (number_P Aq54 ⟨by omega, by omega⟩ ⟨by omega, by omega⟩) (show TT 0 = (0, 12) from rfl) rfl wL_X12_230 vX12_number rfl npX12_number (by decide) (by decide) (Nat.le_of_ble_eq_true rfl) (by decide) (by decide) GK_E (fun v9 hcq54 hq => ?_) (fun E h9 hq => by obtain ⟨⟨_, e9⟩, _⟩ := hq; cases e9)
                obtain ⟨⟨xq54, exq54⟩, Nq54, Fq54⟩ := hq
                cases exq54
                rcases uq54 : nuP tp n 0 6 ((tk tp n pq34).2.2) with ekq54 | ⟨vq54, pq54⟩
                · rw [uq54] at Nq54
                  have Bq54 : MEr hcq54 tp n ekq54 := Nq54
                  show K mX12_readsPerson _ _ 0 0 150 [(1, vi (np : Int)), (0, vr 0)] [vi xq54, vi (70 + (np : Int)), vr 14] hcq54
                  refine K_iast (dt_at dtX12_readsPerson 89 rfl) (show TT 14 = (1, 77) from rfl) (by omega) (by omega) ?_
                  obtain ⟨hq55, eq55⟩ : ∃ z, z = sA hcq54 14 (70 + (np : Int)) xq54 := ⟨_, rfl⟩
                  rw [← eq55]
                  obtain ⟨aq55, fq55, iq55, rq55⟩ := sA_fx eq55
                  rw [(Fq54.1 14 rfl), (Fq47.1 14 rfl), aq42] at aq55
                  refine K_aload_n (dt_at dtX12_readsPerson 90 rfl) rfl rfl ?_
                  have Aq56 : MEr hq55 tp n ekq54 := (MEr_up Bq54 (FL_tr (FL_rf : FL [11, 12, 13, 14] [(0, 25)] [] hcq54 hcq54) (FL_eA eq55 rfl)) rfl rfl)
                  refine K_callV (M' := mX12_isGood) (a := 0) (ci := 12) (As := []) (st := []) (dt_at dtX12_readsPerson 91 rfl) (good_f Aq56.2.2.2.1 Aq56.2.2.1) (show TT 0 = (0, 12) from rfl) rfl wL_X12_164 vX12_isGood rfl npX12_isGood (by decide) (by decide) (Nat.le_of_ble_eq_true rfl) (by decide) (by decide) GK_E (fun v9 h9 hq => ?_) (fun E h9 hq => by cases hq.1)
                  obtain ⟨e9, e8⟩ := hq
                  cases e9
                  rw [e8]
                  show K mX12_readsPerson _ _ 0 0 155 [(1, vi (np : Int)), (0, vr 0)] [vi 0] hq55
                  refine K_if_eq (tgt := 168) (dt_at dtX12_readsPerson 92 rfl) (by decide) (by first | assumption | exact ⟨by omega, by omega⟩) (fun c15 => ?_) (fun c15 => absurd c15 (by omega))
                  have FE : MEr hq55 tp n ekq54 := (MEr_up Bq54 (FL_tr (FL_rf : FL [11, 12, 13, 14] [(0, 25)] [] hcq54 hcq54) (FL_eA eq55 rfl)) rfl rfl)
                  have eby := (byP_t (me := (np : Int)) hby).trans (epk.trans uq54)
                  exact K_vret (dt_at dtX12_readsPerson 99 rfl) rfl (by decide) (by decide) ⟨rfl, by simp only [peN, uq1, uq14, uq25, uq34, eby]; exact FE, (FL_tr (FL_tr (FL_tr (FL_tr (FL_tr (FL_tr (FL_tr (FL_tr (FL_tr (FL_tr (FL_tr (FL_tr (FL_tr (FL_rf : FL [11, 12, 13, 14] ((0, 25) :: MRl) [] h h) (FL_up Fq1 rfl rfl rfl)) (FL_eA eq13 rfl)) (FL_up Fq14 rfl rfl rfl)) (FL_eA eq24 rfl)) (FL_up Fq25 rfl rfl rfl)) (FL_eA eq33 rfl)) (FL_up Fq34 rfl rfl rfl)) (FL_eA eq40 rfl)) (FL_eA eq41 rfl)) (FL_eA eq42 rfl)) (FL_up Fq47 rfl rfl rfl)) (FL_up Fq54 rfl rfl rfl)) (FL_eA eq55 rfl))⟩
                · rw [uq54] at Nq54
                  obtain ⟨eyq54, Bq54⟩ := Nq54
                  have ezq54 : xq54 = vq54 := by injection eyq54 with z; injection z with z; injection z
                  show K mX12_readsPerson _ _ 0 0 150 [(1, vi (np : Int)), (0, vr 0)] [vi xq54, vi (70 + (np : Int)), vr 14] hcq54
                  rw [ezq54]
                  have bq54 := nuP_b uq54
                  refine K_iast (dt_at dtX12_readsPerson 89 rfl) (show TT 14 = (1, 77) from rfl) (by omega) (by omega) ?_
                  obtain ⟨hq57, eq57⟩ : ∃ z, z = sA hcq54 14 (70 + (np : Int)) vq54 := ⟨_, rfl⟩
                  rw [← eq57]
                  obtain ⟨aq57, fq57, iq57, rq57⟩ := sA_fx eq57
                  rw [(Fq54.1 14 rfl), (Fq47.1 14 rfl), aq42] at aq57
                  refine K_aload_n (dt_at dtX12_readsPerson 90 rfl) rfl rfl ?_
                  have Aq58 : MGd hq57 tp n pq54 := (MGd_up Bq54 (FL_tr (FL_rf : FL [11, 12, 13, 14] [(0, 25)] [] hcq54 hcq54) (FL_eA eq57 rfl)) rfl rfl)
                  refine K_callV (M' := mX12_isGood) (a := 0) (ci := 12) (As := []) (st := []) (dt_at dtX12_readsPerson 91 rfl) (good_t Aq58.2.2.2.1) (show TT 0 = (0, 12) from rfl) rfl wL_X12_164 vX12_isGood rfl npX12_isGood (by decide) (by decide) (Nat.le_of_ble_eq_true rfl) (by decide) (by decide) GK_E (fun v9 h9 hq => ?_) (fun E h9 hq => by cases hq.1)
                  obtain ⟨e9, e8⟩ := hq
                  cases e9
                  rw [e8]
                  show K mX12_readsPerson _ _ 0 0 155 [(1, vi (np : Int)), (0, vr 0)] [vi 1] hq57
                  refine K_if_eq (tgt := 168) (dt_at dtX12_readsPerson 92 rfl) (by decide) (by first | assumption | exact ⟨by omega, by omega⟩) (fun c16 => absurd c16 (by omega)) (fun c16 => ?_)
                  refine K_aload_n (dt_at dtX12_readsPerson 93 rfl) rfl rfl ?_
                  refine K_dup (dt_at dtX12_readsPerson 94 rfl) rfl ?_
                  refine K_get (a := 0) (ci := 12) (k := 25) (v := vi (np : Int)) (dt_at dtX12_readsPerson 95 rfl) (show TT 0 = (0, 12) from rfl) rfl (by decide) wF_X12_234 (by show vi (hI hq57 0 25) = vi (np : Int); rw [iq57, (Fq54.2.1 0 25 rfl), (Fq47.2.1 0 25 rfl), iq42, iq41, iq40, (Fq34.2.1 0 25 rfl), iq33, (Fq25.2.1 0 25 rfl), iq24, (Fq14.2.1 0 25 rfl), iq13, (Fq1.2.1 0 25 rfl), d11]) ?_
                  refine K_iconst (dt_at dtX12_readsPerson 96 rfl) ?_
                  refine K_iadd (dt_at dtX12_readsPerson 97 rfl) ?_
                  refine K_putI (a := 0) (ci := 12) (k := 25) (dt_at dtX12_readsPerson 98 rfl) (show TT 0 = (0, 12) from rfl) rfl (by decide) wF_X12_234 rfl (Or.inl rfl) rfl rfl ?_
                  obtain ⟨hq59, eq59⟩ : ∃ z, z = sI hq57 0 25 ((np : Int) + 1) := ⟨_, rfl⟩
                  rw [← eq59]
                  obtain ⟨iq59, fq59, aq59, rq59⟩ := sI_fx eq59
                  have FE : MGd hq59 tp n pq54 := (MGd_up Bq54 (FL_tr (FL_tr (FL_rf : FL [11, 12, 13, 14] [(0, 25)] [] hcq54 hcq54) (FL_eA eq57 rfl)) (FL_eI eq59 rfl)) rfl rfl)
                  have eby := (byP_t (me := (np : Int)) hby).trans (epk.trans uq54)
                  exact K_vret (dt_at dtX12_readsPerson 99 rfl) rfl (by decide) (by decide) ⟨rfl, by simp only [peN, uq1, uq14, uq25, uq34, eby]; exact ⟨FE, by rw [iq59]; rfl, by rw [aq59, (fq57 11 (by omega)), (Fq54.1 11 rfl), (Fq47.1 11 rfl), (fq42 11 (by omega)), (fq41 11 (by omega)), (fq40 11 (by omega)), (Fq34.1 11 rfl), (fq33 11 (by omega)), (Fq25.1 11 rfl), (fq24 11 (by omega)), (Fq14.1 11 rfl), aq13], by rw [aq59, (fq57 12 (by omega)), (Fq54.1 12 rfl), (Fq47.1 12 rfl), (fq42 12 (by omega)), (fq41 12 (by omega)), (fq40 12 (by omega)), (Fq34.1 12 rfl), (fq33 12 (by omega)), (Fq25.1 12 rfl), aq24], by rw [aq59, (fq57 13 (by omega)), (Fq54.1 13 rfl), (Fq47.1 13 rfl), (fq42 13 (by omega)), (fq41 13 (by omega)), (fq40 13 (by omega)), (Fq34.1 13 rfl), aq33], fun i => by rw [aq59, aq57]; exact up4b (by omega) i⟩, (FL_tr (FL_tr (FL_tr (FL_tr (FL_tr (FL_tr (FL_tr (FL_tr (FL_tr (FL_tr (FL_tr (FL_tr (FL_tr (FL_tr (FL_rf : FL [11, 12, 13, 14] ((0, 25) :: MRl) [] h h) (FL_up Fq1 rfl rfl rfl)) (FL_eA eq13 rfl)) (FL_up Fq14 rfl rfl rfl)) (FL_eA eq24 rfl)) (FL_up Fq25 rfl rfl rfl)) (FL_eA eq33 rfl)) (FL_up Fq34 rfl rfl rfl)) (FL_eA eq40 rfl)) (FL_eA eq41 rfl)) (FL_eA eq42 rfl)) (FL_up Fq47 rfl rfl rfl)) (FL_up Fq54 rfl rfl rfl)) (FL_eA eq57 rfl)) (FL_eI eq59 rfl))⟩
              · refine K_aload_n (dt_at dtX12_readsPerson 73 rfl) rfl rfl ?_
                refine K_get (a := 0) (ci := 12) (k := 21) (v := vi wq47) (dt_at dtX12_readsPerson 74 rfl) (show TT 0 = (0, 12) from rfl) rfl (by decide) wF_X12_132 (by show vi (hI hc46 0 21) = vi wq47; rw [hwq47]) ?_
                refine K_iload_n (dt_at dtX12_readsPerson 75 rfl) rfl rfl ?_
                refine K_icmp_ne (tgt := 135) (dt_at dtX12_readsPerson 76 rfl) (by decide) (by first | assumption | exact ⟨by omega, by omega⟩) (by first | assumption | exact ⟨by omega, by omega⟩) (fun c17 => ?_) (fun c17 => ?_)
                · have epk : pakP tp n (np : Int) ((tk tp n pq34).2.2) = nuP tp n 0 6 ((tk tp n pq34).2.2) := by rw [pakP, if_neg (fun z => by have z1 := wbq47.2 z.1; have z2 := z.2.1; have z3 := z.2.2; omega)]
                  refine K_aload_n (dt_at dtX12_readsPerson 80 rfl) rfl rfl ?_
                  refine K_get (a := 0) (ci := 12) (k := 38) (v := vr 14) (dt_at dtX12_readsPerson 81 rfl) (show TT 0 = (0, 12) from rfl) rfl (by decide) wF_X12_59 rfl ?_
                  refine K_bipush (dt_at dtX12_readsPerson 82 rfl) (by decide) ?_
                  refine K_iload_n (dt_at dtX12_readsPerson 83 rfl) rfl rfl ?_
                  refine K_iadd (dt_at dtX12_readsPerson 84 rfl) ?_
                  refine K_aload_n (dt_at dtX12_readsPerson 85 rfl) rfl rfl ?_
                  refine K_iconst (dt_at dtX12_readsPerson 86 rfl) ?_
                  refine K_bipush (dt_at dtX12_readsPerson 87 rfl) (by decide) ?_
                  have Aq60 : MGd hc46 tp n ((tk tp n pq34).2.2) := Bq47
                  refine K_callV (M' := mX12_number) (a := 0) (ci := 12) (As := [vi 0, vi 6]) (st := [vi (70 + (np : Int)), vr 14]) (dt_at dtX12_readsPerson 88 rfl) (number_P Aq60 ⟨by omega, by omega⟩ ⟨by omega, by omega⟩) (show TT 0 = (0, 12) from rfl) rfl wL_X12_230 vX12_number rfl npX12_number (by decide) (by decide) (Nat.le_of_ble_eq_true rfl) (by decide) (by decide) GK_E (fun v9 hcq60 hq => ?_) (fun E h9 hq => by obtain ⟨⟨_, e9⟩, _⟩ := hq; cases e9)
                  obtain ⟨⟨xq60, exq60⟩, Nq60, Fq60⟩ := hq
                  cases exq60
                  rcases uq60 : nuP tp n 0 6 ((tk tp n pq34).2.2) with ekq60 | ⟨vq60, pq60⟩
                  · rw [uq60] at Nq60
                    have Bq60 : MEr hcq60 tp n ekq60 := Nq60
                    show K mX12_readsPerson _ _ 0 0 150 [(1, vi (np : Int)), (0, vr 0)] [vi xq60, vi (70 + (np : Int)), vr 14] hcq60
                    refine K_iast (dt_at dtX12_readsPerson 89 rfl) (show TT 14 = (1, 77) from rfl) (by omega) (by omega) ?_
                    obtain ⟨hq61, eq61⟩ : ∃ z, z = sA hcq60 14 (70 + (np : Int)) xq60 := ⟨_, rfl⟩
                    rw [← eq61]
                    obtain ⟨aq61, fq61, iq61, rq61⟩ := sA_fx eq61
                    rw [(Fq60.1 14 rfl), (Fq47.1 14 rfl), aq42] at aq61
                    refine K_aload_n (dt_at dtX12_readsPerson 90 rfl) rfl rfl ?_
                    have Aq62 : MEr hq61 tp n ekq60 := (MEr_up Bq60 (FL_tr (FL_rf : FL [11, 12, 13, 14] [(0, 25)] [] hcq60 hcq60) (FL_eA eq61 rfl)) rfl rfl)
                    refine K_callV (M' := mX12_isGood) (a := 0) (ci := 12) (As := []) (st := []) (dt_at dtX12_readsPerson 91 rfl) (good_f Aq62.2.2.2.1 Aq62.2.2.1) (show TT 0 = (0, 12) from rfl) rfl wL_X12_164 vX12_isGood rfl npX12_isGood (by decide) (by decide) (Nat.le_of_ble_eq_true rfl) (by decide) (by decide) GK_E (fun v9 h9 hq => ?_) (fun E h9 hq => by cases hq.1)
                    obtain ⟨e9, e8⟩ := hq
                    cases e9
                    rw [e8]
                    show K mX12_readsPerson _ _ 0 0 155 [(1, vi (np : Int)), (0, vr 0)] [vi 0] hq61
                    refine K_if_eq (tgt := 168) (dt_at dtX12_readsPerson 92 rfl) (by decide) (by first | assumption | exact ⟨by omega, by omega⟩) (fun c18 => ?_) (fun c18 => absurd c18 (by omega))
                    have FE : MEr hq61 tp n ekq60 := (MEr_up Bq60 (FL_tr (FL_rf : FL [11, 12, 13, 14] [(0, 25)] [] hcq60 hcq60) (FL_eA eq61 rfl)) rfl rfl)
                    have eby := (byP_t (me := (np : Int)) hby).trans (epk.trans uq60)
                    exact K_vret (dt_at dtX12_readsPerson 99 rfl) rfl (by decide) (by decide) ⟨rfl, by simp only [peN, uq1, uq14, uq25, uq34, eby]; exact FE, (FL_tr (FL_tr (FL_tr (FL_tr (FL_tr (FL_tr (FL_tr (FL_tr (FL_tr (FL_tr (FL_tr (FL_tr (FL_tr (FL_rf : FL [11, 12, 13, 14] ((0, 25) :: MRl) [] h h) (FL_up Fq1 rfl rfl rfl)) (FL_eA eq13 rfl)) (FL_up Fq14 rfl rfl rfl)) (FL_eA eq24 rfl)) (FL_up Fq25 rfl rfl rfl)) (FL_eA eq33 rfl)) (FL_up Fq34 rfl rfl rfl)) (FL_eA eq40 rfl)) (FL_eA eq41 rfl)) (FL_eA eq42 rfl)) (FL_up Fq47 rfl rfl rfl)) (FL_up Fq60 rfl rfl rfl)) (FL_eA eq61 rfl))⟩
                  · rw [uq60] at Nq60
                    obtain ⟨eyq60, Bq60⟩ := Nq60
                    have ezq60 : xq60 = vq60 := by injection eyq60 with z; injection z with z; injection z
                    show K mX12_readsPerson _ _ 0 0 150 [(1, vi (np : Int)), (0, vr 0)] [vi xq60, vi (70 + (np : Int)), vr 14] hcq60
                    rw [ezq60]
                    have bq60 := nuP_b uq60
                    refine K_iast (dt_at dtX12_readsPerson 89 rfl) (show TT 14 = (1, 77) from rfl) (by omega) (by omega) ?_
                    obtain ⟨hq63, eq63⟩ : ∃ z, z = sA hcq60 14 (70 + (np : Int)) vq60 := ⟨_, rfl⟩
                    rw [← eq63]
                    obtain ⟨aq63, fq63, iq63, rq63⟩ := sA_fx eq63
                    rw [(Fq60.1 14 rfl), (Fq47.1 14 rfl), aq42] at aq63
                    refine K_aload_n (dt_at dtX12_readsPerson 90 rfl) rfl rfl ?_
                    have Aq64 : MGd hq63 tp n pq60 := (MGd_up Bq60 (FL_tr (FL_rf : FL [11, 12, 13, 14] [(0, 25)] [] hcq60 hcq60) (FL_eA eq63 rfl)) rfl rfl)
                    refine K_callV (M' := mX12_isGood) (a := 0) (ci := 12) (As := []) (st := []) (dt_at dtX12_readsPerson 91 rfl) (good_t Aq64.2.2.2.1) (show TT 0 = (0, 12) from rfl) rfl wL_X12_164 vX12_isGood rfl npX12_isGood (by decide) (by decide) (Nat.le_of_ble_eq_true rfl) (by decide) (by decide) GK_E (fun v9 h9 hq => ?_) (fun E h9 hq => by cases hq.1)
                    obtain ⟨e9, e8⟩ := hq
                    cases e9
                    rw [e8]
                    show K mX12_readsPerson _ _ 0 0 155 [(1, vi (np : Int)), (0, vr 0)] [vi 1] hq63
                    refine K_if_eq (tgt := 168) (dt_at dtX12_readsPerson 92 rfl) (by decide) (by first | assumption | exact ⟨by omega, by omega⟩) (fun c19 => absurd c19 (by omega)) (fun c19 => ?_)
                    refine K_aload_n (dt_at dtX12_readsPerson 93 rfl) rfl rfl ?_
                    refine K_dup (dt_at dtX12_readsPerson 94 rfl) rfl ?_
                    refine K_get (a := 0) (ci := 12) (k := 25) (v := vi (np : Int)) (dt_at dtX12_readsPerson 95 rfl) (show TT 0 = (0, 12) from rfl) rfl (by decide) wF_X12_234 (by show vi (hI hq63 0 25) = vi (np : Int); rw [iq63, (Fq60.2.1 0 25 rfl), (Fq47.2.1 0 25 rfl), iq42, iq41, iq40, (Fq34.2.1 0 25 rfl), iq33, (Fq25.2.1 0 25 rfl), iq24, (Fq14.2.1 0 25 rfl), iq13, (Fq1.2.1 0 25 rfl), d11]) ?_
                    refine K_iconst (dt_at dtX12_readsPerson 96 rfl) ?_
                    refine K_iadd (dt_at dtX12_readsPerson 97 rfl) ?_
                    refine K_putI (a := 0) (ci := 12) (k := 25) (dt_at dtX12_readsPerson 98 rfl) (show TT 0 = (0, 12) from rfl) rfl (by decide) wF_X12_234 rfl (Or.inl rfl) rfl rfl ?_
                    obtain ⟨hq65, eq65⟩ : ∃ z, z = sI hq63 0 25 ((np : Int) + 1) := ⟨_, rfl⟩
                    rw [← eq65]
                    obtain ⟨iq65, fq65, aq65, rq65⟩ := sI_fx eq65
                    have FE : MGd hq65 tp n pq60 := (MGd_up Bq60 (FL_tr (FL_tr (FL_rf : FL [11, 12, 13, 14] [(0, 25)] [] hcq60 hcq60) (FL_eA eq63 rfl)) (FL_eI eq65 rfl)) rfl rfl)
                    have eby := (byP_t (me := (np : Int)) hby).trans (epk.trans uq60)
                    exact K_vret (dt_at dtX12_readsPerson 99 rfl) rfl (by decide) (by decide) ⟨rfl, by simp only [peN, uq1, uq14, uq25, uq34, eby]; exact ⟨FE, by rw [iq65]; rfl, by rw [aq65, (fq63 11 (by omega)), (Fq60.1 11 rfl), (Fq47.1 11 rfl), (fq42 11 (by omega)), (fq41 11 (by omega)), (fq40 11 (by omega)), (Fq34.1 11 rfl), (fq33 11 (by omega)), (Fq25.1 11 rfl), (fq24 11 (by omega)), (Fq14.1 11 rfl), aq13], by rw [aq65, (fq63 12 (by omega)), (Fq60.1 12 rfl), (Fq47.1 12 rfl), (fq42 12 (by omega)), (fq41 12 (by omega)), (fq40 12 (by omega)), (Fq34.1 12 rfl), (fq33 12 (by omega)), (Fq25.1 12 rfl), aq24], by rw [aq65, (fq63 13 (by omega)), (Fq60.1 13 rfl), (Fq47.1 13 rfl), (fq42 13 (by omega)), (fq41 13 (by omega)), (fq40 13 (by omega)), (Fq34.1 13 rfl), aq33], fun i => by rw [aq65, aq63]; exact up4b (by omega) i⟩, (FL_tr (FL_tr (FL_tr (FL_tr (FL_tr (FL_tr (FL_tr (FL_tr (FL_tr (FL_tr (FL_tr (FL_tr (FL_tr (FL_tr (FL_rf : FL [11, 12, 13, 14] ((0, 25) :: MRl) [] h h) (FL_up Fq1 rfl rfl rfl)) (FL_eA eq13 rfl)) (FL_up Fq14 rfl rfl rfl)) (FL_eA eq24 rfl)) (FL_up Fq25 rfl rfl rfl)) (FL_eA eq33 rfl)) (FL_up Fq34 rfl rfl rfl)) (FL_eA eq40 rfl)) (FL_eA eq41 rfl)) (FL_eA eq42 rfl)) (FL_up Fq47 rfl rfl rfl)) (FL_up Fq60 rfl rfl rfl)) (FL_eA eq63 rfl)) (FL_eI eq65 rfl))⟩
                · refine K_aload_n (dt_at dtX12_readsPerson 77 rfl) rfl rfl ?_
                  refine K_iconst (dt_at dtX12_readsPerson 78 rfl) ?_
                  have Aq66 : MGd hc46 tp n ((tk tp n pq34).2.2) := Bq47
                  refine K_callV (M' := mX12_wrong) (a := 0) (ci := 12) (As := [vi 4]) (st := []) (dt_at dtX12_readsPerson 79 rfl) (wrong_g (k := 4) Aq66 (by omega)) (show TT 0 = (0, 12) from rfl) rfl wL_X12_171 vX12_wrong rfl npX12_wrong (by decide) (by decide) (Nat.le_of_ble_eq_true rfl) (by decide) (by decide) GK_E (fun v9 hc67 hq => ?_) (fun E h9 hq => by cases hq.1)
                  have hqq68 := hq
                  obtain ⟨e9q68, Bq68, Fq68⟩ := hqq68
                  cases e9q68
                  show K mX12_readsPerson _ _ 0 0 135 [(1, vi (np : Int)), (0, vr 0)] [] hc67
                  have epk : pakP tp n (np : Int) ((tk tp n pq34).2.2) = .inl (4, (tk tp n ((tk tp n pq34).2.2)).2.1) := by rw [pakP, if_pos ⟨by omega, by omega, by have z1 := wbq47.2 (by omega); omega⟩]
                  refine K_aload_n (dt_at dtX12_readsPerson 80 rfl) rfl rfl ?_
                  refine K_get (a := 0) (ci := 12) (k := 38) (v := vr 14) (dt_at dtX12_readsPerson 81 rfl) (show TT 0 = (0, 12) from rfl) rfl (by decide) wF_X12_59 rfl ?_
                  refine K_bipush (dt_at dtX12_readsPerson 82 rfl) (by decide) ?_
                  refine K_iload_n (dt_at dtX12_readsPerson 83 rfl) rfl rfl ?_
                  refine K_iadd (dt_at dtX12_readsPerson 84 rfl) ?_
                  refine K_aload_n (dt_at dtX12_readsPerson 85 rfl) rfl rfl ?_
                  refine K_iconst (dt_at dtX12_readsPerson 86 rfl) ?_
                  refine K_bipush (dt_at dtX12_readsPerson 87 rfl) (by decide) ?_
                  have Aq69 : MEr hc67 tp n (4, (tk tp n ((tk tp n pq34).2.2)).2.1) := Bq68
                  refine K_callV (M' := mX12_number) (a := 0) (ci := 12) (As := [vi 0, vi 6]) (st := [vi (70 + (np : Int)), vr 14]) (dt_at dtX12_readsPerson 88 rfl) (number_e Aq69) (show TT 0 = (0, 12) from rfl) rfl wL_X12_230 vX12_number rfl npX12_number (by decide) (by decide) (Nat.le_of_ble_eq_true rfl) (by decide) (by decide) GK_E (fun v9 h9 hq => ?_) (fun E h9 hq => by cases hq.1)
                  obtain ⟨e9, e8⟩ := hq
                  cases e9
                  rw [e8]
                  show K mX12_readsPerson _ _ 0 0 150 [(1, vi (np : Int)), (0, vr 0)] [vi 0, vi (70 + (np : Int)), vr 14] hc67
                  refine K_iast (dt_at dtX12_readsPerson 89 rfl) (show TT 14 = (1, 77) from rfl) (by omega) (by omega) ?_
                  obtain ⟨hq70, eq70⟩ : ∃ z, z = sA hc67 14 (70 + (np : Int)) 0 := ⟨_, rfl⟩
                  rw [← eq70]
                  obtain ⟨aq70, fq70, iq70, rq70⟩ := sA_fx eq70
                  rw [(Fq68.1 14 rfl), (Fq47.1 14 rfl), aq42] at aq70
                  refine K_aload_n (dt_at dtX12_readsPerson 90 rfl) rfl rfl ?_
                  have Aq71 : MEr hq70 tp n (4, (tk tp n ((tk tp n pq34).2.2)).2.1) := (MEr_up Bq68 (FL_tr (FL_rf : FL [11, 12, 13, 14] [(0, 25)] [] hc67 hc67) (FL_eA eq70 rfl)) rfl rfl)
                  refine K_callV (M' := mX12_isGood) (a := 0) (ci := 12) (As := []) (st := []) (dt_at dtX12_readsPerson 91 rfl) (good_f Aq71.2.2.2.1 Aq71.2.2.1) (show TT 0 = (0, 12) from rfl) rfl wL_X12_164 vX12_isGood rfl npX12_isGood (by decide) (by decide) (Nat.le_of_ble_eq_true rfl) (by decide) (by decide) GK_E (fun v9 h9 hq => ?_) (fun E h9 hq => by cases hq.1)
                  obtain ⟨e9, e8⟩ := hq
                  cases e9
                  rw [e8]
                  show K mX12_readsPerson _ _ 0 0 155 [(1, vi (np : Int)), (0, vr 0)] [vi 0] hq70
                  refine K_if_eq (tgt := 168) (dt_at dtX12_readsPerson 92 rfl) (by decide) (by first | assumption | exact ⟨by omega, by omega⟩) (fun c20 => ?_) (fun c20 => absurd c20 (by omega))
                  have FE : MEr hq70 tp n (4, (tk tp n ((tk tp n pq34).2.2)).2.1) := (MEr_up Bq68 (FL_tr (FL_rf : FL [11, 12, 13, 14] [(0, 25)] [] hc67 hc67) (FL_eA eq70 rfl)) rfl rfl)
                  have eby := (byP_t (me := (np : Int)) hby).trans epk
                  exact K_vret (dt_at dtX12_readsPerson 99 rfl) rfl (by decide) (by decide) ⟨rfl, by simp only [peN, uq1, uq14, uq25, uq34, eby]; exact FE, (FL_tr (FL_tr (FL_tr (FL_tr (FL_tr (FL_tr (FL_tr (FL_tr (FL_tr (FL_tr (FL_tr (FL_tr (FL_tr (FL_rf : FL [11, 12, 13, 14] ((0, 25) :: MRl) [] h h) (FL_up Fq1 rfl rfl rfl)) (FL_eA eq13 rfl)) (FL_up Fq14 rfl rfl rfl)) (FL_eA eq24 rfl)) (FL_up Fq25 rfl rfl rfl)) (FL_eA eq33 rfl)) (FL_up Fq34 rfl rfl rfl)) (FL_eA eq40 rfl)) (FL_eA eq41 rfl)) (FL_eA eq42 rfl)) (FL_up Fq47 rfl rfl rfl)) (FL_up Fq68 rfl rfl rfl)) (FL_eA eq70 rfl))⟩
          · have hkb := kwF_b tp (tk tp n pq34)
            have hk10 : kwF tp (tk tp n pq34) ≠ 10 := fun z => hby (kwI_10 z)
            refine K_bipush (dt_at dtX12_readsPerson 61 rfl) (by decide) ?_
            refine K_icmp_ne (tgt := 151) (dt_at dtX12_readsPerson 62 rfl) (by decide) (by first | assumption | exact ⟨by omega, by omega⟩) (by first | assumption | exact ⟨by omega, by omega⟩) (fun c21 => ?_) (fun c21 => absurd c21 (by omega))
            refine K_aload_n (dt_at dtX12_readsPerson 90 rfl) rfl rfl ?_
            have Aq72 : MGd hq42 tp n pq34 := (MGd_up Bq34 (FL_tr (FL_tr (FL_tr (FL_rf : FL [11, 12, 13, 14] [(0, 25)] [] hcq34 hcq34) (FL_eA eq40 rfl)) (FL_eA eq41 rfl)) (FL_eA eq42 rfl)) rfl rfl)
            refine K_callV (M' := mX12_isGood) (a := 0) (ci := 12) (As := []) (st := []) (dt_at dtX12_readsPerson 91 rfl) (good_t Aq72.2.2.2.1) (show TT 0 = (0, 12) from rfl) rfl wL_X12_164 vX12_isGood rfl npX12_isGood (by decide) (by decide) (Nat.le_of_ble_eq_true rfl) (by decide) (by decide) GK_E (fun v9 h9 hq => ?_) (fun E h9 hq => by cases hq.1)
            obtain ⟨e9, e8⟩ := hq
            cases e9
            rw [e8]
            show K mX12_readsPerson _ _ 0 0 155 [(1, vi (np : Int)), (0, vr 0)] [vi 1] hq42
            refine K_if_eq (tgt := 168) (dt_at dtX12_readsPerson 92 rfl) (by decide) (by first | assumption | exact ⟨by omega, by omega⟩) (fun c22 => absurd c22 (by omega)) (fun c22 => ?_)
            refine K_aload_n (dt_at dtX12_readsPerson 93 rfl) rfl rfl ?_
            refine K_dup (dt_at dtX12_readsPerson 94 rfl) rfl ?_
            refine K_get (a := 0) (ci := 12) (k := 25) (v := vi (np : Int)) (dt_at dtX12_readsPerson 95 rfl) (show TT 0 = (0, 12) from rfl) rfl (by decide) wF_X12_234 (by show vi (hI hq42 0 25) = vi (np : Int); rw [iq42, iq41, iq40, (Fq34.2.1 0 25 rfl), iq33, (Fq25.2.1 0 25 rfl), iq24, (Fq14.2.1 0 25 rfl), iq13, (Fq1.2.1 0 25 rfl), d11]) ?_
            refine K_iconst (dt_at dtX12_readsPerson 96 rfl) ?_
            refine K_iadd (dt_at dtX12_readsPerson 97 rfl) ?_
            refine K_putI (a := 0) (ci := 12) (k := 25) (dt_at dtX12_readsPerson 98 rfl) (show TT 0 = (0, 12) from rfl) rfl (by decide) wF_X12_234 rfl (Or.inl rfl) rfl rfl ?_
            obtain ⟨hq73, eq73⟩ : ∃ z, z = sI hq42 0 25 ((np : Int) + 1) := ⟨_, rfl⟩
            rw [← eq73]
            obtain ⟨iq73, fq73, aq73, rq73⟩ := sI_fx eq73
            have FE : MGd hq73 tp n pq34 := (MGd_up Bq34 (FL_tr (FL_tr (FL_tr (FL_tr (FL_rf : FL [11, 12, 13, 14] [(0, 25)] [] hcq34 hcq34) (FL_eA eq40 rfl)) (FL_eA eq41 rfl)) (FL_eA eq42 rfl)) (FL_eI eq73 rfl)) rfl rfl)
            have eby : byP tp n (np : Int) pq34 = .inr (-1, pq34) := by rw [byP, if_neg hby]
            exact K_vret (dt_at dtX12_readsPerson 99 rfl) rfl (by decide) (by decide) ⟨rfl, by simp only [peN, uq1, uq14, uq25, uq34, eby]; exact ⟨FE, by rw [iq73]; rfl, by rw [aq73, (fq42 11 (by omega)), (fq41 11 (by omega)), (fq40 11 (by omega)), (Fq34.1 11 rfl), (fq33 11 (by omega)), (Fq25.1 11 rfl), (fq24 11 (by omega)), (Fq14.1 11 rfl), aq13], by rw [aq73, (fq42 12 (by omega)), (fq41 12 (by omega)), (fq40 12 (by omega)), (Fq34.1 12 rfl), (fq33 12 (by omega)), (Fq25.1 12 rfl), aq24], by rw [aq73, (fq42 13 (by omega)), (fq41 13 (by omega)), (fq40 13 (by omega)), (Fq34.1 13 rfl), aq33], fun i => by rw [aq73, aq42]; exact up4a (by omega) i⟩, (FL_tr (FL_tr (FL_tr (FL_tr (FL_tr (FL_tr (FL_tr (FL_tr (FL_tr (FL_tr (FL_tr (FL_rf : FL [11, 12, 13, 14] ((0, 25) :: MRl) [] h h) (FL_up Fq1 rfl rfl rfl)) (FL_eA eq13 rfl)) (FL_up Fq14 rfl rfl rfl)) (FL_eA eq24 rfl)) (FL_up Fq25 rfl rfl rfl)) (FL_eA eq33 rfl)) (FL_up Fq34 rfl rfl rfl)) (FL_eA eq40 rfl)) (FL_eA eq41 rfl)) (FL_eA eq42 rfl)) (FL_eI eq73 rfl))⟩
