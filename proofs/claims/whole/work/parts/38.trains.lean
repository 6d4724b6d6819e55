/-! when trains don't run -/
def bhF (S : HS) (p y x : Int) : Int := if 0 < x then x - 1 else if y.tmod (sE S p) = 0 then sAw S p else 0
def wsO (w b : Int → Int) (T : Int) : Nat → Int → Int
  | 0 => fun _ => 0
  | k + 1 => upI (upI (wsO w b T k) (k : Int) (wsO w b T k (k : Int) + w (k : Int) * T)) (b (k : Int)) (upI (wsO w b T k) (k : Int) (wsO w b T k (k : Int) + w (k : Int) * T) (b (k : Int)) + w (k : Int) * (10 - T))
def wyN (S : HS) (f : Int → Int) (p T : Int) : Nat → Int → Int
  | 0 => upI (fun _ => 0) (f (1 + p)) 1
  | d + 1 => wsO (wyN S f p T d) (bhF S p (f 0 + (d : Int))) T 9
theorem wsO_up {w w' b g : Int → Int} {T : Int} {k : Nat} (hk : k < 9) (hb : 0 ≤ b (k : Int) ∧ b (k : Int) < 9) (hg : ∀ i : Int, 0 ≤ i → i < 9 → g i = wsO w b T k i) (hw : w' (k : Int) = w (k : Int)) : ∀ i : Int, 0 ≤ i → i < 9 → upI (upI g (k : Int) (g (k : Int) + w' (k : Int) * T)) (b (k : Int)) (upI g (k : Int) (g (k : Int) + w' (k : Int) * T) (b (k : Int)) + w' (k : Int) * (10 - T)) i = wsO w b T (k + 1) i := by
  have e1 : ∀ i : Int, 0 ≤ i → i < 9 → upI g (k : Int) (g (k : Int) + w' (k : Int) * T) i = upI (wsO w b T k) (k : Int) (wsO w b T k (k : Int) + w (k : Int) * T) i := by
    intro i h0 h1
    unfold upI
    by_cases z : i = (k : Int)
    · rw [if_pos z, if_pos z, hg _ (by omega) (by omega), hw]
    · rw [if_neg z, if_neg z]; exact hg i h0 h1
  intro i h0 h1
  show _ = upI (upI (wsO w b T k) (k : Int) (wsO w b T k (k : Int) + w (k : Int) * T)) (b (k : Int)) (upI (wsO w b T k) (k : Int) (wsO w b T k (k : Int) + w (k : Int) * T) (b (k : Int)) + w (k : Int) * (10 - T)) i
  rw [e1 _ hb.1 hb.2, hw]
  generalize (upI (wsO w b T k) (k : Int) (wsO w b T k (k : Int) + w (k : Int) * T) (b (k : Int)) + w (k : Int) * (10 - T)) = y
  have e2 := e1 i h0 h1
  rw [hw] at e2
  unfold upI at e2 ⊢
  by_cases z : i = b (k : Int)
  · rw [if_pos z, if_pos z]
  · rw [if_neg z, if_neg z]; exact e2
theorem bhF_b {S : HS} {p y x : Int} (hB : hsW S) (hp : 0 ≤ p ∧ p < sNp S) (hx : 0 ≤ x ∧ x < 9) : 0 ≤ bhF S p y x ∧ bhF S p y x < 9 := by
  have w := (hB.2.2.2.1 p hp.1 hp.2).2.2
  unfold bhF
  by_cases e : 0 < x
  · rw [if_pos e]; omega
  · rw [if_neg e]
    by_cases e2 : y.tmod (sE S p) = 0
    · rw [if_pos e2]; omega
    · rw [if_neg e2]; omega
def wyA (A D : Nat) : Prop := (A = 89 ∧ D = 90) ∨ (A = 90 ∧ D = 89)
theorem TTy {A D : Nat} (h : wyA A D) : TT A = (1, 9) ∧ TT D = (1, 9) := by
  rcases h with ⟨rfl, rfl⟩ | ⟨rfl, rfl⟩ <;> exact ⟨rfl, rfl⟩
theorem FS_wy {h g g' : HP} {A D : Nat} (ha : wyA A D) (F : FS h g) (f1 : ∀ b, b ≠ D → hA g' b = hA g b) (i1 : hI g' = hI g) (r1 : hR g' = hR g) : FS h g' := by
  obtain ⟨g1, g2, g3, g4, g5, g6, g7⟩ := F.2.2.2
  have hD : D = 89 ∨ D = 90 := by rcases ha with ⟨-, e⟩ | ⟨-, e⟩ <;> omega
  refine ⟨fun a h1 => ?_, fun a k h1 => by rw [i1]; exact F.2.1 a k h1, fun a k h1 => by rw [r1]; exact F.2.2.1 a k h1, ?_⟩
  · rw [f1 a (fun e => by rcases hD with rfl | rfl <;> (rw [e] at h1; cases h1))]; exact F.1 a h1
  · exact ⟨by rw [f1 44 (by omega)]; exact g1, by rw [f1 47 (by omega)]; exact g2, by rw [f1 59 (by omega)]; exact g3, by rw [f1 62 (by omega)]; exact g4, by rw [f1 87 (by omega)]; exact g5, by rw [f1 104 (by omega)]; exact g6, by rw [r1]; exact g7⟩
theorem FS_sw {h g g1 g2 : HP} {A D : Nat} (ha : wyA A D) (F : FS h g) (e1 : g1 = sR g 84 3 D) (e2 : g2 = sR g1 84 4 A) : FS h g2 ∧ hR g2 84 3 = D ∧ hR g2 84 4 = A ∧ hA g2 = hA g := by
  obtain ⟨a1, f1, i1, r1⟩ := sR_fx e1
  obtain ⟨a2, f2, i2, r2⟩ := sR_fx e2
  have q3 : hR g2 84 3 = D := by rw [f2 84 3 (Or.inr (by decide))]; exact a1
  refine ⟨⟨fun a h1 => by rw [i2, i1]; exact F.1 a h1, fun a k h1 => by rw [r2, r1]; exact F.2.1 a k h1, fun a k h1 => ?_, ?_⟩, q3, a2, by rw [i2, i1]⟩
  · rw [f2 a k (by
      by_cases z : a = 84
      · exact Or.inr (fun z2 => by rw [z, z2] at h1; cases h1)
      · exact Or.inl z), f1 a k (by
      by_cases z : a = 84
      · exact Or.inr (fun z2 => by rw [z, z2] at h1; cases h1)
      · exact Or.inl z)]
    exact F.2.2.1 a k h1
  · obtain ⟨g1', g2', g3, g4, g5, g6, g7⟩ := F.2.2.2
    unfold G32
    rw [i2, i1]
    refine ⟨g1', g2', g3, g4, g5, g6, ?_⟩
    rw [q3, a2]
    rcases ha with ⟨rfl, rfl⟩ | ⟨rfl, rfl⟩
    · exact Or.inr ⟨rfl, rfl⟩
    · exact Or.inl ⟨rfl, rfl⟩
def mX10_wipe : MI := (yX10_wipe, cX10_wipe, 2, none, rmK 1 0)
def tX10_wipe : List (Nat × Instr × Nat) := [(0, .iconst 0, 1), (1, .istore_n 1, 1), (2, .iload_n 1, 1), (3, .aload_n 0, 1), (4, .arraylength, 1), (5, .if_icmp .ge 13, 3), (8, .aload_n 0, 1), (9, .iload_n 1, 1), (10, .iconst 0, 1), (11, .iastore, 1), (12, .iinc 1 1, 3), (15, .goto (-13), 3), (18, .return_, 1)]
theorem dtX10_wipe : tX10_wipe.all (fun q => decide (decode cX10_wipe q.1 = .ok (q.2.1, q.2.2))) = true := by decide +kernel
theorem npX10_wipe : (parseMethodDescriptor (mY mX10_wipe).desc).map (fun d => d.parameters.length) = some 1 := by decide +kernel
theorem vX10_wipe : mS mX10_wipe := ⟨wT_X10_wipe, wN_X10, wC_X10_wipe, by decide +kernel, by decide +kernel⟩
set_option maxHeartbeats 4000000 in
set_option maxRecDepth 100000 in
theorem lp_X10_wipe {Q : AO → HP → Prop} {h : HP} {A : Nat} (hTA : TT A = (1, 9)) (hQ : ∀ h', (∀ i : Int, 0 ≤ i → i < 9 → hA h' A i = 0) → (∀ b, b ≠ A → hA h' b = hA h b) → hI h' = hI h → hR h' = hR h → Q (.inl none) h') : ∀ (d k : Nat) (hh : HP), k + d = 9 → (∀ i : Int, 0 ≤ i → i < (k : Int) → hA hh A i = 0) → (∀ b, b ≠ A → hA hh b = hA h b) → hI hh = hI h → hR hh = hR h → K mX10_wipe GK (ZK Q 0 0) 0 0 2 [(1, vi (k : Int)), (0, vr A)] [] hh := by
  intro d
  induction d with
  | zero =>
    intro k hh hk zr fr ei er
    refine K_iload_n (dt_at dtX10_wipe 2 rfl) rfl rfl ?_
    refine K_aload_n (dt_at dtX10_wipe 3 rfl) rfl rfl ?_
    refine K_alen (dt_at dtX10_wipe 4 rfl) hTA ?_
    show K mX10_wipe _ _ 0 0 5 [(1, vi (k : Int)), (0, vr A)] [vi 9, vi (k : Int)] hh
    refine K_icmp_ge (tgt := 18) (dt_at dtX10_wipe 5 rfl) (by decide) (by first | assumption | exact ⟨by omega, by omega⟩) (by first | assumption | exact ⟨by omega, by omega⟩) (fun c1 => ?_) (fun c1 => absurd c1 (by omega))
    exact K_vret (dt_at dtX10_wipe 12 rfl) rfl (by decide) (by decide) (hQ hh (fun i h0 h1 => zr i h0 (by omega)) fr ei er)
  | succ d ih =>
    intro k hh hk zr fr ei er
    refine K_iload_n (dt_at dtX10_wipe 2 rfl) rfl rfl ?_
    refine K_aload_n (dt_at dtX10_wipe 3 rfl) rfl rfl ?_
    refine K_alen (dt_at dtX10_wipe 4 rfl) hTA ?_
    show K mX10_wipe _ _ 0 0 5 [(1, vi (k : Int)), (0, vr A)] [vi 9, vi (k : Int)] hh
    refine K_icmp_ge (tgt := 18) (dt_at dtX10_wipe 5 rfl) (by decide) (by first | assumption | exact ⟨by omega, by omega⟩) (by first | assumption | exact ⟨by omega, by omega⟩) (fun c1 => absurd c1 (by omega)) (fun c1 => ?_)
    refine K_aload_n (dt_at dtX10_wipe 6 rfl) rfl rfl ?_
    refine K_iload_n (dt_at dtX10_wipe 7 rfl) rfl rfl ?_
    refine K_iconst (dt_at dtX10_wipe 8 rfl) ?_
    refine K_iast (dt_at dtX10_wipe 9 rfl) hTA (by omega) (by omega) ?_
    obtain ⟨hq1, eq1⟩ : ∃ z, z = sA hh A (k : Int) 0 := ⟨_, rfl⟩
    rw [← eq1]
    obtain ⟨aq1, fq1, iq1, rq1⟩ := sA_fx eq1
    refine K_iinc (ls' := [(1, vi ((k : Int) + 1)), (0, vr A)]) (dt_at dtX10_wipe 10 rfl) rfl (by decide) rfl ?_
    refine K_goto (tgt := 2) (dt_at dtX10_wipe 11 rfl) (by decide) ?_
    exact K_pk [0, 1] rfl (ih (k + 1) hq1 (by omega) (fun i h0 h1 => by rw [aq1]; unfold upI; by_cases z : i = (k : Int); rw [if_pos z]; rw [if_neg z]; exact zr i h0 (by omega)) (fun b hb => by rw [fq1 b hb]; exact fr b hb) (by rw [iq1]; exact ei) (by rw [rq1]; exact er))
set_option maxHeartbeats 4000000 in
set_option maxRecDepth 100000 in
theorem sX10_wipe {h : HP} {A : Nat} (hTA : TT A = (1, 9)) : SpecK mX10_wipe [vr A] h (fun o h' => o = .inl none ∧ (∀ i : Int, 0 ≤ i → i < 9 → hA h' A i = 0) ∧ (∀ b, b ≠ A → hA h' b = hA h b) ∧ hI h' = hI h ∧ hR h' = hR h) := by
  refine Spec_of (by decide +kernel) (Nat.le_of_ble_eq_true rfl) ?_
  refine K_iconst (dt_at dtX10_wipe 0 rfl) ?_
  refine K_istore_n (ls' := [(1, vi 0), (0, vr A)]) (dt_at dtX10_wipe 1 rfl) rfl (by decide) rfl ?_
  exact K_pk [0, 1] rfl (lp_X10_wipe hTA (fun h' q1 q2 q3 q4 => ⟨rfl, q1, q2, q3, q4⟩) 9 0 h (by omega) (fun i h0 h1 => absurd h1 (by omega)) (fun _ _ => rfl) rfl rfl)
def mX10_outBehind : MI := (yX10_outBehind, cX10_outBehind, 4, (some .int), rmK 2 0)
def tX10_outBehind : List (Nat × Instr × Nat) := [(0, .iload_n 2, 1), (1, .ifCond .le 7, 3), (4, .iload_n 2, 1), (5, .iconst 1, 1), (6, .isub, 1), (7, .ireturn, 1), (8, .aload_n 0, 1), (9, .getfield 64, 3), (12, .iload_n 1, 1), (13, .iaload, 1), (14, .iload_n 3, 1), (15, .invokestatic 71, 3), (18, .ifCond .eq 12, 3), (21, .aload_n 0, 1), (22, .getfield 124, 3), (25, .iload_n 1, 1), (26, .iaload, 1), (27, .goto 4, 3), (30, .iconst 0, 1), (31, .ireturn, 1)]
theorem dtX10_outBehind : tX10_outBehind.all (fun q => decide (decode cX10_outBehind q.1 = .ok (q.2.1, q.2.2))) = true := by decide +kernel
theorem npX10_outBehind : (parseMethodDescriptor (mY mX10_outBehind).desc).map (fun d => d.parameters.length) = some 4 := by decide +kernel
theorem vX10_outBehind : mS mX10_outBehind := ⟨wT_X10_outBehind, wN_X10, wC_X10_outBehind, by decide +kernel, by decide +kernel⟩
set_option maxHeartbeats 4000000 in
set_option maxRecDepth 100000 in
theorem sX10_outBehind {h : HP} {t : Nat} {S : HS} {B : Int} {f : Int → Int} {p x y : Int} (c : CQ h t S B f) (hp : 0 ≤ p ∧ p < sNp S) (hx : 0 ≤ x ∧ x < 9) (hy : 0 ≤ y ∧ y ≤ 100000) : SpecK mX10_outBehind [vr t, vi p, vi x, vi y] h (fun o h' => o = .inl (some (vi (bhF S p y x))) ∧ h' = h) := by
  refine Spec_of (by decide +kernel) (Nat.le_of_ble_eq_true rfl) ?_
  have ht := c.1
  have hH := TTt ht
  have hB := c.2.2.2.1
  have hNt := hB.1
  have hNp := hB.2.1
  have hT := c.2.2.2.2.2.1
  have hC := c.2.2.2.2.2.2.1
  have h99 := c.2.2.2.2.2.2.2.1
  have G := c.2.2.2.2.2.2.2.2
  have hf0 := hT.2.2.2.1
  have w := (hB.2.2.2.1 p hp.1 hp.2).2
  refine K_iload_n (dt_at dtX10_outBehind 0 rfl) rfl rfl ?_
  refine K_if_le (tgt := 8) (dt_at dtX10_outBehind 1 rfl) (by decide) (by first | assumption | exact ⟨by omega, by omega⟩) (fun c1 => ?_) (fun c1 => ?_)
  · refine K_aload_n (dt_at dtX10_outBehind 6 rfl) rfl rfl ?_
    refine K_get (a := t) (ci := 3) (k := 4) (v := vr (t + 5)) (dt_at dtX10_outBehind 7 rfl) hH rfl (by decide) wF_X10_64 rfl ?_
    refine K_iload_n (dt_at dtX10_outBehind 8 rfl) rfl rfl ?_
    refine K_iald (dt_at dtX10_outBehind 9 rfl) (lay_3_4 hH) (by omega) (by omega) ?_
    rw [c.2.2.1.1.2.2.2.1]
    refine K_iload_n (dt_at dtX10_outBehind 10 rfl) rfl rfl ?_
    refine K_callS (M' := mX10_leavesOn) (As := [vi ((sE S) p), vi y]) (st := []) (dt_at dtX10_outBehind 11 rfl) (sX10_leavesOn ⟨by omega, by omega⟩ ⟨by omega, by omega⟩) wL_X10_71 vX10_leavesOn rfl npX10_leavesOn (by decide) (by decide) (Nat.le_of_ble_eq_true rfl) (by decide) (by decide) GK_E (fun v9 h9 hq => ?_) (fun E h9 hq => by cases hq.1)
    obtain ⟨e9, e8⟩ := hq
    cases e9
    rw [e8]
    show K mX10_outBehind _ _ 0 0 18 [(0, vr t), (1, vi p), (2, vi x), (3, vi y)] [vi (if (y).tmod ((sE S) p) = 0 then 1 else 0)] h
    by_cases z2 : (y).tmod ((sE S) p) = 0
    · rw [if_pos z2]
      refine K_if_eq (tgt := 30) (dt_at dtX10_outBehind 12 rfl) (by decide) (by first | assumption | exact ⟨by omega, by omega⟩) (fun c3 => absurd c3 (by omega)) (fun c3 => ?_)
      refine K_aload_n (dt_at dtX10_outBehind 13 rfl) rfl rfl ?_
      refine K_get (a := t) (ci := 3) (k := 5) (v := vr (t + 6)) (dt_at dtX10_outBehind 14 rfl) hH rfl (by decide) wF_X10_124 rfl ?_
      refine K_iload_n (dt_at dtX10_outBehind 15 rfl) rfl rfl ?_
      refine K_iald (dt_at dtX10_outBehind 16 rfl) (lay_3_5 hH) (by omega) (by omega) ?_
      rw [c.2.2.1.1.2.2.2.2]
      refine K_goto (tgt := 31) (dt_at dtX10_outBehind 17 rfl) (by decide) ?_
      exact K_iret (dt_at dtX10_outBehind 19 rfl) rfl rfl (by decide) (by decide) ⟨by rw [show bhF S p y x = _ from (if_neg (by omega)).trans (if_pos (by assumption))], rfl⟩
    · rw [if_neg z2]
      refine K_if_eq (tgt := 30) (dt_at dtX10_outBehind 12 rfl) (by decide) (by first | assumption | exact ⟨by omega, by omega⟩) (fun c4 => ?_) (fun c4 => absurd c4 (by omega))
      refine K_iconst (dt_at dtX10_outBehind 18 rfl) ?_
      exact K_iret (dt_at dtX10_outBehind 19 rfl) rfl rfl (by decide) (by decide) ⟨by rw [show bhF S p y x = _ from (if_neg (by omega)).trans (if_neg (by assumption))], rfl⟩
  · refine K_iload_n (dt_at dtX10_outBehind 2 rfl) rfl rfl ?_
    refine K_iconst (dt_at dtX10_outBehind 3 rfl) ?_
    refine K_isub (dt_at dtX10_outBehind 4 rfl) ?_
    exact K_iret (dt_at dtX10_outBehind 5 rfl) rfl rfl (by decide) (by decide) ⟨by rw [show bhF S p y x = _ from if_pos (by omega)], rfl⟩
def mX10_waysIn : MI := (yX10_waysIn, cX10_waysIn, 9, (some .int), rmK 3 0)
def tX10_waysIn : List (Nat × Instr × Nat) := [(0, .aload_n 0, 1), (1, .getfield 27, 3), (4, .invokestatic 185, 3), (7, .aload_n 0, 1), (8, .getfield 27, 3), (11, .aload_n 2, 1), (12, .iload_n 3, 1), (13, .invokevirtual 91, 3), (16, .iconst 1, 1), (17, .iastore, 1), (18, .aload_n 2, 1), (19, .invokevirtual 67, 3), (22, .istore 6, 2), (24, .iload 6, 2), (26, .aload_n 2, 1), (27, .invokevirtual 67, 3), (30, .iload 4, 2), (32, .iadd, 1), (33, .if_icmp .ge 109, 3), (36, .aload_n 0, 1), (37, .getfield 30, 3), (40, .invokestatic 185, 3), (43, .iconst 0, 1), (44, .istore 7, 2), (46, .iload 7, 2), (48, .aload_n 0, 1), (49, .getfield 27, 3), (52, .arraylength, 1), (53, .if_icmp .ge 63, 3), (56, .aload_n 1, 1), (57, .iload_n 3, 1), (58, .iload 7, 2), (60, .iload 6, 2), (62, .invokestatic 189, 3), (65, .istore 8, 2), (67, .aload_n 0, 1), (68, .getfield 30, 3), (71, .iload 7, 2), (73, .dup2, 1), (74, .iaload, 1), (75, .aload_n 0, 1), (76, .getfield 27, 3), (79, .iload 7, 2), (81, .iaload, 1), (82, .iload 5, 2), (84, .imul, 1), (85, .iadd, 1), (86, .iastore, 1), (87, .aload_n 0, 1), (88, .getfield 30, 3), (91, .iload 8, 2), (93, .dup2, 1), (94, .iaload, 1), (95, .aload_n 0, 1), (96, .getfield 27, 3), (99, .iload 7, 2), (101, .iaload, 1), (102, .bipush 10, 2), (104, .iload 5, 2), (106, .isub, 1), (107, .imul, 1), (108, .iadd, 1), (109, .iastore, 1), (110, .iinc 7 1, 3), (113, .goto (-67), 3), (116, .aload_n 0, 1), (117, .getfield 27, 3), (120, .astore 7, 2), (122, .aload_n 0, 1), (123, .aload_n 0, 1), (124, .getfield 30, 3), (127, .putfield 27, 3), (130, .aload_n 0, 1), (131, .aload 7, 2), (133, .putfield 30, 3), (136, .iinc 6 1, 3), (139, .goto (-115), 3), (142, .aload_n 0, 1), (143, .getfield 27, 3), (146, .iconst 0, 1), (147, .iaload, 1), (148, .ireturn, 1)]
theorem dtX10_waysIn : tX10_waysIn.all (fun q => decide (decode cX10_waysIn q.1 = .ok (q.2.1, q.2.2))) = true := by decide +kernel
theorem npX10_waysIn : (parseMethodDescriptor (mY mX10_waysIn).desc).map (fun d => d.parameters.length) = some 5 := by decide +kernel
theorem vX10_waysIn : mV mX10_waysIn := ⟨wI_X10_waysIn, wS_X10_waysIn, wN_X10, wC_X10_waysIn, by decide +kernel, by decide +kernel⟩
set_option maxHeartbeats 4000000 in
set_option maxRecDepth 100000 in
theorem li_X10_waysIn {Z : CT → State → Prop} {h : HP} {t : Nat} {S : HS} {B : Int} {f : Int → Int} {p T : Int} {n : Nat} {A D e : Nat} (c0 : CQ h t S B f) (hp : 0 ≤ p ∧ p < sNp S) (hn : n ≤ 5) (wa : wyA A D) (he : e < 5) (kx : ∀ h2, FS h h2 → hR h2 84 3 = A → hR h2 84 4 = D → (∀ i : Int, 0 ≤ i → i < 9 → hA h2 D i = wyN S f p T (e + 1) i) → K mX10_waysIn GK Z 0 0 116 [(6, vi (f 0 + (e : Int))), (0, vr 84), (1, vr t), (2, vr 66), (3, vi p), (4, vi (n : Int)), (5, vi T)] [] h2) : ∀ (d k : Nat) (hh : HP), k + d = 9 → FS h hh → hR hh 84 3 = A → hR hh 84 4 = D → (∀ i : Int, 0 ≤ i → i < 9 → hA hh A i = (wyN S f p T e) i) → (∀ i : Int, 0 ≤ i → i < 9 → hA hh D i = wsO (wyN S f p T e) (bhF S p (f 0 + (e : Int))) T k i) → K mX10_waysIn GK Z 0 0 46 [(7, vi (k : Int)), (6, vi (f 0 + (e : Int))), (0, vr 84), (1, vr t), (2, vr 66), (3, vi p), (4, vi (n : Int)), (5, vi T)] [] hh := by
  intro d
  induction d with
  | zero =>
    intro k hh hk Fh q3 q4 hw hz
    have c := CQ_FS c0 Fh
    have ht := c.1
    have hH := TTt ht
    have hB := c.2.2.2.1
    have hNt := hB.1
    have hNp := hB.2.1
    have hT := c.2.2.2.2.2.1
    have hC := c.2.2.2.2.2.2.1
    have h99 := c.2.2.2.2.2.2.2.1
    have hf0 := hT.2.2.2.1
    obtain ⟨hTA, hTD⟩ := TTy wa
    have neq : A ≠ D := by rcases wa with ⟨rfl, rfl⟩ | ⟨rfl, rfl⟩ <;> decide
    have ek : k = 9 := by omega
    refine K_iload (dt_at dtX10_waysIn 24 rfl) rfl ?_
    refine K_aload_n (dt_at dtX10_waysIn 25 rfl) rfl rfl ?_
    refine K_get (a := 84) (ci := 10) (k := 3) (v := vr A) (dt_at dtX10_waysIn 26 rfl) (show TT 84 = (0, 10) from rfl) rfl (by decide) wF_X10_27 (by show vr (hR hh 84 3) = vr A; rw [q3]) ?_
    refine K_alen (dt_at dtX10_waysIn 27 rfl) hTA ?_
    show K mX10_waysIn _ _ 0 0 53 [(7, vi (k : Int)), (6, vi (f 0 + (e : Int))), (0, vr 84), (1, vr t), (2, vr 66), (3, vi p), (4, vi (n : Int)), (5, vi T)] [vi 9, vi (k : Int)] hh
    refine K_icmp_ge (tgt := 116) (dt_at dtX10_waysIn 28 rfl) (by decide) (by first | assumption | exact ⟨by omega, by omega⟩) (by first | assumption | exact ⟨by omega, by omega⟩) (fun c1 => ?_) (fun c1 => absurd c1 (by omega))
    exact K_pk [1, 2, 3, 4, 5, 6, 7] rfl (kx hh Fh q3 q4 (by rw [ek] at hz; exact hz))
  | succ d ih =>
    intro k hh hk Fh q3 q4 hw hz
    have c := CQ_FS c0 Fh
    have ht := c.1
    have hH := TTt ht
    have hB := c.2.2.2.1
    have hNt := hB.1
    have hNp := hB.2.1
    have hT := c.2.2.2.2.2.1
    have hC := c.2.2.2.2.2.2.1
    have h99 := c.2.2.2.2.2.2.2.1
    have hf0 := hT.2.2.2.1
    obtain ⟨hTA, hTD⟩ := TTy wa
    have neq : A ≠ D := by rcases wa with ⟨rfl, rfl⟩ | ⟨rfl, rfl⟩ <;> decide
    have wb := bhF_b (y := f 0 + (e : Int)) (x := (k : Int)) hB hp ⟨by omega, by omega⟩
    refine K_iload (dt_at dtX10_waysIn 24 rfl) rfl ?_
    refine K_aload_n (dt_at dtX10_waysIn 25 rfl) rfl rfl ?_
    refine K_get (a := 84) (ci := 10) (k := 3) (v := vr A) (dt_at dtX10_waysIn 26 rfl) (show TT 84 = (0, 10) from rfl) rfl (by decide) wF_X10_27 (by show vr (hR hh 84 3) = vr A; rw [q3]) ?_
    refine K_alen (dt_at dtX10_waysIn 27 rfl) hTA ?_
    show K mX10_waysIn _ _ 0 0 53 [(7, vi (k : Int)), (6, vi (f 0 + (e : Int))), (0, vr 84), (1, vr t), (2, vr 66), (3, vi p), (4, vi (n : Int)), (5, vi T)] [vi 9, vi (k : Int)] hh
    refine K_icmp_ge (tgt := 116) (dt_at dtX10_waysIn 28 rfl) (by decide) (by first | assumption | exact ⟨by omega, by omega⟩) (by first | assumption | exact ⟨by omega, by omega⟩) (fun c1 => absurd c1 (by omega)) (fun c1 => ?_)
    refine K_aload_n (dt_at dtX10_waysIn 29 rfl) rfl rfl ?_
    refine K_iload_n (dt_at dtX10_waysIn 30 rfl) rfl rfl ?_
    refine K_iload (dt_at dtX10_waysIn 31 rfl) rfl ?_
    refine K_iload (dt_at dtX10_waysIn 32 rfl) rfl ?_
    refine K_callS (M' := mX10_outBehind) (As := [vr t, vi p, vi (k : Int), vi (f 0 + (e : Int))]) (st := []) (dt_at dtX10_waysIn 33 rfl) (sX10_outBehind c hp ⟨by omega, by omega⟩ ⟨by omega, by omega⟩) wL_X10_189 vX10_outBehind rfl npX10_outBehind (by decide) (by decide) (Nat.le_of_ble_eq_true rfl) (by decide) (by decide) GK_E (fun v9 h9 hq => ?_) (fun E h9 hq => by cases hq.1)
    obtain ⟨e9, e8⟩ := hq
    cases e9
    rw [e8]
    show K mX10_waysIn _ _ 0 0 65 [(7, vi (k : Int)), (6, vi (f 0 + (e : Int))), (0, vr 84), (1, vr t), (2, vr 66), (3, vi p), (4, vi (n : Int)), (5, vi T)] [vi ((bhF S p (f 0 + (e : Int))) (k : Int))] hh
    refine K_istore (ls' := [(8, vi ((bhF S p (f 0 + (e : Int))) (k : Int))), (7, vi (k : Int)), (6, vi (f 0 + (e : Int))), (0, vr 84), (1, vr t), (2, vr 66), (3, vi p), (4, vi (n : Int)), (5, vi T)]) (dt_at dtX10_waysIn 34 rfl) (by decide) rfl ?_
    refine K_aload_n (dt_at dtX10_waysIn 35 rfl) rfl rfl ?_
    refine K_get (a := 84) (ci := 10) (k := 4) (v := vr D) (dt_at dtX10_waysIn 36 rfl) (show TT 84 = (0, 10) from rfl) rfl (by decide) wF_X10_30 (by show vr (hR hh 84 4) = vr D; rw [q4]) ?_
    refine K_iload (dt_at dtX10_waysIn 37 rfl) rfl ?_
    refine K_dup2 (dt_at dtX10_waysIn 38 rfl) rfl rfl ?_
    refine K_iald (dt_at dtX10_waysIn 39 rfl) hTD (by omega) (by omega) ?_
    refine K_aload_n (dt_at dtX10_waysIn 40 rfl) rfl rfl ?_
    refine K_get (a := 84) (ci := 10) (k := 3) (v := vr A) (dt_at dtX10_waysIn 41 rfl) (show TT 84 = (0, 10) from rfl) rfl (by decide) wF_X10_27 (by show vr (hR hh 84 3) = vr A; rw [q3]) ?_
    refine K_iload (dt_at dtX10_waysIn 42 rfl) rfl ?_
    refine K_iald (dt_at dtX10_waysIn 43 rfl) hTA (by omega) (by omega) ?_
    refine K_iload (dt_at dtX10_waysIn 44 rfl) rfl ?_
    refine K_imul (dt_at dtX10_waysIn 45 rfl) ?_
    refine K_iadd (dt_at dtX10_waysIn 46 rfl) ?_
    refine K_iast (dt_at dtX10_waysIn 47 rfl) hTD (by omega) (by omega) ?_
    obtain ⟨hq1, eq1⟩ : ∃ z, z = sA hh D (k : Int) ((hA hh D (k : Int)) + ((hA hh A (k : Int)) * T)) := ⟨_, rfl⟩
    rw [← eq1]
    obtain ⟨aq1, fq1, iq1, rq1⟩ := sA_fx eq1
    refine K_aload_n (dt_at dtX10_waysIn 48 rfl) rfl rfl ?_
    refine K_get (a := 84) (ci := 10) (k := 4) (v := vr D) (dt_at dtX10_waysIn 49 rfl) (show TT 84 = (0, 10) from rfl) rfl (by decide) wF_X10_30 (by show vr (hR hq1 84 4) = vr D; rw [rq1, q4]) ?_
    refine K_iload (dt_at dtX10_waysIn 50 rfl) rfl ?_
    refine K_dup2 (dt_at dtX10_waysIn 51 rfl) rfl rfl ?_
    refine K_iald (dt_at dtX10_waysIn 52 rfl) hTD (by omega) (by omega) ?_
    rw [aq1]
    refine K_aload_n (dt_at dtX10_waysIn 53 rfl) rfl rfl ?_
    refine K_get (a := 84) (ci := 10) (k := 3) (v := vr A) (dt_at dtX10_waysIn 54 rfl) (show TT 84 = (0, 10) from rfl) rfl (by decide) wF_X10_27 (by show vr (hR hq1 84 3) = vr A; rw [rq1, q3]) ?_
    refine K_iload (dt_at dtX10_waysIn 55 rfl) rfl ?_
    refine K_iald (dt_at dtX10_waysIn 56 rfl) hTA (by omega) (by omega) ?_
    rw [(fq1 A (by omega))]
    refine K_bipush (dt_at dtX10_waysIn 57 rfl) (by decide) ?_
    refine K_iload (dt_at dtX10_waysIn 58 rfl) rfl ?_
    refine K_isub (dt_at dtX10_waysIn 59 rfl) ?_
    refine K_imul (dt_at dtX10_waysIn 60 rfl) ?_
    refine K_iadd (dt_at dtX10_waysIn 61 rfl) ?_
    refine K_iast (dt_at dtX10_waysIn 62 rfl) hTD (by omega) (by omega) ?_
    obtain ⟨hq2, eq2⟩ : ∃ z, z = sA hq1 D ((bhF S p (f 0 + (e : Int))) (k : Int)) (((upI (hA hh D) (k : Int) ((hA hh D (k : Int)) + ((hA hh A (k : Int)) * T))) ((bhF S p (f 0 + (e : Int))) (k : Int))) + ((hA hh A (k : Int)) * (10 - T))) := ⟨_, rfl⟩
    rw [← eq2]
    obtain ⟨aq2, fq2, iq2, rq2⟩ := sA_fx eq2
    rw [aq1] at aq2
    refine K_iinc (ls' := [(7, vi ((k : Int) + 1)), (8, vi ((bhF S p (f 0 + (e : Int))) (k : Int))), (6, vi (f 0 + (e : Int))), (0, vr 84), (1, vr t), (2, vr 66), (3, vi p), (4, vi (n : Int)), (5, vi T)]) (dt_at dtX10_waysIn 63 rfl) rfl (by decide) rfl ?_
    refine K_goto (tgt := 46) (dt_at dtX10_waysIn 64 rfl) (by decide) ?_
    have F2 := FS_wy wa Fh (g' := hq2) (fun b hb => by rw [fq2 b hb, fq1 b hb]) (by rw [iq2, iq1]) (by rw [rq2, rq1])
    exact K_pk [0, 2, 3, 4, 5, 6, 7, 8] rfl (ih (k + 1) hq2 (by omega) F2 (by rw [rq2, rq1]; exact q3) (by rw [rq2, rq1]; exact q4) (fun i h0 h1 => by rw [fq2 A neq, fq1 A neq]; exact hw i h0 h1) (fun i h0 h1 => by rw [aq2]; exact wsO_up (w' := hA hh A) (by omega) (bhF_b hB hp ⟨by omega, by omega⟩) hz (hw _ (by omega) (by omega)) i h0 h1))
set_option maxHeartbeats 4000000 in
set_option maxRecDepth 100000 in
theorem lo_X10_waysIn {Q : AO → HP → Prop} {h : HP} {t : Nat} {S : HS} {B : Int} {f : Int → Int} {p T : Int} {n : Nat} (c0 : CQ h t S B f) (hp : 0 ≤ p ∧ p < sNp S) (hn : n ≤ 5) (hQ : ∀ h2, FS h h2 → Q (.inl (some (vi (wyN S f p T n 0)))) h2) : ∀ (d k : Nat) (hh : HP) (A D : Nat), k + d = n → wyA A D → FS h hh → hR hh 84 3 = A → hR hh 84 4 = D → (∀ i : Int, 0 ≤ i → i < 9 → hA hh A i = wyN S f p T k i) → K mX10_waysIn GK (ZK Q 0 0) 0 0 24 [(6, vi (f 0 + (k : Int))), (0, vr 84), (1, vr t), (2, vr 66), (3, vi p), (4, vi (n : Int)), (5, vi T)] [] hh := by
  intro d
  induction d with
  | zero =>
    intro k hh A D hk wa Fh q3 q4 hw
    have c := CQ_FS c0 Fh
    have ht := c.1
    have hH := TTt ht
    have hB := c.2.2.2.1
    have hNt := hB.1
    have hNp := hB.2.1
    have hT := c.2.2.2.2.2.1
    have hC := c.2.2.2.2.2.2.1
    have h99 := c.2.2.2.2.2.2.2.1
    have hf0 := hT.2.2.2.1
    obtain ⟨hTA, hTD⟩ := TTy wa
    have neq : A ≠ D := by rcases wa with ⟨rfl, rfl⟩ | ⟨rfl, rfl⟩ <;> decide
    have ek : k = n := by omega
    refine K_iload (dt_at dtX10_waysIn 13 rfl) rfl ?_
    refine K_aload_n (dt_at dtX10_waysIn 14 rfl) rfl rfl ?_
    refine K_callV (M' := mX8_day) (a := 66) (ci := 8) (As := []) (st := [vi (f 0 + (k : Int))]) (dt_at dtX10_waysIn 15 rfl) (sX8_day (a := 66) rfl) (show TT 66 = (0, 8) from rfl) rfl wL_X10_67 vX8_day rfl npX8_day (by decide) (by decide) (Nat.le_of_ble_eq_true rfl) (by decide) (by decide) GK_E (fun v9 h9 hq => ?_) (fun E h9 hq => by cases hq.1)
    obtain ⟨e9, e8⟩ := hq
    cases e9
    rw [e8]
    show K mX10_waysIn _ _ 0 0 30 [(6, vi (f 0 + (k : Int))), (0, vr 84), (1, vr t), (2, vr 66), (3, vi p), (4, vi (n : Int)), (5, vi T)] [vi (hA hh (66 + 1) 0), vi (f 0 + (k : Int))] hh
    rw [show hA hh (66 + 1) = f by exact c.2.2.2.2.1]
    refine K_iload (dt_at dtX10_waysIn 16 rfl) rfl ?_
    refine K_iadd (dt_at dtX10_waysIn 17 rfl) ?_
    refine K_icmp_ge (tgt := 142) (dt_at dtX10_waysIn 18 rfl) (by decide) (by first | assumption | exact ⟨by omega, by omega⟩) (by first | assumption | exact ⟨by omega, by omega⟩) (fun c1 => ?_) (fun c1 => absurd c1 (by omega))
    refine K_aload_n (dt_at dtX10_waysIn 77 rfl) rfl rfl ?_
    refine K_get (a := 84) (ci := 10) (k := 3) (v := vr A) (dt_at dtX10_waysIn 78 rfl) (show TT 84 = (0, 10) from rfl) rfl (by decide) wF_X10_27 (by show vr (hR hh 84 3) = vr A; rw [q3]) ?_
    refine K_iconst (dt_at dtX10_waysIn 79 rfl) ?_
    refine K_iald (dt_at dtX10_waysIn 80 rfl) hTA (by omega) (by omega) ?_
    exact K_iret (dt_at dtX10_waysIn 81 rfl) rfl rfl (by decide) (by decide) (by rw [hw 0 (by decide) (by decide), ek]; exact hQ hh Fh)
  | succ d ih =>
    intro k hh A D hk wa Fh q3 q4 hw
    have c := CQ_FS c0 Fh
    have ht := c.1
    have hH := TTt ht
    have hB := c.2.2.2.1
    have hNt := hB.1
    have hNp := hB.2.1
    have hT := c.2.2.2.2.2.1
    have hC := c.2.2.2.2.2.2.1
    have h99 := c.2.2.2.2.2.2.2.1
    have hf0 := hT.2.2.2.1
    obtain ⟨hTA, hTD⟩ := TTy wa
    have neq : A ≠ D := by rcases wa with ⟨rfl, rfl⟩ | ⟨rfl, rfl⟩ <;> decide
    refine K_iload (dt_at dtX10_waysIn 13 rfl) rfl ?_
    refine K_aload_n (dt_at dtX10_waysIn 14 rfl) rfl rfl ?_
    refine K_callV (M' := mX8_day) (a := 66) (ci := 8) (As := []) (st := [vi (f 0 + (k : Int))]) (dt_at dtX10_waysIn 15 rfl) (sX8_day (a := 66) rfl) (show TT 66 = (0, 8) from rfl) rfl wL_X10_67 vX8_day rfl npX8_day (by decide) (by decide) (Nat.le_of_ble_eq_true rfl) (by decide) (by decide) GK_E (fun v9 h9 hq => ?_) (fun E h9 hq => by cases hq.1)
    obtain ⟨e9, e8⟩ := hq
    cases e9
    rw [e8]
    show K mX10_waysIn _ _ 0 0 30 [(6, vi (f 0 + (k : Int))), (0, vr 84), (1, vr t), (2, vr 66), (3, vi p), (4, vi (n : Int)), (5, vi T)] [vi (hA hh (66 + 1) 0), vi (f 0 + (k : Int))] hh
    rw [show hA hh (66 + 1) = f by exact c.2.2.2.2.1]
    refine K_iload (dt_at dtX10_waysIn 16 rfl) rfl ?_
    refine K_iadd (dt_at dtX10_waysIn 17 rfl) ?_
    refine K_icmp_ge (tgt := 142) (dt_at dtX10_waysIn 18 rfl) (by decide) (by first | assumption | exact ⟨by omega, by omega⟩) (by first | assumption | exact ⟨by omega, by omega⟩) (fun c1 => absurd c1 (by omega)) (fun c1 => ?_)
    refine K_aload_n (dt_at dtX10_waysIn 19 rfl) rfl rfl ?_
    refine K_get (a := 84) (ci := 10) (k := 4) (v := vr D) (dt_at dtX10_waysIn 20 rfl) (show TT 84 = (0, 10) from rfl) rfl (by decide) wF_X10_30 (by show vr (hR hh 84 4) = vr D; rw [q4]) ?_
    refine K_callS (M' := mX10_wipe) (As := [vr D]) (st := []) (dt_at dtX10_waysIn 21 rfl) (sX10_wipe hTD) wL_X10_185 vX10_wipe rfl npX10_wipe (by decide) (by decide) (Nat.le_of_ble_eq_true rfl) (by decide) (by decide) GK_E (fun v9 hc1 hq => ?_) (fun E h9 hq => by cases hq.1)
    have hqq2 := hq
    obtain ⟨e9q2, z1, z2, z3, z4⟩ := hqq2
    have F2 := FS_wy wa Fh z2 z3 z4
    cases e9q2
    show K mX10_waysIn _ _ 0 0 43 [(6, vi (f 0 + (k : Int))), (0, vr 84), (1, vr t), (2, vr 66), (3, vi p), (4, vi (n : Int)), (5, vi T)] [] hc1
    refine K_iconst (dt_at dtX10_waysIn 22 rfl) ?_
    refine K_istore (ls' := [(7, vi 0), (6, vi (f 0 + (k : Int))), (0, vr 84), (1, vr t), (2, vr 66), (3, vi p), (4, vi (n : Int)), (5, vi T)]) (dt_at dtX10_waysIn 23 rfl) (by decide) rfl ?_
    refine K_pk [0, 1, 2, 3, 4, 5, 6, 7] rfl (li_X10_waysIn c0 hp hn wa (e := k) (by omega) (fun h2 F2' q5 q6 hz => ?_) 9 0 hc1 (by omega) F2 (by rw [z4]; exact q3) (by rw [z4]; exact q4) (fun i h0 h1 => by rw [z2 A neq]; exact hw i h0 h1) (fun i h0 h1 => z1 i h0 h1))
    refine K_aload_n (dt_at dtX10_waysIn 65 rfl) rfl rfl ?_
    refine K_get (a := 84) (ci := 10) (k := 3) (v := vr A) (dt_at dtX10_waysIn 66 rfl) (show TT 84 = (0, 10) from rfl) rfl (by decide) wF_X10_27 (by show vr (hR h2 84 3) = vr A; rw [q5]) ?_
    refine K_astore (ls' := [(7, vr A), (6, vi (f 0 + (k : Int))), (0, vr 84), (1, vr t), (2, vr 66), (3, vi p), (4, vi (n : Int)), (5, vi T)]) (dt_at dtX10_waysIn 67 rfl) (by decide) rfl ?_
    refine K_aload_n (dt_at dtX10_waysIn 68 rfl) rfl rfl ?_
    refine K_aload_n (dt_at dtX10_waysIn 69 rfl) rfl rfl ?_
    refine K_get (a := 84) (ci := 10) (k := 4) (v := vr D) (dt_at dtX10_waysIn 70 rfl) (show TT 84 = (0, 10) from rfl) rfl (by decide) wF_X10_30 (by show vr (hR h2 84 4) = vr D; rw [q6]) ?_
    refine K_putR (a := 84) (ci := 10) (k := 3) (dt_at dtX10_waysIn 71 rfl) (show TT 84 = (0, 10) from rfl) rfl (by decide) wF_X10_27 rfl rfl (fun _ => rfl) (fun _ => rfl) ?_
    obtain ⟨hq3, eq3⟩ : ∃ z, z = sR h2 84 3 D := ⟨_, rfl⟩
    rw [← eq3]
    obtain ⟨rq3, fq3, aq3, iq3⟩ := sR_fx eq3
    refine K_aload_n (dt_at dtX10_waysIn 72 rfl) rfl rfl ?_
    refine K_aload (dt_at dtX10_waysIn 73 rfl) rfl ?_
    refine K_putR (a := 84) (ci := 10) (k := 4) (dt_at dtX10_waysIn 74 rfl) (show TT 84 = (0, 10) from rfl) rfl (by decide) wF_X10_30 rfl rfl (fun _ => rfl) (fun _ => rfl) ?_
    obtain ⟨hq4, eq4⟩ : ∃ z, z = sR hq3 84 4 A := ⟨_, rfl⟩
    rw [← eq4]
    obtain ⟨rq4, fq4, aq4, iq4⟩ := sR_fx eq4
    refine K_iinc (ls' := [(6, vi ((f 0 + (k : Int)) + 1)), (7, vr A), (0, vr 84), (1, vr t), (2, vr 66), (3, vi p), (4, vi (n : Int)), (5, vi T)]) (dt_at dtX10_waysIn 75 rfl) rfl (by decide) rfl ?_
    refine K_goto (tgt := 24) (dt_at dtX10_waysIn 76 rfl) (by decide) ?_
    obtain ⟨F3, q7, q8, ea⟩ := FS_sw wa F2' eq3 eq4
    exact K_pk [0, 2, 3, 4, 5, 6, 7] (ls' := [(6, vi (f 0 + (k : Int) + 1)), (0, vr 84), (1, vr t), (2, vr 66), (3, vi p), (4, vi (n : Int)), (5, vi T)]) rfl (K_cg (ls' := [(6, vi (f 0 + ((k + 1 : Nat) : Int))), (0, vr 84), (1, vr t), (2, vr 66), (3, vi p), (4, vi (n : Int)), (5, vi T)]) (h' := hq4) (by rw [show f 0 + (k : Int) + 1 = f 0 + ((k + 1 : Nat) : Int) by omega]) rfl (ih (k + 1) hq4 D A (by omega) (Or.symm wa |>.imp (fun z => ⟨z.2, z.1⟩) (fun z => ⟨z.2, z.1⟩)) F3 q7 q8 (fun i h0 h1 => by rw [ea]; exact hz i h0 h1)))
set_option maxHeartbeats 4000000 in
set_option maxRecDepth 100000 in
theorem sX10_waysIn {h : HP} {t : Nat} {S : HS} {B : Int} {f : Int → Int} {p T : Int} {n : Nat} (c : CQ h t S B f) (hp : 0 ≤ p ∧ p < sNp S) (hn : n ≤ 5) : SpecK mX10_waysIn [vr 84, vr t, vr 66, vi p, vi (n : Int), vi T] h (fun o h' => o = .inl (some (vi (wyN S f p T n 0))) ∧ FS h h') := by
  refine Spec_of (by decide +kernel) (Nat.le_of_ble_eq_true rfl) ?_
  have ht := c.1
  have hH := TTt ht
  have hB := c.2.2.2.1
  have hNt := hB.1
  have hNp := hB.2.1
  have hT := c.2.2.2.2.2.1
  have hC := c.2.2.2.2.2.2.1
  have h99 := c.2.2.2.2.2.2.2.1
  have G := c.2.2.2.2.2.2.2.2
  have hf0 := hT.2.2.2.1
  obtain ⟨A, D, wa, q3, q4⟩ : ∃ A D, wyA A D ∧ hR h 84 3 = A ∧ hR h 84 4 = D := by rcases G.2.2.2.2.2.2 with ⟨x1, x2⟩ | ⟨x1, x2⟩; exact ⟨89, 90, Or.inl ⟨rfl, rfl⟩, x1, x2⟩; exact ⟨90, 89, Or.inr ⟨rfl, rfl⟩, x1, x2⟩
  obtain ⟨hTA, hTD⟩ := TTy wa
  have hAA : A = 89 ∨ A = 90 := by rcases wa with ⟨e, -⟩ | ⟨e, -⟩ <;> omega
  have w9 := (hT.1.2 p (by omega) (by omega)).1
  refine K_aload_n (dt_at dtX10_waysIn 0 rfl) rfl rfl ?_
  refine K_get (a := 84) (ci := 10) (k := 3) (v := vr A) (dt_at dtX10_waysIn 1 rfl) (show TT 84 = (0, 10) from rfl) rfl (by decide) wF_X10_27 (by show vr (hR h 84 3) = vr A; rw [q3]) ?_
  refine K_callS (M' := mX10_wipe) (As := [vr A]) (st := []) (dt_at dtX10_waysIn 2 rfl) (sX10_wipe hTA) wL_X10_185 vX10_wipe rfl npX10_wipe (by decide) (by decide) (Nat.le_of_ble_eq_true rfl) (by decide) (by decide) GK_E (fun v9 hc1 hq => ?_) (fun E h9 hq => by cases hq.1)
  have hqq2 := hq
  obtain ⟨e9q2, z1, z2, z3, z4⟩ := hqq2
  cases e9q2
  show K mX10_waysIn _ _ 0 0 7 [(0, vr 84), (1, vr t), (2, vr 66), (3, vi p), (4, vi (n : Int)), (5, vi T)] [] hc1
  refine K_aload_n (dt_at dtX10_waysIn 3 rfl) rfl rfl ?_
  refine K_get (a := 84) (ci := 10) (k := 3) (v := vr A) (dt_at dtX10_waysIn 4 rfl) (show TT 84 = (0, 10) from rfl) rfl (by decide) wF_X10_27 (by show vr (hR hc1 84 3) = vr A; rw [z4, q3]) ?_
  refine K_aload_n (dt_at dtX10_waysIn 5 rfl) rfl rfl ?_
  refine K_iload_n (dt_at dtX10_waysIn 6 rfl) rfl rfl ?_
  refine K_callV (M' := mX8_out) (a := 66) (ci := 8) (As := [vi p]) (st := [vr A]) (dt_at dtX10_waysIn 7 rfl) (sX8_out (a := 66) rfl ⟨by omega, by omega⟩) (show TT 66 = (0, 8) from rfl) rfl wL_X10_91 vX8_out rfl npX8_out (by decide) (by decide) (Nat.le_of_ble_eq_true rfl) (by decide) (by decide) GK_E (fun v9 h9 hq => ?_) (fun E h9 hq => by cases hq.1)
  obtain ⟨e9, e8⟩ := hq
  cases e9
  rw [e8]
  show K mX10_waysIn _ _ 0 0 16 [(0, vr 84), (1, vr t), (2, vr 66), (3, vi p), (4, vi (n : Int)), (5, vi T)] [vi (hA hc1 (66 + 1) (1 + p)), vr A] hc1
  rw [show hA hc1 (66 + 1) = f by rw [(z2 67 (by omega)), c.2.2.2.2.1]]
  refine K_iconst (dt_at dtX10_waysIn 8 rfl) ?_
  refine K_iast (dt_at dtX10_waysIn 9 rfl) hTA (by omega) (by omega) ?_
  obtain ⟨hq3, eq3⟩ : ∃ z, z = sA hc1 A (f (1 + p)) 1 := ⟨_, rfl⟩
  rw [← eq3]
  obtain ⟨aq3, fq3, iq3, rq3⟩ := sA_fx eq3
  refine K_aload_n (dt_at dtX10_waysIn 10 rfl) rfl rfl ?_
  refine K_callV (M' := mX8_day) (a := 66) (ci := 8) (As := []) (st := []) (dt_at dtX10_waysIn 11 rfl) (sX8_day (a := 66) rfl) (show TT 66 = (0, 8) from rfl) rfl wL_X10_67 vX8_day rfl npX8_day (by decide) (by decide) (Nat.le_of_ble_eq_true rfl) (by decide) (by decide) GK_E (fun v9 h9 hq => ?_) (fun E h9 hq => by cases hq.1)
  obtain ⟨e9, e8⟩ := hq
  cases e9
  rw [e8]
  show K mX10_waysIn _ _ 0 0 22 [(0, vr 84), (1, vr t), (2, vr 66), (3, vi p), (4, vi (n : Int)), (5, vi T)] [vi (hA hq3 (66 + 1) 0)] hq3
  rw [show hA hq3 (66 + 1) = f by rw [(fq3 67 (by omega)), (z2 67 (by omega)), c.2.2.2.2.1]]
  refine K_istore (ls' := [(6, vi (f 0)), (0, vr 84), (1, vr t), (2, vr 66), (3, vi p), (4, vi (n : Int)), (5, vi T)]) (dt_at dtX10_waysIn 12 rfl) (by decide) rfl ?_
  have wa' : wyA D A := Or.symm wa |>.imp (fun z => ⟨z.2, z.1⟩) (fun z => ⟨z.2, z.1⟩)
  have Fa := FS_wy wa' (FS_wy wa' (FS_rf G) z2 z3 z4) fq3 iq3 rq3
  exact K_pk [0, 1, 2, 3, 4, 5, 6] (ls' := [(6, vi (f 0)), (0, vr 84), (1, vr t), (2, vr 66), (3, vi p), (4, vi (n : Int)), (5, vi T)]) rfl (K_cg (ls' := [(6, vi (f 0 + ((0 : Nat) : Int))), (0, vr 84), (1, vr t), (2, vr 66), (3, vi p), (4, vi (n : Int)), (5, vi T)]) (h' := hq3) (by rw [show f 0 + ((0 : Nat) : Int) = f 0 by omega]) rfl (lo_X10_waysIn c hp hn (fun h3 q_ => ⟨rfl, q_⟩) n 0 hq3 A D (by omega) wa Fa (by rw [rq3, z4]; exact q3) (by rw [rq3, z4]; exact q4) (fun i h0 h1 => by rw [aq3]; show upI (hA _ A) _ _ i = upI (fun _ => 0) _ _ i; unfold upI; by_cases z : i = f (1 + p); rw [if_pos z, if_pos z]; rw [if_neg z, if_neg z]; exact z1 i h0 h1)))
def mX11_trains : MI := (yX11_trains, cX11_trains, 4, (some .int), rmK 8 3)
def tX11_trains : List (Nat × Instr × Nat) := [(0, .aload_n 0, 1), (1, .iload_n 1, 1), (2, .invokevirtual 184, 3), (5, .iload_n 2, 1), (6, .iconst 1, 1), (7, .iconst 5, 1), (8, .invokestatic 111, 3), (11, .iload_n 3, 1), (12, .iconst 0, 1), (13, .bipush 10, 2), (15, .invokestatic 111, 3), (18, .aload_n 0, 1), (19, .getfield 69, 3), (22, .aload_n 0, 1), (23, .getfield 20, 3), (26, .aload_n 0, 1), (27, .getfield 39, 3), (30, .iload_n 1, 1), (31, .iload_n 2, 1), (32, .iload_n 3, 1), (33, .invokevirtual 364, 3), (36, .ireturn, 1)]
theorem dtX11_trains : tX11_trains.all (fun q => decide (decode cX11_trains q.1 = .ok (q.2.1, q.2.2))) = true := by decide +kernel
theorem npX11_trains : (parseMethodDescriptor (mY mX11_trains).desc).map (fun d => d.parameters.length) = some 3 := by decide +kernel
theorem vX11_trains : mV mX11_trains := ⟨wI_X11_trains, wS_X11_trains, wN_X11, wC_X11_trains, by decide +kernel, by decide +kernel⟩
set_option maxHeartbeats 4000000 in
set_option maxRecDepth 100000 in
theorem sX11_trains_x1 {h : HP} {t : Nat} {S : HS} {B : Int} {f : Int → Int} {p : Int} {d : Int} {x : Int} (c : CQ h t S B f) (hp : i32 p) (hd : i32 d) (hx : i32 x) (kn : ¬ (0 ≤ p ∧ p < sNp S)) : SpecK mX11_trains [vr 30, vi p, vi d, vi x] h (fun o h' => o = .inr eNS ∧ FS h h') := by
  refine Spec_of (by decide +kernel) (Nat.le_of_ble_eq_true rfl) ?_
  have ht := c.1
  have hH := TTt ht
  have hB := c.2.2.2.1
  have hNt := hB.1
  have hNp := hB.2.1
  have hT := c.2.2.2.2.2.1
  have hC := c.2.2.2.2.2.2.1
  have h99 := c.2.2.2.2.2.2.2.1
  have G := c.2.2.2.2.2.2.2.2
  have hf0 := hT.2.2.2.1
  refine K_aload_n (dt_at dtX11_trains 0 rfl) rfl rfl ?_
  refine K_iload_n (dt_at dtX11_trains 1 rfl) rfl rfl ?_
  exact K_callV (M' := mX11_needPerson) (a := 30) (ci := 11) (As := [vi p]) (st := []) (dt_at dtX11_trains 2 rfl) (sX11_needPerson_no hH c.2.1 c.2.2.1.2.1.2 hNp (by assumption) (by omega)) (by decide) rfl wL_X11_184 vX11_needPerson rfl npX11_needPerson (by decide) (by decide) (Nat.le_of_ble_eq_true rfl) (by decide) (by decide) GK_E (fun v9 h9 hq => by cases hq.1) (fun E h9 hq => by obtain ⟨e9, e8⟩ := hq; cases e9; rw [e8]; exact KX_out (by decide) (by decide) ⟨rfl, FS_rf G⟩)
set_option maxHeartbeats 4000000 in
set_option maxRecDepth 100000 in
theorem sX11_trains_x2 {h : HP} {t : Nat} {S : HS} {B : Int} {f : Int → Int} {p : Int} {d : Int} {x : Int} (c : CQ h t S B f) (hp : i32 p) (hd : i32 d) (hx : i32 x) (k0 : 0 ≤ p ∧ p < sNp S) (kn : ¬ (1 ≤ d ∧ d ≤ 5)) : SpecK mX11_trains [vr 30, vi p, vi d, vi x] h (fun o h' => o = .inr eIA ∧ FS h h') := by
  refine Spec_of (by decide +kernel) (Nat.le_of_ble_eq_true rfl) ?_
  have ht := c.1
  have hH := TTt ht
  have hB := c.2.2.2.1
  have hNt := hB.1
  have hNp := hB.2.1
  have hT := c.2.2.2.2.2.1
  have hC := c.2.2.2.2.2.2.1
  have h99 := c.2.2.2.2.2.2.2.1
  have G := c.2.2.2.2.2.2.2.2
  have hf0 := hT.2.2.2.1
  refine K_aload_n (dt_at dtX11_trains 0 rfl) rfl rfl ?_
  refine K_iload_n (dt_at dtX11_trains 1 rfl) rfl rfl ?_
  refine K_callV (M' := mX11_needPerson) (a := 30) (ci := 11) (As := [vi p]) (st := []) (dt_at dtX11_trains 2 rfl) (sX11_needPerson hH c.2.1 c.2.2.1.2.1.2 hNp (by first | assumption | exact ⟨by omega, by omega⟩) (by omega)) (by decide) rfl wL_X11_184 vX11_needPerson rfl npX11_needPerson (by decide) (by decide) (Nat.le_of_ble_eq_true rfl) (by decide) (by decide) GK_E (fun v9 h9 hq => ?_) (fun E h9 hq => by cases hq.1)
  obtain ⟨e9, e8⟩ := hq
  cases e9
  rw [e8]
  show K mX11_trains _ _ 1 6 5 [(0, vr 30), (1, vi p), (2, vi d), (3, vi x)] [] h
  refine K_iload_n (dt_at dtX11_trains 3 rfl) rfl rfl ?_
  refine K_iconst (dt_at dtX11_trains 4 rfl) ?_
  refine K_iconst (dt_at dtX11_trains 5 rfl) ?_
  exact K_callS (M' := mX11_needBetween) (As := [vi d, vi 1, vi 5]) (st := []) (dt_at dtX11_trains 6 rfl) (sX11_needBetween_no (by assumption) ⟨by decide, by decide⟩ ⟨by decide, by decide⟩ (by omega)) wL_X11_111 vX11_needBetween rfl npX11_needBetween (by decide) (by decide) (Nat.le_of_ble_eq_true rfl) (by decide) (by decide) GK_E (fun v9 h9 hq => by cases hq.1) (fun E h9 hq => by obtain ⟨e9, e8⟩ := hq; cases e9; rw [e8]; exact KX_out (by decide) (by decide) ⟨rfl, FS_rf G⟩)
set_option maxHeartbeats 4000000 in
set_option maxRecDepth 100000 in
theorem sX11_trains_x3 {h : HP} {t : Nat} {S : HS} {B : Int} {f : Int → Int} {p : Int} {d : Int} {x : Int} (c : CQ h t S B f) (hp : i32 p) (hd : i32 d) (hx : i32 x) (k0 : 0 ≤ p ∧ p < sNp S) (k1 : 1 ≤ d ∧ d ≤ 5) (kn : ¬ (0 ≤ x ∧ x ≤ 10)) : SpecK mX11_trains [vr 30, vi p, vi d, vi x] h (fun o h' => o = .inr eIA ∧ FS h h') := by
  refine Spec_of (by decide +kernel) (Nat.le_of_ble_eq_true rfl) ?_
  have ht := c.1
  have hH := TTt ht
  have hB := c.2.2.2.1
  have hNt := hB.1
  have hNp := hB.2.1
  have hT := c.2.2.2.2.2.1
  have hC := c.2.2.2.2.2.2.1
  have h99 := c.2.2.2.2.2.2.2.1
  have G := c.2.2.2.2.2.2.2.2
  have hf0 := hT.2.2.2.1
  refine K_aload_n (dt_at dtX11_trains 0 rfl) rfl rfl ?_
  refine K_iload_n (dt_at dtX11_trains 1 rfl) rfl rfl ?_
  refine K_callV (M' := mX11_needPerson) (a := 30) (ci := 11) (As := [vi p]) (st := []) (dt_at dtX11_trains 2 rfl) (sX11_needPerson hH c.2.1 c.2.2.1.2.1.2 hNp (by first | assumption | exact ⟨by omega, by omega⟩) (by omega)) (by decide) rfl wL_X11_184 vX11_needPerson rfl npX11_needPerson (by decide) (by decide) (Nat.le_of_ble_eq_true rfl) (by decide) (by decide) GK_E (fun v9 h9 hq => ?_) (fun E h9 hq => by cases hq.1)
  obtain ⟨e9, e8⟩ := hq
  cases e9
  rw [e8]
  show K mX11_trains _ _ 1 6 5 [(0, vr 30), (1, vi p), (2, vi d), (3, vi x)] [] h
  refine K_iload_n (dt_at dtX11_trains 3 rfl) rfl rfl ?_
  refine K_iconst (dt_at dtX11_trains 4 rfl) ?_
  refine K_iconst (dt_at dtX11_trains 5 rfl) ?_
  refine K_callS (M' := mX11_needBetween) (As := [vi d, vi 1, vi 5]) (st := []) (dt_at dtX11_trains 6 rfl) (sX11_needBetween (by first | assumption | exact ⟨by omega, by omega⟩) ⟨by decide, by decide⟩ ⟨by decide, by decide⟩ (by omega)) wL_X11_111 vX11_needBetween rfl npX11_needBetween (by decide) (by decide) (Nat.le_of_ble_eq_true rfl) (by decide) (by decide) GK_E (fun v9 h9 hq => ?_) (fun E h9 hq => by cases hq.1)
  obtain ⟨e9, e8⟩ := hq
  cases e9
  rw [e8]
  show K mX11_trains _ _ 2 12 11 [(0, vr 30), (1, vi p), (2, vi d), (3, vi x)] [] h
  refine K_iload_n (dt_at dtX11_trains 7 rfl) rfl rfl ?_
  refine K_iconst (dt_at dtX11_trains 8 rfl) ?_
  refine K_bipush (dt_at dtX11_trains 9 rfl) (by decide) ?_
  exact K_callS (M' := mX11_needBetween) (As := [vi x, vi 0, vi 10]) (st := []) (dt_at dtX11_trains 10 rfl) (sX11_needBetween_no (by assumption) ⟨by decide, by decide⟩ ⟨by decide, by decide⟩ (by omega)) wL_X11_111 vX11_needBetween rfl npX11_needBetween (by decide) (by decide) (Nat.le_of_ble_eq_true rfl) (by decide) (by decide) GK_E (fun v9 h9 hq => by cases hq.1) (fun E h9 hq => by obtain ⟨e9, e8⟩ := hq; cases e9; rw [e8]; exact KX_out (by decide) (by decide) ⟨rfl, FS_rf G⟩)
set_option maxHeartbeats 4000000 in
set_option maxRecDepth 100000 in
theorem sX11_trains {h : HP} {t : Nat} {S : HS} {B : Int} {f : Int → Int} {p T : Int} {n : Nat} (c : CQ h t S B f) (hp : 0 ≤ p ∧ p < sNp S) (hn : 1 ≤ n ∧ n ≤ 5) (hx : 0 ≤ T ∧ T ≤ 10) : SpecK mX11_trains [vr 30, vi p, vi (n : Int), vi T] h (fun o h' => o = .inl (some (vi (wyN S f p T n 0))) ∧ FS h h') := by
  refine Spec_of (by decide +kernel) (Nat.le_of_ble_eq_true rfl) ?_
  have ht := c.1
  have hH := TTt ht
  have hB := c.2.2.2.1
  have hNt := hB.1
  have hNp := hB.2.1
  have hT := c.2.2.2.2.2.1
  have hC := c.2.2.2.2.2.2.1
  have h99 := c.2.2.2.2.2.2.2.1
  have G := c.2.2.2.2.2.2.2.2
  have hf0 := hT.2.2.2.1
  refine K_aload_n (dt_at dtX11_trains 0 rfl) rfl rfl ?_
  refine K_iload_n (dt_at dtX11_trains 1 rfl) rfl rfl ?_
  refine K_callV (M' := mX11_needPerson) (a := 30) (ci := 11) (As := [vi p]) (st := []) (dt_at dtX11_trains 2 rfl) (sX11_needPerson hH c.2.1 c.2.2.1.2.1.2 hNp (by first | assumption | exact ⟨by omega, by omega⟩) (by omega)) (by decide) rfl wL_X11_184 vX11_needPerson rfl npX11_needPerson (by decide) (by decide) (Nat.le_of_ble_eq_true rfl) (by decide) (by decide) GK_E (fun v9 h9 hq => ?_) (fun E h9 hq => by cases hq.1)
  obtain ⟨e9, e8⟩ := hq
  cases e9
  rw [e8]
  show K mX11_trains _ _ 1 6 5 [(0, vr 30), (1, vi p), (2, vi (n : Int)), (3, vi T)] [] h
  refine K_iload_n (dt_at dtX11_trains 3 rfl) rfl rfl ?_
  refine K_iconst (dt_at dtX11_trains 4 rfl) ?_
  refine K_iconst (dt_at dtX11_trains 5 rfl) ?_
  refine K_callS (M' := mX11_needBetween) (As := [vi (n : Int), vi 1, vi 5]) (st := []) (dt_at dtX11_trains 6 rfl) (sX11_needBetween (by first | assumption | exact ⟨by omega, by omega⟩) ⟨by decide, by decide⟩ ⟨by decide, by decide⟩ (by omega)) wL_X11_111 vX11_needBetween rfl npX11_needBetween (by decide) (by decide) (Nat.le_of_ble_eq_true rfl) (by decide) (by decide) GK_E (fun v9 h9 hq => ?_) (fun E h9 hq => by cases hq.1)
  obtain ⟨e9, e8⟩ := hq
  cases e9
  rw [e8]
  show K mX11_trains _ _ 2 12 11 [(0, vr 30), (1, vi p), (2, vi (n : Int)), (3, vi T)] [] h
  refine K_iload_n (dt_at dtX11_trains 7 rfl) rfl rfl ?_
  refine K_iconst (dt_at dtX11_trains 8 rfl) ?_
  refine K_bipush (dt_at dtX11_trains 9 rfl) (by decide) ?_
  refine K_callS (M' := mX11_needBetween) (As := [vi T, vi 0, vi 10]) (st := []) (dt_at dtX11_trains 10 rfl) (sX11_needBetween (by first | assumption | exact ⟨by omega, by omega⟩) ⟨by decide, by decide⟩ ⟨by decide, by decide⟩ (by omega)) wL_X11_111 vX11_needBetween rfl npX11_needBetween (by decide) (by decide) (Nat.le_of_ble_eq_true rfl) (by decide) (by decide) GK_E (fun v9 h9 hq => ?_) (fun E h9 hq => by cases hq.1)
  obtain ⟨e9, e8⟩ := hq
  cases e9
  rw [e8]
  show K mX11_trains _ _ 3 18 18 [(0, vr 30), (1, vi p), (2, vi (n : Int)), (3, vi T)] [] h
  refine K_aload_n (dt_at dtX11_trains 11 rfl) rfl rfl ?_
  refine K_get (a := 30) (ci := 11) (k := 11) (v := vr 84) (dt_at dtX11_trains 12 rfl) (by decide) rfl (by decide) wF_X11_69 rfl ?_
  refine K_aload_n (dt_at dtX11_trains 13 rfl) rfl rfl ?_
  refine K_get (a := 30) (ci := 11) (k := 2) (v := vr t) (dt_at dtX11_trains 14 rfl) (by decide) rfl (by decide) wF_X11_20 (by show vr (hR h 30 2) = vr t; rw [c.2.1]) ?_
  refine K_aload_n (dt_at dtX11_trains 15 rfl) rfl rfl ?_
  refine K_get (a := 30) (ci := 11) (k := 5) (v := vr 66) (dt_at dtX11_trains 16 rfl) (by decide) rfl (by decide) wF_X11_39 rfl ?_
  refine K_iload_n (dt_at dtX11_trains 17 rfl) rfl rfl ?_
  refine K_iload_n (dt_at dtX11_trains 18 rfl) rfl rfl ?_
  refine K_iload_n (dt_at dtX11_trains 19 rfl) rfl rfl ?_
  refine K_callV (M' := mX10_waysIn) (a := 84) (ci := 10) (As := [vr t, vr 66, vi p, vi (n : Int), vi T]) (st := []) (dt_at dtX11_trains 20 rfl) (sX10_waysIn c hp (by omega)) (show TT 84 = (0, 10) from rfl) rfl wL_X11_364 vX10_waysIn rfl npX10_waysIn (by decide) (by decide) (Nat.le_of_ble_eq_true rfl) (by decide) (by decide) GK_E (fun v9 hc1 hq => ?_) (fun E h9 hq => by cases hq.1)
  have hqq2 := hq
  obtain ⟨e9q2, Fq2⟩ := hqq2
  cases e9q2
  show K mX11_trains _ _ 3 18 36 [(0, vr 30), (1, vi p), (2, vi (n : Int)), (3, vi T)] [vi (wyN S f p T n 0)] hc1
  exact K_iret (dt_at dtX11_trains 21 rfl) rfl rfl (by decide) (by decide) ⟨rfl, Fq2⟩
