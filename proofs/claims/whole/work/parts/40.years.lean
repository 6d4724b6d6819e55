/-! years by a seed -/
def nxS (s : Int) : Int := s * 1103515245 + 12345
def dvS (s n : Int) : Int := (bAnd (bUshr s 16) 32767).tmod n
theorem bAnd_15 (x : Int) : 0 ≤ bAnd x 32767 ∧ bAnd x 32767 ≤ 32767 := by
  unfold bAnd
  have e : (Int32.ofInt x &&& Int32.ofInt 32767).toInt = (((Int32.ofInt x).toBitVec &&& (32767#32)).toNat : Int) := by
    show ((Int32.ofInt x).toBitVec &&& (Int32.ofInt 32767).toBitVec).toInt = _
    rw [show (Int32.ofInt 32767).toBitVec = 32767#32 from rfl, BitVec.toInt_eq_toNat_of_lt]
    rw [BitVec.toNat_and]
    have := @Nat.and_le_right ((Int32.ofInt x).toBitVec.toNat) (32767#32).toNat
    have h2 : (32767#32).toNat = 32767 := rfl
    omega
  rw [e, BitVec.toNat_and]
  have := @Nat.and_le_right ((Int32.ofInt x).toBitVec.toNat) (32767#32).toNat
  have h2 : (32767#32).toNat = 32767 := rfl
  omega
theorem dvS_b {s n : Int} (hn : 0 < n) : 0 ≤ dvS s n ∧ dvS s n < n := by
  have h := bAnd_15 (bUshr s 16)
  unfold dvS
  rw [Int.tmod_eq_emod_of_nonneg h.1]
  exact ⟨Int.emod_nonneg _ (by omega), Int.emod_lt_of_pos _ hn⟩
def bfF (S : HS) (r : Int → Int) (s lot : Int) : (Int → Int) × Int :=
  if lot = 0 ∧ 0 < sNp S then (swF r (dvS (nxS s) (sNp S)) (dvS (nxS (nxS s)) (sNp S)), nxS (nxS s))
  else if lot = 1 ∧ 0 < sNp S then (upI r (15 + dvS (nxS s) (sNp S)) (dvS (nxS (nxS s)) 10), nxS (nxS s))
  else if lot = 2 ∧ 0 < sNt S then (if r (29 + dvS (nxS s) (sNt S)) < 99 then upI r (29 + dvS (nxS s) (sNt S)) (r (29 + dvS (nxS s) (sNt S)) + 1) else r, nxS s)
  else (r, s)
/-- row and seed behind so many days -/
def yrN (S : HS) (f : Int → Int) (s : Int) : Nat → (Int → Int) × Int
  | 0 => (f, s)
  | k + 1 => (dayF S (bfF S (yrN S f s k).1 (nxS (yrN S f s k).2) (dvS (nxS (yrN S f s k).2) 5)).1, (bfF S (yrN S f s k).1 (nxS (yrN S f s k).2) (dvS (nxS (yrN S f s k).2) 5)).2)
def ytN (S : HS) (f : Int → Int) (s : Int) : Nat → Int → Int
  | 0 => fun _ => 0
  | k + 1 => trN S (bfF S (yrN S f s k).1 (nxS (yrN S f s k).2) (dvS (nxS (yrN S f s k).2) 5)).1 (ytN S f s k) (sNp S)
def yeN (S : HS) (f : Int → Int) (s : Int) : Nat → Int
  | 0 => 0
  | k + 1 => emN S (bfF S (yrN S f s k).1 (nxS (yrN S f s k).2) (dvS (nxS (yrN S f s k).2) 5)).1 (yeN S f s k) (sNp S)
theorem rT_mono {B C : Int} {f : Int → Int} (h : rT B f) (hc : B ≤ C) (hC : C ≤ 1000000) : rT C f := ⟨h.1, h.2.1, fun t a b => Int.le_trans (h.2.2.1 t a b) hc, h.2.2.2.1, h.2.2.2.2.1, hC⟩
theorem sw_ok {S : HS} {B : Int} {f : Int → Int} {p q : Int} (h : rT B f) (hC : rC S f) (hp : 0 ≤ p ∧ p < sNp S) (hq : 0 ≤ q ∧ q < sNp S) (h7 : sNp S ≤ 7) : rT B (swF f p q) ∧ rC S (swF f p q) ∧ swF f p q 0 = f 0 := by
  have wp := h.1.2 p (by omega) (by omega)
  have wq := h.1.2 q (by omega) (by omega)
  have h1 : rT B (upI f (8 + p) (f (8 + q))) := upI_rT h (by omega) (upI_rW h.1 (by omega) (by omega) (by omega) (by omega) (by omega)) (by omega)
  have h2 : rT B (swF f p q) := upI_rT h1 (by omega) (upI_rW h1.1 (by omega) (by omega) (by omega) (by omega) (by omega)) (by omega)
  refine ⟨h2, fun r a b => ?_, ?_⟩
  · have c1 := hC p hp.1 hp.2
    have c2 := hC q hq.1 hq.2
    have c3 := hC r a b
    unfold swF upI
    by_cases e : 8 + r = 8 + q
    · rw [if_pos e]; exact c1
    · rw [if_neg e]
      by_cases e2 : 8 + r = 8 + p
      · rw [if_pos e2]; exact c2
      · rw [if_neg e2]; exact c3
  · unfold swF
    rw [upI_n (by omega), upI_n (by omega)]
theorem stk_ok {S : HS} {B : Int} {f : Int → Int} {t x : Int} (h : rT B f) (hC : rC S f) (ht : 0 ≤ t ∧ t < 6) (hx : 0 ≤ x ∧ x ≤ 20) (hB : B + x ≤ 1000000) (hS : sNp S ≤ 7) : rT (B + x) (upI f (29 + t) (f (29 + t) + x)) ∧ rC S (upI f (29 + t) (f (29 + t) + x)) ∧ upI f (29 + t) (f (29 + t) + x) 0 = f 0 := by
  obtain ⟨g1, g2, g3, g4, g5, g6⟩ := h
  have lo : ∀ j, j < 29 → upI f (29 + t) (f (29 + t) + x) j = f j := fun j hj => upI_n (by omega)
  have hi : ∀ j, 35 ≤ j → upI f (29 + t) (f (29 + t) + x) j = f j := fun j hj => upI_n (by omega)
  have n0 := g2 (29 + t) (by omega) (by omega)
  have nt : f (29 + t) ≤ B := by
    have := g3 t ht.1 ht.2
    have a1 := g2 (35 + t) (by omega) (by omega)
    have a2 := g2 (41 + t) (by omega) (by omega)
    have a3 := g2 (47 + t) (by omega) (by omega)
    have a4 := g2 (53 + t) (by omega) (by omega)
    have a5 := g2 (59 + t) (by omega) (by omega)
    have a6 := g2 (65 + t) (by omega) (by omega)
    have a7 := g2 (71 + t) (by omega) (by omega)
    omega
  refine ⟨⟨⟨fun i a b => ?_, fun p a b => ?_⟩, fun i a b => ?_, fun u a b => ?_, by rw [lo 0 (by omega)]; exact g4, by rw [lo 0 (by omega)]; exact g5, hB⟩, fun p a b => by rw [lo (8 + p) (by omega)]; exact hC p a b, lo 0 (by omega)⟩
  · have w := g1.1 i a b
    unfold upI
    by_cases e : i = 29 + t
    · rw [if_pos e]; omega
    · rw [if_neg e]; exact w
  · rw [lo (1 + p) (by omega), lo (8 + p) (by omega), lo (15 + p) (by omega), lo (22 + p) (by omega)]; exact g1.2 p a b
  · have w := g2 i a b
    unfold upI
    by_cases e : i = 29 + t
    · rw [if_pos e]; omega
    · rw [if_neg e]; exact w
  · rw [hi (35 + u) (by omega), hi (41 + u) (by omega), hi (47 + u) (by omega), hi (53 + u) (by omega), hi (59 + u) (by omega), hi (65 + u) (by omega), hi (71 + u) (by omega)]
    have := g3 u a b
    unfold upI
    by_cases e : 29 + u = 29 + t
    · rw [if_pos e, ← e]; omega
    · rw [if_neg e]; omega
theorem bfF_ok {S : HS} {B : Int} {r : Int → Int} {s lot : Int} (hB : hsW S) (h : rT B r) (hC : rC S r) (hb : B + 1 ≤ 1000000) : rT (B + 1) (bfF S r s lot).1 ∧ rC S (bfF S r s lot).1 ∧ (bfF S r s lot).1 0 = r 0 := by
  have hNp := hB.2.1
  have hNt := hB.1
  have h1 := rT_mono h (show B ≤ B + 1 by omega) hb
  unfold bfF
  by_cases e0 : lot = 0 ∧ 0 < sNp S
  · rw [if_pos e0]
    exact sw_ok h1 hC (dvS_b (by omega)) (dvS_b (by omega)) hNp
  · rw [if_neg e0]
    by_cases e1 : lot = 1 ∧ 0 < sNp S
    · rw [if_pos e1]
      have d1 := dvS_b (s := nxS s) (n := (sNp S : Int)) (by omega)
      have d2 := dvS_b (s := nxS (nxS s)) (n := 10) (by decide)
      exact ⟨fond_rT h1 (by omega) (by omega), fun p a b => by show upI _ _ _ _ < _; rw [upI_n (by omega)]; exact hC p a b, upI_n (by omega)⟩
    · rw [if_neg e1]
      by_cases e2 : lot = 2 ∧ 0 < sNt S
      · rw [if_pos e2]
        have d1 := dvS_b (s := nxS s) (n := (sNt S : Int)) (by omega)
        show rT (B + 1) (if _ then _ else r) ∧ rC S (if _ then _ else r) ∧ (if _ then _ else r : Int → Int) 0 = r 0
        by_cases e3 : r (29 + dvS (nxS s) (sNt S)) < 99
        · rw [if_pos e3]
          exact stk_ok h hC (by omega) (by omega) hb hNp
        · rw [if_neg e3]; exact ⟨h1, hC, rfl⟩
      · rw [if_neg e2]; exact ⟨h1, hC, rfl⟩
theorem yrN_ok {S : HS} {B : Int} {f : Int → Int} {s : Int} (hB : hsW S) (h : rT B f) (hC : rC S f) : ∀ n : Nat, f 0 + n ≤ 20000 → B + n ≤ 1000000 → rT (B + n) (yrN S f s n).1 ∧ rC S (yrN S f s n).1 ∧ (yrN S f s n).1 0 = f 0 + n
  | 0, _, _ => ⟨by rw [show B + ((0 : Nat) : Int) = B by omega]; exact h, hC, by show f 0 = _; omega⟩
  | n + 1, h1, h2 => by
    obtain ⟨a, b, c⟩ := yrN_ok (s := s) hB h hC n (by omega) (by omega)
    obtain ⟨a2, b2, c2⟩ := bfF_ok (s := nxS (yrN S f s n).2) (lot := dvS (nxS (yrN S f s n).2) 5) hB a b (by omega)
    obtain ⟨a3, b3, c3, -⟩ := dayF_ok hB a2 b2 (by rw [c2, c]; omega)
    refine ⟨by rw [show B + ((n + 1 : Nat) : Int) = B + (n : Int) + 1 by omega]; exact a3, b3, ?_⟩
    show dayF S _ 0 = _
    rw [c3, c2, c]
    omega
/-! the walk's heap, its seed apart -/
def YW (h hh : HP) (t : Nat) (S : HS) (r tr : Int → Int) (em s : Int) : Prop := ∃ g0, FS h g0 ∧ WX g0 84 t S ∧ PW g0 hh 84 t r tr em ∧ hI hh 84 7 = s
theorem FS_7 {h g g' : HP} {x : Int} (F : FS h g) (e : g' = sI g 84 7 x) : FS h g' := by
  obtain ⟨a2, f2, i2, r2⟩ := sI_fx e
  refine ⟨fun a ha => by rw [i2]; exact F.1 a ha, fun a k ha => ?_, fun a k ha => by rw [r2]; exact F.2.2.1 a k ha, by unfold G32; rw [i2, r2]; exact F.2.2.2⟩
  rw [f2 a k (by
    by_cases z : a = 84
    · exact Or.inr (fun z2 => by rw [z, z2] at ha; cases ha)
    · exact Or.inl z)]
  exact F.2.1 a k ha
theorem YW_sd {h hh g : HP} {t : Nat} {S : HS} {r tr : Int → Int} {em s x : Int} (y : YW h hh t S r tr em s) (e : g = sI hh 84 7 x) : YW h g t S r tr em x := by
  obtain ⟨g0, F, X, P, -⟩ := y
  obtain ⟨a2, f2, i2, r2⟩ := sI_fx e
  obtain ⟨b2, j2, k2, q2⟩ := sI_fx (g := sI g0 84 7 x) rfl
  have F' := FS_7 F (g' := sI g0 84 7 x) rfl
  obtain ⟨x1, x2, x3, x4, x5⟩ := X
  obtain ⟨⟨p1, p2, p3, p4⟩, p5, p6, p7⟩ := P
  refine ⟨sI g0 84 7 x, F', ⟨x1, x2, x3, ?_, x5⟩, ⟨⟨fun a c1 c2 c3 c4 c5 => by rw [i2]; exact p1 a c1 c2 c3 c4 c5, by rw [i2]; exact p2, fun b k hb => ?_, by rw [r2]; exact p4⟩, by rw [i2]; exact p5, by rw [i2]; exact p6, by rw [f2 _ _ (Or.inr (by decide))]; exact p7⟩, a2⟩
  · exact cHS_FS x2 (FS_7 (FS_rf F.2.2.2) rfl) x4
  · by_cases z : b = 84 ∧ k = 7
    · rw [z.1, z.2, a2, b2]
    · rw [f2 b k (by
        by_cases z1 : b = 84
        · exact Or.inr (fun z2 => z ⟨z1, z2⟩)
        · exact Or.inl z1), j2 b k (by
        by_cases z1 : b = 84
        · exact Or.inr (fun z2 => z ⟨z1, z2⟩)
        · exact Or.inl z1)]
      exact p3 b k hb
theorem YW_row {h hh g : HP} {t : Nat} {S : HS} {r r2 tr : Int → Int} {em s : Int} (y : YW h hh t S r tr em s) (h1 : hA g 86 = r2) (fr : ∀ b, b ≠ 86 → hA g b = hA hh b) (hi : hI g = hI hh) (hr : hR g = hR hh) : YW h g t S r2 tr em s := by
  obtain ⟨g0, F, X, P, sd⟩ := y
  exact ⟨g0, F, X, ⟨WK_A X P.1 (Or.inl rfl) fr hi hr, h1, by rw [fr _ (by decide)]; exact P.2.2.1, by rw [hi]; exact P.2.2.2⟩, by rw [hi]; exact sd⟩
theorem YW_at {h hh : HP} {t : Nat} {S : HS} {r tr : Int → Int} {em s : Int} (y : YW h hh t S r tr em s) : FS h hh ∧ hR hh 84 5 = t ∧ hA hh 86 = r ∧ hA hh 88 = tr ∧ hI hh 84 7 = s := by
  obtain ⟨g0, F, X, P, sd⟩ := y
  exact ⟨FS_tr F (WK_FS X P.1 F.2.2.2), by rw [P.1.2.2.2]; exact X.2.2.1, P.2.1, P.2.2.1, sd⟩
def mX10_draw : MI := (yX10_draw, cX10_draw, 2, (some .int), rmK 1 0)
def tX10_draw : List (Nat × Instr × Nat) := [(0, .aload_n 0, 1), (1, .aload_n 0, 1), (2, .getfield 37, 3), (5, .ldc 184, 2), (7, .imul, 1), (8, .sipush 12345, 3), (11, .iadd, 1), (12, .putfield 37, 3), (15, .iload_n 1, 1), (16, .ifCond .le 19, 3), (19, .aload_n 0, 1), (20, .getfield 37, 3), (23, .bipush 16, 2), (25, .iushr, 1), (26, .sipush 32767, 3), (29, .iand, 1), (30, .iload_n 1, 1), (31, .irem, 1), (32, .goto 4, 3), (35, .iconst 0, 1), (36, .ireturn, 1)]
theorem dtX10_draw : tX10_draw.all (fun q => decide (decode cX10_draw q.1 = .ok (q.2.1, q.2.2))) = true := by decide +kernel
theorem npX10_draw : (parseMethodDescriptor (mY mX10_draw).desc).map (fun d => d.parameters.length) = some 1 := by decide +kernel
theorem vX10_draw : mV mX10_draw := ⟨wI_X10_draw, wS_X10_draw, wN_X10, wC_X10_draw, by decide +kernel, by decide +kernel⟩
set_option maxHeartbeats 4000000 in
set_option maxRecDepth 100000 in
theorem sX10_draw {h : HP} {n : Int} (hn : 0 < n ∧ n ≤ 10) : SpecK mX10_draw [vr 84, vi n] h (fun o h' => o = .inl (some (vi (dvS (nxS (hI h 84 7)) n))) ∧ h' = sI h 84 7 (nxS (hI h 84 7))) := by
  refine Spec_of (by decide +kernel) (Nat.le_of_ble_eq_true rfl) ?_
  refine K_aload_n (dt_at dtX10_draw 0 rfl) rfl rfl ?_
  refine K_aload_n (dt_at dtX10_draw 1 rfl) rfl rfl ?_
  refine K_get (a := 84) (ci := 10) (k := 7) (v := vi (hI h 84 7)) (dt_at dtX10_draw 2 rfl) (show TT 84 = (0, 10) from rfl) rfl (by decide) wF_X10_37 rfl ?_
  refine K_ldc (n := 1103515245) (dt_at dtX10_draw 3 rfl) wK_X10_184 (by decide) ?_
  refine K_imul (dt_at dtX10_draw 4 rfl) ?_
  refine K_sipush (dt_at dtX10_draw 5 rfl) (by decide) ?_
  refine K_iadd (dt_at dtX10_draw 6 rfl) ?_
  refine K_putI (a := 84) (ci := 10) (k := 7) (dt_at dtX10_draw 7 rfl) (show TT 84 = (0, 10) from rfl) rfl (by decide) wF_X10_37 rfl (Or.inl rfl) rfl rfl ?_
  obtain ⟨hq1, eq1⟩ : ∃ z, z = sI h 84 7 (((hI h 84 7) * 1103515245) + 12345) := ⟨_, rfl⟩
  rw [← eq1]
  obtain ⟨iq1, fq1, aq1, rq1⟩ := sI_fx eq1
  refine K_iload_n (dt_at dtX10_draw 8 rfl) rfl rfl ?_
  refine K_if_le (tgt := 35) (dt_at dtX10_draw 9 rfl) (by decide) (by first | assumption | exact ⟨by omega, by omega⟩) (fun c1 => absurd c1 (by omega)) (fun c1 => ?_)
  refine K_aload_n (dt_at dtX10_draw 10 rfl) rfl rfl ?_
  refine K_get (a := 84) (ci := 10) (k := 7) (v := vi (((hI h 84 7) * 1103515245) + 12345)) (dt_at dtX10_draw 11 rfl) (show TT 84 = (0, 10) from rfl) rfl (by decide) wF_X10_37 (by show vi (hI hq1 84 7) = vi (((hI h 84 7) * 1103515245) + 12345); rw [iq1]) ?_
  refine K_bipush (dt_at dtX10_draw 12 rfl) (by decide) ?_
  refine K_iushr (dt_at dtX10_draw 13 rfl) ?_
  refine K_sipush (dt_at dtX10_draw 14 rfl) (by decide) ?_
  refine K_iand (dt_at dtX10_draw 15 rfl) ?_
  refine K_iload_n (dt_at dtX10_draw 16 rfl) rfl rfl ?_
  refine K_irem (dt_at dtX10_draw 17 rfl) (bAnd32 _ _) (by first | assumption | exact ⟨by omega, by omega⟩) (by omega) ?_
  refine K_goto (tgt := 36) (dt_at dtX10_draw 18 rfl) (by decide) ?_
  exact K_iret (dt_at dtX10_draw 20 rfl) rfl rfl (by decide) (by decide) ⟨rfl, eq1⟩
def mX10_befall : MI := (yX10_befall, cX10_befall, 4, none, rmK 3 0)
def tX10_befall : List (Nat × Instr × Nat) := [(0, .iload_n 1, 1), (1, .ifCond .ne 49, 3), (4, .aload_n 0, 1), (5, .getfield 40, 3), (8, .getfield 51, 3), (11, .ifCond .le 39, 3), (14, .aload_n 0, 1), (15, .aload_n 0, 1), (16, .getfield 40, 3), (19, .getfield 51, 3), (22, .invokevirtual 172, 3), (25, .istore_n 2, 1), (26, .aload_n 0, 1), (27, .aload_n 0, 1), (28, .getfield 40, 3), (31, .getfield 51, 3), (34, .invokevirtual 172, 3), (37, .istore_n 3, 1), (38, .aload_n 0, 1), (39, .getfield 12, 3), (42, .iload_n 2, 1), (43, .iload_n 3, 1), (44, .invokevirtual 178, 3), (47, .goto 96, 3), (50, .iload_n 1, 1), (51, .iconst 1, 1), (52, .if_icmp .ne 42, 3), (55, .aload_n 0, 1), (56, .getfield 40, 3), (59, .getfield 51, 3), (62, .ifCond .le 32, 3), (65, .aload_n 0, 1), (66, .aload_n 0, 1), (67, .getfield 40, 3), (70, .getfield 51, 3), (73, .invokevirtual 172, 3), (76, .istore_n 2, 1), (77, .aload_n 0, 1), (78, .getfield 12, 3), (81, .iload_n 2, 1), (82, .aload_n 0, 1), (83, .bipush 10, 2), (85, .invokevirtual 172, 3), (88, .invokevirtual 101, 3), (91, .goto 52, 3), (94, .iload_n 1, 1), (95, .iconst 2, 1), (96, .if_icmp .ne 47, 3), (99, .aload_n 0, 1), (100, .getfield 40, 3), (103, .getfield 131, 3), (106, .ifCond .le 37, 3), (109, .aload_n 0, 1), (110, .aload_n 0, 1), (111, .getfield 40, 3), (114, .getfield 131, 3), (117, .invokevirtual 172, 3), (120, .istore_n 2, 1), (121, .aload_n 0, 1), (122, .getfield 12, 3), (125, .iload_n 2, 1), (126, .invokevirtual 158, 3), (129, .bipush 99, 2), (131, .if_icmp .ge 12, 3), (134, .aload_n 0, 1), (135, .getfield 12, 3), (138, .iload_n 2, 1), (139, .iconst 1, 1), (140, .invokevirtual 181, 3), (143, .return_, 1)]
theorem dtX10_befall : tX10_befall.all (fun q => decide (decode cX10_befall q.1 = .ok (q.2.1, q.2.2))) = true := by decide +kernel
theorem npX10_befall : (parseMethodDescriptor (mY mX10_befall).desc).map (fun d => d.parameters.length) = some 1 := by decide +kernel
theorem vX10_befall : mV mX10_befall := ⟨wI_X10_befall, wS_X10_befall, wN_X10, wC_X10_befall, by decide +kernel, by decide +kernel⟩
set_option maxHeartbeats 4000000 in
set_option maxRecDepth 100000 in
theorem sX10_befall {h h2 : HP} {t : Nat} {S : HS} {B C : Int} {f r tr : Int → Int} {em s : Int} {x : Int} (c0 : CQ h t S B f) (y : YW h h2 t S r tr em s) (hTr : rT C r) (hCr : rC S r) (hx : 0 ≤ x ∧ x < 5) : SpecK mX10_befall [vr 84, vi x] h2 (fun o h' => o = .inl none ∧ YW h h' t S (bfF S r s x).1 tr em (bfF S r s x).2) := by
  refine Spec_of (by decide +kernel) (Nat.le_of_ble_eq_true rfl) ?_
  have c := CQ_FS c0 (YW_at y).1
  have ht := c.1
  have hH := TTt ht
  have hB := c.2.2.2.1
  have hNt := hB.1
  have hNp := hB.2.1
  have h99 := c.2.2.2.2.2.2.2.1
  have G := c.2.2.2.2.2.2.2.2
  refine K_iload_n (dt_at dtX10_befall 0 rfl) rfl rfl ?_
  refine K_if_ne (tgt := 50) (dt_at dtX10_befall 1 rfl) (by decide) (by first | assumption | exact ⟨by omega, by omega⟩) (fun c1 => ?_) (fun c1 => ?_)
  · refine K_iload_n (dt_at dtX10_befall 24 rfl) rfl rfl ?_
    refine K_iconst (dt_at dtX10_befall 25 rfl) ?_
    refine K_icmp_ne (tgt := 94) (dt_at dtX10_befall 26 rfl) (by decide) (by first | assumption | exact ⟨by omega, by omega⟩) (by first | assumption | exact ⟨by omega, by omega⟩) (fun c2 => ?_) (fun c2 => ?_)
    · refine K_iload_n (dt_at dtX10_befall 45 rfl) rfl rfl ?_
      refine K_iconst (dt_at dtX10_befall 46 rfl) ?_
      refine K_icmp_ne (tgt := 143) (dt_at dtX10_befall 47 rfl) (by decide) (by first | assumption | exact ⟨by omega, by omega⟩) (by first | assumption | exact ⟨by omega, by omega⟩) (fun c3 => ?_) (fun c3 => ?_)
      · have eb : bfF S r s x = (r, s) := (if_neg (by omega)).trans ((if_neg (by omega)).trans (if_neg (by omega)))
        exact K_vret (dt_at dtX10_befall 69 rfl) rfl (by decide) (by decide) ⟨rfl, by rw [eb]; exact y⟩
      · refine K_aload_n (dt_at dtX10_befall 48 rfl) rfl rfl ?_
        refine K_get (a := 84) (ci := 10) (k := 5) (v := vr t) (dt_at dtX10_befall 49 rfl) (show TT 84 = (0, 10) from rfl) rfl (by decide) wF_X10_40 (by show vr (hR h2 84 5) = vr t; rw [(YW_at y).2.1]) ?_
        refine K_get (a := t) (ci := 3) (k := 10) (v := vi (sNt S : Int)) (dt_at dtX10_befall 50 rfl) hH rfl (by decide) wF_X10_131 (by show vi (hI h2 t 10) = vi (sNt S : Int); rw [(CQ_FS c0 (YW_at y).1).2.2.1.2.1.1]) ?_
        refine K_if_le (tgt := 143) (dt_at dtX10_befall 51 rfl) (by decide) (by first | assumption | exact ⟨by omega, by omega⟩) (fun c4 => ?_) (fun c4 => ?_)
        · have eb : bfF S r s x = (r, s) := (if_neg (by omega)).trans ((if_neg (by omega)).trans (if_neg (by omega)))
          exact K_vret (dt_at dtX10_befall 69 rfl) rfl (by decide) (by decide) ⟨rfl, by rw [eb]; exact y⟩
        · refine K_aload_n (dt_at dtX10_befall 52 rfl) rfl rfl ?_
          refine K_aload_n (dt_at dtX10_befall 53 rfl) rfl rfl ?_
          refine K_get (a := 84) (ci := 10) (k := 5) (v := vr t) (dt_at dtX10_befall 54 rfl) (show TT 84 = (0, 10) from rfl) rfl (by decide) wF_X10_40 (by show vr (hR h2 84 5) = vr t; rw [(YW_at y).2.1]) ?_
          refine K_get (a := t) (ci := 3) (k := 10) (v := vi (sNt S : Int)) (dt_at dtX10_befall 55 rfl) hH rfl (by decide) wF_X10_131 (by show vi (hI h2 t 10) = vi (sNt S : Int); rw [(CQ_FS c0 (YW_at y).1).2.2.1.2.1.1]) ?_
          refine K_callV (M' := mX10_draw) (a := 84) (ci := 10) (As := [vi (sNt S : Int)]) (st := []) (dt_at dtX10_befall 56 rfl) (sX10_draw ⟨by omega, by omega⟩) (show TT 84 = (0, 10) from rfl) rfl wL_X10_172 vX10_draw rfl npX10_draw (by decide) (by decide) (Nat.le_of_ble_eq_true rfl) (by decide) (by decide) GK_E (fun v9 hc1 hq => ?_) (fun E h9 hq => by cases hq.1)
          have hqq2 := hq
          obtain ⟨e9q2, e8q2⟩ := hqq2
          have yq2 := YW_sd y e8q2
          rw [(YW_at y).2.2.2.2] at yq2
          have dq2 := dvS_b (s := nxS s) (n := (sNt S : Int)) (by omega)
          cases e9q2
          show K mX10_befall _ _ 0 0 120 [(0, vr 84), (1, vi x)] [vi (dvS (nxS (hI h2 84 7)) (sNt S : Int))] hc1
          rw [(YW_at y).2.2.2.2]
          refine K_istore_n (ls' := [(2, vi (dvS (nxS s) (sNt S : Int))), (0, vr 84), (1, vi x)]) (dt_at dtX10_befall 57 rfl) rfl (by decide) rfl ?_
          refine K_aload_n (dt_at dtX10_befall 58 rfl) rfl rfl ?_
          refine K_get (a := 84) (ci := 10) (k := 0) (v := vr 85) (dt_at dtX10_befall 59 rfl) (show TT 84 = (0, 10) from rfl) rfl (by decide) wF_X10_12 rfl ?_
          refine K_iload_n (dt_at dtX10_befall 60 rfl) rfl rfl ?_
          refine K_callV (M' := mX8_stock) (a := 85) (ci := 8) (As := [vi (dvS (nxS s) (sNt S : Int))]) (st := []) (dt_at dtX10_befall 61 rfl) (sX8_stock (a := 85) rfl ⟨by omega, by omega⟩) (show TT 85 = (0, 8) from rfl) rfl wL_X10_158 vX8_stock rfl npX8_stock (by decide) (by decide) (Nat.le_of_ble_eq_true rfl) (by decide) (by decide) GK_E (fun v9 h9 hq => ?_) (fun E h9 hq => by cases hq.1)
          obtain ⟨e9, e8⟩ := hq
          cases e9
          rw [e8]
          show K mX10_befall _ _ 0 0 129 [(2, vi (dvS (nxS s) (sNt S : Int))), (0, vr 84), (1, vi x)] [vi (hA hc1 (85 + 1) (29 + (dvS (nxS s) (sNt S : Int))))] hc1
          rw [show hA hc1 (85 + 1) = r from (YW_at yq2).2.2.1]
          have w9 := hTr.1.1 (29 + (dvS (nxS s) (sNt S : Int))) (by omega) (by omega)
          refine K_bipush (dt_at dtX10_befall 62 rfl) (by decide) ?_
          refine K_icmp_ge (tgt := 143) (dt_at dtX10_befall 63 rfl) (by decide) (by first | assumption | exact ⟨by omega, by omega⟩) (by first | assumption | exact ⟨by omega, by omega⟩) (fun c5 => ?_) (fun c5 => ?_)
          · have eb : bfF S r s x = ((if r (29 + dvS (nxS s) (sNt S)) < 99 then upI r (29 + dvS (nxS s) (sNt S)) (r (29 + dvS (nxS s) (sNt S)) + 1) else r), (nxS s)) := (if_neg (by omega)).trans ((if_neg (by omega)).trans (if_pos (by omega)))
            rw [if_neg (by omega)] at eb
            exact K_vret (dt_at dtX10_befall 69 rfl) rfl (by decide) (by decide) ⟨rfl, by rw [eb]; exact yq2⟩
          · refine K_aload_n (dt_at dtX10_befall 64 rfl) rfl rfl ?_
            refine K_get (a := 84) (ci := 10) (k := 0) (v := vr 85) (dt_at dtX10_befall 65 rfl) (show TT 84 = (0, 10) from rfl) rfl (by decide) wF_X10_12 rfl ?_
            refine K_iload_n (dt_at dtX10_befall 66 rfl) rfl rfl ?_
            refine K_iconst (dt_at dtX10_befall 67 rfl) ?_
            refine K_callV (M' := mX8_addStock) (a := 85) (ci := 8) (As := [vi (dvS (nxS s) (sNt S : Int)), vi 1]) (st := []) (dt_at dtX10_befall 68 rfl) (sX8_addStock (a := 85) rfl ⟨by omega, by omega⟩) (show TT 85 = (0, 8) from rfl) rfl wL_X10_181 vX8_addStock rfl npX8_addStock (by decide) (by decide) (Nat.le_of_ble_eq_true rfl) (by decide) (by decide) GK_E (fun v9 hc3 hq => ?_) (fun E h9 hq => by cases hq.1)
            have hqq4 := hq
            obtain ⟨e9q4, e8q4⟩ := hqq4
            obtain ⟨hfq4, frq4, hiq4, hrq4⟩ := sA_fx e8q4
            rw [show hA hc1 (85 + 1) = r from (YW_at yq2).2.2.1] at hfq4
            have yq4 := YW_row yq2 hfq4 frq4 hiq4 hrq4
            cases e9q4
            show K mX10_befall _ _ 0 0 143 [(2, vi (dvS (nxS s) (sNt S : Int))), (0, vr 84), (1, vi x)] [] hc3
            have eb : bfF S r s x = ((if r (29 + dvS (nxS s) (sNt S)) < 99 then upI r (29 + dvS (nxS s) (sNt S)) (r (29 + dvS (nxS s) (sNt S)) + 1) else r), nxS s) := (if_neg (by omega)).trans ((if_neg (by omega)).trans (if_pos (by omega)))
            rw [if_pos (by omega)] at eb
            exact K_vret (dt_at dtX10_befall 69 rfl) rfl (by decide) (by decide) ⟨rfl, by rw [eb]; exact yq4⟩
    · refine K_aload_n (dt_at dtX10_befall 27 rfl) rfl rfl ?_
      refine K_get (a := 84) (ci := 10) (k := 5) (v := vr t) (dt_at dtX10_befall 28 rfl) (show TT 84 = (0, 10) from rfl) rfl (by decide) wF_X10_40 (by show vr (hR h2 84 5) = vr t; rw [(YW_at y).2.1]) ?_
      refine K_get (a := t) (ci := 3) (k := 11) (v := vi (sNp S : Int)) (dt_at dtX10_befall 29 rfl) hH rfl (by decide) wF_X10_51 (by show vi (hI h2 t 11) = vi (sNp S : Int); rw [(CQ_FS c0 (YW_at y).1).2.2.1.2.1.2]) ?_
      refine K_if_le (tgt := 94) (dt_at dtX10_befall 30 rfl) (by decide) (by first | assumption | exact ⟨by omega, by omega⟩) (fun c6 => ?_) (fun c6 => ?_)
      · refine K_iload_n (dt_at dtX10_befall 45 rfl) rfl rfl ?_
        refine K_iconst (dt_at dtX10_befall 46 rfl) ?_
        refine K_icmp_ne (tgt := 143) (dt_at dtX10_befall 47 rfl) (by decide) (by first | assumption | exact ⟨by omega, by omega⟩) (by first | assumption | exact ⟨by omega, by omega⟩) (fun c7 => ?_) (fun c7 => ?_)
        · have eb : bfF S r s x = (r, s) := (if_neg (by omega)).trans ((if_neg (by omega)).trans (if_neg (by omega)))
          exact K_vret (dt_at dtX10_befall 69 rfl) rfl (by decide) (by decide) ⟨rfl, by rw [eb]; exact y⟩
        · refine K_aload_n (dt_at dtX10_befall 48 rfl) rfl rfl ?_
          refine K_get (a := 84) (ci := 10) (k := 5) (v := vr t) (dt_at dtX10_befall 49 rfl) (show TT 84 = (0, 10) from rfl) rfl (by decide) wF_X10_40 (by show vr (hR h2 84 5) = vr t; rw [(YW_at y).2.1]) ?_
          refine K_get (a := t) (ci := 3) (k := 10) (v := vi (sNt S : Int)) (dt_at dtX10_befall 50 rfl) hH rfl (by decide) wF_X10_131 (by show vi (hI h2 t 10) = vi (sNt S : Int); rw [(CQ_FS c0 (YW_at y).1).2.2.1.2.1.1]) ?_
          refine K_if_le (tgt := 143) (dt_at dtX10_befall 51 rfl) (by decide) (by first | assumption | exact ⟨by omega, by omega⟩) (fun c8 => ?_) (fun c8 => ?_)
          · have eb : bfF S r s x = (r, s) := (if_neg (by omega)).trans ((if_neg (by omega)).trans (if_neg (by omega)))
            exact K_vret (dt_at dtX10_befall 69 rfl) rfl (by decide) (by decide) ⟨rfl, by rw [eb]; exact y⟩
          · refine K_aload_n (dt_at dtX10_befall 52 rfl) rfl rfl ?_
            refine K_aload_n (dt_at dtX10_befall 53 rfl) rfl rfl ?_
            refine K_get (a := 84) (ci := 10) (k := 5) (v := vr t) (dt_at dtX10_befall 54 rfl) (show TT 84 = (0, 10) from rfl) rfl (by decide) wF_X10_40 (by show vr (hR h2 84 5) = vr t; rw [(YW_at y).2.1]) ?_
            refine K_get (a := t) (ci := 3) (k := 10) (v := vi (sNt S : Int)) (dt_at dtX10_befall 55 rfl) hH rfl (by decide) wF_X10_131 (by show vi (hI h2 t 10) = vi (sNt S : Int); rw [(CQ_FS c0 (YW_at y).1).2.2.1.2.1.1]) ?_
            refine K_callV (M' := mX10_draw) (a := 84) (ci := 10) (As := [vi (sNt S : Int)]) (st := []) (dt_at dtX10_befall 56 rfl) (sX10_draw ⟨by omega, by omega⟩) (show TT 84 = (0, 10) from rfl) rfl wL_X10_172 vX10_draw rfl npX10_draw (by decide) (by decide) (Nat.le_of_ble_eq_true rfl) (by decide) (by decide) GK_E (fun v9 hc5 hq => ?_) (fun E h9 hq => by cases hq.1)
            have hqq6 := hq
            obtain ⟨e9q6, e8q6⟩ := hqq6
            have yq6 := YW_sd y e8q6
            rw [(YW_at y).2.2.2.2] at yq6
            have dq6 := dvS_b (s := nxS s) (n := (sNt S : Int)) (by omega)
            cases e9q6
            show K mX10_befall _ _ 0 0 120 [(0, vr 84), (1, vi x)] [vi (dvS (nxS (hI h2 84 7)) (sNt S : Int))] hc5
            rw [(YW_at y).2.2.2.2]
            refine K_istore_n (ls' := [(2, vi (dvS (nxS s) (sNt S : Int))), (0, vr 84), (1, vi x)]) (dt_at dtX10_befall 57 rfl) rfl (by decide) rfl ?_
            refine K_aload_n (dt_at dtX10_befall 58 rfl) rfl rfl ?_
            refine K_get (a := 84) (ci := 10) (k := 0) (v := vr 85) (dt_at dtX10_befall 59 rfl) (show TT 84 = (0, 10) from rfl) rfl (by decide) wF_X10_12 rfl ?_
            refine K_iload_n (dt_at dtX10_befall 60 rfl) rfl rfl ?_
            refine K_callV (M' := mX8_stock) (a := 85) (ci := 8) (As := [vi (dvS (nxS s) (sNt S : Int))]) (st := []) (dt_at dtX10_befall 61 rfl) (sX8_stock (a := 85) rfl ⟨by omega, by omega⟩) (show TT 85 = (0, 8) from rfl) rfl wL_X10_158 vX8_stock rfl npX8_stock (by decide) (by decide) (Nat.le_of_ble_eq_true rfl) (by decide) (by decide) GK_E (fun v9 h9 hq => ?_) (fun E h9 hq => by cases hq.1)
            obtain ⟨e9, e8⟩ := hq
            cases e9
            rw [e8]
            show K mX10_befall _ _ 0 0 129 [(2, vi (dvS (nxS s) (sNt S : Int))), (0, vr 84), (1, vi x)] [vi (hA hc5 (85 + 1) (29 + (dvS (nxS s) (sNt S : Int))))] hc5
            rw [show hA hc5 (85 + 1) = r from (YW_at yq6).2.2.1]
            have w9 := hTr.1.1 (29 + (dvS (nxS s) (sNt S : Int))) (by omega) (by omega)
            refine K_bipush (dt_at dtX10_befall 62 rfl) (by decide) ?_
            refine K_icmp_ge (tgt := 143) (dt_at dtX10_befall 63 rfl) (by decide) (by first | assumption | exact ⟨by omega, by omega⟩) (by first | assumption | exact ⟨by omega, by omega⟩) (fun c9 => ?_) (fun c9 => ?_)
            · have eb : bfF S r s x = ((if r (29 + dvS (nxS s) (sNt S)) < 99 then upI r (29 + dvS (nxS s) (sNt S)) (r (29 + dvS (nxS s) (sNt S)) + 1) else r), (nxS s)) := (if_neg (by omega)).trans ((if_neg (by omega)).trans (if_pos (by omega)))
              rw [if_neg (by omega)] at eb
              exact K_vret (dt_at dtX10_befall 69 rfl) rfl (by decide) (by decide) ⟨rfl, by rw [eb]; exact yq6⟩
            · refine K_aload_n (dt_at dtX10_befall 64 rfl) rfl rfl ?_
              refine K_get (a := 84) (ci := 10) (k := 0) (v := vr 85) (dt_at dtX10_befall 65 rfl) (show TT 84 = (0, 10) from rfl) rfl (by decide) wF_X10_12 rfl ?_
              refine K_iload_n (dt_at dtX10_befall 66 rfl) rfl rfl ?_
              refine K_iconst (dt_at dtX10_befall 67 rfl) ?_
              refine K_callV (M' := mX8_addStock) (a := 85) (ci := 8) (As := [vi (dvS (nxS s) (sNt S : Int)), vi 1]) (st := []) (dt_at dtX10_befall 68 rfl) (sX8_addStock (a := 85) rfl ⟨by omega, by omega⟩) (show TT 85 = (0, 8) from rfl) rfl wL_X10_181 vX8_addStock rfl npX8_addStock (by decide) (by decide) (Nat.le_of_ble_eq_true rfl) (by decide) (by decide) GK_E (fun v9 hc7 hq => ?_) (fun E h9 hq => by cases hq.1)
              have hqq8 := hq
              obtain ⟨e9q8, e8q8⟩ := hqq8
              obtain ⟨hfq8, frq8, hiq8, hrq8⟩ := sA_fx e8q8
              rw [show hA hc5 (85 + 1) = r from (YW_at yq6).2.2.1] at hfq8
              have yq8 := YW_row yq6 hfq8 frq8 hiq8 hrq8
              cases e9q8
              show K mX10_befall _ _ 0 0 143 [(2, vi (dvS (nxS s) (sNt S : Int))), (0, vr 84), (1, vi x)] [] hc7
              have eb : bfF S r s x = ((if r (29 + dvS (nxS s) (sNt S)) < 99 then upI r (29 + dvS (nxS s) (sNt S)) (r (29 + dvS (nxS s) (sNt S)) + 1) else r), nxS s) := (if_neg (by omega)).trans ((if_neg (by omega)).trans (if_pos (by omega)))
              rw [if_pos (by omega)] at eb
              exact K_vret (dt_at dtX10_befall 69 rfl) rfl (by decide) (by decide) ⟨rfl, by rw [eb]; exact yq8⟩
      · refine K_aload_n (dt_at dtX10_befall 31 rfl) rfl rfl ?_
        refine K_aload_n (dt_at dtX10_befall 32 rfl) rfl rfl ?_
        refine K_get (a := 84) (ci := 10) (k := 5) (v := vr t) (dt_at dtX10_befall 33 rfl) (show TT 84 = (0, 10) from rfl) rfl (by decide) wF_X10_40 (by show vr (hR h2 84 5) = vr t; rw [(YW_at y).2.1]) ?_
        refine K_get (a := t) (ci := 3) (k := 11) (v := vi (sNp S : Int)) (dt_at dtX10_befall 34 rfl) hH rfl (by decide) wF_X10_51 (by show vi (hI h2 t 11) = vi (sNp S : Int); rw [(CQ_FS c0 (YW_at y).1).2.2.1.2.1.2]) ?_
        refine K_callV (M' := mX10_draw) (a := 84) (ci := 10) (As := [vi (sNp S : Int)]) (st := []) (dt_at dtX10_befall 35 rfl) (sX10_draw ⟨by omega, by omega⟩) (show TT 84 = (0, 10) from rfl) rfl wL_X10_172 vX10_draw rfl npX10_draw (by decide) (by decide) (Nat.le_of_ble_eq_true rfl) (by decide) (by decide) GK_E (fun v9 hc9 hq => ?_) (fun E h9 hq => by cases hq.1)
        have hqq10 := hq
        obtain ⟨e9q10, e8q10⟩ := hqq10
        have yq10 := YW_sd y e8q10
        rw [(YW_at y).2.2.2.2] at yq10
        have dq10 := dvS_b (s := nxS s) (n := (sNp S : Int)) (by omega)
        cases e9q10
        show K mX10_befall _ _ 0 0 76 [(0, vr 84), (1, vi x)] [vi (dvS (nxS (hI h2 84 7)) (sNp S : Int))] hc9
        rw [(YW_at y).2.2.2.2]
        refine K_istore_n (ls' := [(2, vi (dvS (nxS s) (sNp S : Int))), (0, vr 84), (1, vi x)]) (dt_at dtX10_befall 36 rfl) rfl (by decide) rfl ?_
        refine K_aload_n (dt_at dtX10_befall 37 rfl) rfl rfl ?_
        refine K_get (a := 84) (ci := 10) (k := 0) (v := vr 85) (dt_at dtX10_befall 38 rfl) (show TT 84 = (0, 10) from rfl) rfl (by decide) wF_X10_12 rfl ?_
        refine K_iload_n (dt_at dtX10_befall 39 rfl) rfl rfl ?_
        refine K_aload_n (dt_at dtX10_befall 40 rfl) rfl rfl ?_
        refine K_bipush (dt_at dtX10_befall 41 rfl) (by decide) ?_
        refine K_callV (M' := mX10_draw) (a := 84) (ci := 10) (As := [vi 10]) (st := [vi (dvS (nxS s) (sNp S : Int)), vr 85]) (dt_at dtX10_befall 42 rfl) (sX10_draw ⟨by omega, by omega⟩) (show TT 84 = (0, 10) from rfl) rfl wL_X10_172 vX10_draw rfl npX10_draw (by decide) (by decide) (Nat.le_of_ble_eq_true rfl) (by decide) (by decide) GK_E (fun v9 hc11 hq => ?_) (fun E h9 hq => by cases hq.1)
        have hqq12 := hq
        obtain ⟨e9q12, e8q12⟩ := hqq12
        have yq12 := YW_sd yq10 e8q12
        rw [(YW_at yq10).2.2.2.2] at yq12
        have dq12 := dvS_b (s := nxS (nxS s)) (n := 10) (by omega)
        cases e9q12
        show K mX10_befall _ _ 0 0 88 [(2, vi (dvS (nxS s) (sNp S : Int))), (0, vr 84), (1, vi x)] [vi (dvS (nxS (hI hc9 84 7)) 10), vi (dvS (nxS s) (sNp S : Int)), vr 85] hc11
        rw [(YW_at yq10).2.2.2.2]
        refine K_callV (M' := mX8_setFond) (a := 85) (ci := 8) (As := [vi (dvS (nxS s) (sNp S : Int)), vi (dvS (nxS (nxS s)) 10)]) (st := []) (dt_at dtX10_befall 43 rfl) (sX8_setFond (a := 85) rfl ⟨by omega, by omega⟩ ⟨by omega, by omega⟩) (show TT 85 = (0, 8) from rfl) rfl wL_X10_101 vX8_setFond rfl npX8_setFond (by decide) (by decide) (Nat.le_of_ble_eq_true rfl) (by decide) (by decide) GK_E (fun v9 hc13 hq => ?_) (fun E h9 hq => by cases hq.1)
        have hqq14 := hq
        obtain ⟨e9q14, e8q14⟩ := hqq14
        obtain ⟨hfq14, frq14, hiq14, hrq14⟩ := sA_fx e8q14
        rw [show hA hc11 (85 + 1) = r from (YW_at yq12).2.2.1] at hfq14
        rw [show max 0 (min 9 ((dvS (nxS (nxS s)) 10))) = (dvS (nxS (nxS s)) 10) by omega] at hfq14
        have yq14 := YW_row yq12 hfq14 frq14 hiq14 hrq14
        cases e9q14
        show K mX10_befall _ _ 0 0 91 [(2, vi (dvS (nxS s) (sNp S : Int))), (0, vr 84), (1, vi x)] [] hc13
        refine K_goto (tgt := 143) (dt_at dtX10_befall 44 rfl) (by decide) ?_
        have eb : bfF S r s x = ((upI r (15 + (dvS (nxS s) (sNp S : Int))) (dvS (nxS (nxS s)) 10)), (nxS (nxS s))) := (if_neg (by omega)).trans (if_pos (by omega))
        exact K_vret (dt_at dtX10_befall 69 rfl) rfl (by decide) (by decide) ⟨rfl, by rw [eb]; exact yq14⟩
  · refine K_aload_n (dt_at dtX10_befall 2 rfl) rfl rfl ?_
    refine K_get (a := 84) (ci := 10) (k := 5) (v := vr t) (dt_at dtX10_befall 3 rfl) (show TT 84 = (0, 10) from rfl) rfl (by decide) wF_X10_40 (by show vr (hR h2 84 5) = vr t; rw [(YW_at y).2.1]) ?_
    refine K_get (a := t) (ci := 3) (k := 11) (v := vi (sNp S : Int)) (dt_at dtX10_befall 4 rfl) hH rfl (by decide) wF_X10_51 (by show vi (hI h2 t 11) = vi (sNp S : Int); rw [(CQ_FS c0 (YW_at y).1).2.2.1.2.1.2]) ?_
    refine K_if_le (tgt := 50) (dt_at dtX10_befall 5 rfl) (by decide) (by first | assumption | exact ⟨by omega, by omega⟩) (fun c10 => ?_) (fun c10 => ?_)
    · refine K_iload_n (dt_at dtX10_befall 24 rfl) rfl rfl ?_
      refine K_iconst (dt_at dtX10_befall 25 rfl) ?_
      refine K_icmp_ne (tgt := 94) (dt_at dtX10_befall 26 rfl) (by decide) (by first | assumption | exact ⟨by omega, by omega⟩) (by first | assumption | exact ⟨by omega, by omega⟩) (fun c11 => ?_) (fun c11 => ?_)
      · refine K_iload_n (dt_at dtX10_befall 45 rfl) rfl rfl ?_
        refine K_iconst (dt_at dtX10_befall 46 rfl) ?_
        refine K_icmp_ne (tgt := 143) (dt_at dtX10_befall 47 rfl) (by decide) (by first | assumption | exact ⟨by omega, by omega⟩) (by first | assumption | exact ⟨by omega, by omega⟩) (fun c12 => ?_) (fun c12 => ?_)
        · have eb : bfF S r s x = (r, s) := (if_neg (by omega)).trans ((if_neg (by omega)).trans (if_neg (by omega)))
          exact K_vret (dt_at dtX10_befall 69 rfl) rfl (by decide) (by decide) ⟨rfl, by rw [eb]; exact y⟩
        · refine K_aload_n (dt_at dtX10_befall 48 rfl) rfl rfl ?_
          refine K_get (a := 84) (ci := 10) (k := 5) (v := vr t) (dt_at dtX10_befall 49 rfl) (show TT 84 = (0, 10) from rfl) rfl (by decide) wF_X10_40 (by show vr (hR h2 84 5) = vr t; rw [(YW_at y).2.1]) ?_
          refine K_get (a := t) (ci := 3) (k := 10) (v := vi (sNt S : Int)) (dt_at dtX10_befall 50 rfl) hH rfl (by decide) wF_X10_131 (by show vi (hI h2 t 10) = vi (sNt S : Int); rw [(CQ_FS c0 (YW_at y).1).2.2.1.2.1.1]) ?_
          refine K_if_le (tgt := 143) (dt_at dtX10_befall 51 rfl) (by decide) (by first | assumption | exact ⟨by omega, by omega⟩) (fun c13 => ?_) (fun c13 => ?_)
          · have eb : bfF S r s x = (r, s) := (if_neg (by omega)).trans ((if_neg (by omega)).trans (if_neg (by omega)))
            exact K_vret (dt_at dtX10_befall 69 rfl) rfl (by decide) (by decide) ⟨rfl, by rw [eb]; exact y⟩
          · refine K_aload_n (dt_at dtX10_befall 52 rfl) rfl rfl ?_
            refine K_aload_n (dt_at dtX10_befall 53 rfl) rfl rfl ?_
            refine K_get (a := 84) (ci := 10) (k := 5) (v := vr t) (dt_at dtX10_befall 54 rfl) (show TT 84 = (0, 10) from rfl) rfl (by decide) wF_X10_40 (by show vr (hR h2 84 5) = vr t; rw [(YW_at y).2.1]) ?_
            refine K_get (a := t) (ci := 3) (k := 10) (v := vi (sNt S : Int)) (dt_at dtX10_befall 55 rfl) hH rfl (by decide) wF_X10_131 (by show vi (hI h2 t 10) = vi (sNt S : Int); rw [(CQ_FS c0 (YW_at y).1).2.2.1.2.1.1]) ?_
            refine K_callV (M' := mX10_draw) (a := 84) (ci := 10) (As := [vi (sNt S : Int)]) (st := []) (dt_at dtX10_befall 56 rfl) (sX10_draw ⟨by omega, by omega⟩) (show TT 84 = (0, 10) from rfl) rfl wL_X10_172 vX10_draw rfl npX10_draw (by decide) (by decide) (Nat.le_of_ble_eq_true rfl) (by decide) (by decide) GK_E (fun v9 hc15 hq => ?_) (fun E h9 hq => by cases hq.1)
            have hqq16 := hq
            obtain ⟨e9q16, e8q16⟩ := hqq16
            have yq16 := YW_sd y e8q16
            rw [(YW_at y).2.2.2.2] at yq16
            have dq16 := dvS_b (s := nxS s) (n := (sNt S : Int)) (by omega)
            cases e9q16
            show K mX10_befall _ _ 0 0 120 [(0, vr 84), (1, vi x)] [vi (dvS (nxS (hI h2 84 7)) (sNt S : Int))] hc15
            rw [(YW_at y).2.2.2.2]
            refine K_istore_n (ls' := [(2, vi (dvS (nxS s) (sNt S : Int))), (0, vr 84), (1, vi x)]) (dt_at dtX10_befall 57 rfl) rfl (by decide) rfl ?_
            refine K_aload_n (dt_at dtX10_befall 58 rfl) rfl rfl ?_
            refine K_get (a := 84) (ci := 10) (k := 0) (v := vr 85) (dt_at dtX10_befall 59 rfl) (show TT 84 = (0, 10) from rfl) rfl (by decide) wF_X10_12 rfl ?_
            refine K_iload_n (dt_at dtX10_befall 60 rfl) rfl rfl ?_
            refine K_callV (M' := mX8_stock) (a := 85) (ci := 8) (As := [vi (dvS (nxS s) (sNt S : Int))]) (st := []) (dt_at dtX10_befall 61 rfl) (sX8_stock (a := 85) rfl ⟨by omega, by omega⟩) (show TT 85 = (0, 8) from rfl) rfl wL_X10_158 vX8_stock rfl npX8_stock (by decide) (by decide) (Nat.le_of_ble_eq_true rfl) (by decide) (by decide) GK_E (fun v9 h9 hq => ?_) (fun E h9 hq => by cases hq.1)
            obtain ⟨e9, e8⟩ := hq
            cases e9
            rw [e8]
            show K mX10_befall _ _ 0 0 129 [(2, vi (dvS (nxS s) (sNt S : Int))), (0, vr 84), (1, vi x)] [vi (hA hc15 (85 + 1) (29 + (dvS (nxS s) (sNt S : Int))))] hc15
            rw [show hA hc15 (85 + 1) = r from (YW_at yq16).2.2.1]
            have w9 := hTr.1.1 (29 + (dvS (nxS s) (sNt S : Int))) (by omega) (by omega)
            refine K_bipush (dt_at dtX10_befall 62 rfl) (by decide) ?_
            refine K_icmp_ge (tgt := 143) (dt_at dtX10_befall 63 rfl) (by decide) (by first | assumption | exact ⟨by omega, by omega⟩) (by first | assumption | exact ⟨by omega, by omega⟩) (fun c14 => ?_) (fun c14 => ?_)
            · have eb : bfF S r s x = ((if r (29 + dvS (nxS s) (sNt S)) < 99 then upI r (29 + dvS (nxS s) (sNt S)) (r (29 + dvS (nxS s) (sNt S)) + 1) else r), (nxS s)) := (if_neg (by omega)).trans ((if_neg (by omega)).trans (if_pos (by omega)))
              rw [if_neg (by omega)] at eb
              exact K_vret (dt_at dtX10_befall 69 rfl) rfl (by decide) (by decide) ⟨rfl, by rw [eb]; exact yq16⟩
            · refine K_aload_n (dt_at dtX10_befall 64 rfl) rfl rfl ?_
              refine K_get (a := 84) (ci := 10) (k := 0) (v := vr 85) (dt_at dtX10_befall 65 rfl) (show TT 84 = (0, 10) from rfl) rfl (by decide) wF_X10_12 rfl ?_
              refine K_iload_n (dt_at dtX10_befall 66 rfl) rfl rfl ?_
              refine K_iconst (dt_at dtX10_befall 67 rfl) ?_
              refine K_callV (M' := mX8_addStock) (a := 85) (ci := 8) (As := [vi (dvS (nxS s) (sNt S : Int)), vi 1]) (st := []) (dt_at dtX10_befall 68 rfl) (sX8_addStock (a := 85) rfl ⟨by omega, by omega⟩) (show TT 85 = (0, 8) from rfl) rfl wL_X10_181 vX8_addStock rfl npX8_addStock (by decide) (by decide) (Nat.le_of_ble_eq_true rfl) (by decide) (by decide) GK_E (fun v9 hc17 hq => ?_) (fun E h9 hq => by cases hq.1)
              have hqq18 := hq
              obtain ⟨e9q18, e8q18⟩ := hqq18
              obtain ⟨hfq18, frq18, hiq18, hrq18⟩ := sA_fx e8q18
              rw [show hA hc15 (85 + 1) = r from (YW_at yq16).2.2.1] at hfq18
              have yq18 := YW_row yq16 hfq18 frq18 hiq18 hrq18
              cases e9q18
              show K mX10_befall _ _ 0 0 143 [(2, vi (dvS (nxS s) (sNt S : Int))), (0, vr 84), (1, vi x)] [] hc17
              have eb : bfF S r s x = ((if r (29 + dvS (nxS s) (sNt S)) < 99 then upI r (29 + dvS (nxS s) (sNt S)) (r (29 + dvS (nxS s) (sNt S)) + 1) else r), nxS s) := (if_neg (by omega)).trans ((if_neg (by omega)).trans (if_pos (by omega)))
              rw [if_pos (by omega)] at eb
              exact K_vret (dt_at dtX10_befall 69 rfl) rfl (by decide) (by decide) ⟨rfl, by rw [eb]; exact yq18⟩
      · refine K_aload_n (dt_at dtX10_befall 27 rfl) rfl rfl ?_
        refine K_get (a := 84) (ci := 10) (k := 5) (v := vr t) (dt_at dtX10_befall 28 rfl) (show TT 84 = (0, 10) from rfl) rfl (by decide) wF_X10_40 (by show vr (hR h2 84 5) = vr t; rw [(YW_at y).2.1]) ?_
        refine K_get (a := t) (ci := 3) (k := 11) (v := vi (sNp S : Int)) (dt_at dtX10_befall 29 rfl) hH rfl (by decide) wF_X10_51 (by show vi (hI h2 t 11) = vi (sNp S : Int); rw [(CQ_FS c0 (YW_at y).1).2.2.1.2.1.2]) ?_
        refine K_if_le (tgt := 94) (dt_at dtX10_befall 30 rfl) (by decide) (by first | assumption | exact ⟨by omega, by omega⟩) (fun c15 => ?_) (fun c15 => ?_)
        · refine K_iload_n (dt_at dtX10_befall 45 rfl) rfl rfl ?_
          refine K_iconst (dt_at dtX10_befall 46 rfl) ?_
          refine K_icmp_ne (tgt := 143) (dt_at dtX10_befall 47 rfl) (by decide) (by first | assumption | exact ⟨by omega, by omega⟩) (by first | assumption | exact ⟨by omega, by omega⟩) (fun c16 => ?_) (fun c16 => ?_)
          · have eb : bfF S r s x = (r, s) := (if_neg (by omega)).trans ((if_neg (by omega)).trans (if_neg (by omega)))
            exact K_vret (dt_at dtX10_befall 69 rfl) rfl (by decide) (by decide) ⟨rfl, by rw [eb]; exact y⟩
          · refine K_aload_n (dt_at dtX10_befall 48 rfl) rfl rfl ?_
            refine K_get (a := 84) (ci := 10) (k := 5) (v := vr t) (dt_at dtX10_befall 49 rfl) (show TT 84 = (0, 10) from rfl) rfl (by decide) wF_X10_40 (by show vr (hR h2 84 5) = vr t; rw [(YW_at y).2.1]) ?_
            refine K_get (a := t) (ci := 3) (k := 10) (v := vi (sNt S : Int)) (dt_at dtX10_befall 50 rfl) hH rfl (by decide) wF_X10_131 (by show vi (hI h2 t 10) = vi (sNt S : Int); rw [(CQ_FS c0 (YW_at y).1).2.2.1.2.1.1]) ?_
            refine K_if_le (tgt := 143) (dt_at dtX10_befall 51 rfl) (by decide) (by first | assumption | exact ⟨by omega, by omega⟩) (fun c17 => ?_) (fun c17 => ?_)
            · have eb : bfF S r s x = (r, s) := (if_neg (by omega)).trans ((if_neg (by omega)).trans (if_neg (by omega)))
              exact K_vret (dt_at dtX10_befall 69 rfl) rfl (by decide) (by decide) ⟨rfl, by rw [eb]; exact y⟩
            · refine K_aload_n (dt_at dtX10_befall 52 rfl) rfl rfl ?_
              refine K_aload_n (dt_at dtX10_befall 53 rfl) rfl rfl ?_
              refine K_get (a := 84) (ci := 10) (k := 5) (v := vr t) (dt_at dtX10_befall 54 rfl) (show TT 84 = (0, 10) from rfl) rfl (by decide) wF_X10_40 (by show vr (hR h2 84 5) = vr t; rw [(YW_at y).2.1]) ?_
              refine K_get (a := t) (ci := 3) (k := 10) (v := vi (sNt S : Int)) (dt_at dtX10_befall 55 rfl) hH rfl (by decide) wF_X10_131 (by show vi (hI h2 t 10) = vi (sNt S : Int); rw [(CQ_FS c0 (YW_at y).1).2.2.1.2.1.1]) ?_
              refine K_callV (M' := mX10_draw) (a := 84) (ci := 10) (As := [vi (sNt S : Int)]) (st := []) (dt_at dtX10_befall 56 rfl) (sX10_draw ⟨by omega, by omega⟩) (show TT 84 = (0, 10) from rfl) rfl wL_X10_172 vX10_draw rfl npX10_draw (by decide) (by decide) (Nat.le_of_ble_eq_true rfl) (by decide) (by decide) GK_E (fun v9 hc19 hq => ?_) (fun E h9 hq => by cases hq.1)
              have hqq20 := hq
              obtain ⟨e9q20, e8q20⟩ := hqq20
              have yq20 := YW_sd y e8q20
              rw [(YW_at y).2.2.2.2] at yq20
              have dq20 := dvS_b (s := nxS s) (n := (sNt S : Int)) (by omega)
              cases e9q20
              show K mX10_befall _ _ 0 0 120 [(0, vr 84), (1, vi x)] [vi (dvS (nxS (hI h2 84 7)) (sNt S : Int))] hc19
              rw [(YW_at y).2.2.2.2]
              refine K_istore_n (ls' := [(2, vi (dvS (nxS s) (sNt S : Int))), (0, vr 84), (1, vi x)]) (dt_at dtX10_befall 57 rfl) rfl (by decide) rfl ?_
              refine K_aload_n (dt_at dtX10_befall 58 rfl) rfl rfl ?_
              refine K_get (a := 84) (ci := 10) (k := 0) (v := vr 85) (dt_at dtX10_befall 59 rfl) (show TT 84 = (0, 10) from rfl) rfl (by decide) wF_X10_12 rfl ?_
              refine K_iload_n (dt_at dtX10_befall 60 rfl) rfl rfl ?_
              refine K_callV (M' := mX8_stock) (a := 85) (ci := 8) (As := [vi (dvS (nxS s) (sNt S : Int))]) (st := []) (dt_at dtX10_befall 61 rfl) (sX8_stock (a := 85) rfl ⟨by omega, by omega⟩) (show TT 85 = (0, 8) from rfl) rfl wL_X10_158 vX8_stock rfl npX8_stock (by decide) (by decide) (Nat.le_of_ble_eq_true rfl) (by decide) (by decide) GK_E (fun v9 h9 hq => ?_) (fun E h9 hq => by cases hq.1)
              obtain ⟨e9, e8⟩ := hq
              cases e9
              rw [e8]
              show K mX10_befall _ _ 0 0 129 [(2, vi (dvS (nxS s) (sNt S : Int))), (0, vr 84), (1, vi x)] [vi (hA hc19 (85 + 1) (29 + (dvS (nxS s) (sNt S : Int))))] hc19
              rw [show hA hc19 (85 + 1) = r from (YW_at yq20).2.2.1]
              have w9 := hTr.1.1 (29 + (dvS (nxS s) (sNt S : Int))) (by omega) (by omega)
              refine K_bipush (dt_at dtX10_befall 62 rfl) (by decide) ?_
              refine K_icmp_ge (tgt := 143) (dt_at dtX10_befall 63 rfl) (by decide) (by first | assumption | exact ⟨by omega, by omega⟩) (by first | assumption | exact ⟨by omega, by omega⟩) (fun c18 => ?_) (fun c18 => ?_)
              · have eb : bfF S r s x = ((if r (29 + dvS (nxS s) (sNt S)) < 99 then upI r (29 + dvS (nxS s) (sNt S)) (r (29 + dvS (nxS s) (sNt S)) + 1) else r), (nxS s)) := (if_neg (by omega)).trans ((if_neg (by omega)).trans (if_pos (by omega)))
                rw [if_neg (by omega)] at eb
                exact K_vret (dt_at dtX10_befall 69 rfl) rfl (by decide) (by decide) ⟨rfl, by rw [eb]; exact yq20⟩
              · refine K_aload_n (dt_at dtX10_befall 64 rfl) rfl rfl ?_
                refine K_get (a := 84) (ci := 10) (k := 0) (v := vr 85) (dt_at dtX10_befall 65 rfl) (show TT 84 = (0, 10) from rfl) rfl (by decide) wF_X10_12 rfl ?_
                refine K_iload_n (dt_at dtX10_befall 66 rfl) rfl rfl ?_
                refine K_iconst (dt_at dtX10_befall 67 rfl) ?_
                refine K_callV (M' := mX8_addStock) (a := 85) (ci := 8) (As := [vi (dvS (nxS s) (sNt S : Int)), vi 1]) (st := []) (dt_at dtX10_befall 68 rfl) (sX8_addStock (a := 85) rfl ⟨by omega, by omega⟩) (show TT 85 = (0, 8) from rfl) rfl wL_X10_181 vX8_addStock rfl npX8_addStock (by decide) (by decide) (Nat.le_of_ble_eq_true rfl) (by decide) (by decide) GK_E (fun v9 hc21 hq => ?_) (fun E h9 hq => by cases hq.1)
                have hqq22 := hq
                obtain ⟨e9q22, e8q22⟩ := hqq22
                obtain ⟨hfq22, frq22, hiq22, hrq22⟩ := sA_fx e8q22
                rw [show hA hc19 (85 + 1) = r from (YW_at yq20).2.2.1] at hfq22
                have yq22 := YW_row yq20 hfq22 frq22 hiq22 hrq22
                cases e9q22
                show K mX10_befall _ _ 0 0 143 [(2, vi (dvS (nxS s) (sNt S : Int))), (0, vr 84), (1, vi x)] [] hc21
                have eb : bfF S r s x = ((if r (29 + dvS (nxS s) (sNt S)) < 99 then upI r (29 + dvS (nxS s) (sNt S)) (r (29 + dvS (nxS s) (sNt S)) + 1) else r), nxS s) := (if_neg (by omega)).trans ((if_neg (by omega)).trans (if_pos (by omega)))
                rw [if_pos (by omega)] at eb
                exact K_vret (dt_at dtX10_befall 69 rfl) rfl (by decide) (by decide) ⟨rfl, by rw [eb]; exact yq22⟩
        · refine K_aload_n (dt_at dtX10_befall 31 rfl) rfl rfl ?_
          refine K_aload_n (dt_at dtX10_befall 32 rfl) rfl rfl ?_
          refine K_get (a := 84) (ci := 10) (k := 5) (v := vr t) (dt_at dtX10_befall 33 rfl) (show TT 84 = (0, 10) from rfl) rfl (by decide) wF_X10_40 (by show vr (hR h2 84 5) = vr t; rw [(YW_at y).2.1]) ?_
          refine K_get (a := t) (ci := 3) (k := 11) (v := vi (sNp S : Int)) (dt_at dtX10_befall 34 rfl) hH rfl (by decide) wF_X10_51 (by show vi (hI h2 t 11) = vi (sNp S : Int); rw [(CQ_FS c0 (YW_at y).1).2.2.1.2.1.2]) ?_
          refine K_callV (M' := mX10_draw) (a := 84) (ci := 10) (As := [vi (sNp S : Int)]) (st := []) (dt_at dtX10_befall 35 rfl) (sX10_draw ⟨by omega, by omega⟩) (show TT 84 = (0, 10) from rfl) rfl wL_X10_172 vX10_draw rfl npX10_draw (by decide) (by decide) (Nat.le_of_ble_eq_true rfl) (by decide) (by decide) GK_E (fun v9 hc23 hq => ?_) (fun E h9 hq => by cases hq.1)
          have hqq24 := hq
          obtain ⟨e9q24, e8q24⟩ := hqq24
          have yq24 := YW_sd y e8q24
          rw [(YW_at y).2.2.2.2] at yq24
          have dq24 := dvS_b (s := nxS s) (n := (sNp S : Int)) (by omega)
          cases e9q24
          show K mX10_befall _ _ 0 0 76 [(0, vr 84), (1, vi x)] [vi (dvS (nxS (hI h2 84 7)) (sNp S : Int))] hc23
          rw [(YW_at y).2.2.2.2]
          refine K_istore_n (ls' := [(2, vi (dvS (nxS s) (sNp S : Int))), (0, vr 84), (1, vi x)]) (dt_at dtX10_befall 36 rfl) rfl (by decide) rfl ?_
          refine K_aload_n (dt_at dtX10_befall 37 rfl) rfl rfl ?_
          refine K_get (a := 84) (ci := 10) (k := 0) (v := vr 85) (dt_at dtX10_befall 38 rfl) (show TT 84 = (0, 10) from rfl) rfl (by decide) wF_X10_12 rfl ?_
          refine K_iload_n (dt_at dtX10_befall 39 rfl) rfl rfl ?_
          refine K_aload_n (dt_at dtX10_befall 40 rfl) rfl rfl ?_
          refine K_bipush (dt_at dtX10_befall 41 rfl) (by decide) ?_
          refine K_callV (M' := mX10_draw) (a := 84) (ci := 10) (As := [vi 10]) (st := [vi (dvS (nxS s) (sNp S : Int)), vr 85]) (dt_at dtX10_befall 42 rfl) (sX10_draw ⟨by omega, by omega⟩) (show TT 84 = (0, 10) from rfl) rfl wL_X10_172 vX10_draw rfl npX10_draw (by decide) (by decide) (Nat.le_of_ble_eq_true rfl) (by decide) (by decide) GK_E (fun v9 hc25 hq => ?_) (fun E h9 hq => by cases hq.1)
          have hqq26 := hq
          obtain ⟨e9q26, e8q26⟩ := hqq26
          have yq26 := YW_sd yq24 e8q26
          rw [(YW_at yq24).2.2.2.2] at yq26
          have dq26 := dvS_b (s := nxS (nxS s)) (n := 10) (by omega)
          cases e9q26
          show K mX10_befall _ _ 0 0 88 [(2, vi (dvS (nxS s) (sNp S : Int))), (0, vr 84), (1, vi x)] [vi (dvS (nxS (hI hc23 84 7)) 10), vi (dvS (nxS s) (sNp S : Int)), vr 85] hc25
          rw [(YW_at yq24).2.2.2.2]
          refine K_callV (M' := mX8_setFond) (a := 85) (ci := 8) (As := [vi (dvS (nxS s) (sNp S : Int)), vi (dvS (nxS (nxS s)) 10)]) (st := []) (dt_at dtX10_befall 43 rfl) (sX8_setFond (a := 85) rfl ⟨by omega, by omega⟩ ⟨by omega, by omega⟩) (show TT 85 = (0, 8) from rfl) rfl wL_X10_101 vX8_setFond rfl npX8_setFond (by decide) (by decide) (Nat.le_of_ble_eq_true rfl) (by decide) (by decide) GK_E (fun v9 hc27 hq => ?_) (fun E h9 hq => by cases hq.1)
          have hqq28 := hq
          obtain ⟨e9q28, e8q28⟩ := hqq28
          obtain ⟨hfq28, frq28, hiq28, hrq28⟩ := sA_fx e8q28
          rw [show hA hc25 (85 + 1) = r from (YW_at yq26).2.2.1] at hfq28
          rw [show max 0 (min 9 ((dvS (nxS (nxS s)) 10))) = (dvS (nxS (nxS s)) 10) by omega] at hfq28
          have yq28 := YW_row yq26 hfq28 frq28 hiq28 hrq28
          cases e9q28
          show K mX10_befall _ _ 0 0 91 [(2, vi (dvS (nxS s) (sNp S : Int))), (0, vr 84), (1, vi x)] [] hc27
          refine K_goto (tgt := 143) (dt_at dtX10_befall 44 rfl) (by decide) ?_
          have eb : bfF S r s x = ((upI r (15 + (dvS (nxS s) (sNp S : Int))) (dvS (nxS (nxS s)) 10)), (nxS (nxS s))) := (if_neg (by omega)).trans (if_pos (by omega))
          exact K_vret (dt_at dtX10_befall 69 rfl) rfl (by decide) (by decide) ⟨rfl, by rw [eb]; exact yq28⟩
    · refine K_aload_n (dt_at dtX10_befall 6 rfl) rfl rfl ?_
      refine K_aload_n (dt_at dtX10_befall 7 rfl) rfl rfl ?_
      refine K_get (a := 84) (ci := 10) (k := 5) (v := vr t) (dt_at dtX10_befall 8 rfl) (show TT 84 = (0, 10) from rfl) rfl (by decide) wF_X10_40 (by show vr (hR h2 84 5) = vr t; rw [(YW_at y).2.1]) ?_
      refine K_get (a := t) (ci := 3) (k := 11) (v := vi (sNp S : Int)) (dt_at dtX10_befall 9 rfl) hH rfl (by decide) wF_X10_51 (by show vi (hI h2 t 11) = vi (sNp S : Int); rw [(CQ_FS c0 (YW_at y).1).2.2.1.2.1.2]) ?_
      refine K_callV (M' := mX10_draw) (a := 84) (ci := 10) (As := [vi (sNp S : Int)]) (st := []) (dt_at dtX10_befall 10 rfl) (sX10_draw ⟨by omega, by omega⟩) (show TT 84 = (0, 10) from rfl) rfl wL_X10_172 vX10_draw rfl npX10_draw (by decide) (by decide) (Nat.le_of_ble_eq_true rfl) (by decide) (by decide) GK_E (fun v9 hc29 hq => ?_) (fun E h9 hq => by cases hq.1)
      have hqq30 := hq
      obtain ⟨e9q30, e8q30⟩ := hqq30
      have yq30 := YW_sd y e8q30
      rw [(YW_at y).2.2.2.2] at yq30
      have dq30 := dvS_b (s := nxS s) (n := (sNp S : Int)) (by omega)
      cases e9q30
      show K mX10_befall _ _ 0 0 25 [(0, vr 84), (1, vi x)] [vi (dvS (nxS (hI h2 84 7)) (sNp S : Int))] hc29
      rw [(YW_at y).2.2.2.2]
      refine K_istore_n (ls' := [(2, vi (dvS (nxS s) (sNp S : Int))), (0, vr 84), (1, vi x)]) (dt_at dtX10_befall 11 rfl) rfl (by decide) rfl ?_
      refine K_aload_n (dt_at dtX10_befall 12 rfl) rfl rfl ?_
      refine K_aload_n (dt_at dtX10_befall 13 rfl) rfl rfl ?_
      refine K_get (a := 84) (ci := 10) (k := 5) (v := vr t) (dt_at dtX10_befall 14 rfl) (show TT 84 = (0, 10) from rfl) rfl (by decide) wF_X10_40 (by show vr (hR hc29 84 5) = vr t; rw [(YW_at yq30).2.1]) ?_
      refine K_get (a := t) (ci := 3) (k := 11) (v := vi (sNp S : Int)) (dt_at dtX10_befall 15 rfl) hH rfl (by decide) wF_X10_51 (by show vi (hI hc29 t 11) = vi (sNp S : Int); rw [(CQ_FS c0 (YW_at yq30).1).2.2.1.2.1.2]) ?_
      refine K_callV (M' := mX10_draw) (a := 84) (ci := 10) (As := [vi (sNp S : Int)]) (st := []) (dt_at dtX10_befall 16 rfl) (sX10_draw ⟨by omega, by omega⟩) (show TT 84 = (0, 10) from rfl) rfl wL_X10_172 vX10_draw rfl npX10_draw (by decide) (by decide) (Nat.le_of_ble_eq_true rfl) (by decide) (by decide) GK_E (fun v9 hc31 hq => ?_) (fun E h9 hq => by cases hq.1)
      have hqq32 := hq
      obtain ⟨e9q32, e8q32⟩ := hqq32
      have yq32 := YW_sd yq30 e8q32
      rw [(YW_at yq30).2.2.2.2] at yq32
      have dq32 := dvS_b (s := nxS (nxS s)) (n := (sNp S : Int)) (by omega)
      cases e9q32
      show K mX10_befall _ _ 0 0 37 [(2, vi (dvS (nxS s) (sNp S : Int))), (0, vr 84), (1, vi x)] [vi (dvS (nxS (hI hc29 84 7)) (sNp S : Int))] hc31
      rw [(YW_at yq30).2.2.2.2]
      refine K_istore_n (ls' := [(3, vi (dvS (nxS (nxS s)) (sNp S : Int))), (2, vi (dvS (nxS s) (sNp S : Int))), (0, vr 84), (1, vi x)]) (dt_at dtX10_befall 17 rfl) rfl (by decide) rfl ?_
      refine K_aload_n (dt_at dtX10_befall 18 rfl) rfl rfl ?_
      refine K_get (a := 84) (ci := 10) (k := 0) (v := vr 85) (dt_at dtX10_befall 19 rfl) (show TT 84 = (0, 10) from rfl) rfl (by decide) wF_X10_12 rfl ?_
      refine K_iload_n (dt_at dtX10_befall 20 rfl) rfl rfl ?_
      refine K_iload_n (dt_at dtX10_befall 21 rfl) rfl rfl ?_
      refine K_callV (M' := mX8_changeCases) (a := 85) (ci := 8) (As := [vi (dvS (nxS s) (sNp S : Int)), vi (dvS (nxS (nxS s)) (sNp S : Int))]) (st := []) (dt_at dtX10_befall 22 rfl) (sX8_changeCases (a := 85) rfl ⟨by omega, by omega⟩ ⟨by omega, by omega⟩) (show TT 85 = (0, 8) from rfl) rfl wL_X10_178 vX8_changeCases rfl npX8_changeCases (by decide) (by decide) (Nat.le_of_ble_eq_true rfl) (by decide) (by decide) GK_E (fun v9 hc33 hq => ?_) (fun E h9 hq => by cases hq.1)
      have hqq34 := hq
      obtain ⟨e9q34, e8q34⟩ := hqq34
      obtain ⟨hfq34, frq34, hiq34, hrq34⟩ := sw_fx e8q34
      rw [show hA hc31 (85 + 1) = r from (YW_at yq32).2.2.1] at hfq34
      have yq34 := YW_row yq32 hfq34 frq34 hiq34 hrq34
      cases e9q34
      show K mX10_befall _ _ 0 0 47 [(3, vi (dvS (nxS (nxS s)) (sNp S : Int))), (2, vi (dvS (nxS s) (sNp S : Int))), (0, vr 84), (1, vi x)] [] hc33
      refine K_goto (tgt := 143) (dt_at dtX10_befall 23 rfl) (by decide) ?_
      have eb : bfF S r s x = ((swF r (dvS (nxS s) (sNp S : Int)) (dvS (nxS (nxS s)) (sNp S : Int))), (nxS (nxS s))) := if_pos (by omega)
      exact K_vret (dt_at dtX10_befall 69 rfl) rfl (by decide) (by decide) ⟨rfl, by rw [eb]; exact yq34⟩
def mX10_passYears : MI := (yX10_passYears, cX10_passYears, 4, none, rmK 6 0)
def tX10_passYears : List (Nat × Instr × Nat) := [(0, .aload_n 0, 1), (1, .iload_n 1, 1), (2, .putfield 37, 3), (5, .iconst 0, 1), (6, .istore_n 3, 1), (7, .iload_n 3, 1), (8, .iload_n 2, 1), (9, .if_icmp .ge 22, 3), (12, .aload_n 0, 1), (13, .aload_n 0, 1), (14, .iconst 5, 1), (15, .invokevirtual 172, 3), (18, .invokevirtual 175, 3), (21, .aload_n 0, 1), (22, .invokevirtual 48, 3), (25, .iinc 3 1, 3), (28, .goto (-21), 3), (31, .return_, 1)]
theorem dtX10_passYears : tX10_passYears.all (fun q => decide (decode cX10_passYears q.1 = .ok (q.2.1, q.2.2))) = true := by decide +kernel
theorem npX10_passYears : (parseMethodDescriptor (mY mX10_passYears).desc).map (fun d => d.parameters.length) = some 2 := by decide +kernel
theorem vX10_passYears : mV mX10_passYears := ⟨wI_X10_passYears, wS_X10_passYears, wN_X10, wC_X10_passYears, by decide +kernel, by decide +kernel⟩
set_option maxHeartbeats 4000000 in
set_option maxRecDepth 100000 in
theorem lp_X10_passYears {Q : AO → HP → Prop} {h : HP} {t : Nat} {S : HS} {B : Int} {f : Int → Int} {s : Int} {n : Nat} (c0 : CQ h t S B f) (hn : n ≤ 100) (hB6 : B ≤ 900000) (hQ : ∀ h2, YW h h2 t S (yrN S f s n).1 (ytN S f s n) (yeN S f s n) (yrN S f s n).2 → Q (.inl none) h2) : ∀ (d k : Nat) (hh : HP), k + d = n → YW h hh t S (yrN S f s k).1 (ytN S f s k) (yeN S f s k) (yrN S f s k).2 → K mX10_passYears GK (ZK Q 0 0) 0 0 7 [(3, vi (k : Int)), (0, vr 84), (1, vi s), (2, vi (n : Int))] [] hh := by
  intro d
  induction d with
  | zero =>
    intro k hh hk yh
    have c := c0
    have ht := c.1
    have hH := TTt ht
    have hB := c.2.2.2.1
    have hNt := hB.1
    have hNp := hB.2.1
    have hT := c.2.2.2.2.2.1
    have hC := c.2.2.2.2.2.2.1
    have h99 := c.2.2.2.2.2.2.2.1
    have G := c.2.2.2.2.2.2.2.2
    have hf0 := hT.2.2.2.1
    have ek : k = n := by omega
    refine K_iload_n (dt_at dtX10_passYears 5 rfl) rfl rfl ?_
    refine K_iload_n (dt_at dtX10_passYears 6 rfl) rfl rfl ?_
    refine K_icmp_ge (tgt := 31) (dt_at dtX10_passYears 7 rfl) (by decide) (by first | assumption | exact ⟨by omega, by omega⟩) (by first | assumption | exact ⟨by omega, by omega⟩) (fun c1 => ?_) (fun c1 => absurd c1 (by omega))
    exact K_vret (dt_at dtX10_passYears 17 rfl) rfl (by decide) (by decide) (hQ hh (by rw [ek] at yh; exact yh))
  | succ d ih =>
    intro k hh hk yh
    have c := c0
    have ht := c.1
    have hH := TTt ht
    have hB := c.2.2.2.1
    have hNt := hB.1
    have hNp := hB.2.1
    have hT := c.2.2.2.2.2.1
    have hC := c.2.2.2.2.2.2.1
    have h99 := c.2.2.2.2.2.2.2.1
    have G := c.2.2.2.2.2.2.2.2
    have hf0 := hT.2.2.2.1
    obtain ⟨a1, b1, c1⟩ := yrN_ok (s := s) hB hT hC k (by omega) (by omega)
    refine K_iload_n (dt_at dtX10_passYears 5 rfl) rfl rfl ?_
    refine K_iload_n (dt_at dtX10_passYears 6 rfl) rfl rfl ?_
    refine K_icmp_ge (tgt := 31) (dt_at dtX10_passYears 7 rfl) (by decide) (by first | assumption | exact ⟨by omega, by omega⟩) (by first | assumption | exact ⟨by omega, by omega⟩) (fun c1 => absurd c1 (by omega)) (fun c1 => ?_)
    refine K_aload_n (dt_at dtX10_passYears 8 rfl) rfl rfl ?_
    refine K_aload_n (dt_at dtX10_passYears 9 rfl) rfl rfl ?_
    refine K_iconst (dt_at dtX10_passYears 10 rfl) ?_
    refine K_callV (M' := mX10_draw) (a := 84) (ci := 10) (As := [vi 5]) (st := [vr 84]) (dt_at dtX10_passYears 11 rfl) (sX10_draw (n := 5) ⟨by omega, by omega⟩) (show TT 84 = (0, 10) from rfl) rfl wL_X10_172 vX10_draw rfl npX10_draw (by decide) (by decide) (Nat.le_of_ble_eq_true rfl) (by decide) (by decide) GK_E (fun v9 hc1 hq => ?_) (fun E h9 hq => by cases hq.1)
    have hqq2 := hq
    obtain ⟨e9q2, e8q2⟩ := hqq2
    have y1 := YW_sd yh e8q2
    rw [(YW_at yh).2.2.2.2] at y1
    have d1 := dvS_b (s := nxS (yrN S f s k).2) (n := 5) (by decide)
    cases e9q2
    show K mX10_passYears _ _ 0 0 18 [(3, vi (k : Int)), (0, vr 84), (1, vi s), (2, vi (n : Int))] [vi (dvS (nxS (hI hh 84 7)) 5), vr 84] hc1
    rw [(YW_at yh).2.2.2.2]
    refine K_callV (M' := mX10_befall) (a := 84) (ci := 10) (As := [vi (dvS (nxS (yrN S f s k).2) 5)]) (st := []) (dt_at dtX10_passYears 12 rfl) (sX10_befall c0 y1 a1 b1 d1) (show TT 84 = (0, 10) from rfl) rfl wL_X10_175 vX10_befall rfl npX10_befall (by decide) (by decide) (Nat.le_of_ble_eq_true rfl) (by decide) (by decide) GK_E (fun v9 hc3 hq => ?_) (fun E h9 hq => by cases hq.1)
    have hqq4 := hq
    obtain ⟨e9q4, y2⟩ := hqq4
    obtain ⟨g0, G1, X, P2, sd2⟩ := id y2
    obtain ⟨a2, b2, c2⟩ := bfF_ok (s := nxS (yrN S f s k).2) (lot := dvS (nxS (yrN S f s k).2) 5) hB a1 b1 (by omega)
    cases e9q4
    show K mX10_passYears _ _ 0 0 21 [(3, vi (k : Int)), (0, vr 84), (1, vi s), (2, vi (n : Int))] [] hc3
    refine K_aload_n (dt_at dtX10_passYears 13 rfl) rfl rfl ?_
    refine K_callV (M' := mX10_passDay) (a := 84) (ci := 10) (As := []) (st := []) (dt_at dtX10_passYears 14 rfl) (sX10_passDay X P2 a2 b2) (show TT 84 = (0, 10) from rfl) rfl wL_X10_48 vX10_passDay rfl npX10_passDay (by decide) (by decide) (Nat.le_of_ble_eq_true rfl) (by decide) (by decide) GK_E (fun v9 hc5 hq => ?_) (fun E h9 hq => by cases hq.1)
    have hqq6 := hq
    obtain ⟨e9q6, P3⟩ := hqq6
    have y3 : YW h hc5 t S (yrN S f s (k + 1)).1 (ytN S f s (k + 1)) (yeN S f s (k + 1)) (yrN S f s (k + 1)).2 := ⟨g0, G1, X, P3, by rw [P3.1.2.2.1 84 7 (Or.inr (by decide)), ← P2.1.2.2.1 84 7 (Or.inr (by decide))]; exact sd2⟩
    cases e9q6
    show K mX10_passYears _ _ 0 0 25 [(3, vi (k : Int)), (0, vr 84), (1, vi s), (2, vi (n : Int))] [] hc5
    refine K_iinc (ls' := [(3, vi ((k : Int) + 1)), (0, vr 84), (1, vi s), (2, vi (n : Int))]) (dt_at dtX10_passYears 15 rfl) rfl (by decide) rfl ?_
    refine K_goto (tgt := 7) (dt_at dtX10_passYears 16 rfl) (by decide) ?_
    exact K_pk [0, 1, 2, 3] rfl (ih (k + 1) hc5 (by omega) y3)
set_option maxHeartbeats 4000000 in
set_option maxRecDepth 100000 in
theorem sX10_passYears {h : HP} {t : Nat} {S : HS} {B : Int} {f : Int → Int} {h1 : HP} {s : Int} {n : Nat} (c0 : CQ h t S B f) (hn : n ≤ 100) (hB6 : B ≤ 900000) (F1 : FS h h1) (X : WX h1 84 t S) (P1 : PW h1 h1 84 t f (fun _ => 0) 0) : SpecK mX10_passYears [vr 84, vi s, vi (n : Int)] h1 (fun o h' => o = .inl none ∧ YW h h' t S (yrN S f s n).1 (ytN S f s n) (yeN S f s n) (yrN S f s n).2) := by
  refine Spec_of (by decide +kernel) (Nat.le_of_ble_eq_true rfl) ?_
  have y0 : YW h h1 t S f (fun _ => 0) 0 (hI h1 84 7) := ⟨h1, F1, X, P1, rfl⟩
  refine K_aload_n (dt_at dtX10_passYears 0 rfl) rfl rfl ?_
  refine K_iload_n (dt_at dtX10_passYears 1 rfl) rfl rfl ?_
  refine K_putI (a := 84) (ci := 10) (k := 7) (dt_at dtX10_passYears 2 rfl) (show TT 84 = (0, 10) from rfl) rfl (by decide) wF_X10_37 rfl (Or.inl rfl) rfl rfl ?_
  obtain ⟨hq1, eq1⟩ : ∃ z, z = sI h1 84 7 s := ⟨_, rfl⟩
  rw [← eq1]
  obtain ⟨iq1, fq1, aq1, rq1⟩ := sI_fx eq1
  refine K_iconst (dt_at dtX10_passYears 3 rfl) ?_
  refine K_istore_n (ls' := [(3, vi 0), (0, vr 84), (1, vi s), (2, vi (n : Int))]) (dt_at dtX10_passYears 4 rfl) rfl (by decide) rfl ?_
  exact K_pk [0, 1, 2, 3] rfl (lp_X10_passYears c0 hn hB6 (fun h3 q_ => ⟨rfl, q_⟩) n 0 hq1 (by omega) (YW_sd y0 eq1))
def mX11_years : MI := (yX11_years, cX11_years, 4, (some .int), rmK 8 2)
def tX11_years : List (Nat × Instr × Nat) := [(0, .iload_n 3, 1), (1, .iconst 2, 1), (2, .invokestatic 133, 3), (5, .iload_n 2, 1), (6, .iconst 0, 1), (7, .bipush 100, 2), (9, .invokestatic 111, 3), (12, .aload_n 0, 1), (13, .getfield 69, 3), (16, .aload_n 0, 1), (17, .getfield 20, 3), (20, .aload_n 0, 1), (21, .getfield 39, 3), (24, .invokevirtual 286, 3), (27, .aload_n 0, 1), (28, .getfield 69, 3), (31, .iload_n 1, 1), (32, .iload_n 2, 1), (33, .invokevirtual 385, 3), (36, .iload_n 3, 1), (37, .lookupswitch 53 #[(0, 27), (1, 35)], 27), (64, .aload_n 0, 1), (65, .getfield 69, 3), (68, .invokevirtual 388, 3), (71, .ireturn, 1), (72, .aload_n 0, 1), (73, .getfield 69, 3), (76, .getfield 291, 3), (79, .aload_n 0, 1), (80, .getfield 20, 3), (83, .getfield 140, 3), (86, .invokevirtual 391, 3), (89, .ireturn, 1), (90, .aload_n 0, 1), (91, .getfield 69, 3), (94, .getfield 291, 3), (97, .aload_n 0, 1), (98, .getfield 20, 3), (101, .getfield 140, 3), (104, .invokevirtual 150, 3), (107, .ireturn, 1)]
theorem dtX11_years : tX11_years.all (fun q => decide (decode cX11_years q.1 = .ok (q.2.1, q.2.2))) = true := by decide +kernel
theorem npX11_years : (parseMethodDescriptor (mY mX11_years).desc).map (fun d => d.parameters.length) = some 3 := by decide +kernel
theorem vX11_years : mV mX11_years := ⟨wI_X11_years, wS_X11_years, wN_X11, wC_X11_years, by decide +kernel, by decide +kernel⟩
set_option maxHeartbeats 4000000 in
set_option maxRecDepth 100000 in
theorem sX11_years_x1 {h : HP} {t : Nat} {S : HS} {B : Int} {f : Int → Int} {s : Int} {d : Int} {w : Int} (c : CQ h t S B f) (hs : i32 s) (hd : i32 d) (hw : i32 w) (kn : ¬ (0 ≤ w ∧ w ≤ 2)) : SpecK mX11_years [vr 30, vi s, vi d, vi w] h (fun o h' => o = .inr eNS ∧ FS h h') := by
  refine Spec_of (by decide +kernel) (Nat.le_of_ble_eq_true rfl) ?_
  have ht := c.1
  have hH := TTt ht
  have hB := c.2.2.2.1
  have hNt := hB.1
  have hNp := hB.2.1
  have hT := c.2.2.2.2.2.1
  have hC := c.2.2.2.2.2.2.1
  have h99 := c.2.2.2.2.2.2.2.1
  have G := c.2.2.2.2.2.2.2.2
  have hf0 := hT.2.2.2.1
  refine K_iload_n (dt_at dtX11_years 0 rfl) rfl rfl ?_
  refine K_iconst (dt_at dtX11_years 1 rfl) ?_
  exact K_callS (M' := mX11_needWhat) (As := [vi w, vi 2]) (st := []) (dt_at dtX11_years 2 rfl) (sX11_needWhat_no (by assumption) ⟨by decide, by decide⟩ (by omega)) wL_X11_133 vX11_needWhat rfl npX11_needWhat (by decide) (by decide) (Nat.le_of_ble_eq_true rfl) (by decide) (by decide) GK_E (fun v9 h9 hq => by cases hq.1) (fun E h9 hq => by obtain ⟨e9, e8⟩ := hq; cases e9; rw [e8]; exact KX_out (by decide) (by decide) ⟨rfl, FS_rf G⟩)
set_option maxHeartbeats 4000000 in
set_option maxRecDepth 100000 in
theorem sX11_years_x2 {h : HP} {t : Nat} {S : HS} {B : Int} {f : Int → Int} {s : Int} {d : Int} {w : Int} (c : CQ h t S B f) (hs : i32 s) (hd : i32 d) (hw : i32 w) (k0 : 0 ≤ w ∧ w ≤ 2) (kn : ¬ (0 ≤ d ∧ d ≤ 100)) : SpecK mX11_years [vr 30, vi s, vi d, vi w] h (fun o h' => o = .inr eIA ∧ FS h h') := by
  refine Spec_of (by decide +kernel) (Nat.le_of_ble_eq_true rfl) ?_
  have ht := c.1
  have hH := TTt ht
  have hB := c.2.2.2.1
  have hNt := hB.1
  have hNp := hB.2.1
  have hT := c.2.2.2.2.2.1
  have hC := c.2.2.2.2.2.2.1
  have h99 := c.2.2.2.2.2.2.2.1
  have G := c.2.2.2.2.2.2.2.2
  have hf0 := hT.2.2.2.1
  refine K_iload_n (dt_at dtX11_years 0 rfl) rfl rfl ?_
  refine K_iconst (dt_at dtX11_years 1 rfl) ?_
  refine K_callS (M' := mX11_needWhat) (As := [vi w, vi 2]) (st := []) (dt_at dtX11_years 2 rfl) (sX11_needWhat (by first | assumption | exact ⟨by omega, by omega⟩) ⟨by decide, by decide⟩ (by omega)) wL_X11_133 vX11_needWhat rfl npX11_needWhat (by decide) (by decide) (Nat.le_of_ble_eq_true rfl) (by decide) (by decide) GK_E (fun v9 h9 hq => ?_) (fun E h9 hq => by cases hq.1)
  obtain ⟨e9, e8⟩ := hq
  cases e9
  rw [e8]
  show K mX11_years _ _ 1 6 5 [(0, vr 30), (1, vi s), (2, vi d), (3, vi w)] [] h
  refine K_iload_n (dt_at dtX11_years 3 rfl) rfl rfl ?_
  refine K_iconst (dt_at dtX11_years 4 rfl) ?_
  refine K_bipush (dt_at dtX11_years 5 rfl) (by decide) ?_
  exact K_callS (M' := mX11_needBetween) (As := [vi d, vi 0, vi 100]) (st := []) (dt_at dtX11_years 6 rfl) (sX11_needBetween_no (by assumption) ⟨by decide, by decide⟩ ⟨by decide, by decide⟩ (by omega)) wL_X11_111 vX11_needBetween rfl npX11_needBetween (by decide) (by decide) (Nat.le_of_ble_eq_true rfl) (by decide) (by decide) GK_E (fun v9 h9 hq => by cases hq.1) (fun E h9 hq => by obtain ⟨e9, e8⟩ := hq; cases e9; rw [e8]; exact KX_out (by decide) (by decide) ⟨rfl, FS_rf G⟩)
set_option maxHeartbeats 4000000 in
set_option maxRecDepth 100000 in
theorem sX11_years_0 {h : HP} {t : Nat} {S : HS} {B : Int} {f : Int → Int} {s : Int} {n : Nat} (c : CQ h t S B f) (hn : n ≤ 100) (hB6 : B ≤ 900000) : SpecK mX11_years [vr 30, vi s, vi (n : Int), vi 0] h (fun o h' => o = .inl (some (vi (itN (fun k v => v + ytN S f s n (k : Int)) 0 7))) ∧ FS h h') := by
  refine Spec_of (by decide +kernel) (Nat.le_of_ble_eq_true rfl) ?_
  have ht := c.1
  have hH := TTt ht
  have hB := c.2.2.2.1
  have hNt := hB.1
  have hNp := hB.2.1
  have hT := c.2.2.2.2.2.1
  have hC := c.2.2.2.2.2.2.1
  have h99 := c.2.2.2.2.2.2.2.1
  have G := c.2.2.2.2.2.2.2.2
  have hf0 := hT.2.2.2.1
  refine K_iload_n (dt_at dtX11_years 0 rfl) rfl rfl ?_
  refine K_iconst (dt_at dtX11_years 1 rfl) ?_
  refine K_callS (M' := mX11_needWhat) (As := [vi 0, vi 2]) (st := []) (dt_at dtX11_years 2 rfl) (sX11_needWhat (by first | assumption | exact ⟨by omega, by omega⟩) ⟨by decide, by decide⟩ (by omega)) wL_X11_133 vX11_needWhat rfl npX11_needWhat (by decide) (by decide) (Nat.le_of_ble_eq_true rfl) (by decide) (by decide) GK_E (fun v9 h9 hq => ?_) (fun E h9 hq => by cases hq.1)
  obtain ⟨e9, e8⟩ := hq
  cases e9
  rw [e8]
  show K mX11_years _ _ 1 6 5 [(0, vr 30), (1, vi s), (2, vi (n : Int)), (3, vi 0)] [] h
  refine K_iload_n (dt_at dtX11_years 3 rfl) rfl rfl ?_
  refine K_iconst (dt_at dtX11_years 4 rfl) ?_
  refine K_bipush (dt_at dtX11_years 5 rfl) (by decide) ?_
  refine K_callS (M' := mX11_needBetween) (As := [vi (n : Int), vi 0, vi 100]) (st := []) (dt_at dtX11_years 6 rfl) (sX11_needBetween (by first | assumption | exact ⟨by omega, by omega⟩) ⟨by decide, by decide⟩ ⟨by decide, by decide⟩ (by omega)) wL_X11_111 vX11_needBetween rfl npX11_needBetween (by decide) (by decide) (Nat.le_of_ble_eq_true rfl) (by decide) (by decide) GK_E (fun v9 h9 hq => ?_) (fun E h9 hq => by cases hq.1)
  obtain ⟨e9, e8⟩ := hq
  cases e9
  rw [e8]
  show K mX11_years _ _ 2 12 12 [(0, vr 30), (1, vi s), (2, vi (n : Int)), (3, vi 0)] [] h
  refine K_aload_n (dt_at dtX11_years 7 rfl) rfl rfl ?_
  refine K_get (a := 30) (ci := 11) (k := 11) (v := vr 84) (dt_at dtX11_years 8 rfl) (by decide) rfl (by decide) wF_X11_69 rfl ?_
  refine K_aload_n (dt_at dtX11_years 9 rfl) rfl rfl ?_
  refine K_get (a := 30) (ci := 11) (k := 2) (v := vr t) (dt_at dtX11_years 10 rfl) (by decide) rfl (by decide) wF_X11_20 (by show vr (hR h 30 2) = vr t; rw [c.2.1]) ?_
  refine K_aload_n (dt_at dtX11_years 11 rfl) rfl rfl ?_
  refine K_get (a := 30) (ci := 11) (k := 5) (v := vr 66) (dt_at dtX11_years 12 rfl) (by decide) rfl (by decide) wF_X11_39 rfl ?_
  refine K_callV (M' := mX10_begin) (a := 84) (ci := 10) (As := [vr t, vr 66]) (st := []) (dt_at dtX11_years 13 rfl) (sX10_begin (w := 84) (t := t) (a := 66) (Or.inl rfl) ht (by decide) (by decide)) (show TT 84 = (0, 10) from rfl) rfl wL_X11_286 vX10_begin rfl npX10_begin (by decide) (by decide) (Nat.le_of_ble_eq_true rfl) (by decide) (by decide) GK_E (fun v9 hc1 hq => ?_) (fun E h9 hq => by cases hq.1)
  have hqq2 := hq
  obtain ⟨e9q2, b1, b2, b3, b4, b5, b6, b7⟩ := hqq2
  obtain ⟨F1, X, P1⟩ := BG_ok (w := 84) (Or.inl rfl) ht c.2.2.1 hB c.2.2.2.2.2.2.2.2 b1 b2 b3 b4 b5 b6 b7
  rw [c.2.2.2.2.1] at P1
  cases e9q2
  show K mX11_years _ _ 2 12 27 [(0, vr 30), (1, vi s), (2, vi (n : Int)), (3, vi 0)] [] hc1
  refine K_aload_n (dt_at dtX11_years 14 rfl) rfl rfl ?_
  refine K_get (a := 30) (ci := 11) (k := 11) (v := vr 84) (dt_at dtX11_years 15 rfl) (by decide) rfl (by decide) wF_X11_69 rfl ?_
  refine K_iload_n (dt_at dtX11_years 16 rfl) rfl rfl ?_
  refine K_iload_n (dt_at dtX11_years 17 rfl) rfl rfl ?_
  refine K_callV (M' := mX10_passYears) (a := 84) (ci := 10) (As := [vi s, vi (n : Int)]) (st := []) (dt_at dtX11_years 18 rfl) (sX10_passYears c hn (by omega) F1 X P1) (show TT 84 = (0, 10) from rfl) rfl wL_X11_385 vX10_passYears rfl npX10_passYears (by decide) (by decide) (Nat.le_of_ble_eq_true rfl) (by decide) (by decide) GK_E (fun v9 hc3 hq => ?_) (fun E h9 hq => by cases hq.1)
  have hqq4 := hq
  obtain ⟨e9q4, y9⟩ := hqq4
  have F9 := (YW_at y9).1
  obtain ⟨hTn, hCn, hn0⟩ := yrN_ok (s := s) hB hT hC n (by omega) (by omega)
  have r9 : hA hc3 86 = (yrN S f s n).1 := (YW_at y9).2.2.1
  cases e9q4
  show K mX11_years _ _ 2 12 36 [(0, vr 30), (1, vi s), (2, vi (n : Int)), (3, vi 0)] [] hc3
  refine K_iload_n (dt_at dtX11_years 19 rfl) rfl rfl ?_
  refine K_lookup (off := 27) (tgt := 64) (dt_at dtX11_years 20 rfl) ⟨by decide, by decide⟩ (by decide) (by decide) (by decide) ?_
  refine K_aload_n (dt_at dtX11_years 21 rfl) rfl rfl ?_
  refine K_get (a := 30) (ci := 11) (k := 11) (v := vr 84) (dt_at dtX11_years 22 rfl) (by decide) rfl (by decide) wF_X11_69 rfl ?_
  refine K_callV (M' := mX10_allTrips) (a := 84) (ci := 10) (As := []) (st := []) (dt_at dtX11_years 23 rfl) (sX10_allTrips (w := 84) rfl) (show TT 84 = (0, 10) from rfl) rfl wL_X11_388 vX10_allTrips rfl npX10_allTrips (by decide) (by decide) (Nat.le_of_ble_eq_true rfl) (by decide) (by decide) GK_E (fun v9 h9 hq => ?_) (fun E h9 hq => by cases hq.1)
  obtain ⟨e9, e8⟩ := hq
  cases e9
  rw [e8]
  show K mX11_years _ _ 2 12 71 [(0, vr 30), (1, vi s), (2, vi (n : Int)), (3, vi 0)] [vi (itN (fun k v => v + hA hc3 (84 + 4) (k : Int)) 0 7)] hc3
  rw [show hA hc3 (84 + 4) = ytN S f s n from (YW_at y9).2.2.2.1]
  exact K_iret (dt_at dtX11_years 24 rfl) rfl rfl (by decide) (by decide) ⟨rfl, F9⟩
set_option maxHeartbeats 4000000 in
set_option maxRecDepth 100000 in
theorem sX11_years_1 {h : HP} {t : Nat} {S : HS} {B : Int} {f : Int → Int} {s : Int} {n : Nat} (c : CQ h t S B f) (hn : n ≤ 100) (hB6 : B ≤ 900000) : SpecK mX11_years [vr 30, vi s, vi (n : Int), vi 1] h (fun o h' => o = .inl (some (vi (itN (fun k v => v + (((yrN S f s n).1) (15 + (k : Int)))) 0 (sNp S)))) ∧ FS h h') := by
  refine Spec_of (by decide +kernel) (Nat.le_of_ble_eq_true rfl) ?_
  have ht := c.1
  have hH := TTt ht
  have hB := c.2.2.2.1
  have hNt := hB.1
  have hNp := hB.2.1
  have hT := c.2.2.2.2.2.1
  have hC := c.2.2.2.2.2.2.1
  have h99 := c.2.2.2.2.2.2.2.1
  have G := c.2.2.2.2.2.2.2.2
  have hf0 := hT.2.2.2.1
  refine K_iload_n (dt_at dtX11_years 0 rfl) rfl rfl ?_
  refine K_iconst (dt_at dtX11_years 1 rfl) ?_
  refine K_callS (M' := mX11_needWhat) (As := [vi 1, vi 2]) (st := []) (dt_at dtX11_years 2 rfl) (sX11_needWhat (by first | assumption | exact ⟨by omega, by omega⟩) ⟨by decide, by decide⟩ (by omega)) wL_X11_133 vX11_needWhat rfl npX11_needWhat (by decide) (by decide) (Nat.le_of_ble_eq_true rfl) (by decide) (by decide) GK_E (fun v9 h9 hq => ?_) (fun E h9 hq => by cases hq.1)
  obtain ⟨e9, e8⟩ := hq
  cases e9
  rw [e8]
  show K mX11_years _ _ 1 6 5 [(0, vr 30), (1, vi s), (2, vi (n : Int)), (3, vi 1)] [] h
  refine K_iload_n (dt_at dtX11_years 3 rfl) rfl rfl ?_
  refine K_iconst (dt_at dtX11_years 4 rfl) ?_
  refine K_bipush (dt_at dtX11_years 5 rfl) (by decide) ?_
  refine K_callS (M' := mX11_needBetween) (As := [vi (n : Int), vi 0, vi 100]) (st := []) (dt_at dtX11_years 6 rfl) (sX11_needBetween (by first | assumption | exact ⟨by omega, by omega⟩) ⟨by decide, by decide⟩ ⟨by decide, by decide⟩ (by omega)) wL_X11_111 vX11_needBetween rfl npX11_needBetween (by decide) (by decide) (Nat.le_of_ble_eq_true rfl) (by decide) (by decide) GK_E (fun v9 h9 hq => ?_) (fun E h9 hq => by cases hq.1)
  obtain ⟨e9, e8⟩ := hq
  cases e9
  rw [e8]
  show K mX11_years _ _ 2 12 12 [(0, vr 30), (1, vi s), (2, vi (n : Int)), (3, vi 1)] [] h
  refine K_aload_n (dt_at dtX11_years 7 rfl) rfl rfl ?_
  refine K_get (a := 30) (ci := 11) (k := 11) (v := vr 84) (dt_at dtX11_years 8 rfl) (by decide) rfl (by decide) wF_X11_69 rfl ?_
  refine K_aload_n (dt_at dtX11_years 9 rfl) rfl rfl ?_
  refine K_get (a := 30) (ci := 11) (k := 2) (v := vr t) (dt_at dtX11_years 10 rfl) (by decide) rfl (by decide) wF_X11_20 (by show vr (hR h 30 2) = vr t; rw [c.2.1]) ?_
  refine K_aload_n (dt_at dtX11_years 11 rfl) rfl rfl ?_
  refine K_get (a := 30) (ci := 11) (k := 5) (v := vr 66) (dt_at dtX11_years 12 rfl) (by decide) rfl (by decide) wF_X11_39 rfl ?_
  refine K_callV (M' := mX10_begin) (a := 84) (ci := 10) (As := [vr t, vr 66]) (st := []) (dt_at dtX11_years 13 rfl) (sX10_begin (w := 84) (t := t) (a := 66) (Or.inl rfl) ht (by decide) (by decide)) (show TT 84 = (0, 10) from rfl) rfl wL_X11_286 vX10_begin rfl npX10_begin (by decide) (by decide) (Nat.le_of_ble_eq_true rfl) (by decide) (by decide) GK_E (fun v9 hc1 hq => ?_) (fun E h9 hq => by cases hq.1)
  have hqq2 := hq
  obtain ⟨e9q2, b1, b2, b3, b4, b5, b6, b7⟩ := hqq2
  obtain ⟨F1, X, P1⟩ := BG_ok (w := 84) (Or.inl rfl) ht c.2.2.1 hB c.2.2.2.2.2.2.2.2 b1 b2 b3 b4 b5 b6 b7
  rw [c.2.2.2.2.1] at P1
  cases e9q2
  show K mX11_years _ _ 2 12 27 [(0, vr 30), (1, vi s), (2, vi (n : Int)), (3, vi 1)] [] hc1
  refine K_aload_n (dt_at dtX11_years 14 rfl) rfl rfl ?_
  refine K_get (a := 30) (ci := 11) (k := 11) (v := vr 84) (dt_at dtX11_years 15 rfl) (by decide) rfl (by decide) wF_X11_69 rfl ?_
  refine K_iload_n (dt_at dtX11_years 16 rfl) rfl rfl ?_
  refine K_iload_n (dt_at dtX11_years 17 rfl) rfl rfl ?_
  refine K_callV (M' := mX10_passYears) (a := 84) (ci := 10) (As := [vi s, vi (n : Int)]) (st := []) (dt_at dtX11_years 18 rfl) (sX10_passYears c hn (by omega) F1 X P1) (show TT 84 = (0, 10) from rfl) rfl wL_X11_385 vX10_passYears rfl npX10_passYears (by decide) (by decide) (Nat.le_of_ble_eq_true rfl) (by decide) (by decide) GK_E (fun v9 hc3 hq => ?_) (fun E h9 hq => by cases hq.1)
  have hqq4 := hq
  obtain ⟨e9q4, y9⟩ := hqq4
  have F9 := (YW_at y9).1
  obtain ⟨hTn, hCn, hn0⟩ := yrN_ok (s := s) hB hT hC n (by omega) (by omega)
  have r9 : hA hc3 86 = (yrN S f s n).1 := (YW_at y9).2.2.1
  cases e9q4
  show K mX11_years _ _ 2 12 36 [(0, vr 30), (1, vi s), (2, vi (n : Int)), (3, vi 1)] [] hc3
  refine K_iload_n (dt_at dtX11_years 19 rfl) rfl rfl ?_
  refine K_lookup (off := 35) (tgt := 72) (dt_at dtX11_years 20 rfl) ⟨by decide, by decide⟩ (by decide) (by decide) (by decide) ?_
  refine K_aload_n (dt_at dtX11_years 25 rfl) rfl rfl ?_
  refine K_get (a := 30) (ci := 11) (k := 11) (v := vr 84) (dt_at dtX11_years 26 rfl) (by decide) rfl (by decide) wF_X11_69 rfl ?_
  refine K_get (a := 84) (ci := 10) (k := 0) (v := vr 85) (dt_at dtX11_years 27 rfl) (show TT 84 = (0, 10) from rfl) rfl (by decide) wF_X11_291 rfl ?_
  refine K_aload_n (dt_at dtX11_years 28 rfl) rfl rfl ?_
  refine K_get (a := 30) (ci := 11) (k := 2) (v := vr t) (dt_at dtX11_years 29 rfl) (by decide) rfl (by decide) wF_X11_20 (by show vr (hR hc3 30 2) = vr t; rw [(CQ_FS c F9).2.1]) ?_
  refine K_get (a := t) (ci := 3) (k := 11) (v := vi (sNp S : Int)) (dt_at dtX11_years 30 rfl) hH rfl (by decide) wF_X11_140 (by show vi (hI hc3 t 11) = vi (sNp S : Int); rw [(CQ_FS c F9).2.2.1.2.1.2]) ?_
  refine K_callV (M' := mX8_allFond) (a := 85) (ci := 8) (As := [vi (sNp S : Int)]) (st := []) (dt_at dtX11_years 31 rfl) (sX8_allFond (n := sNp S) (a := 85) (by decide) (by rw [show hA hc3 (85 + 1) = (yrN S f s n).1 from r9]; exact hTn.1) hNp) (show TT 85 = (0, 8) from rfl) rfl wL_X11_391 vX8_allFond rfl npX8_allFond (by decide) (by decide) (Nat.le_of_ble_eq_true rfl) (by decide) (by decide) GK_E (fun v9 h9 hq => ?_) (fun E h9 hq => by cases hq.1)
  obtain ⟨e9, e8⟩ := hq
  cases e9
  rw [e8]
  show K mX11_years _ _ 2 12 89 [(0, vr 30), (1, vi s), (2, vi (n : Int)), (3, vi 1)] [vi (itN (fun k v => v + (hA hc3 (85 + 1) (15 + (k : Int)))) 0 (sNp S))] hc3
  rw [show hA hc3 (85 + 1) = (yrN S f s n).1 from r9]
  exact K_iret (dt_at dtX11_years 32 rfl) rfl rfl (by decide) (by decide) ⟨rfl, F9⟩
set_option maxHeartbeats 4000000 in
set_option maxRecDepth 100000 in
theorem sX11_years_2 {h : HP} {t : Nat} {S : HS} {B : Int} {f : Int → Int} {s : Int} {n : Nat} (c : CQ h t S B f) (hn : n ≤ 100) (hB6 : B ≤ 900000) : SpecK mX11_years [vr 30, vi s, vi (n : Int), vi 2] h (fun o h' => o = .inl (some (vi (bitN (fun j => decide ((((yrN S f s n).1) (8 + (j : Int))) ≠ (j : Int))) (sNp S)))) ∧ FS h h') := by
  refine Spec_of (by decide +kernel) (Nat.le_of_ble_eq_true rfl) ?_
  have ht := c.1
  have hH := TTt ht
  have hB := c.2.2.2.1
  have hNt := hB.1
  have hNp := hB.2.1
  have hT := c.2.2.2.2.2.1
  have hC := c.2.2.2.2.2.2.1
  have h99 := c.2.2.2.2.2.2.2.1
  have G := c.2.2.2.2.2.2.2.2
  have hf0 := hT.2.2.2.1
  refine K_iload_n (dt_at dtX11_years 0 rfl) rfl rfl ?_
  refine K_iconst (dt_at dtX11_years 1 rfl) ?_
  refine K_callS (M' := mX11_needWhat) (As := [vi 2, vi 2]) (st := []) (dt_at dtX11_years 2 rfl) (sX11_needWhat (by first | assumption | exact ⟨by omega, by omega⟩) ⟨by decide, by decide⟩ (by omega)) wL_X11_133 vX11_needWhat rfl npX11_needWhat (by decide) (by decide) (Nat.le_of_ble_eq_true rfl) (by decide) (by decide) GK_E (fun v9 h9 hq => ?_) (fun E h9 hq => by cases hq.1)
  obtain ⟨e9, e8⟩ := hq
  cases e9
  rw [e8]
  show K mX11_years _ _ 1 6 5 [(0, vr 30), (1, vi s), (2, vi (n : Int)), (3, vi 2)] [] h
  refine K_iload_n (dt_at dtX11_years 3 rfl) rfl rfl ?_
  refine K_iconst (dt_at dtX11_years 4 rfl) ?_
  refine K_bipush (dt_at dtX11_years 5 rfl) (by decide) ?_
  refine K_callS (M' := mX11_needBetween) (As := [vi (n : Int), vi 0, vi 100]) (st := []) (dt_at dtX11_years 6 rfl) (sX11_needBetween (by first | assumption | exact ⟨by omega, by omega⟩) ⟨by decide, by decide⟩ ⟨by decide, by decide⟩ (by omega)) wL_X11_111 vX11_needBetween rfl npX11_needBetween (by decide) (by decide) (Nat.le_of_ble_eq_true rfl) (by decide) (by decide) GK_E (fun v9 h9 hq => ?_) (fun E h9 hq => by cases hq.1)
  obtain ⟨e9, e8⟩ := hq
  cases e9
  rw [e8]
  show K mX11_years _ _ 2 12 12 [(0, vr 30), (1, vi s), (2, vi (n : Int)), (3, vi 2)] [] h
  refine K_aload_n (dt_at dtX11_years 7 rfl) rfl rfl ?_
  refine K_get (a := 30) (ci := 11) (k := 11) (v := vr 84) (dt_at dtX11_years 8 rfl) (by decide) rfl (by decide) wF_X11_69 rfl ?_
  refine K_aload_n (dt_at dtX11_years 9 rfl) rfl rfl ?_
  refine K_get (a := 30) (ci := 11) (k := 2) (v := vr t) (dt_at dtX11_years 10 rfl) (by decide) rfl (by decide) wF_X11_20 (by show vr (hR h 30 2) = vr t; rw [c.2.1]) ?_
  refine K_aload_n (dt_at dtX11_years 11 rfl) rfl rfl ?_
  refine K_get (a := 30) (ci := 11) (k := 5) (v := vr 66) (dt_at dtX11_years 12 rfl) (by decide) rfl (by decide) wF_X11_39 rfl ?_
  refine K_callV (M' := mX10_begin) (a := 84) (ci := 10) (As := [vr t, vr 66]) (st := []) (dt_at dtX11_years 13 rfl) (sX10_begin (w := 84) (t := t) (a := 66) (Or.inl rfl) ht (by decide) (by decide)) (show TT 84 = (0, 10) from rfl) rfl wL_X11_286 vX10_begin rfl npX10_begin (by decide) (by decide) (Nat.le_of_ble_eq_true rfl) (by decide) (by decide) GK_E (fun v9 hc1 hq => ?_) (fun E h9 hq => by cases hq.1)
  have hqq2 := hq
  obtain ⟨e9q2, b1, b2, b3, b4, b5, b6, b7⟩ := hqq2
  obtain ⟨F1, X, P1⟩ := BG_ok (w := 84) (Or.inl rfl) ht c.2.2.1 hB c.2.2.2.2.2.2.2.2 b1 b2 b3 b4 b5 b6 b7
  rw [c.2.2.2.2.1] at P1
  cases e9q2
  show K mX11_years _ _ 2 12 27 [(0, vr 30), (1, vi s), (2, vi (n : Int)), (3, vi 2)] [] hc1
  refine K_aload_n (dt_at dtX11_years 14 rfl) rfl rfl ?_
  refine K_get (a := 30) (ci := 11) (k := 11) (v := vr 84) (dt_at dtX11_years 15 rfl) (by decide) rfl (by decide) wF_X11_69 rfl ?_
  refine K_iload_n (dt_at dtX11_years 16 rfl) rfl rfl ?_
  refine K_iload_n (dt_at dtX11_years 17 rfl) rfl rfl ?_
  refine K_callV (M' := mX10_passYears) (a := 84) (ci := 10) (As := [vi s, vi (n : Int)]) (st := []) (dt_at dtX11_years 18 rfl) (sX10_passYears c hn (by omega) F1 X P1) (show TT 84 = (0, 10) from rfl) rfl wL_X11_385 vX10_passYears rfl npX10_passYears (by decide) (by decide) (Nat.le_of_ble_eq_true rfl) (by decide) (by decide) GK_E (fun v9 hc3 hq => ?_) (fun E h9 hq => by cases hq.1)
  have hqq4 := hq
  obtain ⟨e9q4, y9⟩ := hqq4
  have F9 := (YW_at y9).1
  obtain ⟨hTn, hCn, hn0⟩ := yrN_ok (s := s) hB hT hC n (by omega) (by omega)
  have r9 : hA hc3 86 = (yrN S f s n).1 := (YW_at y9).2.2.1
  cases e9q4
  show K mX11_years _ _ 2 12 36 [(0, vr 30), (1, vi s), (2, vi (n : Int)), (3, vi 2)] [] hc3
  refine K_iload_n (dt_at dtX11_years 19 rfl) rfl rfl ?_
  refine K_lookup (off := 53) (tgt := 90) (dt_at dtX11_years 20 rfl) ⟨by decide, by decide⟩ (by decide) (by decide) (by decide) ?_
  refine K_aload_n (dt_at dtX11_years 33 rfl) rfl rfl ?_
  refine K_get (a := 30) (ci := 11) (k := 11) (v := vr 84) (dt_at dtX11_years 34 rfl) (by decide) rfl (by decide) wF_X11_69 rfl ?_
  refine K_get (a := 84) (ci := 10) (k := 0) (v := vr 85) (dt_at dtX11_years 35 rfl) (show TT 84 = (0, 10) from rfl) rfl (by decide) wF_X11_291 rfl ?_
  refine K_aload_n (dt_at dtX11_years 36 rfl) rfl rfl ?_
  refine K_get (a := 30) (ci := 11) (k := 2) (v := vr t) (dt_at dtX11_years 37 rfl) (by decide) rfl (by decide) wF_X11_20 (by show vr (hR hc3 30 2) = vr t; rw [(CQ_FS c F9).2.1]) ?_
  refine K_get (a := t) (ci := 3) (k := 11) (v := vi (sNp S : Int)) (dt_at dtX11_years 38 rfl) hH rfl (by decide) wF_X11_140 (by show vi (hI hc3 t 11) = vi (sNp S : Int); rw [(CQ_FS c F9).2.2.1.2.1.2]) ?_
  refine K_callV (M' := mX8_mixed) (a := 85) (ci := 8) (As := [vi (sNp S : Int)]) (st := []) (dt_at dtX11_years 39 rfl) (sX8_mixed (n := sNp S) (a := 85) (by decide) (by rw [show hA hc3 (85 + 1) = (yrN S f s n).1 from r9]; exact hTn.1) hNp) (show TT 85 = (0, 8) from rfl) rfl wL_X11_150 vX8_mixed rfl npX8_mixed (by decide) (by decide) (Nat.le_of_ble_eq_true rfl) (by decide) (by decide) GK_E (fun v9 h9 hq => ?_) (fun E h9 hq => by cases hq.1)
  obtain ⟨e9, e8⟩ := hq
  cases e9
  rw [e8]
  show K mX11_years _ _ 2 12 107 [(0, vr 30), (1, vi s), (2, vi (n : Int)), (3, vi 2)] [vi (bitN (fun j => decide ((hA hc3 (85 + 1) (8 + (j : Int))) ≠ (j : Int))) (sNp S))] hc3
  rw [show hA hc3 (85 + 1) = (yrN S f s n).1 from r9]
  exact K_iret (dt_at dtX11_years 40 rfl) rfl rfl (by decide) (by decide) ⟨rfl, F9⟩
