/-! things that balance: a way's figures of three -/
def p3 : Nat → Nat
  | 0 => 1
  | k + 1 => p3 k * 3
def rsN (y : Int) : Nat → Int
  | 0 => y
  | k + 1 => (rsN y k).tdiv 3
def sdN (y : Int) (k : Nat) : Int := (rsN y k).tmod 3
def hvN (w : Int → Int) (x y : Int) : Nat → Int
  | 0 => x
  | k + 1 => if sdN y k = 0 then hvN w x y k else if sdN y k = 1 then hvN w x y k + w (k : Int) else hvN w x y k + -(w (k : Int))
def usN (y : Int) : Nat → Int
  | 0 => 0
  | k + 1 => if sdN y k = 0 then usN y k else usN y k + 1
def tbF (w s : Int → Int) (x y : Int) : Nat → Nat → Int
  | 0, k => if hvN w x y k = 0 then usN y k else -1
  | d + 1, k => if sdN y k = 0 ∨ 1 ≤ s (29 + (k : Int)) then tbF w s x y d (k + 1) else -1
theorem rsN_b {y : Int} (h0 : 0 ≤ y) (h1 : y < 729) : ∀ k, 0 ≤ rsN y k ∧ rsN y k < 729
  | 0 => ⟨h0, h1⟩
  | k + 1 => by
    obtain ⟨a, b⟩ := rsN_b h0 h1 k
    show 0 ≤ (rsN y k).tdiv 3 ∧ (rsN y k).tdiv 3 < 729
    rw [Int.tdiv_eq_ediv_of_nonneg a]
    omega
theorem sdN_b {y : Int} (h0 : 0 ≤ y) (h1 : y < 729) (k : Nat) : 0 ≤ sdN y k ∧ sdN y k < 3 := by
  obtain ⟨a, b⟩ := rsN_b h0 h1 k
  unfold sdN
  rw [Int.tmod_eq_emod_of_nonneg a]
  omega
theorem usN_b (y : Int) : ∀ k : Nat, 0 ≤ usN y k ∧ usN y k ≤ k
  | 0 => ⟨Int.le_refl 0, Int.le_refl 0⟩
  | k + 1 => by
    obtain ⟨a, b⟩ := usN_b y k
    show 0 ≤ (if sdN y k = 0 then usN y k else usN y k + 1) ∧ (if sdN y k = 0 then usN y k else usN y k + 1) ≤ ((k + 1 : Nat) : Int)
    by_cases e : sdN y k = 0
    · rw [if_pos e]; omega
    · rw [if_neg e]; omega
theorem hvN_b {w : Int → Int} {x y : Int} {n : Nat} (hx : 1 ≤ x ∧ x ≤ 99) (hw : ∀ i : Int, 0 ≤ i → i < n → 1 ≤ w i ∧ w i ≤ 20) : ∀ k : Nat, k ≤ n → -(20 * (k : Int)) ≤ hvN w x y k ∧ hvN w x y k ≤ 99 + 20 * (k : Int)
  | 0, _ => by show -(20 * ((0 : Nat) : Int)) ≤ x ∧ x ≤ 99 + 20 * ((0 : Nat) : Int); omega
  | k + 1, hk => by
    obtain ⟨a, b⟩ := hvN_b (y := y) hx hw k (by omega)
    have q := hw (k : Int) (by omega) (by omega)
    show _ ≤ (if sdN y k = 0 then _ else if sdN y k = 1 then _ else _) ∧ (if sdN y k = 0 then _ else if sdN y k = 1 then _ else _) ≤ _
    by_cases e : sdN y k = 0
    · rw [if_pos e]; omega
    · rw [if_neg e]
      by_cases e2 : sdN y k = 1
      · rw [if_pos e2]; omega
      · rw [if_neg e2]; omega
theorem tbF_b (w s : Int → Int) (x y : Int) : ∀ (d k : Nat), -1 ≤ tbF w s x y d k ∧ tbF w s x y d k ≤ ((k + d : Nat) : Int)
  | 0, k => by
    have := usN_b y k
    show -1 ≤ (if hvN w x y k = 0 then usN y k else -1) ∧ (if hvN w x y k = 0 then usN y k else -1) ≤ ((k + 0 : Nat) : Int)
    by_cases e : hvN w x y k = 0
    · rw [if_pos e]; omega
    · rw [if_neg e]; omega
  | d + 1, k => by
    have := tbF_b w s x y d (k + 1)
    show -1 ≤ (if sdN y k = 0 ∨ 1 ≤ s (29 + (k : Int)) then tbF w s x y d (k + 1) else -1) ∧ (if sdN y k = 0 ∨ 1 ≤ s (29 + (k : Int)) then tbF w s x y d (k + 1) else -1) ≤ _
    by_cases e : sdN y k = 0 ∨ 1 ≤ s (29 + (k : Int))
    · rw [if_pos e]; omega
    · rw [if_neg e]; omega
/-- the fewest so far -/
def fwN (u : Nat → Int) : Nat → Int
  | 0 => -1
  | k + 1 => if u k ≠ -1 ∧ (fwN u k = -1 ∨ u k < fwN u k) then u k else fwN u k
theorem fwN_t {u : Nat → Int} {k : Nat} (h : u k ≠ -1 ∧ (fwN u k = -1 ∨ u k < fwN u k)) : fwN u (k + 1) = u k := if_pos h
theorem fwN_f {u : Nat → Int} {k : Nat} (h : ¬ (u k ≠ -1 ∧ (fwN u k = -1 ∨ u k < fwN u k))) : fwN u (k + 1) = fwN u k := if_neg h
theorem fwN_b {u : Nat → Int} {M : Int} (hM : -1 ≤ M) (hu : ∀ k, -1 ≤ u k ∧ u k ≤ M) : ∀ k, -1 ≤ fwN u k ∧ fwN u k ≤ M
  | 0 => ⟨Int.le_refl _, hM⟩
  | k + 1 => by
    have a := fwN_b hM hu k
    have b := hu k
    by_cases e : u k ≠ -1 ∧ (fwN u k = -1 ∨ u k < fwN u k)
    · rw [fwN_t e]; exact b
    · rw [fwN_f e]; exact a
theorem p3_b : ∀ k : Nat, k ≤ 6 → 1 ≤ p3 k ∧ p3 k ≤ 729 := by decide
def mX4_thingsThatBalance : MI := (yX4_thingsThatBalance, cX4_thingsThatBalance, 9, (some .int), rmK 2 0)
def tX4_thingsThatBalance : List (Nat × Instr × Nat) := [(0, .iload_n 3, 1), (1, .istore 4, 2), (3, .iload_n 2, 1), (4, .istore 5, 2), (6, .iconst 0, 1), (7, .istore 6, 2), (9, .iconst 0, 1), (10, .istore 7, 2), (12, .iload 7, 2), (14, .aload_n 0, 1), (15, .getfield 24, 3), (18, .if_icmp .ge 70, 3), (21, .iload 4, 2), (23, .iconst 3, 1), (24, .irem, 1), (25, .istore 8, 2), (27, .iload 4, 2), (29, .iconst 3, 1), (30, .idiv, 1), (31, .istore 4, 2), (33, .iload 8, 2), (35, .ifCond .eq 47, 3), (38, .aload_n 1, 1), (39, .iload 7, 2), (41, .invokevirtual 50, 3), (44, .iconst 1, 1), (45, .if_icmp .ge 5, 3), (48, .iconst (-1), 1), (49, .ireturn, 1), (50, .iload 5, 2), (52, .iload 8, 2), (54, .iconst 1, 1), (55, .if_icmp .ne 13, 3), (58, .aload_n 0, 1), (59, .getfield 46, 3), (62, .iload 7, 2), (64, .iaload, 1), (65, .goto 11, 3), (68, .aload_n 0, 1), (69, .getfield 46, 3), (72, .iload 7, 2), (74, .iaload, 1), (75, .ineg, 1), (76, .iadd, 1), (77, .istore 5, 2), (79, .iinc 6 1, 3), (82, .iinc 7 1, 3), (85, .goto (-73), 3), (88, .iload 5, 2), (90, .ifCond .ne 8, 3), (93, .iload 6, 2), (95, .goto 4, 3), (98, .iconst (-1), 1), (99, .ireturn, 1)]
theorem dtX4_thingsThatBalance : tX4_thingsThatBalance.all (fun q => decide (decode cX4_thingsThatBalance q.1 = .ok (q.2.1, q.2.2))) = true := by decide +kernel
theorem npX4_thingsThatBalance : (parseMethodDescriptor (mY mX4_thingsThatBalance).desc).map (fun d => d.parameters.length) = some 4 := by decide +kernel
theorem vX4_thingsThatBalance : mS mX4_thingsThatBalance := ⟨wT_X4_thingsThatBalance, wN_X4, wC_X4_thingsThatBalance, by decide +kernel, by decide +kernel⟩
set_option maxHeartbeats 4000000 in
set_option maxRecDepth 100000 in
theorem lp_X4_thingsThatBalance {Q : AO → HP → Prop} {h : HP} {t : Nat} {S : HS} {B : Int} {f : Int → Int} {x y : Int} (c : CQ h t S B f) (hx : 1 ≤ x ∧ x ≤ 99) (hy : 0 ≤ y ∧ y < 729) : ∀ (d k : Nat), k + d = sNt S → Q (.inl (some (vi (tbF (sW S) f x y d k)))) h → K mX4_thingsThatBalance GK (ZK Q 0 0) 0 0 12 [(7, vi (k : Int)), (4, vi (rsN y k)), (5, vi (hvN (sW S) x y k)), (6, vi (usN y k)), (0, vr t), (1, vr 66), (2, vi x), (3, vi y)] [] h := by
  intro d
  induction d with
  | zero =>
    intro k hk hq
    have ht := c.1
    have hH := TTt ht
    have hB := c.2.2.2.1
    have hNt := hB.1
    have hNp := hB.2.1
    have hT := c.2.2.2.2.2.1
    have hC := c.2.2.2.2.2.2.1
    have h99 := c.2.2.2.2.2.2.2.1
    have G := c.2.2.2.2.2.2.2.2
    have hf0 := hT.2.2.2.1
    have w1 := rsN_b hy.1 hy.2 k
    have w2 := sdN_b hy.1 hy.2 k
    have w5 := usN_b y k
    have w3 := hvN_b (y := y) (n := sNt S) hx (fun i a b => (hB.2.2.1 i a b).1) k (by omega)
    refine K_iload (dt_at dtX4_thingsThatBalance 8 rfl) rfl ?_
    refine K_aload_n (dt_at dtX4_thingsThatBalance 9 rfl) rfl rfl ?_
    refine K_get (a := t) (ci := 3) (k := 10) (v := vi (sNt S : Int)) (dt_at dtX4_thingsThatBalance 10 rfl) hH rfl (by decide) wF_X4_24 (by show vi (hI h t 10) = vi (sNt S : Int); rw [c.2.2.1.2.1.1]) ?_
    refine K_icmp_ge (tgt := 88) (dt_at dtX4_thingsThatBalance 11 rfl) (by decide) (by first | assumption | exact ⟨by omega, by omega⟩) (by first | assumption | exact ⟨by omega, by omega⟩) (fun c1 => ?_) (fun c1 => absurd c1 (by omega))
    refine K_iload (dt_at dtX4_thingsThatBalance 48 rfl) rfl ?_
    refine K_if_ne (tgt := 98) (dt_at dtX4_thingsThatBalance 49 rfl) (by decide) (by first | assumption | exact ⟨by omega, by omega⟩) (fun c2 => ?_) (fun c2 => ?_)
    · refine K_iconst (dt_at dtX4_thingsThatBalance 52 rfl) ?_
      exact K_iret (dt_at dtX4_thingsThatBalance 53 rfl) rfl rfl (by decide) (by decide) (by have h9 := hq; rw [show (tbF (sW S) f x y 0 k) = -1 from if_neg (by assumption)] at h9; exact h9)
    · refine K_iload (dt_at dtX4_thingsThatBalance 50 rfl) rfl ?_
      refine K_goto (tgt := 99) (dt_at dtX4_thingsThatBalance 51 rfl) (by decide) ?_
      exact K_iret (dt_at dtX4_thingsThatBalance 53 rfl) rfl rfl (by decide) (by decide) (by have h9 := hq; rw [show (tbF (sW S) f x y 0 k) = (usN y k) from if_pos (by assumption)] at h9; exact h9)
  | succ d ih =>
    intro k hk hq
    have ht := c.1
    have hH := TTt ht
    have hB := c.2.2.2.1
    have hNt := hB.1
    have hNp := hB.2.1
    have hT := c.2.2.2.2.2.1
    have hC := c.2.2.2.2.2.2.1
    have h99 := c.2.2.2.2.2.2.2.1
    have G := c.2.2.2.2.2.2.2.2
    have hf0 := hT.2.2.2.1
    have w1 := rsN_b hy.1 hy.2 k
    have w2 := sdN_b hy.1 hy.2 k
    have w5 := usN_b y k
    have w3 := hvN_b (y := y) (n := sNt S) hx (fun i a b => (hB.2.2.1 i a b).1) k (by omega)
    have w4 := (hB.2.2.1 (k : Int) (by omega) (by omega)).1
    have w6 := hT.1.1 (29 + (k : Int)) (by omega) (by omega)
    have esd : (rsN y k).tmod 3 = sdN y k := rfl
    refine K_iload (dt_at dtX4_thingsThatBalance 8 rfl) rfl ?_
    refine K_aload_n (dt_at dtX4_thingsThatBalance 9 rfl) rfl rfl ?_
    refine K_get (a := t) (ci := 3) (k := 10) (v := vi (sNt S : Int)) (dt_at dtX4_thingsThatBalance 10 rfl) hH rfl (by decide) wF_X4_24 (by show vi (hI h t 10) = vi (sNt S : Int); rw [c.2.2.1.2.1.1]) ?_
    refine K_icmp_ge (tgt := 88) (dt_at dtX4_thingsThatBalance 11 rfl) (by decide) (by first | assumption | exact ⟨by omega, by omega⟩) (by first | assumption | exact ⟨by omega, by omega⟩) (fun c1 => absurd c1 (by omega)) (fun c1 => ?_)
    refine K_iload (dt_at dtX4_thingsThatBalance 12 rfl) rfl ?_
    refine K_iconst (dt_at dtX4_thingsThatBalance 13 rfl) ?_
    refine K_irem (dt_at dtX4_thingsThatBalance 14 rfl) (by first | assumption | exact ⟨by omega, by omega⟩) (by first | assumption | exact ⟨by omega, by omega⟩) (by omega) ?_
    rw [esd]
    refine K_istore (ls' := [(8, vi (sdN y k)), (7, vi (k : Int)), (4, vi (rsN y k)), (5, vi (hvN (sW S) x y k)), (6, vi (usN y k)), (0, vr t), (1, vr 66), (2, vi x), (3, vi y)]) (dt_at dtX4_thingsThatBalance 15 rfl) (by decide) rfl ?_
    refine K_iload (dt_at dtX4_thingsThatBalance 16 rfl) rfl ?_
    refine K_iconst (dt_at dtX4_thingsThatBalance 17 rfl) ?_
    refine K_idiv (dt_at dtX4_thingsThatBalance 18 rfl) (by first | assumption | exact ⟨by omega, by omega⟩) (by first | assumption | exact ⟨by omega, by omega⟩) (by omega) ?_
    refine K_istore (ls' := [(4, vi ((rsN y k).tdiv 3)), (8, vi (sdN y k)), (7, vi (k : Int)), (5, vi (hvN (sW S) x y k)), (6, vi (usN y k)), (0, vr t), (1, vr 66), (2, vi x), (3, vi y)]) (dt_at dtX4_thingsThatBalance 19 rfl) (by decide) rfl ?_
    refine K_iload (dt_at dtX4_thingsThatBalance 20 rfl) rfl ?_
    refine K_if_eq (tgt := 82) (dt_at dtX4_thingsThatBalance 21 rfl) (by decide) (by first | assumption | exact ⟨by omega, by omega⟩) (fun c2 => ?_) (fun c2 => ?_)
    · refine K_iinc (ls' := [(7, vi ((k : Int) + 1)), (4, vi ((rsN y k).tdiv 3)), (8, vi (sdN y k)), (5, vi (hvN (sW S) x y k)), (6, vi (usN y k)), (0, vr t), (1, vr 66), (2, vi x), (3, vi y)]) (dt_at dtX4_thingsThatBalance 46 rfl) rfl (by decide) rfl ?_
      refine K_goto (tgt := 12) (dt_at dtX4_thingsThatBalance 47 rfl) (by decide) ?_
      refine K_pk [0, 1, 3, 4, 5, 6, 7, 8] (ls' := [(7, vi ((k : Int) + 1)), (4, vi ((rsN y k).tdiv 3)), (5, vi (hvN (sW S) x y k)), (6, vi (usN y k)), (0, vr t), (1, vr 66), (2, vi x), (3, vi y)]) rfl ?_
      exact K_cg (ls' := [(7, vi ((k + 1 : Nat) : Int)), (4, vi (rsN y (k + 1))), (5, vi (hvN (sW S) x y (k + 1))), (6, vi (usN y (k + 1))), (0, vr t), (1, vr 66), (2, vi x), (3, vi y)]) (h' := h) (by rw [show (hvN (sW S) x y (k + 1)) = (hvN (sW S) x y k) from if_pos (by assumption), show (usN y (k + 1)) = (usN y k) from if_pos (by assumption)]; rfl) rfl (ih (k + 1) (by omega) (by have h9 := hq; rw [show (tbF (sW S) f x y (d + 1) k) = (tbF (sW S) f x y d (k + 1)) from if_pos (Or.inl (by assumption))] at h9; exact h9))
    · refine K_aload_n (dt_at dtX4_thingsThatBalance 22 rfl) rfl rfl ?_
      refine K_iload (dt_at dtX4_thingsThatBalance 23 rfl) rfl ?_
      refine K_callV (M' := mX8_stock) (a := 66) (ci := 8) (As := [vi (k : Int)]) (st := []) (dt_at dtX4_thingsThatBalance 24 rfl) (sX8_stock (a := 66) (by decide) ⟨by omega, by omega⟩) (show TT 66 = (0, 8) from rfl) rfl wL_X4_50 vX8_stock rfl npX8_stock (by decide) (by decide) (Nat.le_of_ble_eq_true rfl) (by decide) (by decide) GK_E (fun v9 h9 hq => ?_) (fun E h9 hq => by cases hq.1)
      obtain ⟨e9, e8⟩ := hq
      cases e9
      rw [e8]
      show K mX4_thingsThatBalance _ _ 0 0 44 [(4, vi ((rsN y k).tdiv 3)), (8, vi (sdN y k)), (7, vi (k : Int)), (5, vi (hvN (sW S) x y k)), (6, vi (usN y k)), (0, vr t), (1, vr 66), (2, vi x), (3, vi y)] [vi (hA h (66 + 1) (29 + (k : Int)))] h
      rw [show hA h (66 + 1) = f from c.2.2.2.2.1]
      refine K_iconst (dt_at dtX4_thingsThatBalance 25 rfl) ?_
      refine K_icmp_ge (tgt := 50) (dt_at dtX4_thingsThatBalance 26 rfl) (by decide) (by first | assumption | exact ⟨by omega, by omega⟩) (by first | assumption | exact ⟨by omega, by omega⟩) (fun c3 => ?_) (fun c3 => ?_)
      · refine K_iload (dt_at dtX4_thingsThatBalance 29 rfl) rfl ?_
        refine K_iload (dt_at dtX4_thingsThatBalance 30 rfl) rfl ?_
        refine K_iconst (dt_at dtX4_thingsThatBalance 31 rfl) ?_
        refine K_icmp_ne (tgt := 68) (dt_at dtX4_thingsThatBalance 32 rfl) (by decide) (by first | assumption | exact ⟨by omega, by omega⟩) (by first | assumption | exact ⟨by omega, by omega⟩) (fun c4 => ?_) (fun c4 => ?_)
        · refine K_aload_n (dt_at dtX4_thingsThatBalance 38 rfl) rfl rfl ?_
          refine K_get (a := t) (ci := 3) (k := 0) (v := vr (t + 1)) (dt_at dtX4_thingsThatBalance 39 rfl) hH rfl (by decide) wF_X4_46 rfl ?_
          refine K_iload (dt_at dtX4_thingsThatBalance 40 rfl) rfl ?_
          refine K_iald (dt_at dtX4_thingsThatBalance 41 rfl) (lay_3_0 hH) (by omega) (by omega) ?_
          rw [c.2.2.1.1.1]
          refine K_ineg (dt_at dtX4_thingsThatBalance 42 rfl) ?_
          refine K_iadd (dt_at dtX4_thingsThatBalance 43 rfl) ?_
          refine K_istore (ls' := [(5, vi ((hvN (sW S) x y k) + (-((sW S) (k : Int))))), (4, vi ((rsN y k).tdiv 3)), (8, vi (sdN y k)), (7, vi (k : Int)), (6, vi (usN y k)), (0, vr t), (1, vr 66), (2, vi x), (3, vi y)]) (dt_at dtX4_thingsThatBalance 44 rfl) (by decide) rfl ?_
          refine K_iinc (ls' := [(6, vi ((usN y k) + 1)), (5, vi ((hvN (sW S) x y k) + (-((sW S) (k : Int))))), (4, vi ((rsN y k).tdiv 3)), (8, vi (sdN y k)), (7, vi (k : Int)), (0, vr t), (1, vr 66), (2, vi x), (3, vi y)]) (dt_at dtX4_thingsThatBalance 45 rfl) rfl (by decide) rfl ?_
          refine K_iinc (ls' := [(7, vi ((k : Int) + 1)), (6, vi ((usN y k) + 1)), (5, vi ((hvN (sW S) x y k) + (-((sW S) (k : Int))))), (4, vi ((rsN y k).tdiv 3)), (8, vi (sdN y k)), (0, vr t), (1, vr 66), (2, vi x), (3, vi y)]) (dt_at dtX4_thingsThatBalance 46 rfl) rfl (by decide) rfl ?_
          refine K_goto (tgt := 12) (dt_at dtX4_thingsThatBalance 47 rfl) (by decide) ?_
          refine K_pk [0, 3, 2, 1, 5, 6, 7, 8] (ls' := [(7, vi ((k : Int) + 1)), (4, vi ((rsN y k).tdiv 3)), (5, vi ((hvN (sW S) x y k) + (-((sW S) (k : Int))))), (6, vi ((usN y k) + 1)), (0, vr t), (1, vr 66), (2, vi x), (3, vi y)]) rfl ?_
          exact K_cg (ls' := [(7, vi ((k + 1 : Nat) : Int)), (4, vi (rsN y (k + 1))), (5, vi (hvN (sW S) x y (k + 1))), (6, vi (usN y (k + 1))), (0, vr t), (1, vr 66), (2, vi x), (3, vi y)]) (h' := h) (by rw [show (hvN (sW S) x y (k + 1)) = ((hvN (sW S) x y k) + (-((sW S) (k : Int)))) from (if_neg (by assumption)).trans (if_neg (by assumption)), show (usN y (k + 1)) = (usN y k) + 1 from if_neg (by assumption)]; rfl) rfl (ih (k + 1) (by omega) (by have h9 := hq; rw [show (tbF (sW S) f x y (d + 1) k) = (tbF (sW S) f x y d (k + 1)) from if_pos (Or.inr (by omega))] at h9; exact h9))
        · refine K_aload_n (dt_at dtX4_thingsThatBalance 33 rfl) rfl rfl ?_
          refine K_get (a := t) (ci := 3) (k := 0) (v := vr (t + 1)) (dt_at dtX4_thingsThatBalance 34 rfl) hH rfl (by decide) wF_X4_46 rfl ?_
          refine K_iload (dt_at dtX4_thingsThatBalance 35 rfl) rfl ?_
          refine K_iald (dt_at dtX4_thingsThatBalance 36 rfl) (lay_3_0 hH) (by omega) (by omega) ?_
          rw [c.2.2.1.1.1]
          refine K_goto (tgt := 76) (dt_at dtX4_thingsThatBalance 37 rfl) (by decide) ?_
          refine K_iadd (dt_at dtX4_thingsThatBalance 43 rfl) ?_
          refine K_istore (ls' := [(5, vi ((hvN (sW S) x y k) + ((sW S) (k : Int)))), (4, vi ((rsN y k).tdiv 3)), (8, vi (sdN y k)), (7, vi (k : Int)), (6, vi (usN y k)), (0, vr t), (1, vr 66), (2, vi x), (3, vi y)]) (dt_at dtX4_thingsThatBalance 44 rfl) (by decide) rfl ?_
          refine K_iinc (ls' := [(6, vi ((usN y k) + 1)), (5, vi ((hvN (sW S) x y k) + ((sW S) (k : Int)))), (4, vi ((rsN y k).tdiv 3)), (8, vi (sdN y k)), (7, vi (k : Int)), (0, vr t), (1, vr 66), (2, vi x), (3, vi y)]) (dt_at dtX4_thingsThatBalance 45 rfl) rfl (by decide) rfl ?_
          refine K_iinc (ls' := [(7, vi ((k : Int) + 1)), (6, vi ((usN y k) + 1)), (5, vi ((hvN (sW S) x y k) + ((sW S) (k : Int)))), (4, vi ((rsN y k).tdiv 3)), (8, vi (sdN y k)), (0, vr t), (1, vr 66), (2, vi x), (3, vi y)]) (dt_at dtX4_thingsThatBalance 46 rfl) rfl (by decide) rfl ?_
          refine K_goto (tgt := 12) (dt_at dtX4_thingsThatBalance 47 rfl) (by decide) ?_
          refine K_pk [0, 3, 2, 1, 5, 6, 7, 8] (ls' := [(7, vi ((k : Int) + 1)), (4, vi ((rsN y k).tdiv 3)), (5, vi ((hvN (sW S) x y k) + ((sW S) (k : Int)))), (6, vi ((usN y k) + 1)), (0, vr t), (1, vr 66), (2, vi x), (3, vi y)]) rfl ?_
          exact K_cg (ls' := [(7, vi ((k + 1 : Nat) : Int)), (4, vi (rsN y (k + 1))), (5, vi (hvN (sW S) x y (k + 1))), (6, vi (usN y (k + 1))), (0, vr t), (1, vr 66), (2, vi x), (3, vi y)]) (h' := h) (by rw [show (hvN (sW S) x y (k + 1)) = ((hvN (sW S) x y k) + ((sW S) (k : Int))) from (if_neg (by assumption)).trans (if_pos (by assumption)), show (usN y (k + 1)) = (usN y k) + 1 from if_neg (by assumption)]; rfl) rfl (ih (k + 1) (by omega) (by have h9 := hq; rw [show (tbF (sW S) f x y (d + 1) k) = (tbF (sW S) f x y d (k + 1)) from if_pos (Or.inr (by omega))] at h9; exact h9))
      · refine K_iconst (dt_at dtX4_thingsThatBalance 27 rfl) ?_
        exact K_iret (dt_at dtX4_thingsThatBalance 28 rfl) rfl rfl (by decide) (by decide) (by have h9 := hq; rw [show (tbF (sW S) f x y (d + 1) k) = -1 from if_neg (by omega)] at h9; exact h9)
set_option maxHeartbeats 4000000 in
set_option maxRecDepth 100000 in
theorem sX4_thingsThatBalance {h : HP} {t : Nat} {S : HS} {B : Int} {f : Int → Int} {x y : Int} (c : CQ h t S B f) (hx : 1 ≤ x ∧ x ≤ 99) (hy : 0 ≤ y ∧ y < 729) : SpecK mX4_thingsThatBalance [vr t, vr 66, vi x, vi y] h (fun o h' => o = .inl (some (vi (tbF (sW S) f x y (sNt S) 0))) ∧ h' = h) := by
  refine Spec_of (by decide +kernel) (Nat.le_of_ble_eq_true rfl) ?_
  have ht := c.1
  have hH := TTt ht
  have hB := c.2.2.2.1
  have hNt := hB.1
  have hNp := hB.2.1
  have hT := c.2.2.2.2.2.1
  have hC := c.2.2.2.2.2.2.1
  have h99 := c.2.2.2.2.2.2.2.1
  have G := c.2.2.2.2.2.2.2.2
  have hf0 := hT.2.2.2.1
  refine K_iload_n (dt_at dtX4_thingsThatBalance 0 rfl) rfl rfl ?_
  refine K_istore (ls' := [(4, vi y), (0, vr t), (1, vr 66), (2, vi x), (3, vi y)]) (dt_at dtX4_thingsThatBalance 1 rfl) (by decide) rfl ?_
  refine K_iload_n (dt_at dtX4_thingsThatBalance 2 rfl) rfl rfl ?_
  refine K_istore (ls' := [(5, vi x), (4, vi y), (0, vr t), (1, vr 66), (2, vi x), (3, vi y)]) (dt_at dtX4_thingsThatBalance 3 rfl) (by decide) rfl ?_
  refine K_iconst (dt_at dtX4_thingsThatBalance 4 rfl) ?_
  refine K_istore (ls' := [(6, vi 0), (5, vi x), (4, vi y), (0, vr t), (1, vr 66), (2, vi x), (3, vi y)]) (dt_at dtX4_thingsThatBalance 5 rfl) (by decide) rfl ?_
  refine K_iconst (dt_at dtX4_thingsThatBalance 6 rfl) ?_
  refine K_istore (ls' := [(7, vi 0), (6, vi 0), (5, vi x), (4, vi y), (0, vr t), (1, vr 66), (2, vi x), (3, vi y)]) (dt_at dtX4_thingsThatBalance 7 rfl) (by decide) rfl ?_
  exact K_pk [0, 3, 2, 1, 4, 5, 6, 7] rfl (lp_X4_thingsThatBalance c hx hy (sNt S) 0 (by omega) ⟨rfl, rfl⟩)
def mX4_fewestToBalance : MI := (yX4_fewestToBalance, cX4_fewestToBalance, 8, (some .int), rmK 3 0)
def tX4_fewestToBalance : List (Nat × Instr × Nat) := [(0, .iconst 1, 1), (1, .istore 4, 2), (3, .iconst 0, 1), (4, .istore 5, 2), (6, .iload 5, 2), (8, .aload_n 1, 1), (9, .getfield 24, 3), (12, .if_icmp .ge 15, 3), (15, .iload 4, 2), (17, .iconst 3, 1), (18, .imul, 1), (19, .istore 4, 2), (21, .iinc 5 1, 3), (24, .goto (-18), 3), (27, .iconst (-1), 1), (28, .istore 5, 2), (30, .iconst 0, 1), (31, .istore 6, 2), (33, .iload 6, 2), (35, .iload 4, 2), (37, .if_icmp .ge 42, 3), (40, .aload_n 1, 1), (41, .aload_n 2, 1), (42, .iload_n 3, 1), (43, .iload 6, 2), (45, .invokestatic 65, 3), (48, .istore 7, 2), (50, .iload 7, 2), (52, .iconst (-1), 1), (53, .if_icmp .eq 20, 3), (56, .iload 5, 2), (58, .iconst (-1), 1), (59, .if_icmp .eq 10, 3), (62, .iload 7, 2), (64, .iload 5, 2), (66, .if_icmp .ge 7, 3), (69, .iload 7, 2), (71, .istore 5, 2), (73, .iinc 6 1, 3), (76, .goto (-43), 3), (79, .iload 5, 2), (81, .ireturn, 1)]
theorem dtX4_fewestToBalance : tX4_fewestToBalance.all (fun q => decide (decode cX4_fewestToBalance q.1 = .ok (q.2.1, q.2.2))) = true := by decide +kernel
theorem npX4_fewestToBalance : (parseMethodDescriptor (mY mX4_fewestToBalance).desc).map (fun d => d.parameters.length) = some 3 := by decide +kernel
theorem vX4_fewestToBalance : mV mX4_fewestToBalance := ⟨wI_X4_fewestToBalance, wS_X4_fewestToBalance, wN_X4, wC_X4_fewestToBalance, by decide +kernel, by decide +kernel⟩
set_option maxHeartbeats 4000000 in
set_option maxRecDepth 100000 in
theorem la_X4_fewestToBalance {Z : CT → State → Prop} {h : HP} {t : Nat} {S : HS} {B : Int} {f : Int → Int} {x : Int} (c : CQ h t S B f) (hx : 1 ≤ x ∧ x ≤ 99) (kx : K mX4_fewestToBalance GK Z 0 0 27 [(4, vi (p3 (sNt S) : Int)), (0, vr 91), (1, vr t), (2, vr 66), (3, vi x)] [] h) : ∀ (d k : Nat), k + d = sNt S → K mX4_fewestToBalance GK Z 0 0 6 [(5, vi (k : Int)), (4, vi (p3 k : Int)), (0, vr 91), (1, vr t), (2, vr 66), (3, vi x)] [] h := by
  intro d
  induction d with
  | zero =>
    intro k hk
    have ht := c.1
    have hH := TTt ht
    have hB := c.2.2.2.1
    have hNt := hB.1
    have hNp := hB.2.1
    have hT := c.2.2.2.2.2.1
    have hC := c.2.2.2.2.2.2.1
    have h99 := c.2.2.2.2.2.2.2.1
    have G := c.2.2.2.2.2.2.2.2
    have hf0 := hT.2.2.2.1
    have ek : k = sNt S := by omega
    subst ek
    refine K_iload (dt_at dtX4_fewestToBalance 4 rfl) rfl ?_
    refine K_aload_n (dt_at dtX4_fewestToBalance 5 rfl) rfl rfl ?_
    refine K_get (a := t) (ci := 3) (k := 10) (v := vi (sNt S : Int)) (dt_at dtX4_fewestToBalance 6 rfl) hH rfl (by decide) wF_X4_24 (by show vi (hI h t 10) = vi (sNt S : Int); rw [c.2.2.1.2.1.1]) ?_
    refine K_icmp_ge (tgt := 27) (dt_at dtX4_fewestToBalance 7 rfl) (by decide) (by first | assumption | exact ⟨by omega, by omega⟩) (by first | assumption | exact ⟨by omega, by omega⟩) (fun c1 => ?_) (fun c1 => absurd c1 (by omega))
    exact K_pk [1, 2, 3, 4, 5] rfl kx
  | succ d ih =>
    intro k hk
    have ht := c.1
    have hH := TTt ht
    have hB := c.2.2.2.1
    have hNt := hB.1
    have hNp := hB.2.1
    have hT := c.2.2.2.2.2.1
    have hC := c.2.2.2.2.2.2.1
    have h99 := c.2.2.2.2.2.2.2.1
    have G := c.2.2.2.2.2.2.2.2
    have hf0 := hT.2.2.2.1
    refine K_iload (dt_at dtX4_fewestToBalance 4 rfl) rfl ?_
    refine K_aload_n (dt_at dtX4_fewestToBalance 5 rfl) rfl rfl ?_
    refine K_get (a := t) (ci := 3) (k := 10) (v := vi (sNt S : Int)) (dt_at dtX4_fewestToBalance 6 rfl) hH rfl (by decide) wF_X4_24 (by show vi (hI h t 10) = vi (sNt S : Int); rw [c.2.2.1.2.1.1]) ?_
    refine K_icmp_ge (tgt := 27) (dt_at dtX4_fewestToBalance 7 rfl) (by decide) (by first | assumption | exact ⟨by omega, by omega⟩) (by first | assumption | exact ⟨by omega, by omega⟩) (fun c1 => absurd c1 (by omega)) (fun c1 => ?_)
    refine K_iload (dt_at dtX4_fewestToBalance 8 rfl) rfl ?_
    refine K_iconst (dt_at dtX4_fewestToBalance 9 rfl) ?_
    refine K_imul (dt_at dtX4_fewestToBalance 10 rfl) ?_
    refine K_istore (ls' := [(4, vi ((p3 k : Int) * 3)), (5, vi (k : Int)), (0, vr 91), (1, vr t), (2, vr 66), (3, vi x)]) (dt_at dtX4_fewestToBalance 11 rfl) (by decide) rfl ?_
    refine K_iinc (ls' := [(5, vi ((k : Int) + 1)), (4, vi ((p3 k : Int) * 3)), (0, vr 91), (1, vr t), (2, vr 66), (3, vi x)]) (dt_at dtX4_fewestToBalance 12 rfl) rfl (by decide) rfl ?_
    refine K_goto (tgt := 6) (dt_at dtX4_fewestToBalance 13 rfl) (by decide) ?_
    exact K_pk [0, 1, 2, 3, 4, 5] rfl (K_cg (ls' := [(5, vi ((k + 1 : Nat) : Int)), (4, vi (p3 (k + 1) : Int)), (0, vr 91), (1, vr t), (2, vr 66), (3, vi x)]) (h' := h) rfl rfl (ih (k + 1) (by omega)))
set_option maxHeartbeats 4000000 in
set_option maxRecDepth 100000 in
theorem lb_X4_fewestToBalance {Z : CT → State → Prop} {h : HP} {t : Nat} {S : HS} {B : Int} {f : Int → Int} {x : Int} (c : CQ h t S B f) (hx : 1 ≤ x ∧ x ≤ 99) (kx : K mX4_fewestToBalance GK Z 0 0 79 [(6, vi (p3 (sNt S) : Int)), (5, vi (fwN (fun k => tbF (sW S) f x (k : Int) (sNt S) 0) (p3 (sNt S)))), (4, vi (p3 (sNt S) : Int)), (0, vr 91), (1, vr t), (2, vr 66), (3, vi x)] [] h) : ∀ (d k : Nat), k + d = p3 (sNt S) → K mX4_fewestToBalance GK Z 0 0 33 [(6, vi (k : Int)), (5, vi (fwN (fun k => tbF (sW S) f x (k : Int) (sNt S) 0) k)), (4, vi (p3 (sNt S) : Int)), (0, vr 91), (1, vr t), (2, vr 66), (3, vi x)] [] h := by
  intro d
  induction d with
  | zero =>
    intro k hk
    have ht := c.1
    have hH := TTt ht
    have hB := c.2.2.2.1
    have hNt := hB.1
    have hNp := hB.2.1
    have hT := c.2.2.2.2.2.1
    have hC := c.2.2.2.2.2.2.1
    have h99 := c.2.2.2.2.2.2.2.1
    have G := c.2.2.2.2.2.2.2.2
    have hf0 := hT.2.2.2.1
    have w1 := p3_b (sNt S) hNt
    have ek : k = p3 (sNt S) := by omega
    subst ek
    refine K_iload (dt_at dtX4_fewestToBalance 18 rfl) rfl ?_
    refine K_iload (dt_at dtX4_fewestToBalance 19 rfl) rfl ?_
    refine K_icmp_ge (tgt := 79) (dt_at dtX4_fewestToBalance 20 rfl) (by decide) (by first | assumption | exact ⟨by omega, by omega⟩) (by first | assumption | exact ⟨by omega, by omega⟩) (fun c1 => ?_) (fun c1 => absurd c1 (by omega))
    exact K_pk [0, 1, 2, 3, 4, 5, 6] rfl kx
  | succ d ih =>
    intro k hk
    have ht := c.1
    have hH := TTt ht
    have hB := c.2.2.2.1
    have hNt := hB.1
    have hNp := hB.2.1
    have hT := c.2.2.2.2.2.1
    have hC := c.2.2.2.2.2.2.1
    have h99 := c.2.2.2.2.2.2.2.1
    have G := c.2.2.2.2.2.2.2.2
    have hf0 := hT.2.2.2.1
    have w1 := p3_b (sNt S) hNt
    have w2 := tbF_b (sW S) f x (k : Int) (sNt S) 0
    have w3 := fwN_b (u := (fun k => tbF (sW S) f x (k : Int) (sNt S) 0)) (M := 6) (by omega) (fun j => by have := tbF_b (sW S) f x (j : Int) (sNt S) 0; show -1 ≤ tbF _ _ _ _ _ _ ∧ tbF _ _ _ _ _ _ ≤ 6; omega) k
    refine K_iload (dt_at dtX4_fewestToBalance 18 rfl) rfl ?_
    refine K_iload (dt_at dtX4_fewestToBalance 19 rfl) rfl ?_
    refine K_icmp_ge (tgt := 79) (dt_at dtX4_fewestToBalance 20 rfl) (by decide) (by first | assumption | exact ⟨by omega, by omega⟩) (by first | assumption | exact ⟨by omega, by omega⟩) (fun c1 => absurd c1 (by omega)) (fun c1 => ?_)
    refine K_aload_n (dt_at dtX4_fewestToBalance 21 rfl) rfl rfl ?_
    refine K_aload_n (dt_at dtX4_fewestToBalance 22 rfl) rfl rfl ?_
    refine K_iload_n (dt_at dtX4_fewestToBalance 23 rfl) rfl rfl ?_
    refine K_iload (dt_at dtX4_fewestToBalance 24 rfl) rfl ?_
    refine K_callS (M' := mX4_thingsThatBalance) (As := [vr t, vr 66, vi x, vi (k : Int)]) (st := []) (dt_at dtX4_fewestToBalance 25 rfl) (sX4_thingsThatBalance c hx ⟨by omega, by omega⟩) wL_X4_65 vX4_thingsThatBalance rfl npX4_thingsThatBalance (by decide) (by decide) (Nat.le_of_ble_eq_true rfl) (by decide) (by decide) GK_E (fun v9 h9 hq => ?_) (fun E h9 hq => by cases hq.1)
    obtain ⟨e9, e8⟩ := hq
    cases e9
    rw [e8]
    show K mX4_fewestToBalance _ _ 0 0 48 [(6, vi (k : Int)), (5, vi (fwN (fun k => tbF (sW S) f x (k : Int) (sNt S) 0) k)), (4, vi (p3 (sNt S) : Int)), (0, vr 91), (1, vr t), (2, vr 66), (3, vi x)] [vi (tbF (sW S) f x (k : Int) (sNt S) 0)] h
    refine K_istore (ls' := [(7, vi (tbF (sW S) f x (k : Int) (sNt S) 0)), (6, vi (k : Int)), (5, vi (fwN (fun k => tbF (sW S) f x (k : Int) (sNt S) 0) k)), (4, vi (p3 (sNt S) : Int)), (0, vr 91), (1, vr t), (2, vr 66), (3, vi x)]) (dt_at dtX4_fewestToBalance 26 rfl) (by decide) rfl ?_
    refine K_iload (dt_at dtX4_fewestToBalance 27 rfl) rfl ?_
    refine K_iconst (dt_at dtX4_fewestToBalance 28 rfl) ?_
    refine K_icmp_eq (tgt := 73) (dt_at dtX4_fewestToBalance 29 rfl) (by decide) (by first | assumption | exact ⟨by omega, by omega⟩) (by first | assumption | exact ⟨by omega, by omega⟩) (fun c2 => ?_) (fun c2 => ?_)
    · refine K_iinc (ls' := [(6, vi ((k : Int) + 1)), (7, vi (tbF (sW S) f x (k : Int) (sNt S) 0)), (5, vi (fwN (fun k => tbF (sW S) f x (k : Int) (sNt S) 0) k)), (4, vi (p3 (sNt S) : Int)), (0, vr 91), (1, vr t), (2, vr 66), (3, vi x)]) (dt_at dtX4_fewestToBalance 38 rfl) rfl (by decide) rfl ?_
      refine K_goto (tgt := 33) (dt_at dtX4_fewestToBalance 39 rfl) (by decide) ?_
      refine K_pk [0, 2, 3, 4, 5, 6, 7] (ls' := [(6, vi ((k : Int) + 1)), (5, vi (fwN (fun k => tbF (sW S) f x (k : Int) (sNt S) 0) k)), (4, vi (p3 (sNt S) : Int)), (0, vr 91), (1, vr t), (2, vr 66), (3, vi x)]) rfl ?_
      exact K_cg (ls' := [(6, vi ((k + 1 : Nat) : Int)), (5, vi (fwN (fun k => tbF (sW S) f x (k : Int) (sNt S) 0) (k + 1))), (4, vi (p3 (sNt S) : Int)), (0, vr 91), (1, vr t), (2, vr 66), (3, vi x)]) (h' := h) (by rw [fwN_f (u := (fun k => tbF (sW S) f x (k : Int) (sNt S) 0)) (by show ¬ (tbF (sW S) f x (k : Int) (sNt S) 0 ≠ -1 ∧ (_ ∨ _)); omega)]; rfl) (by rfl) (ih (k + 1) (by omega))
    · refine K_iload (dt_at dtX4_fewestToBalance 30 rfl) rfl ?_
      refine K_iconst (dt_at dtX4_fewestToBalance 31 rfl) ?_
      refine K_icmp_eq (tgt := 69) (dt_at dtX4_fewestToBalance 32 rfl) (by decide) (by first | assumption | exact ⟨by omega, by omega⟩) (by first | assumption | exact ⟨by omega, by omega⟩) (fun c3 => ?_) (fun c3 => ?_)
      · refine K_iload (dt_at dtX4_fewestToBalance 36 rfl) rfl ?_
        refine K_istore (ls' := [(5, vi (tbF (sW S) f x (k : Int) (sNt S) 0)), (7, vi (tbF (sW S) f x (k : Int) (sNt S) 0)), (6, vi (k : Int)), (4, vi (p3 (sNt S) : Int)), (0, vr 91), (1, vr t), (2, vr 66), (3, vi x)]) (dt_at dtX4_fewestToBalance 37 rfl) (by decide) rfl ?_
        refine K_iinc (ls' := [(6, vi ((k : Int) + 1)), (5, vi (tbF (sW S) f x (k : Int) (sNt S) 0)), (7, vi (tbF (sW S) f x (k : Int) (sNt S) 0)), (4, vi (p3 (sNt S) : Int)), (0, vr 91), (1, vr t), (2, vr 66), (3, vi x)]) (dt_at dtX4_fewestToBalance 38 rfl) rfl (by decide) rfl ?_
        refine K_goto (tgt := 33) (dt_at dtX4_fewestToBalance 39 rfl) (by decide) ?_
        refine K_pk [0, 1, 3, 4, 5, 6, 7] (ls' := [(6, vi ((k : Int) + 1)), (5, vi (tbF (sW S) f x (k : Int) (sNt S) 0)), (4, vi (p3 (sNt S) : Int)), (0, vr 91), (1, vr t), (2, vr 66), (3, vi x)]) rfl ?_
        exact K_cg (ls' := [(6, vi ((k + 1 : Nat) : Int)), (5, vi (fwN (fun k => tbF (sW S) f x (k : Int) (sNt S) 0) (k + 1))), (4, vi (p3 (sNt S) : Int)), (0, vr 91), (1, vr t), (2, vr 66), (3, vi x)]) (h' := h) (by rw [fwN_t (u := (fun k => tbF (sW S) f x (k : Int) (sNt S) 0)) (by show tbF (sW S) f x (k : Int) (sNt S) 0 ≠ -1 ∧ (_ ∨ tbF (sW S) f x (k : Int) (sNt S) 0 < _); omega)]; rfl) (by rfl) (ih (k + 1) (by omega))
      · refine K_iload (dt_at dtX4_fewestToBalance 33 rfl) rfl ?_
        refine K_iload (dt_at dtX4_fewestToBalance 34 rfl) rfl ?_
        refine K_icmp_ge (tgt := 73) (dt_at dtX4_fewestToBalance 35 rfl) (by decide) (by first | assumption | exact ⟨by omega, by omega⟩) (by first | assumption | exact ⟨by omega, by omega⟩) (fun c4 => ?_) (fun c4 => ?_)
        · refine K_iinc (ls' := [(6, vi ((k : Int) + 1)), (7, vi (tbF (sW S) f x (k : Int) (sNt S) 0)), (5, vi (fwN (fun k => tbF (sW S) f x (k : Int) (sNt S) 0) k)), (4, vi (p3 (sNt S) : Int)), (0, vr 91), (1, vr t), (2, vr 66), (3, vi x)]) (dt_at dtX4_fewestToBalance 38 rfl) rfl (by decide) rfl ?_
          refine K_goto (tgt := 33) (dt_at dtX4_fewestToBalance 39 rfl) (by decide) ?_
          refine K_pk [0, 2, 3, 4, 5, 6, 7] (ls' := [(6, vi ((k : Int) + 1)), (5, vi (fwN (fun k => tbF (sW S) f x (k : Int) (sNt S) 0) k)), (4, vi (p3 (sNt S) : Int)), (0, vr 91), (1, vr t), (2, vr 66), (3, vi x)]) rfl ?_
          exact K_cg (ls' := [(6, vi ((k + 1 : Nat) : Int)), (5, vi (fwN (fun k => tbF (sW S) f x (k : Int) (sNt S) 0) (k + 1))), (4, vi (p3 (sNt S) : Int)), (0, vr 91), (1, vr t), (2, vr 66), (3, vi x)]) (h' := h) (by rw [fwN_f (u := (fun k => tbF (sW S) f x (k : Int) (sNt S) 0)) (by show ¬ (tbF (sW S) f x (k : Int) (sNt S) 0 ≠ -1 ∧ (_ ∨ _)); omega)]; rfl) (by rfl) (ih (k + 1) (by omega))
        · refine K_iload (dt_at dtX4_fewestToBalance 36 rfl) rfl ?_
          refine K_istore (ls' := [(5, vi (tbF (sW S) f x (k : Int) (sNt S) 0)), (7, vi (tbF (sW S) f x (k : Int) (sNt S) 0)), (6, vi (k : Int)), (4, vi (p3 (sNt S) : Int)), (0, vr 91), (1, vr t), (2, vr 66), (3, vi x)]) (dt_at dtX4_fewestToBalance 37 rfl) (by decide) rfl ?_
          refine K_iinc (ls' := [(6, vi ((k : Int) + 1)), (5, vi (tbF (sW S) f x (k : Int) (sNt S) 0)), (7, vi (tbF (sW S) f x (k : Int) (sNt S) 0)), (4, vi (p3 (sNt S) : Int)), (0, vr 91), (1, vr t), (2, vr 66), (3, vi x)]) (dt_at dtX4_fewestToBalance 38 rfl) rfl (by decide) rfl ?_
          refine K_goto (tgt := 33) (dt_at dtX4_fewestToBalance 39 rfl) (by decide) ?_
          refine K_pk [0, 1, 3, 4, 5, 6, 7] (ls' := [(6, vi ((k : Int) + 1)), (5, vi (tbF (sW S) f x (k : Int) (sNt S) 0)), (4, vi (p3 (sNt S) : Int)), (0, vr 91), (1, vr t), (2, vr 66), (3, vi x)]) rfl ?_
          exact K_cg (ls' := [(6, vi ((k + 1 : Nat) : Int)), (5, vi (fwN (fun k => tbF (sW S) f x (k : Int) (sNt S) 0) (k + 1))), (4, vi (p3 (sNt S) : Int)), (0, vr 91), (1, vr t), (2, vr 66), (3, vi x)]) (h' := h) (by rw [fwN_t (u := (fun k => tbF (sW S) f x (k : Int) (sNt S) 0)) (by show tbF (sW S) f x (k : Int) (sNt S) 0 ≠ -1 ∧ (_ ∨ tbF (sW S) f x (k : Int) (sNt S) 0 < _); omega)]; rfl) (by rfl) (ih (k + 1) (by omega))
set_option maxHeartbeats 4000000 in
set_option maxRecDepth 100000 in
theorem sX4_fewestToBalance {h : HP} {t : Nat} {S : HS} {B : Int} {f : Int → Int} {x : Int} (c : CQ h t S B f) (hx : 1 ≤ x ∧ x ≤ 99) : SpecK mX4_fewestToBalance [vr 91, vr t, vr 66, vi x] h (fun o h' => o = .inl (some (vi (fwN (fun k => tbF (sW S) f x (k : Int) (sNt S) 0) (p3 (sNt S))))) ∧ h' = h) := by
  refine Spec_of (by decide +kernel) (Nat.le_of_ble_eq_true rfl) ?_
  have ht := c.1
  have hH := TTt ht
  have hB := c.2.2.2.1
  have hNt := hB.1
  have hNp := hB.2.1
  have hT := c.2.2.2.2.2.1
  have hC := c.2.2.2.2.2.2.1
  have h99 := c.2.2.2.2.2.2.2.1
  have G := c.2.2.2.2.2.2.2.2
  have hf0 := hT.2.2.2.1
  refine K_iconst (dt_at dtX4_fewestToBalance 0 rfl) ?_
  refine K_istore (ls' := [(4, vi 1), (0, vr 91), (1, vr t), (2, vr 66), (3, vi x)]) (dt_at dtX4_fewestToBalance 1 rfl) (by decide) rfl ?_
  refine K_iconst (dt_at dtX4_fewestToBalance 2 rfl) ?_
  refine K_istore (ls' := [(5, vi 0), (4, vi 1), (0, vr 91), (1, vr t), (2, vr 66), (3, vi x)]) (dt_at dtX4_fewestToBalance 3 rfl) (by decide) rfl ?_
  refine K_pk [0, 1, 2, 3, 4, 5] (ls' := [(5, vi ((0 : Nat) : Int)), (4, vi (p3 0 : Int)), (0, vr 91), (1, vr t), (2, vr 66), (3, vi x)]) rfl (la_X4_fewestToBalance c hx ?_ (sNt S) 0 (by omega))
  refine K_iconst (dt_at dtX4_fewestToBalance 14 rfl) ?_
  refine K_istore (ls' := [(5, vi (-1)), (4, vi (p3 (sNt S) : Int)), (0, vr 91), (1, vr t), (2, vr 66), (3, vi x)]) (dt_at dtX4_fewestToBalance 15 rfl) (by decide) rfl ?_
  refine K_iconst (dt_at dtX4_fewestToBalance 16 rfl) ?_
  refine K_istore (ls' := [(6, vi 0), (5, vi (-1)), (4, vi (p3 (sNt S) : Int)), (0, vr 91), (1, vr t), (2, vr 66), (3, vi x)]) (dt_at dtX4_fewestToBalance 17 rfl) (by decide) rfl ?_
  refine K_pk [0, 1, 2, 3, 4, 5, 6] rfl (lb_X4_fewestToBalance c hx ?_ (p3 (sNt S)) 0 (by omega))
  refine K_iload (dt_at dtX4_fewestToBalance 40 rfl) rfl ?_
  exact K_iret (dt_at dtX4_fewestToBalance 41 rfl) rfl rfl (by decide) (by decide) ⟨rfl, rfl⟩
def mX11_balance : MI := (yX11_balance, cX11_balance, 2, (some .int), rmK 8 1)
def tX11_balance : List (Nat × Instr × Nat) := [(0, .iload_n 1, 1), (1, .iconst 1, 1), (2, .bipush 99, 2), (4, .invokestatic 111, 3), (7, .aload_n 0, 1), (8, .getfield 78, 3), (11, .aload_n 0, 1), (12, .getfield 20, 3), (15, .aload_n 0, 1), (16, .getfield 39, 3), (19, .iload_n 1, 1), (20, .invokevirtual 335, 3), (23, .ireturn, 1)]
theorem dtX11_balance : tX11_balance.all (fun q => decide (decode cX11_balance q.1 = .ok (q.2.1, q.2.2))) = true := by decide +kernel
theorem npX11_balance : (parseMethodDescriptor (mY mX11_balance).desc).map (fun d => d.parameters.length) = some 1 := by decide +kernel
theorem vX11_balance : mV mX11_balance := ⟨wI_X11_balance, wS_X11_balance, wN_X11, wC_X11_balance, by decide +kernel, by decide +kernel⟩
set_option maxHeartbeats 4000000 in
set_option maxRecDepth 100000 in
theorem sX11_balance_x1 {h : HP} {t : Nat} {S : HS} {B : Int} {f : Int → Int} {x : Int} (c : CQ h t S B f) (hx : i32 x) (kn : ¬ (1 ≤ x ∧ x ≤ 99)) : SpecK mX11_balance [vr 30, vi x] h (fun o h' => o = .inr eIA ∧ FS h h') := by
  refine Spec_of (by decide +kernel) (Nat.le_of_ble_eq_true rfl) ?_
  have ht := c.1
  have hH := TTt ht
  have hB := c.2.2.2.1
  have hNt := hB.1
  have hNp := hB.2.1
  have hT := c.2.2.2.2.2.1
  have hC := c.2.2.2.2.2.2.1
  have h99 := c.2.2.2.2.2.2.2.1
  have G := c.2.2.2.2.2.2.2.2
  have hf0 := hT.2.2.2.1
  refine K_iload_n (dt_at dtX11_balance 0 rfl) rfl rfl ?_
  refine K_iconst (dt_at dtX11_balance 1 rfl) ?_
  refine K_bipush (dt_at dtX11_balance 2 rfl) (by decide) ?_
  exact K_callS (M' := mX11_needBetween) (As := [vi x, vi 1, vi 99]) (st := []) (dt_at dtX11_balance 3 rfl) (sX11_needBetween_no (by assumption) ⟨by decide, by decide⟩ ⟨by decide, by decide⟩ (by omega)) wL_X11_111 vX11_needBetween rfl npX11_needBetween (by decide) (by decide) (Nat.le_of_ble_eq_true rfl) (by decide) (by decide) GK_E (fun v9 h9 hq => by cases hq.1) (fun E h9 hq => by obtain ⟨e9, e8⟩ := hq; cases e9; rw [e8]; exact KX_out (by decide) (by decide) ⟨rfl, FS_rf G⟩)
set_option maxHeartbeats 4000000 in
set_option maxRecDepth 100000 in
theorem sX11_balance {h : HP} {t : Nat} {S : HS} {B : Int} {f : Int → Int} {x : Int} (c : CQ h t S B f) (hx : 1 ≤ x ∧ x ≤ 99) : SpecK mX11_balance [vr 30, vi x] h (fun o h' => o = .inl (some (vi (fwN (fun k => tbF (sW S) f x (k : Int) (sNt S) 0) (p3 (sNt S))))) ∧ FS h h') := by
  refine Spec_of (by decide +kernel) (Nat.le_of_ble_eq_true rfl) ?_
  have ht := c.1
  have hH := TTt ht
  have hB := c.2.2.2.1
  have hNt := hB.1
  have hNp := hB.2.1
  have hT := c.2.2.2.2.2.1
  have hC := c.2.2.2.2.2.2.1
  have h99 := c.2.2.2.2.2.2.2.1
  have G := c.2.2.2.2.2.2.2.2
  have hf0 := hT.2.2.2.1
  refine K_iload_n (dt_at dtX11_balance 0 rfl) rfl rfl ?_
  refine K_iconst (dt_at dtX11_balance 1 rfl) ?_
  refine K_bipush (dt_at dtX11_balance 2 rfl) (by decide) ?_
  refine K_callS (M' := mX11_needBetween) (As := [vi x, vi 1, vi 99]) (st := []) (dt_at dtX11_balance 3 rfl) (sX11_needBetween (by first | assumption | exact ⟨by omega, by omega⟩) ⟨by decide, by decide⟩ ⟨by decide, by decide⟩ (by omega)) wL_X11_111 vX11_needBetween rfl npX11_needBetween (by decide) (by decide) (Nat.le_of_ble_eq_true rfl) (by decide) (by decide) GK_E (fun v9 h9 hq => ?_) (fun E h9 hq => by cases hq.1)
  obtain ⟨e9, e8⟩ := hq
  cases e9
  rw [e8]
  show K mX11_balance _ _ 1 6 7 [(0, vr 30), (1, vi x)] [] h
  refine K_aload_n (dt_at dtX11_balance 4 rfl) rfl rfl ?_
  refine K_get (a := 30) (ci := 11) (k := 12) (v := vr 91) (dt_at dtX11_balance 5 rfl) (by decide) rfl (by decide) wF_X11_78 rfl ?_
  refine K_aload_n (dt_at dtX11_balance 6 rfl) rfl rfl ?_
  refine K_get (a := 30) (ci := 11) (k := 2) (v := vr t) (dt_at dtX11_balance 7 rfl) (by decide) rfl (by decide) wF_X11_20 (by show vr (hR h 30 2) = vr t; rw [c.2.1]) ?_
  refine K_aload_n (dt_at dtX11_balance 8 rfl) rfl rfl ?_
  refine K_get (a := 30) (ci := 11) (k := 5) (v := vr 66) (dt_at dtX11_balance 9 rfl) (by decide) rfl (by decide) wF_X11_39 rfl ?_
  refine K_iload_n (dt_at dtX11_balance 10 rfl) rfl rfl ?_
  refine K_callV (M' := mX4_fewestToBalance) (a := 91) (ci := 4) (As := [vr t, vr 66, vi x]) (st := []) (dt_at dtX11_balance 11 rfl) (sX4_fewestToBalance c hx) (show TT 91 = (0, 4) from rfl) rfl wL_X11_335 vX4_fewestToBalance rfl npX4_fewestToBalance (by decide) (by decide) (Nat.le_of_ble_eq_true rfl) (by decide) (by decide) GK_E (fun v9 h9 hq => ?_) (fun E h9 hq => by cases hq.1)
  obtain ⟨e9, e8⟩ := hq
  cases e9
  rw [e8]
  show K mX11_balance _ _ 1 6 23 [(0, vr 30), (1, vi x)] [vi (fwN (fun k => tbF (sW S) f x (k : Int) (sNt S) 0) (p3 (sNt S)))] h
  exact K_iret (dt_at dtX11_balance 12 rfl) rfl rfl (by decide) (by decide) ⟨rfl, FS_rf G⟩
