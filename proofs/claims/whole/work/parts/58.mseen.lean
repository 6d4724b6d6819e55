theorem soB_far {N : SN} {g : Int → Int} {b : Int} : ∀ n : Nat, (∀ i, i < n → N.2.2.2.1 i ≠ b) → soB N g b n = true
  | 0, _ => rfl
  | n + 1, h => by
    show (soB N g b n && (decide (N.2.2.2.1 n ≠ b) || _)) = true
    rw [soB_far n (fun i hi => h i (by omega)), decide_eq_true (h n (by omega))]
    rfl
theorem ldF_ge {N : SN} : ∀ n : Nat, ∀ i, i < n → N.2.2.2.1 i ≤ ldF N n
  | 0, i, h => by omega
  | n + 1, i, h => by
    show N.2.2.2.1 i ≤ max (ldF N n) (N.2.2.2.1 n)
    by_cases e : i = n
    · rw [e]; omega
    · have := ldF_ge (N := N) n i (by omega); omega
theorem seB_31 {S : HS} {N : SN} {f : Int → Int} (hO : seO S N) : seB S N f = abB S N f 31 := by
  unfold seB
  rw [asB_ab]
  have lb := ldF_b' hO N.1 (Nat.le_refl _)
  have key : ∀ m : Nat, ldN N + 1 + m ≤ 31 → abB S N f (ldN N + 1 + m) = abB S N f (ldN N + 1) := by
    intro m
    induction m with
    | zero => intro _; rfl
    | succ m ih =>
      intro hm
      show (abB S N f (ldN N + 1 + m) && soB N (dysF S f (ldN N + 1 + m)) ((ldN N + 1 + m : Nat) : Int) N.1) = _
      rw [ih (by omega), soB_far N.1 (fun i hi => by have := ldF_ge (N := N) N.1 i hi; unfold ldN; omega), Bool.and_true]
  have l30 : ldN N ≤ 30 := by unfold ldN; omega
  have := key (30 - ldN N) (by omega)
  rw [show ldN N + 1 + (30 - ldN N) = 31 by omega] at this
  exact this.symm
theorem gsR_R {S : HS} {f : Int → Int} {g : Nat} (hB : hsW S) (R : rowOK S f) (hg : g < 10 * sNp S) : rowOK S (gsR f g) := by
  have hNp := hB.2.1
  obtain ⟨r1, r2, r3, r4, r5, r6⟩ := R
  obtain ⟨a1, a2, a3⟩ := gsR_ok r1 r2 hNp hg
  refine ⟨a1, a2, by rw [a3]; exact r3, wH_lo r4 (by omega), fun p q p0 p1 q0 q1 e => ?_, fun p p0 p1 => ?_⟩
  · unfold gsR at e
    rw [upI_n (by omega), upI_n (by omega)] at e
    exact r5 p q p0 p1 q0 q1 e
  · unfold gsR
    rw [upI_n (by omega)]
    exact r6 p p0 p1
theorem soB_t {N : SN} {g : Int → Int} {b : Int} {k : Nat} (h : soB N g b k = true) (c : N.2.2.2.1 k ≠ b ∨ g (35 + g (8 + N.2.1 k) * 6 + N.2.2.1 k) = N.2.2.2.2 k) : soB N g b (k + 1) = true := by
  show (soB N g b k && (decide (N.2.2.2.1 k ≠ b) || decide (g (35 + g (8 + N.2.1 k) * 6 + N.2.2.1 k) = N.2.2.2.2 k))) = true
  rw [h, Bool.true_and, Bool.or_eq_true, decide_eq_true_eq, decide_eq_true_eq]
  exact c
theorem soB_n {N : SN} {g : Int → Int} {b : Int} {k : Nat} (c1 : N.2.2.2.1 k = b) (c2 : g (35 + g (8 + N.2.1 k) * 6 + N.2.2.1 k) ≠ N.2.2.2.2 k) : soB N g b (k + 1) = false := by
  show (soB N g b k && (decide (N.2.2.2.1 k ≠ b) || decide (g (35 + g (8 + N.2.1 k) * 6 + N.2.2.1 k) = N.2.2.2.2 k))) = false
  rw [decide_eq_false (fun z => z c1), decide_eq_false c2]
  simp
theorem pr_u0 {u v : Int → Int} {F : Int → Int} {y : Int} {k : Nat} (pr : ∀ x : Int, 0 ≤ x → x < (k : Int) → u x = F x) (e : v = upI u (k : Int) y) (hy : y = F (k : Int)) : ∀ x : Int, 0 ≤ x → x < ((k + 1 : Nat) : Int) → v x = F x := by
  intro x x0 x1
  rw [e]
  by_cases z : x = (k : Int)
  · rw [z, upI_s]; exact hy
  · rw [upI_n z]; exact pr x x0 (by omega)
def mX12_isSeen : MI := (yX12_isSeen, cX12_isSeen, 3, (some .boolean), rmK 7 0)
def tX12_isSeen : List (Nat × Instr × Nat) := [(0, .iconst 0, 1), (1, .istore_n 1, 1), (2, .iload_n 1, 1), (3, .bipush 30, 2), (5, .if_icmp .gt 127, 3), (8, .iconst 0, 1), (9, .istore_n 2, 1), (10, .iload_n 2, 1), (11, .aload_n 0, 1), (12, .getfield 280, 3), (15, .if_icmp .ge 67, 3), (18, .aload_n 0, 1), (19, .getfield 87, 3), (22, .iconst 4, 1), (23, .iload_n 2, 1), (24, .imul, 1), (25, .iconst 2, 1), (26, .iadd, 1), (27, .iaload, 1), (28, .iload_n 1, 1), (29, .if_icmp .ne 47, 3), (32, .aload_n 0, 1), (33, .getfield 72, 3), (36, .aload_n 0, 1), (37, .bipush 77, 2), (39, .aload_n 0, 1), (40, .getfield 87, 3), (43, .iconst 4, 1), (44, .iload_n 2, 1), (45, .imul, 1), (46, .iaload, 1), (47, .aload_n 0, 1), (48, .getfield 87, 3), (51, .iconst 4, 1), (52, .iload_n 2, 1), (53, .imul, 1), (54, .iconst 1, 1), (55, .iadd, 1), (56, .iaload, 1), (57, .invokevirtual 291, 3), (60, .iaload, 1), (61, .aload_n 0, 1), (62, .getfield 87, 3), (65, .iconst 4, 1), (66, .iload_n 2, 1), (67, .imul, 1), (68, .iconst 3, 1), (69, .iadd, 1), (70, .iaload, 1), (71, .if_icmp .eq 5, 3), (74, .iconst 0, 1), (75, .ireturn, 1), (76, .iinc 2 1, 3), (79, .goto (-69), 3), (82, .iload_n 1, 1), (83, .bipush 10, 2), (85, .if_icmp .ne 35, 3), (88, .iconst 0, 1), (89, .istore_n 2, 1), (90, .iload_n 2, 1), (91, .aload_n 0, 1), (92, .getfield 267, 3), (95, .if_icmp .ge 25, 3), (98, .aload_n 0, 1), (99, .getfield 90, 3), (102, .iload_n 2, 1), (103, .aload_n 0, 1), (104, .getfield 72, 3), (107, .sipush 134, 3), (110, .iload_n 2, 1), (111, .iadd, 1), (112, .iaload, 1), (113, .iastore, 1), (114, .iinc 2 1, 3), (117, .goto (-27), 3), (120, .aload_n 0, 1), (121, .bipush 77, 2), (123, .invokevirtual 334, 3), (126, .iinc 1 1, 3), (129, .goto (-127), 3), (132, .iconst 1, 1), (133, .ireturn, 1)]
theorem dtX12_isSeen : tX12_isSeen.all (fun q => decide (decode cX12_isSeen q.1 = .ok (q.2.1, q.2.2))) = true := by decide +kernel
theorem npX12_isSeen : (parseMethodDescriptor (mY mX12_isSeen).desc).map (fun d => d.parameters.length) = some 0 := by decide +kernel
theorem vX12_isSeen : mV mX12_isSeen := ⟨wI_X12_isSeen, wS_X12_isSeen, wN_X12, wC_X12_isSeen, by decide +kernel, by decide +kernel⟩
set_option maxHeartbeats 4000000 in
set_option maxRecDepth 100000 in
theorem li_X12_isSeen {Q : AO → HP → Prop} {h hh : HP} {S : HS} {f r : Int → Int} {N : SN} {y : Int} (Q0 : MAsk h S f) (G : MG h hh S f r) (ms : mSe hh 23 51 N) (hO : seO S N) (hWr : rW r) (hy : 0 ≤ y ∧ y ≤ 30) : ∀ (dd k : Nat), k + dd = N.1 → soB N r y k = true → (soB N r y N.1 = true → K mX12_isSeen GK (ZK Q 0 0) 0 0 82 [(1, vi y), (0, vr 0)] [] hh) → (soB N r y N.1 = false → Q (.inl (some (vi 0))) hh) → K mX12_isSeen GK (ZK Q 0 0) 0 0 10 [(2, vi (k : Int)), (1, vi y), (0, vr 0)] [] hh := by
  intro dd
  induction dd with
  | zero =>
    intro k hk so kx hq
    have hB := Q0.1.1
    have hNt := hB.1
    have hNp := hB.2.1
    have R := Q0.2.2.2.2
    have hT := R.1
    have hW := hT.1
    have ek : k = N.1 := by omega
    have n8 := ms.2.1
    refine K_iload_n (dt_at dtX12_isSeen 7 rfl) rfl rfl ?_
    refine K_aload_n (dt_at dtX12_isSeen 8 rfl) rfl rfl ?_
    refine K_get (a := 0) (ci := 12) (k := 51) (v := vi (N.1 : Int)) (dt_at dtX12_isSeen 9 rfl) (show TT 0 = (0, 12) from rfl) rfl (by decide) wF_X12_280 (by show vi (hI hh 0 51) = vi (N.1 : Int); rw [ms.1]) ?_
    refine K_icmp_ge (tgt := 82) (dt_at dtX12_isSeen 10 rfl) (by decide) (by first | assumption | exact ⟨by omega, by omega⟩) (by first | assumption | exact ⟨by omega, by omega⟩) (fun c1 => ?_) (fun c1 => absurd c1 (by omega))
    exact K_pk [1, 2] rfl (kx (by rw [← ek]; exact so))
  | succ dd ih =>
    intro k hk so kx hq
    have hB := Q0.1.1
    have hNt := hB.1
    have hNp := hB.2.1
    have R := Q0.2.2.2.2
    have hT := R.1
    have hW := hT.1
    have n8 := ms.2.1
    obtain ⟨s1, s2, s3, s4⟩ := ms.2.2 k (by omega)
    obtain ⟨o1, o2, o3, o4⟩ := hO k (by omega)
    have wc := (hWr.2 (N.2.1 k) o1.1 (by omega)).2.1
    have wr := hWr.1 (35 + r (8 + N.2.1 k) * 6 + N.2.2.1 k) (by omega) (by omega)
    refine K_iload_n (dt_at dtX12_isSeen 7 rfl) rfl rfl ?_
    refine K_aload_n (dt_at dtX12_isSeen 8 rfl) rfl rfl ?_
    refine K_get (a := 0) (ci := 12) (k := 51) (v := vi (N.1 : Int)) (dt_at dtX12_isSeen 9 rfl) (show TT 0 = (0, 12) from rfl) rfl (by decide) wF_X12_280 (by show vi (hI hh 0 51) = vi (N.1 : Int); rw [ms.1]) ?_
    refine K_icmp_ge (tgt := 82) (dt_at dtX12_isSeen 10 rfl) (by decide) (by first | assumption | exact ⟨by omega, by omega⟩) (by first | assumption | exact ⟨by omega, by omega⟩) (fun c1 => absurd c1 (by omega)) (fun c1 => ?_)
    refine K_aload_n (dt_at dtX12_isSeen 11 rfl) rfl rfl ?_
    refine K_get (a := 0) (ci := 12) (k := 52) (v := vr 23) (dt_at dtX12_isSeen 12 rfl) (show TT 0 = (0, 12) from rfl) rfl (by decide) wF_X12_87 rfl ?_
    refine K_iconst (dt_at dtX12_isSeen 13 rfl) ?_
    refine K_iload_n (dt_at dtX12_isSeen 14 rfl) rfl rfl ?_
    refine K_imul (dt_at dtX12_isSeen 15 rfl) ?_
    refine K_iconst (dt_at dtX12_isSeen 16 rfl) ?_
    refine K_iadd (dt_at dtX12_isSeen 17 rfl) ?_
    refine K_iald (dt_at dtX12_isSeen 18 rfl) (show TT 23 = (1, 32) from rfl) (by omega) (by omega) ?_
    rw [s3]
    refine K_iload_n (dt_at dtX12_isSeen 19 rfl) rfl rfl ?_
    refine K_icmp_ne (tgt := 76) (dt_at dtX12_isSeen 20 rfl) (by decide) (by first | assumption | exact ⟨by omega, by omega⟩) (by first | assumption | exact ⟨by omega, by omega⟩) (fun c2 => ?_) (fun c2 => ?_)
    · refine K_iinc (ls' := [(2, vi ((k : Int) + 1)), (1, vi y), (0, vr 0)]) (dt_at dtX12_isSeen 52 rfl) rfl (by decide) rfl ?_
      refine K_goto (tgt := 10) (dt_at dtX12_isSeen 53 rfl) (by decide) ?_
      exact K_pk [0, 1, 2] rfl (ih (k + 1) (by omega) (soB_t so (by first | exact Or.inl (by assumption) | exact Or.inr (by assumption))) kx hq)
    · refine K_aload_n (dt_at dtX12_isSeen 21 rfl) rfl rfl ?_
      refine K_get (a := 0) (ci := 12) (k := 42) (v := vr 18) (dt_at dtX12_isSeen 22 rfl) (show TT 0 = (0, 12) from rfl) rfl (by decide) wF_X12_72 rfl ?_
      refine K_aload_n (dt_at dtX12_isSeen 23 rfl) rfl rfl ?_
      refine K_bipush (dt_at dtX12_isSeen 24 rfl) (by decide) ?_
      refine K_aload_n (dt_at dtX12_isSeen 25 rfl) rfl rfl ?_
      refine K_get (a := 0) (ci := 12) (k := 52) (v := vr 23) (dt_at dtX12_isSeen 26 rfl) (show TT 0 = (0, 12) from rfl) rfl (by decide) wF_X12_87 rfl ?_
      refine K_iconst (dt_at dtX12_isSeen 27 rfl) ?_
      refine K_iload_n (dt_at dtX12_isSeen 28 rfl) rfl rfl ?_
      refine K_imul (dt_at dtX12_isSeen 29 rfl) ?_
      refine K_iald (dt_at dtX12_isSeen 30 rfl) (show TT 23 = (1, 32) from rfl) (by omega) (by omega) ?_
      rw [s1]
      refine K_aload_n (dt_at dtX12_isSeen 31 rfl) rfl rfl ?_
      refine K_get (a := 0) (ci := 12) (k := 52) (v := vr 23) (dt_at dtX12_isSeen 32 rfl) (show TT 0 = (0, 12) from rfl) rfl (by decide) wF_X12_87 rfl ?_
      refine K_iconst (dt_at dtX12_isSeen 33 rfl) ?_
      refine K_iload_n (dt_at dtX12_isSeen 34 rfl) rfl rfl ?_
      refine K_imul (dt_at dtX12_isSeen 35 rfl) ?_
      refine K_iconst (dt_at dtX12_isSeen 36 rfl) ?_
      refine K_iadd (dt_at dtX12_isSeen 37 rfl) ?_
      refine K_iald (dt_at dtX12_isSeen 38 rfl) (show TT 23 = (1, 32) from rfl) (by omega) (by omega) ?_
      rw [s2]
      refine K_callV (M' := mX12_pieceAt) (a := 0) (ci := 12) (As := [vi 77, vi (N.2.1 k), vi (N.2.2.1 k)]) (st := [vr 18]) (dt_at dtX12_isSeen 39 rfl) (sX12_pieceAt (MG_D7 G) hWr (by omega)) (show TT 0 = (0, 12) from rfl) rfl wL_X12_291 vX12_pieceAt rfl npX12_pieceAt (by decide) (by decide) (Nat.le_of_ble_eq_true rfl) (by decide) (by decide) GK_E (fun v9 h9 hq => ?_) (fun E h9 hq => by cases hq.1)
      obtain ⟨e9, e8⟩ := hq
      cases e9
      rw [e8]
      show K mX12_isSeen _ _ 0 0 60 [(2, vi (k : Int)), (1, vi y), (0, vr 0)] [vi (77 + 15 + 6 * r (8 + (N.2.1 k)) + (N.2.2.1 k)), vr 18] hh
      refine K_iald (dt_at dtX12_isSeen 40 rfl) (show TT 18 = (1, 154) from rfl) (by omega) (by omega) ?_
      rw [show hA hh 18 (77 + 15 + 6 * r (8 + (N.2.1 k)) + (N.2.2.1 k)) = (r (35 + r (8 + (N.2.1 k)) * 6 + (N.2.2.1 k))) from RV_i (MG_D7 G).2.2.2 (c := r (8 + (N.2.1 k))) (t := (N.2.2.1 k)) (by omega) (by omega) (by omega)]
      refine K_aload_n (dt_at dtX12_isSeen 41 rfl) rfl rfl ?_
      refine K_get (a := 0) (ci := 12) (k := 52) (v := vr 23) (dt_at dtX12_isSeen 42 rfl) (show TT 0 = (0, 12) from rfl) rfl (by decide) wF_X12_87 rfl ?_
      refine K_iconst (dt_at dtX12_isSeen 43 rfl) ?_
      refine K_iload_n (dt_at dtX12_isSeen 44 rfl) rfl rfl ?_
      refine K_imul (dt_at dtX12_isSeen 45 rfl) ?_
      refine K_iconst (dt_at dtX12_isSeen 46 rfl) ?_
      refine K_iadd (dt_at dtX12_isSeen 47 rfl) ?_
      refine K_iald (dt_at dtX12_isSeen 48 rfl) (show TT 23 = (1, 32) from rfl) (by omega) (by omega) ?_
      rw [s4]
      refine K_icmp_eq (tgt := 76) (dt_at dtX12_isSeen 49 rfl) (by decide) (by first | assumption | exact ⟨by omega, by omega⟩) (by first | assumption | exact ⟨by omega, by omega⟩) (fun c3 => ?_) (fun c3 => ?_)
      · refine K_iinc (ls' := [(2, vi ((k : Int) + 1)), (1, vi y), (0, vr 0)]) (dt_at dtX12_isSeen 52 rfl) rfl (by decide) rfl ?_
        refine K_goto (tgt := 10) (dt_at dtX12_isSeen 53 rfl) (by decide) ?_
        exact K_pk [0, 1, 2] rfl (ih (k + 1) (by omega) (soB_t so (by first | exact Or.inl (by assumption) | exact Or.inr (by assumption))) kx hq)
      · refine K_iconst (dt_at dtX12_isSeen 50 rfl) ?_
        exact K_iret (dt_at dtX12_isSeen 51 rfl) rfl (by decide) (by decide) (by decide) (hq (soB_f (soB_n (by assumption) (by assumption)) N.1 (by omega)))
set_option maxHeartbeats 4000000 in
set_option maxRecDepth 100000 in
theorem ls_X12_isSeen {Z : CT → State → Prop} {h hb : HP} {S : HS} {f r : Int → Int} {y : Int} (Q0 : MAsk h S f) (hWr : rW r) (kx : ∀ h2, MG h h2 S f r → hA h2 25 = hA hb 25 → (∀ x : Int, 0 ≤ x → x < sNt S → hA h2 24 x = r (29 + x)) → K mX12_isSeen GK Z 0 0 120 [(1, vi y), (0, vr 0)] [] h2) : ∀ (dd k : Nat) (hh : HP), k + dd = sNt S → MG h hh S f r → hA hh 25 = hA hb 25 → (∀ x : Int, 0 ≤ x → x < (k : Int) → hA hh 24 x = r (29 + x)) → K mX12_isSeen GK Z 0 0 90 [(2, vi (k : Int)), (1, vi y), (0, vr 0)] [] hh := by
  intro dd
  induction dd with
  | zero =>
    intro k hh hk G e25 pr
    have hB := Q0.1.1
    have hNt := hB.1
    have hNp := hB.2.1
    have R := Q0.2.2.2.2
    have hT := R.1
    have hW := hT.1
    have ek : k = sNt S := by omega
    refine K_iload_n (dt_at dtX12_isSeen 59 rfl) rfl rfl ?_
    refine K_aload_n (dt_at dtX12_isSeen 60 rfl) rfl rfl ?_
    refine K_get (a := 0) (ci := 12) (k := 1) (v := vi (sNt S : Int)) (dt_at dtX12_isSeen 61 rfl) (show TT 0 = (0, 12) from rfl) rfl (by decide) wF_X12_267 (by show vi (hI hh 0 1) = vi (sNt S : Int); rw [(MD_nt (MG_D0 G))]) ?_
    refine K_icmp_ge (tgt := 120) (dt_at dtX12_isSeen 62 rfl) (by decide) (by first | assumption | exact ⟨by omega, by omega⟩) (by first | assumption | exact ⟨by omega, by omega⟩) (fun c1 => ?_) (fun c1 => absurd c1 (by omega))
    exact K_pk [1, 2] rfl (kx hh G e25 (fun x x0 x1 => pr x x0 (by omega)))
  | succ dd ih =>
    intro k hh hk G e25 pr
    have hB := Q0.1.1
    have hNt := hB.1
    have hNp := hB.2.1
    have R := Q0.2.2.2.2
    have hT := R.1
    have hW := hT.1
    have ws := hWr.1 (29 + (k : Int)) (by omega) (by omega)
    refine K_iload_n (dt_at dtX12_isSeen 59 rfl) rfl rfl ?_
    refine K_aload_n (dt_at dtX12_isSeen 60 rfl) rfl rfl ?_
    refine K_get (a := 0) (ci := 12) (k := 1) (v := vi (sNt S : Int)) (dt_at dtX12_isSeen 61 rfl) (show TT 0 = (0, 12) from rfl) rfl (by decide) wF_X12_267 (by show vi (hI hh 0 1) = vi (sNt S : Int); rw [(MD_nt (MG_D0 G))]) ?_
    refine K_icmp_ge (tgt := 120) (dt_at dtX12_isSeen 62 rfl) (by decide) (by first | assumption | exact ⟨by omega, by omega⟩) (by first | assumption | exact ⟨by omega, by omega⟩) (fun c1 => absurd c1 (by omega)) (fun c1 => ?_)
    refine K_aload_n (dt_at dtX12_isSeen 63 rfl) rfl rfl ?_
    refine K_get (a := 0) (ci := 12) (k := 53) (v := vr 24) (dt_at dtX12_isSeen 64 rfl) (show TT 0 = (0, 12) from rfl) rfl (by decide) wF_X12_90 rfl ?_
    refine K_iload_n (dt_at dtX12_isSeen 65 rfl) rfl rfl ?_
    refine K_aload_n (dt_at dtX12_isSeen 66 rfl) rfl rfl ?_
    refine K_get (a := 0) (ci := 12) (k := 42) (v := vr 18) (dt_at dtX12_isSeen 67 rfl) (show TT 0 = (0, 12) from rfl) rfl (by decide) wF_X12_72 rfl ?_
    refine K_sipush (dt_at dtX12_isSeen 68 rfl) (by decide) ?_
    refine K_iload_n (dt_at dtX12_isSeen 69 rfl) rfl rfl ?_
    refine K_iadd (dt_at dtX12_isSeen 70 rfl) ?_
    refine K_iald (dt_at dtX12_isSeen 71 rfl) (show TT 18 = (1, 154) from rfl) (by omega) (by omega) ?_
    rw [show hA hh 18 (134 + (k : Int)) = (r (29 + (k : Int))) from RV_s (MG_D7 G).2.2.2 (p := (k : Int)) (by omega) (by omega)]
    refine K_iast (dt_at dtX12_isSeen 72 rfl) (show TT 24 = (1, 6) from rfl) (by omega) (by omega) ?_
    obtain ⟨hu1, eu1⟩ : ∃ z, z = sA hh 24 (k : Int) (r (29 + (k : Int))) := ⟨_, rfl⟩
    rw [← eu1]
    obtain ⟨au1, fu1, iu1, ru1⟩ := sA_fx eu1
    have Gu1 : MG h hu1 S f r := MG_A G eu1 (by omega)
    refine K_iinc (ls' := [(2, vi ((k : Int) + 1)), (1, vi y), (0, vr 0)]) (dt_at dtX12_isSeen 73 rfl) rfl (by decide) rfl ?_
    refine K_goto (tgt := 90) (dt_at dtX12_isSeen 74 rfl) (by decide) ?_
    exact K_pk [0, 1, 2] rfl (ih (k + 1) hu1 (by omega) Gu1 (by rw [fu1 25 (by omega)]; exact e25) (pr_u0 (F := fun x => r (29 + x)) pr au1 rfl))
theorem ab_t {S : HS} {N : SN} {g : Int → Int} {k : Nat} (h : abB S N g k = true) (s : soB N (dysF S g k) (k : Int) N.1 = true) : abB S N g (k + 1) = true := by
  show (abB S N g k && soB N (dysF S g k) (k : Int) N.1) = true
  rw [h, s]; rfl
theorem ab_n {S : HS} {N : SN} {g : Int → Int} {k : Nat} (s : soB N (dysF S g k) (k : Int) N.1 = false) : abB S N g (k + 1) = false := by
  show (abB S N g k && soB N (dysF S g k) (k : Int) N.1) = false
  rw [s]; simp
set_option maxHeartbeats 4000000 in
set_option maxRecDepth 100000 in
theorem lp_X12_isSeen {Q : AO → HP → Prop} {h hb : HP} {S : HS} {f g0 : Int → Int} {N : SN} (Q0 : MAsk h S f) (R0 : rowOK S g0) (msh : mSe h 23 51 N) (hO : seO S N) (hQ1 : abB S N g0 31 = true → ∀ h2, (∃ g, MG h h2 S f g) → hA h2 25 = hA hb 25 → (∀ x : Int, 0 ≤ x → x < sNt S → hA h2 24 x = dysF S g0 10 (29 + x)) → Q (.inl (some (vi 1))) h2) (hQ0 : abB S N g0 31 = false → ∀ h2, (∃ g, MG h h2 S f g) → hA h2 25 = hA hb 25 → Q (.inl (some (vi 0))) h2) : ∀ (dd k : Nat) (hh : HP), k + dd = 31 → MG h hh S f (dysF S g0 k) → abB S N g0 k = true → hA hh 25 = hA hb 25 → (10 < k → (∀ x : Int, 0 ≤ x → x < sNt S → hA hh 24 x = dysF S g0 10 (29 + x))) → K mX12_isSeen GK (ZK Q 0 0) 0 0 2 [(1, vi (k : Int)), (0, vr 0)] [] hh := by
  intro dd
  induction dd with
  | zero =>
    intro k hh hk G ab e25 sn
    have hB := Q0.1.1
    have hNt := hB.1
    have hNp := hB.2.1
    have R := Q0.2.2.2.2
    have hT := R.1
    have hW := hT.1
    refine K_iload_n (dt_at dtX12_isSeen 2 rfl) rfl rfl ?_
    refine K_bipush (dt_at dtX12_isSeen 3 rfl) (by decide) ?_
    refine K_icmp_gt (tgt := 132) (dt_at dtX12_isSeen 4 rfl) (by decide) (by first | assumption | exact ⟨by omega, by omega⟩) (by first | assumption | exact ⟨by omega, by omega⟩) (fun c1 => ?_) (fun c1 => absurd c1 (by omega))
    refine K_iconst (dt_at dtX12_isSeen 80 rfl) ?_
    exact K_iret (dt_at dtX12_isSeen 81 rfl) rfl (by decide) (by decide) (by decide) (hQ1 (by rw [show 31 = k by omega]; exact ab) hh ⟨_, G⟩ e25 (sn (by omega)))
  | succ dd ih =>
    intro k hh hk G ab e25 sn
    have hB := Q0.1.1
    have hNt := hB.1
    have hNp := hB.2.1
    have R := Q0.2.2.2.2
    have hT := R.1
    have hW := hT.1
    obtain ⟨a1, a2, a3, a4, a5⟩ := dys_R hB R0 (n := k) (by omega)
    have ms : mSe hh 23 51 N := mSe_fr msh (G.2.1.2.2.1 0 51 rfl) (G.2.1.1 23 rfl)
    refine K_iload_n (dt_at dtX12_isSeen 2 rfl) rfl rfl ?_
    refine K_bipush (dt_at dtX12_isSeen 3 rfl) (by decide) ?_
    refine K_icmp_gt (tgt := 132) (dt_at dtX12_isSeen 4 rfl) (by decide) (by first | assumption | exact ⟨by omega, by omega⟩) (by first | assumption | exact ⟨by omega, by omega⟩) (fun c1 => absurd c1 (by omega)) (fun c1 => ?_)
    refine K_iconst (dt_at dtX12_isSeen 5 rfl) ?_
    refine K_istore_n (ls' := [(2, vi 0), (1, vi (k : Int)), (0, vr 0)]) (dt_at dtX12_isSeen 6 rfl) rfl (by decide) rfl ?_
    refine K_pk [0, 1, 2] rfl (li_X12_isSeen Q0 G ms hO a1.1 (by omega) N.1 0 (by omega) rfl (fun sk => ?_) (fun sk => hQ0 (abB_f (k := k + 1) (ab_n sk) 31 (by omega)) hh ⟨_, G⟩ e25))
    refine K_iload_n (dt_at dtX12_isSeen 54 rfl) rfl rfl ?_
    refine K_bipush (dt_at dtX12_isSeen 55 rfl) (by decide) ?_
    refine K_icmp_ne (tgt := 120) (dt_at dtX12_isSeen 56 rfl) (by decide) (by first | assumption | exact ⟨by omega, by omega⟩) (by first | assumption | exact ⟨by omega, by omega⟩) (fun c2 => ?_) (fun c2 => ?_)
    · have k10 : k ≠ 10 := by omega
      refine K_aload_n (dt_at dtX12_isSeen 75 rfl) rfl rfl ?_
      refine K_bipush (dt_at dtX12_isSeen 76 rfl) (by decide) ?_
      refine K_callV (M' := mX12_dayGoes) (a := 0) (ci := 12) (As := [vi 77]) (st := []) (dt_at dtX12_isSeen 77 rfl) (sX12_dayGoes (MG_D7 G) a1 a2 a3 a4 (MG_49 G)) (show TT 0 = (0, 12) from rfl) rfl wL_X12_334 vX12_dayGoes rfl npX12_dayGoes (by decide) (by decide) (Nat.le_of_ble_eq_true rfl) (by decide) (by decide) GK_E (fun v9 hc1 hq => ?_) (fun E h9 hq => by cases hq.1)
      have hqq2 := hq
      obtain ⟨e9q2, dq2, ⟨lq2, mq2⟩, iq2⟩ := hqq2
      have Gq2 : MG h hc1 S f (dysF S g0 (k + 1)) := MG_day G dq2
      cases e9q2
      show K mX12_isSeen _ _ 0 0 126 [(1, vi (k : Int)), (0, vr 0)] [] hc1
      refine K_iinc (ls' := [(1, vi ((k : Int) + 1)), (0, vr 0)]) (dt_at dtX12_isSeen 78 rfl) rfl (by decide) rfl ?_
      refine K_goto (tgt := 2) (dt_at dtX12_isSeen 79 rfl) (by decide) ?_
      exact K_pk [0, 1] rfl (ih (k + 1) hc1 (by omega) Gq2 (ab_t ab sk) (by rw [dq2.2.2.1.1.1 25 (by decide) (by decide) (by decide)]; exact e25) (fun z => by rw [dq2.2.2.1.1.1 24 (by decide) (by decide) (by decide)]; exact (sn (by omega))))
    · refine K_iconst (dt_at dtX12_isSeen 57 rfl) ?_
      refine K_istore_n (ls' := [(2, vi 0), (1, vi (k : Int)), (0, vr 0)]) (dt_at dtX12_isSeen 58 rfl) rfl (by decide) rfl ?_
      have k10 : k = 10 := by omega
      refine K_pk [0, 1, 2] rfl (ls_X12_isSeen (hb := hb) (r := (dysF S g0 k)) Q0 a1.1 (fun h2 G2 e2 s2 => ?_) (sNt S) 0 hh (by omega) G e25 (fun x x0 x1 => by omega))
      refine K_aload_n (dt_at dtX12_isSeen 75 rfl) rfl rfl ?_
      refine K_bipush (dt_at dtX12_isSeen 76 rfl) (by decide) ?_
      refine K_callV (M' := mX12_dayGoes) (a := 0) (ci := 12) (As := [vi 77]) (st := []) (dt_at dtX12_isSeen 77 rfl) (sX12_dayGoes (MG_D7 G2) a1 a2 a3 a4 (MG_49 G2)) (show TT 0 = (0, 12) from rfl) rfl wL_X12_334 vX12_dayGoes rfl npX12_dayGoes (by decide) (by decide) (Nat.le_of_ble_eq_true rfl) (by decide) (by decide) GK_E (fun v9 hc3 hq => ?_) (fun E h9 hq => by cases hq.1)
      have hqq4 := hq
      obtain ⟨e9q4, dq4, ⟨lq4, mq4⟩, iq4⟩ := hqq4
      have Gq4 : MG h hc3 S f (dysF S g0 (k + 1)) := MG_day G2 dq4
      cases e9q4
      show K mX12_isSeen _ _ 0 0 126 [(1, vi (k : Int)), (0, vr 0)] [] hc3
      refine K_iinc (ls' := [(1, vi ((k : Int) + 1)), (0, vr 0)]) (dt_at dtX12_isSeen 78 rfl) rfl (by decide) rfl ?_
      refine K_goto (tgt := 2) (dt_at dtX12_isSeen 79 rfl) (by decide) ?_
      exact K_pk [0, 1] rfl (ih (k + 1) hc3 (by omega) Gq4 (ab_t ab sk) (by rw [dq4.2.2.1.1.1 25 (by decide) (by decide) (by decide)]; exact e2) (fun z => by rw [dq4.2.2.1.1.1 24 (by decide) (by decide) (by decide)]; exact (fun x x0 x1 => by have := s2 x x0 x1; rw [k10] at this; exact this)))
set_option maxHeartbeats 4000000 in
set_option maxRecDepth 100000 in
theorem sX12_isSeen {h hh : HP} {S : HS} {f g0 : Int → Int} {N : SN} (Q0 : MAsk h S f) (G : MG h hh S f g0) (R0 : rowOK S g0) (msh : mSe h 23 51 N) (hO : seO S N) : SpecK mX12_isSeen [vr 0] hh (fun o h' => (seB S N g0 = true → o = .inl (some (vi 1)) ∧ (∃ g, MG h h' S f g) ∧ hA h' 25 = hA hh 25 ∧ (∀ x : Int, 0 ≤ x → x < sNt S → hA h' 24 x = dysF S g0 10 (29 + x))) ∧ (seB S N g0 = false → o = .inl (some (vi 0)) ∧ (∃ g, MG h h' S f g) ∧ hA h' 25 = hA hh 25)) := by
  refine Spec_of (by decide +kernel) (Nat.le_of_ble_eq_true rfl) ?_
  refine K_iconst (dt_at dtX12_isSeen 0 rfl) ?_
  refine K_istore_n (ls' := [(1, vi 0), (0, vr 0)]) (dt_at dtX12_isSeen 1 rfl) rfl (by decide) rfl ?_
  exact K_pk [0, 1] rfl (lp_X12_isSeen (hb := hh) Q0 R0 msh hO (fun e h2 g2 e2 s2 => ⟨fun _ => ⟨rfl, g2, e2, s2⟩, fun z => by rw [seB_31 hO, e] at z; cases z⟩) (fun e h2 g2 e2 => ⟨fun z => (by rw [seB_31 hO, e] at z; cases z), fun _ => ⟨rfl, g2, e2⟩⟩) 31 0 hh (by omega) G rfl rfl (fun z => by omega))
theorem sX12_isSeen_t {h hh : HP} {S : HS} {f g0 : Int → Int} {N : SN} (Q0 : MAsk h S f) (G : MG h hh S f g0) (R0 : rowOK S g0) (msh : mSe h 23 51 N) (hO : seO S N) (e : seB S N g0 = true) : SpecK mX12_isSeen [vr 0] hh (fun o h' => o = .inl (some (vi 1)) ∧ (∃ g, MG h h' S f g) ∧ hA h' 25 = hA hh 25 ∧ (∀ x : Int, 0 ≤ x → x < sNt S → hA h' 24 x = dysF S g0 10 (29 + x))) := Spec_mono (fun o h' q => q.1 e) (sX12_isSeen Q0 G R0 msh hO)
theorem sX12_isSeen_f {h hh : HP} {S : HS} {f g0 : Int → Int} {N : SN} (Q0 : MAsk h S f) (G : MG h hh S f g0) (R0 : rowOK S g0) (msh : mSe h 23 51 N) (hO : seO S N) (e : seB S N g0 = false) : SpecK mX12_isSeen [vr 0] hh (fun o h' => o = .inl (some (vi 0)) ∧ (∃ g, MG h h' S f g) ∧ hA h' 25 = hA hh 25) := Spec_mono (fun o h' q => q.2 e) (sX12_isSeen Q0 G R0 msh hO)
def mX12_isGuess : MI := (yX12_isGuess, cX12_isGuess, 3, (some .boolean), rmK 8 0)
def tX12_isGuess : List (Nat × Instr × Nat) := [(0, .iload_n 1, 1), (1, .bipush 10, 2), (3, .idiv, 1), (4, .istore_n 2, 1), (5, .aload_n 0, 1), (6, .getfield 72, 3), (9, .bipush 63, 2), (11, .iload_n 2, 1), (12, .iadd, 1), (13, .iaload, 1), (14, .iload_n 1, 1), (15, .bipush 10, 2), (17, .irem, 1), (18, .if_icmp .ne 5, 3), (21, .iconst 0, 1), (22, .ireturn, 1), (23, .aload_n 0, 1), (24, .invokevirtual 397, 3), (27, .aload_n 0, 1), (28, .getfield 72, 3), (31, .sipush 140, 3), (34, .iload_n 2, 1), (35, .iadd, 1), (36, .iload_n 1, 1), (37, .bipush 10, 2), (39, .irem, 1), (40, .iastore, 1), (41, .aload_n 0, 1), (42, .invokevirtual 429, 3), (45, .ireturn, 1)]
theorem dtX12_isGuess : tX12_isGuess.all (fun q => decide (decode cX12_isGuess q.1 = .ok (q.2.1, q.2.2))) = true := by decide +kernel
theorem npX12_isGuess : (parseMethodDescriptor (mY mX12_isGuess).desc).map (fun d => d.parameters.length) = some 1 := by decide +kernel
theorem vX12_isGuess : mV mX12_isGuess := ⟨wI_X12_isGuess, wS_X12_isGuess, wN_X12, wC_X12_isGuess, by decide +kernel, by decide +kernel⟩
set_option maxHeartbeats 4000000 in
set_option maxRecDepth 100000 in
theorem sX12_isGuess_t {h hh : HP} {S : HS} {f g : Int → Int} {N : SN} {y : Nat} (Q0 : MAsk h S f) (G : MG h hh S f g) (msh : mSe h 23 51 N) (hO : seO S N) (hy : y < 10 * sNp S) (ne : f (15 + ((y / 10 : Nat) : Int)) ≠ ((y % 10 : Nat) : Int)) (e : seB S N (gsR f y) = true) : SpecK mX12_isGuess [vr 0, vi (y : Int)] hh (fun o h' => o = .inl (some (vi 1)) ∧ (∃ g, MG h h' S f g) ∧ hA h' 25 = hA hh 25 ∧ (∀ x : Int, 0 ≤ x → x < sNt S → hA h' 24 x = dysF S (gsR f y) 10 (29 + x))) := by
  refine Spec_of (by decide +kernel) (Nat.le_of_ble_eq_true rfl) ?_
  have hB := Q0.1.1
  have hNt := hB.1
  have hNp := hB.2.1
  have R := Q0.2.2.2.2
  have hT := R.1
  have hW := hT.1
  have ed : (y : Int).tdiv 10 = ((y / 10 : Nat) : Int) := by rw [Int.tdiv_eq_ediv_of_nonneg (by omega)]; omega
  have em : (y : Int).tmod 10 = ((y % 10 : Nat) : Int) := by rw [Int.tmod_eq_emod_of_nonneg (by omega)]; omega
  have wf := (hW.2 ((y / 10 : Nat) : Int) (by omega) (by omega)).2.2.1
  refine K_iload_n (dt_at dtX12_isGuess 0 rfl) rfl rfl ?_
  refine K_bipush (dt_at dtX12_isGuess 1 rfl) (by decide) ?_
  refine K_idiv (dt_at dtX12_isGuess 2 rfl) (by first | assumption | exact ⟨by omega, by omega⟩) (by first | assumption | exact ⟨by omega, by omega⟩) (by omega) ?_
  rw [ed]
  refine K_istore_n (ls' := [(2, vi ((y / 10 : Nat) : Int)), (0, vr 0), (1, vi (y : Int))]) (dt_at dtX12_isGuess 3 rfl) rfl (by decide) rfl ?_
  refine K_aload_n (dt_at dtX12_isGuess 4 rfl) rfl rfl ?_
  refine K_get (a := 0) (ci := 12) (k := 42) (v := vr 18) (dt_at dtX12_isGuess 5 rfl) (show TT 0 = (0, 12) from rfl) rfl (by decide) wF_X12_72 rfl ?_
  refine K_bipush (dt_at dtX12_isGuess 6 rfl) (by decide) ?_
  refine K_iload_n (dt_at dtX12_isGuess 7 rfl) rfl rfl ?_
  refine K_iadd (dt_at dtX12_isGuess 8 rfl) ?_
  refine K_iald (dt_at dtX12_isGuess 9 rfl) (show TT 18 = (1, 154) from rfl) (by omega) (by omega) ?_
  rw [show hA hh 18 (63 + ((y / 10 : Nat) : Int)) = (f (15 + ((y / 10 : Nat) : Int))) from RV_f (MG_D0 G).2.2.2 (p := ((y / 10 : Nat) : Int)) (by omega) (by omega)]
  refine K_iload_n (dt_at dtX12_isGuess 10 rfl) rfl rfl ?_
  refine K_bipush (dt_at dtX12_isGuess 11 rfl) (by decide) ?_
  refine K_irem (dt_at dtX12_isGuess 12 rfl) (by first | assumption | exact ⟨by omega, by omega⟩) (by first | assumption | exact ⟨by omega, by omega⟩) (by omega) ?_
  rw [em]
  refine K_icmp_ne (tgt := 23) (dt_at dtX12_isGuess 13 rfl) (by decide) (by first | assumption | exact ⟨by omega, by omega⟩) (by first | assumption | exact ⟨by omega, by omega⟩) (fun c1 => ?_) (fun c1 => absurd c1 (by omega))
  refine K_aload_n (dt_at dtX12_isGuess 16 rfl) rfl rfl ?_
  refine K_callV (M' := mX12_tries) (a := 0) (ci := 12) (As := []) (st := []) (dt_at dtX12_isGuess 17 rfl) (sX12_tries) (show TT 0 = (0, 12) from rfl) rfl wL_X12_397 vX12_tries rfl npX12_tries (by decide) (by decide) (Nat.le_of_ble_eq_true rfl) (by decide) (by decide) GK_E (fun v9 hc1 hq => ?_) (fun E h9 hq => by cases hq.1)
  have hqq2 := hq
  obtain ⟨e9q2, t1q2, t2q2, t3q2, t4q2⟩ := hqq2
  have Gq2 := MG_try G t1q2 t2q2 t3q2 t4q2
  cases e9q2
  show K mX12_isGuess _ _ 0 0 27 [(2, vi ((y / 10 : Nat) : Int)), (0, vr 0), (1, vi (y : Int))] [] hc1
  refine K_aload_n (dt_at dtX12_isGuess 18 rfl) rfl rfl ?_
  refine K_get (a := 0) (ci := 12) (k := 42) (v := vr 18) (dt_at dtX12_isGuess 19 rfl) (show TT 0 = (0, 12) from rfl) rfl (by decide) wF_X12_72 rfl ?_
  refine K_sipush (dt_at dtX12_isGuess 20 rfl) (by decide) ?_
  refine K_iload_n (dt_at dtX12_isGuess 21 rfl) rfl rfl ?_
  refine K_iadd (dt_at dtX12_isGuess 22 rfl) ?_
  refine K_iload_n (dt_at dtX12_isGuess 23 rfl) rfl rfl ?_
  refine K_bipush (dt_at dtX12_isGuess 24 rfl) (by decide) ?_
  refine K_irem (dt_at dtX12_isGuess 25 rfl) (by first | assumption | exact ⟨by omega, by omega⟩) (by first | assumption | exact ⟨by omega, by omega⟩) (by omega) ?_
  rw [em]
  refine K_iast (dt_at dtX12_isGuess 26 rfl) (show TT 18 = (1, 154) from rfl) (by omega) (by omega) ?_
  obtain ⟨hu3, eu3⟩ : ∃ z, z = sA hc1 18 (140 + ((y / 10 : Nat) : Int)) ((y % 10 : Nat) : Int) := ⟨_, rfl⟩
  rw [← eu3]
  obtain ⟨au3, fu3, iu3, ru3⟩ := sA_fx eu3
  have Gu3 : MG h hu3 S f (upI f (15 + ((y / 10 : Nat) : Int)) ((y % 10 : Nat) : Int)) := MG_up Gq2 (j := 15 + ((y / 10 : Nat) : Int)) (by omega) (by omega) (by rw [pm_f (by omega)]; omega) eu3
  refine K_aload_n (dt_at dtX12_isGuess 27 rfl) rfl rfl ?_
  refine K_callV (M' := mX12_isSeen) (a := 0) (ci := 12) (As := []) (st := []) (dt_at dtX12_isGuess 28 rfl) (sX12_isSeen_t Q0 Gu3 (gsR_R hB R hy) msh hO (by assumption)) (show TT 0 = (0, 12) from rfl) rfl wL_X12_429 vX12_isSeen rfl npX12_isSeen (by decide) (by decide) (Nat.le_of_ble_eq_true rfl) (by decide) (by decide) GK_E (fun v9 hc4 hq => ?_) (fun E h9 hq => by cases hq.1)
  have hqq5 := hq
  obtain ⟨e9q5, geq5, x1q5, x2q5⟩ := hqq5
  cases e9q5
  show K mX12_isGuess _ _ 0 0 45 [(2, vi ((y / 10 : Nat) : Int)), (0, vr 0), (1, vi (y : Int))] [vi 1] hc4
  exact K_iret (dt_at dtX12_isGuess 29 rfl) rfl (by decide) (by decide) (by decide) ⟨rfl, geq5, by rw [x1q5, (fu3 25 (by omega)), (t2q2 25 (by omega))], x2q5⟩
set_option maxHeartbeats 4000000 in
set_option maxRecDepth 100000 in
theorem sX12_isGuess_f {h hh : HP} {S : HS} {f g : Int → Int} {N : SN} {y : Nat} (Q0 : MAsk h S f) (G : MG h hh S f g) (msh : mSe h 23 51 N) (hO : seO S N) (hy : y < 10 * sNp S) (ne : f (15 + ((y / 10 : Nat) : Int)) ≠ ((y % 10 : Nat) : Int)) (e : seB S N (gsR f y) = false) : SpecK mX12_isGuess [vr 0, vi (y : Int)] hh (fun o h' => o = .inl (some (vi 0)) ∧ (∃ g, MG h h' S f g) ∧ hA h' 25 = hA hh 25) := by
  refine Spec_of (by decide +kernel) (Nat.le_of_ble_eq_true rfl) ?_
  have hB := Q0.1.1
  have hNt := hB.1
  have hNp := hB.2.1
  have R := Q0.2.2.2.2
  have hT := R.1
  have hW := hT.1
  have ed : (y : Int).tdiv 10 = ((y / 10 : Nat) : Int) := by rw [Int.tdiv_eq_ediv_of_nonneg (by omega)]; omega
  have em : (y : Int).tmod 10 = ((y % 10 : Nat) : Int) := by rw [Int.tmod_eq_emod_of_nonneg (by omega)]; omega
  have wf := (hW.2 ((y / 10 : Nat) : Int) (by omega) (by omega)).2.2.1
  refine K_iload_n (dt_at dtX12_isGuess 0 rfl) rfl rfl ?_
  refine K_bipush (dt_at dtX12_isGuess 1 rfl) (by decide) ?_
  refine K_idiv (dt_at dtX12_isGuess 2 rfl) (by first | assumption | exact ⟨by omega, by omega⟩) (by first | assumption | exact ⟨by omega, by omega⟩) (by omega) ?_
  rw [ed]
  refine K_istore_n (ls' := [(2, vi ((y / 10 : Nat) : Int)), (0, vr 0), (1, vi (y : Int))]) (dt_at dtX12_isGuess 3 rfl) rfl (by decide) rfl ?_
  refine K_aload_n (dt_at dtX12_isGuess 4 rfl) rfl rfl ?_
  refine K_get (a := 0) (ci := 12) (k := 42) (v := vr 18) (dt_at dtX12_isGuess 5 rfl) (show TT 0 = (0, 12) from rfl) rfl (by decide) wF_X12_72 rfl ?_
  refine K_bipush (dt_at dtX12_isGuess 6 rfl) (by decide) ?_
  refine K_iload_n (dt_at dtX12_isGuess 7 rfl) rfl rfl ?_
  refine K_iadd (dt_at dtX12_isGuess 8 rfl) ?_
  refine K_iald (dt_at dtX12_isGuess 9 rfl) (show TT 18 = (1, 154) from rfl) (by omega) (by omega) ?_
  rw [show hA hh 18 (63 + ((y / 10 : Nat) : Int)) = (f (15 + ((y / 10 : Nat) : Int))) from RV_f (MG_D0 G).2.2.2 (p := ((y / 10 : Nat) : Int)) (by omega) (by omega)]
  refine K_iload_n (dt_at dtX12_isGuess 10 rfl) rfl rfl ?_
  refine K_bipush (dt_at dtX12_isGuess 11 rfl) (by decide) ?_
  refine K_irem (dt_at dtX12_isGuess 12 rfl) (by first | assumption | exact ⟨by omega, by omega⟩) (by first | assumption | exact ⟨by omega, by omega⟩) (by omega) ?_
  rw [em]
  refine K_icmp_ne (tgt := 23) (dt_at dtX12_isGuess 13 rfl) (by decide) (by first | assumption | exact ⟨by omega, by omega⟩) (by first | assumption | exact ⟨by omega, by omega⟩) (fun c1 => ?_) (fun c1 => absurd c1 (by omega))
  refine K_aload_n (dt_at dtX12_isGuess 16 rfl) rfl rfl ?_
  refine K_callV (M' := mX12_tries) (a := 0) (ci := 12) (As := []) (st := []) (dt_at dtX12_isGuess 17 rfl) (sX12_tries) (show TT 0 = (0, 12) from rfl) rfl wL_X12_397 vX12_tries rfl npX12_tries (by decide) (by decide) (Nat.le_of_ble_eq_true rfl) (by decide) (by decide) GK_E (fun v9 hc1 hq => ?_) (fun E h9 hq => by cases hq.1)
  have hqq2 := hq
  obtain ⟨e9q2, t1q2, t2q2, t3q2, t4q2⟩ := hqq2
  have Gq2 := MG_try G t1q2 t2q2 t3q2 t4q2
  cases e9q2
  show K mX12_isGuess _ _ 0 0 27 [(2, vi ((y / 10 : Nat) : Int)), (0, vr 0), (1, vi (y : Int))] [] hc1
  refine K_aload_n (dt_at dtX12_isGuess 18 rfl) rfl rfl ?_
  refine K_get (a := 0) (ci := 12) (k := 42) (v := vr 18) (dt_at dtX12_isGuess 19 rfl) (show TT 0 = (0, 12) from rfl) rfl (by decide) wF_X12_72 rfl ?_
  refine K_sipush (dt_at dtX12_isGuess 20 rfl) (by decide) ?_
  refine K_iload_n (dt_at dtX12_isGuess 21 rfl) rfl rfl ?_
  refine K_iadd (dt_at dtX12_isGuess 22 rfl) ?_
  refine K_iload_n (dt_at dtX12_isGuess 23 rfl) rfl rfl ?_
  refine K_bipush (dt_at dtX12_isGuess 24 rfl) (by decide) ?_
  refine K_irem (dt_at dtX12_isGuess 25 rfl) (by first | assumption | exact ⟨by omega, by omega⟩) (by first | assumption | exact ⟨by omega, by omega⟩) (by omega) ?_
  rw [em]
  refine K_iast (dt_at dtX12_isGuess 26 rfl) (show TT 18 = (1, 154) from rfl) (by omega) (by omega) ?_
  obtain ⟨hu3, eu3⟩ : ∃ z, z = sA hc1 18 (140 + ((y / 10 : Nat) : Int)) ((y % 10 : Nat) : Int) := ⟨_, rfl⟩
  rw [← eu3]
  obtain ⟨au3, fu3, iu3, ru3⟩ := sA_fx eu3
  have Gu3 : MG h hu3 S f (upI f (15 + ((y / 10 : Nat) : Int)) ((y % 10 : Nat) : Int)) := MG_up Gq2 (j := 15 + ((y / 10 : Nat) : Int)) (by omega) (by omega) (by rw [pm_f (by omega)]; omega) eu3
  refine K_aload_n (dt_at dtX12_isGuess 27 rfl) rfl rfl ?_
  refine K_callV (M' := mX12_isSeen) (a := 0) (ci := 12) (As := []) (st := []) (dt_at dtX12_isGuess 28 rfl) (sX12_isSeen_f Q0 Gu3 (gsR_R hB R hy) msh hO (by assumption)) (show TT 0 = (0, 12) from rfl) rfl wL_X12_429 vX12_isSeen rfl npX12_isSeen (by decide) (by decide) (Nat.le_of_ble_eq_true rfl) (by decide) (by decide) GK_E (fun v9 hc4 hq => ?_) (fun E h9 hq => by cases hq.1)
  have hqq5 := hq
  obtain ⟨e9q5, geq5, x1q5⟩ := hqq5
  cases e9q5
  show K mX12_isGuess _ _ 0 0 45 [(2, vi ((y / 10 : Nat) : Int)), (0, vr 0), (1, vi (y : Int))] [vi 0] hc4
  exact K_iret (dt_at dtX12_isGuess 29 rfl) rfl (by decide) (by decide) (by decide) ⟨rfl, geq5, by rw [x1q5, (fu3 25 (by omega)), (t2q2 25 (by omega))]⟩
set_option maxHeartbeats 4000000 in
set_option maxRecDepth 100000 in
theorem sX12_isGuess_n {h hh : HP} {S : HS} {f g : Int → Int} {N : SN} {y : Nat} (Q0 : MAsk h S f) (G : MG h hh S f g) (msh : mSe h 23 51 N) (hO : seO S N) (hy : y < 10 * sNp S) (ne : f (15 + ((y / 10 : Nat) : Int)) = ((y % 10 : Nat) : Int)) : SpecK mX12_isGuess [vr 0, vi (y : Int)] hh (fun o h' => o = .inl (some (vi 0)) ∧ (∃ g, MG h h' S f g) ∧ hA h' 25 = hA hh 25) := by
  refine Spec_of (by decide +kernel) (Nat.le_of_ble_eq_true rfl) ?_
  have hB := Q0.1.1
  have hNt := hB.1
  have hNp := hB.2.1
  have R := Q0.2.2.2.2
  have hT := R.1
  have hW := hT.1
  have ed : (y : Int).tdiv 10 = ((y / 10 : Nat) : Int) := by rw [Int.tdiv_eq_ediv_of_nonneg (by omega)]; omega
  have em : (y : Int).tmod 10 = ((y % 10 : Nat) : Int) := by rw [Int.tmod_eq_emod_of_nonneg (by omega)]; omega
  have wf := (hW.2 ((y / 10 : Nat) : Int) (by omega) (by omega)).2.2.1
  refine K_iload_n (dt_at dtX12_isGuess 0 rfl) rfl rfl ?_
  refine K_bipush (dt_at dtX12_isGuess 1 rfl) (by decide) ?_
  refine K_idiv (dt_at dtX12_isGuess 2 rfl) (by first | assumption | exact ⟨by omega, by omega⟩) (by first | assumption | exact ⟨by omega, by omega⟩) (by omega) ?_
  rw [ed]
  refine K_istore_n (ls' := [(2, vi ((y / 10 : Nat) : Int)), (0, vr 0), (1, vi (y : Int))]) (dt_at dtX12_isGuess 3 rfl) rfl (by decide) rfl ?_
  refine K_aload_n (dt_at dtX12_isGuess 4 rfl) rfl rfl ?_
  refine K_get (a := 0) (ci := 12) (k := 42) (v := vr 18) (dt_at dtX12_isGuess 5 rfl) (show TT 0 = (0, 12) from rfl) rfl (by decide) wF_X12_72 rfl ?_
  refine K_bipush (dt_at dtX12_isGuess 6 rfl) (by decide) ?_
  refine K_iload_n (dt_at dtX12_isGuess 7 rfl) rfl rfl ?_
  refine K_iadd (dt_at dtX12_isGuess 8 rfl) ?_
  refine K_iald (dt_at dtX12_isGuess 9 rfl) (show TT 18 = (1, 154) from rfl) (by omega) (by omega) ?_
  rw [show hA hh 18 (63 + ((y / 10 : Nat) : Int)) = (f (15 + ((y / 10 : Nat) : Int))) from RV_f (MG_D0 G).2.2.2 (p := ((y / 10 : Nat) : Int)) (by omega) (by omega)]
  refine K_iload_n (dt_at dtX12_isGuess 10 rfl) rfl rfl ?_
  refine K_bipush (dt_at dtX12_isGuess 11 rfl) (by decide) ?_
  refine K_irem (dt_at dtX12_isGuess 12 rfl) (by first | assumption | exact ⟨by omega, by omega⟩) (by first | assumption | exact ⟨by omega, by omega⟩) (by omega) ?_
  rw [em]
  refine K_icmp_ne (tgt := 23) (dt_at dtX12_isGuess 13 rfl) (by decide) (by first | assumption | exact ⟨by omega, by omega⟩) (by first | assumption | exact ⟨by omega, by omega⟩) (fun c1 => absurd c1 (by omega)) (fun c1 => ?_)
  refine K_iconst (dt_at dtX12_isGuess 14 rfl) ?_
  exact K_iret (dt_at dtX12_isGuess 15 rfl) rfl (by decide) (by decide) (by decide) ⟨rfl, ⟨g, G⟩, rfl⟩
theorem sX12_isGuess_F {h hh : HP} {S : HS} {f g : Int → Int} {N : SN} {y : Nat} (Q0 : MAsk h S f) (G : MG h hh S f g) (msh : mSe h 23 51 N) (hO : seO S N) (hy : y < 10 * sNp S) (e : gsB S N f y = false) : SpecK mX12_isGuess [vr 0, vi (y : Int)] hh (fun o h' => o = .inl (some (vi 0)) ∧ (∃ g, MG h h' S f g) ∧ hA h' 25 = hA hh 25) := by
  by_cases ne : f (15 + ((y / 10 : Nat) : Int)) = ((y % 10 : Nat) : Int)
  · exact sX12_isGuess_n Q0 G msh hO hy ne
  · refine sX12_isGuess_f Q0 G msh hO hy ne ?_
    unfold gsB at e
    rw [decide_eq_true ne, Bool.true_and] at e
    exact e
theorem sX12_isGuess_T {h hh : HP} {S : HS} {f g : Int → Int} {N : SN} {y : Nat} (Q0 : MAsk h S f) (G : MG h hh S f g) (msh : mSe h 23 51 N) (hO : seO S N) (hy : y < 10 * sNp S) (e : gsB S N f y = true) : SpecK mX12_isGuess [vr 0, vi (y : Int)] hh (fun o h' => o = .inl (some (vi 1)) ∧ (∃ g, MG h h' S f g) ∧ hA h' 25 = hA hh 25 ∧ (∀ x : Int, 0 ≤ x → x < sNt S → hA h' 24 x = dysF S (gsR f y) 10 (29 + x))) := by
  unfold gsB at e
  rw [Bool.and_eq_true, decide_eq_true_eq] at e
  exact sX12_isGuess_t Q0 G msh hO hy e.1 e.2
