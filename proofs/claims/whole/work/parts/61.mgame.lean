theorem cr_R {S : HS} {B : Int} {g : Int → Int} {q : Int} {n : Nat} (hB : hsW S) (hw : wH S g) (hk : pkP S g) (hn : n ≤ 7) : wH S (crF g q n) ∧ pkP S (crF g q n) ∧ (∀ i, 22 ≤ i → crF g q n i = g i) ∧ B = B := by
  have hNp := hB.2.1
  have hi : ∀ i, 22 ≤ i → crF g q n i = g i := fun i h => if_neg (by omega)
  refine ⟨⟨fun c a b => ?_, fun c t a b d e z => ?_⟩, fun p a b => ?_, hi, rfl⟩
  · rw [wgF_cg (g := g) (sNt S) (fun t t0 t1 => hi _ (by omega))]; exact hw.1 c a b
  · rw [hi _ (by omega)]; exact hw.2 c t a b d e z
  · rw [hi _ (by omega)]; exact hk p a b
theorem crX_R {S : HS} {B : Int} {g : Int → Int} {q : Int} {n x : Nat} (hB : hsW S) (hw : wH S g) (hk : pkP S g) (hn : n ≤ 7) : wH S (crX g q n x) ∧ pkP S (crX g q n x) ∧ (∀ i, 22 ≤ i → crX g q n x i = g i) ∧ B = B := by
  unfold crX
  by_cases e : x = 1
  · rw [if_pos e]; exact cr_R hB hw hk hn
  · rw [if_neg e]; exact ⟨hw, hk, fun _ _ => rfl, rfl⟩
theorem crX_cm (f : Int → Int) (p q : Int) (n x y : Nat) (hn : n ≤ 7) : crX (crX f p n x) q n y = crX (crX f q n y) p n x := by
  have h : ∀ (g : Int → Int) (a : Int) (i : Int), 22 ≤ i → crF g a n i = g i := fun g a i h => if_neg (by omega)
  have c : crF (crF f p n) q n = crF (crF f q n) p n := by
    funext i
    show (if 15 ≤ i ∧ i < 15 + (n : Int) ∧ crF f p n (i + 7) = q then 0 else crF f p n i) = (if 15 ≤ i ∧ i < 15 + (n : Int) ∧ crF f q n (i + 7) = p then 0 else crF f q n i)
    by_cases z : 15 ≤ i ∧ i < 15 + (n : Int)
    · rw [h f p (i + 7) (by omega), h f q (i + 7) (by omega)]
      unfold crF
      by_cases a : f (i + 7) = q
      · by_cases b : f (i + 7) = p
        · rw [if_pos ⟨z.1, z.2, a⟩, if_pos ⟨z.1, z.2, b⟩]
        · rw [if_pos ⟨z.1, z.2, a⟩, if_neg (fun w => b w.2.2), if_pos ⟨z.1, z.2, a⟩]
      · by_cases b : f (i + 7) = p
        · rw [if_neg (fun w => a w.2.2), if_pos ⟨z.1, z.2, b⟩, if_pos ⟨z.1, z.2, b⟩]
        · rw [if_neg (fun w => a w.2.2), if_neg (fun w => b w.2.2), if_neg (fun w => b w.2.2), if_neg (fun w => a w.2.2)]
    · unfold crF
      rw [if_neg (fun w => z ⟨w.1, w.2.1⟩), if_neg (fun w => z ⟨w.1, w.2.1⟩), if_neg (fun w => z ⟨w.1, w.2.1⟩), if_neg (fun w => z ⟨w.1, w.2.1⟩)]
  unfold crX
  by_cases a : x = 1
  · by_cases b : y = 1
    · rw [if_pos a, if_pos b, if_pos b, if_pos a]; exact c
    · rw [if_pos a, if_neg b, if_neg b, if_pos a]
  · by_cases b : y = 1
    · rw [if_neg a, if_pos b, if_neg a]
    · rw [if_neg a, if_neg b, if_neg a]
def gaR (S : HS) (f : Int → Int) (p q : Int) (x y : Nat) : Int → Int := dysF S (crX (crX f p (sNp S) x) q (sNp S) y) 5
def gaV (S : HS) (f : Int → Int) (p q : Int) (x y : Nat) : Int := gnF S (gaR S f p q x y) p x
theorem ga_1 (S : HS) (f : Int → Int) (p q : Int) (k : Nat) : gm1 S f p q k = gaV S f p q (k / 2) (k % 2) := rfl
theorem ga_2 {S : HS} (hB : hsW S) (f : Int → Int) (p q : Int) (k : Nat) : gm2 S f p q k = gaV S f q p (k % 2) (k / 2) := by
  unfold gm2 gaV gmR gaR
  rw [crX_cm f p q (sNp S) (k / 2) (k % 2) hB.2.1]
theorem xor2 : ∀ k : Fin 4, (k.val ^^^ 2) / 2 = 1 - k.val / 2 ∧ (k.val ^^^ 2) % 2 = k.val % 2 ∧ (k.val ^^^ 1) / 2 = k.val / 2 ∧ (k.val ^^^ 1) % 2 = 1 - k.val % 2 := by decide
theorem first_eq {P : Nat → Bool} {c : Nat → Int} (hc : ∀ k, 0 ≤ c k) (n : Nat) : itN (fun k v => if v = -1 ∧ P k = true then c k else v) (-1) n = srN (fun k => if P k = true then some (c k) else none) (-1) 0 n := by
  have key : ∀ (d k : Nat), k + d = n → itN (fun k v => if v = -1 ∧ P k = true then c k else v) (-1) k = -1 → itN (fun k v => if v = -1 ∧ P k = true then c k else v) (-1) n = srN (fun k => if P k = true then some (c k) else none) (-1) k d := by
    intro d
    induction d with
    | zero => intro k hk e; rw [show n = k by omega, e]; rfl
    | succ d ih =>
      intro k hk e
      cases z : P k
      · rw [srN_n (g := fun k => if P k = true then some (c k) else none) (if_neg (by rw [z]; decide))]
        refine ih (k + 1) (by omega) ?_
        show (if itN (fun k v => if v = -1 ∧ P k = true then c k else v) (-1) k = -1 ∧ P k = true then c k else itN (fun k v => if v = -1 ∧ P k = true then c k else v) (-1) k) = -1
        rw [z, if_neg (by rintro ⟨-, w⟩; cases w)]; exact e
      · rw [srN_s (g := fun k => if P k = true then some (c k) else none) (if_pos z)]
        have st : ∀ m : Nat, itN (fun k v => if v = -1 ∧ P k = true then c k else v) (-1) (k + 1 + m) = c k := by
          intro m
          induction m with
          | zero =>
            show (if itN (fun k v => if v = -1 ∧ P k = true then c k else v) (-1) k = -1 ∧ P k = true then c k else _) = c k
            rw [if_pos ⟨e, z⟩]
          | succ m im =>
            show (if itN (fun k v => if v = -1 ∧ P k = true then c k else v) (-1) (k + 1 + m) = -1 ∧ P (k + 1 + m) = true then c (k + 1 + m) else itN (fun k v => if v = -1 ∧ P k = true then c k else v) (-1) (k + 1 + m)) = c k
            rw [im, if_neg (by rintro ⟨w, -⟩; have := hc k; omega)]
        have := st d
        rw [show k + 1 + d = n by omega] at this
        exact this
  exact key n 0 (by omega) rfl
def mX12_isCross : MI := (yX12_isCross, cX12_isCross, 3, none, rmK 1 0)
def tX12_isCross : List (Nat × Instr × Nat) := [(0, .iconst 0, 1), (1, .istore_n 2, 1), (2, .iload_n 2, 1), (3, .aload_n 0, 1), (4, .getfield 270, 3), (7, .if_icmp .ge 33, 3), (10, .aload_n 0, 1), (11, .getfield 72, 3), (14, .bipush 70, 2), (16, .iload_n 2, 1), (17, .iadd, 1), (18, .iaload, 1), (19, .iload_n 1, 1), (20, .if_icmp .ne 14, 3), (23, .aload_n 0, 1), (24, .getfield 72, 3), (27, .sipush 140, 3), (30, .iload_n 2, 1), (31, .iadd, 1), (32, .iconst 0, 1), (33, .iastore, 1), (34, .iinc 2 1, 3), (37, .goto (-35), 3), (40, .return_, 1)]
theorem dtX12_isCross : tX12_isCross.all (fun q => decide (decode cX12_isCross q.1 = .ok (q.2.1, q.2.2))) = true := by decide +kernel
theorem npX12_isCross : (parseMethodDescriptor (mY mX12_isCross).desc).map (fun d => d.parameters.length) = some 1 := by decide +kernel
theorem vX12_isCross : mV mX12_isCross := ⟨wI_X12_isCross, wS_X12_isCross, wN_X12, wC_X12_isCross, by decide +kernel, by decide +kernel⟩
set_option maxHeartbeats 4000000 in
set_option maxRecDepth 100000 in
theorem lp_X12_isCross {Q : AO → HP → Prop} {h : HP} {S : HS} {f g : Int → Int} {p : Int} (Q0 : MAsk h S f) (hp : i32 p) (hg : ∀ i, 22 ≤ i → i < 29 → g i = f i) (hQ : ∀ h2, MG h h2 S f (crF g p (sNp S)) → Q (.inl none) h2) : ∀ (dd k : Nat) (hh : HP), k + dd = sNp S → MG h hh S f (crF g p k) → K mX12_isCross GK (ZK Q 0 0) 0 0 2 [(2, vi (k : Int)), (0, vr 0), (1, vi p)] [] hh := by
  intro dd
  induction dd with
  | zero =>
    intro k hh hk G
    have hB := Q0.1.1
    have hNt := hB.1
    have hNp := hB.2.1
    have R := Q0.2.2.2.2
    have hT := R.1
    have hW := hT.1
    have ek : k = sNp S := by omega
    refine K_iload_n (dt_at dtX12_isCross 2 rfl) rfl rfl ?_
    refine K_aload_n (dt_at dtX12_isCross 3 rfl) rfl rfl ?_
    refine K_get (a := 0) (ci := 12) (k := 2) (v := vi (sNp S : Int)) (dt_at dtX12_isCross 4 rfl) (show TT 0 = (0, 12) from rfl) rfl (by decide) wF_X12_270 (by show vi (hI hh 0 2) = vi (sNp S : Int); rw [(MD_np (MG_D0 G))]) ?_
    refine K_icmp_ge (tgt := 40) (dt_at dtX12_isCross 5 rfl) (by decide) (by first | assumption | exact ⟨by omega, by omega⟩) (by first | assumption | exact ⟨by omega, by omega⟩) (fun c1 => ?_) (fun c1 => absurd c1 (by omega))
    exact K_vret (dt_at dtX12_isCross 23 rfl) rfl (by decide) (by decide) (hQ hh (by rw [ek] at G; exact G))
  | succ dd ih =>
    intro k hh hk G
    have hB := Q0.1.1
    have hNt := hB.1
    have hNp := hB.2.1
    have R := Q0.2.2.2.2
    have hT := R.1
    have hW := hT.1
    have wk := (hW.2 (k : Int) (by omega) (by omega)).2.2.2
    refine K_iload_n (dt_at dtX12_isCross 2 rfl) rfl rfl ?_
    refine K_aload_n (dt_at dtX12_isCross 3 rfl) rfl rfl ?_
    refine K_get (a := 0) (ci := 12) (k := 2) (v := vi (sNp S : Int)) (dt_at dtX12_isCross 4 rfl) (show TT 0 = (0, 12) from rfl) rfl (by decide) wF_X12_270 (by show vi (hI hh 0 2) = vi (sNp S : Int); rw [(MD_np (MG_D0 G))]) ?_
    refine K_icmp_ge (tgt := 40) (dt_at dtX12_isCross 5 rfl) (by decide) (by first | assumption | exact ⟨by omega, by omega⟩) (by first | assumption | exact ⟨by omega, by omega⟩) (fun c1 => absurd c1 (by omega)) (fun c1 => ?_)
    refine K_aload_n (dt_at dtX12_isCross 6 rfl) rfl rfl ?_
    refine K_get (a := 0) (ci := 12) (k := 42) (v := vr 18) (dt_at dtX12_isCross 7 rfl) (show TT 0 = (0, 12) from rfl) rfl (by decide) wF_X12_72 rfl ?_
    refine K_bipush (dt_at dtX12_isCross 8 rfl) (by decide) ?_
    refine K_iload_n (dt_at dtX12_isCross 9 rfl) rfl rfl ?_
    refine K_iadd (dt_at dtX12_isCross 10 rfl) ?_
    refine K_iald (dt_at dtX12_isCross 11 rfl) (show TT 18 = (1, 154) from rfl) (by omega) (by omega) ?_
    rw [show hA hh 18 (70 + (k : Int)) = (f (22 + (k : Int))) from RV_k (MG_D0 G).2.2.2 (p := (k : Int)) (by omega) (by omega)]
    refine K_iload_n (dt_at dtX12_isCross 12 rfl) rfl rfl ?_
    refine K_icmp_ne (tgt := 34) (dt_at dtX12_isCross 13 rfl) (by decide) (by first | assumption | exact ⟨by omega, by omega⟩) (by first | assumption | exact ⟨by omega, by omega⟩) (fun c2 => ?_) (fun c2 => ?_)
    · refine K_iinc (ls' := [(2, vi ((k : Int) + 1)), (0, vr 0), (1, vi p)]) (dt_at dtX12_isCross 21 rfl) rfl (by decide) rfl ?_
      refine K_goto (tgt := 2) (dt_at dtX12_isCross 22 rfl) (by decide) ?_
      exact K_pk [0, 1, 2] rfl (ih (k + 1) hh (by omega) (by rw [← crF_f (by rw [hg _ (by omega) (by omega)]; assumption)]; exact G))
    · refine K_aload_n (dt_at dtX12_isCross 14 rfl) rfl rfl ?_
      refine K_get (a := 0) (ci := 12) (k := 42) (v := vr 18) (dt_at dtX12_isCross 15 rfl) (show TT 0 = (0, 12) from rfl) rfl (by decide) wF_X12_72 rfl ?_
      refine K_sipush (dt_at dtX12_isCross 16 rfl) (by decide) ?_
      refine K_iload_n (dt_at dtX12_isCross 17 rfl) rfl rfl ?_
      refine K_iadd (dt_at dtX12_isCross 18 rfl) ?_
      refine K_iconst (dt_at dtX12_isCross 19 rfl) ?_
      refine K_iast (dt_at dtX12_isCross 20 rfl) (show TT 18 = (1, 154) from rfl) (by omega) (by omega) ?_
      obtain ⟨hu1, eu1⟩ : ∃ z, z = sA hh 18 (140 + (k : Int)) 0 := ⟨_, rfl⟩
      rw [← eu1]
      obtain ⟨au1, fu1, iu1, ru1⟩ := sA_fx eu1
      have Gu1 : MG h hu1 S f (upI (crF g p k) (15 + (k : Int)) 0) := MG_up G (j := 15 + (k : Int)) (by omega) (by omega) (by rw [pm_f (by omega)]; omega) eu1
      refine K_iinc (ls' := [(2, vi ((k : Int) + 1)), (0, vr 0), (1, vi p)]) (dt_at dtX12_isCross 21 rfl) rfl (by decide) rfl ?_
      refine K_goto (tgt := 2) (dt_at dtX12_isCross 22 rfl) (by decide) ?_
      exact K_pk [0, 1, 2] rfl (ih (k + 1) hu1 (by omega) (by rw [← crF_t (by rw [hg _ (by omega) (by omega)]; assumption)]; exact Gu1))
set_option maxHeartbeats 4000000 in
set_option maxRecDepth 100000 in
theorem sX12_isCross {h hh : HP} {S : HS} {f g : Int → Int} {p : Int} (Q0 : MAsk h S f) (hp : i32 p) (hg : ∀ i, 22 ≤ i → i < 29 → g i = f i) (G : MG h hh S f g) : SpecK mX12_isCross [vr 0, vi p] hh (fun o h' => o = .inl none ∧ MG h h' S f (crF g p (sNp S))) := by
  refine Spec_of (by decide +kernel) (Nat.le_of_ble_eq_true rfl) ?_
  refine K_iconst (dt_at dtX12_isCross 0 rfl) ?_
  refine K_istore_n (ls' := [(2, vi 0), (0, vr 0), (1, vi p)]) (dt_at dtX12_isCross 1 rfl) rfl (by decide) rfl ?_
  exact K_pk [0, 1, 2] rfl (lp_X12_isCross Q0 hp hg (fun h2 q => ⟨rfl, q⟩) (sNp S) 0 hh (by omega) (by rw [crF_0]; exact G))
def mX12_gains : MI := (yX12_gains, cX12_gains, 7, (some .int), rmK 8 0)
def tX12_gains : List (Nat × Instr × Nat) := [(0, .aload_n 0, 1), (1, .invokevirtual 397, 3), (4, .iload_n 3, 1), (5, .iconst 1, 1), (6, .if_icmp .ne 8, 3), (9, .aload_n 0, 1), (10, .iload_n 1, 1), (11, .invokevirtual 435, 3), (14, .iload 4, 2), (16, .iconst 1, 1), (17, .if_icmp .ne 8, 3), (20, .aload_n 0, 1), (21, .iload_n 2, 1), (22, .invokevirtual 435, 3), (25, .aload_n 0, 1), (26, .iconst 5, 1), (27, .invokevirtual 400, 3), (30, .iconst 0, 1), (31, .istore 5, 2), (33, .iconst 0, 1), (34, .istore 6, 2), (36, .iload 6, 2), (38, .aload_n 0, 1), (39, .getfield 270, 3), (42, .if_icmp .ge 40, 3), (45, .iload 5, 2), (47, .aload_n 0, 1), (48, .getfield 72, 3), (51, .bipush 70, 2), (53, .iload 6, 2), (55, .iadd, 1), (56, .iaload, 1), (57, .iload_n 1, 1), (58, .if_icmp .ne 14, 3), (61, .aload_n 0, 1), (62, .bipush 77, 2), (64, .iload 6, 2), (66, .invokevirtual 319, 3), (69, .goto 4, 3), (72, .iconst 0, 1), (73, .iadd, 1), (74, .istore 5, 2), (76, .iinc 6 1, 3), (79, .goto (-43), 3), (82, .iload 5, 2), (84, .iconst 3, 1), (85, .idiv, 1), (86, .iconst 4, 1), (87, .iload_n 3, 1), (88, .imul, 1), (89, .iadd, 1), (90, .ireturn, 1)]
theorem dtX12_gains : tX12_gains.all (fun q => decide (decode cX12_gains q.1 = .ok (q.2.1, q.2.2))) = true := by decide +kernel
theorem npX12_gains : (parseMethodDescriptor (mY mX12_gains).desc).map (fun d => d.parameters.length) = some 4 := by decide +kernel
theorem vX12_gains : mV mX12_gains := ⟨wI_X12_gains, wS_X12_gains, wN_X12, wC_X12_gains, by decide +kernel, by decide +kernel⟩
set_option maxHeartbeats 4000000 in
set_option maxRecDepth 100000 in
theorem lp_X12_gains_00 {h hh : HP} {S : HS} {f : Int → Int} {p q : Int} (Q0 : MAsk h S f) (hp : 0 ≤ p ∧ p < sNp S) (hqt : 0 ≤ q ∧ q < sNp S) (G : MG h hh S f (gaR S f p q 0 0)) : ∀ (dd k : Nat), k + dd = sNp S → K mX12_gains GK (ZK (fun o h' => o = .inl (some (vi (gaV S f p q 0 0))) ∧ ∃ g, MG h h' S f g) 0 0) 0 0 36 [(6, vi (k : Int)), (5, vi (guF S (gaR S f p q 0 0) p k)), (0, vr 0), (1, vi p), (2, vi q), (3, vi 0), (4, vi 0)] [] hh := by
  intro dd
  induction dd with
  | zero =>
    intro k hk
    have hB := Q0.1.1
    have hNt := hB.1
    have hNp := hB.2.1
    have R := Q0.2.2.2.2
    have hT := R.1
    have hW := hT.1
    have xo := crX_ok (q := p) (n := sNp S) (x := 0) hT R.2.1 hNp hNp
    have xr := crX_R (B := 0) (q := p) (n := sNp S) (x := 0) hB R.2.2.2.1 R.2.2.2.2.2 hNp
    have yo := crX_ok (q := q) (n := sNp S) (x := 0) xo.1 xo.2.1 hNp hNp
    have yr := crX_R (B := 0) (q := q) (n := sNp S) (x := 0) hB xr.1 xr.2.1 hNp
    have d9 := R.2.2.1
    have o0 : crX (crX f p (sNp S) 0) q (sNp S) 0 0 = f 0 := by rw [yo.2.2, xo.2.2]
    have go := dysF_ok hB yo.1 yo.2.1 5 (by omega)
    have gl : ∀ i, 22 ≤ i → i < 29 → (gaR S f p q 0 0) i = f i := fun i i0 i1 => by unfold gaR; rw [dys_lo hB yo.1 yo.2.1 5 (by omega) i (Or.inr ⟨i0, i1⟩), yr.2.2.1 i i0, xr.2.2.1 i i0]
    have gT : rT 600 (gaR S f p q 0 0) := go.1
    have ek : k = sNp S := by omega
    have gb := guF_b (q := p) hB gT k (by omega)
    refine K_iload (dt_at dtX12_gains 21 rfl) rfl ?_
    refine K_aload_n (dt_at dtX12_gains 22 rfl) rfl rfl ?_
    refine K_get (a := 0) (ci := 12) (k := 2) (v := vi (sNp S : Int)) (dt_at dtX12_gains 23 rfl) (show TT 0 = (0, 12) from rfl) rfl (by decide) wF_X12_270 (by show vi (hI hh 0 2) = vi (sNp S : Int); rw [(MD_np (MG_D0 G))]) ?_
    refine K_icmp_ge (tgt := 82) (dt_at dtX12_gains 24 rfl) (by decide) (by first | assumption | exact ⟨by omega, by omega⟩) (by first | assumption | exact ⟨by omega, by omega⟩) (fun c1 => ?_) (fun c1 => absurd c1 (by omega))
    refine K_iload (dt_at dtX12_gains 44 rfl) rfl ?_
    refine K_iconst (dt_at dtX12_gains 45 rfl) ?_
    refine K_idiv (dt_at dtX12_gains 46 rfl) (by first | assumption | exact ⟨by omega, by omega⟩) (by first | assumption | exact ⟨by omega, by omega⟩) (by omega) ?_
    refine K_iconst (dt_at dtX12_gains 47 rfl) ?_
    refine K_iload_n (dt_at dtX12_gains 48 rfl) rfl rfl ?_
    refine K_imul (dt_at dtX12_gains 49 rfl) ?_
    refine K_iadd (dt_at dtX12_gains 50 rfl) ?_
    exact K_iret (dt_at dtX12_gains 51 rfl) rfl rfl (by decide) (by decide) ⟨by rw [ek]; rfl, ⟨_, G⟩⟩
  | succ dd ih =>
    intro k hk
    have hB := Q0.1.1
    have hNt := hB.1
    have hNp := hB.2.1
    have R := Q0.2.2.2.2
    have hT := R.1
    have hW := hT.1
    have xo := crX_ok (q := p) (n := sNp S) (x := 0) hT R.2.1 hNp hNp
    have xr := crX_R (B := 0) (q := p) (n := sNp S) (x := 0) hB R.2.2.2.1 R.2.2.2.2.2 hNp
    have yo := crX_ok (q := q) (n := sNp S) (x := 0) xo.1 xo.2.1 hNp hNp
    have yr := crX_R (B := 0) (q := q) (n := sNp S) (x := 0) hB xr.1 xr.2.1 hNp
    have d9 := R.2.2.1
    have o0 : crX (crX f p (sNp S) 0) q (sNp S) 0 0 = f 0 := by rw [yo.2.2, xo.2.2]
    have go := dysF_ok hB yo.1 yo.2.1 5 (by omega)
    have gl : ∀ i, 22 ≤ i → i < 29 → (gaR S f p q 0 0) i = f i := fun i i0 i1 => by unfold gaR; rw [dys_lo hB yo.1 yo.2.1 5 (by omega) i (Or.inr ⟨i0, i1⟩), yr.2.2.1 i i0, xr.2.2.1 i i0]
    have gT : rT 600 (gaR S f p q 0 0) := go.1
    have wk := (hW.2 (k : Int) (by omega) (by omega)).2.2.2
    refine K_iload (dt_at dtX12_gains 21 rfl) rfl ?_
    refine K_aload_n (dt_at dtX12_gains 22 rfl) rfl rfl ?_
    refine K_get (a := 0) (ci := 12) (k := 2) (v := vi (sNp S : Int)) (dt_at dtX12_gains 23 rfl) (show TT 0 = (0, 12) from rfl) rfl (by decide) wF_X12_270 (by show vi (hI hh 0 2) = vi (sNp S : Int); rw [(MD_np (MG_D0 G))]) ?_
    refine K_icmp_ge (tgt := 82) (dt_at dtX12_gains 24 rfl) (by decide) (by first | assumption | exact ⟨by omega, by omega⟩) (by first | assumption | exact ⟨by omega, by omega⟩) (fun c1 => absurd c1 (by omega)) (fun c1 => ?_)
    refine K_iload (dt_at dtX12_gains 25 rfl) rfl ?_
    refine K_aload_n (dt_at dtX12_gains 26 rfl) rfl rfl ?_
    refine K_get (a := 0) (ci := 12) (k := 42) (v := vr 18) (dt_at dtX12_gains 27 rfl) (show TT 0 = (0, 12) from rfl) rfl (by decide) wF_X12_72 rfl ?_
    refine K_bipush (dt_at dtX12_gains 28 rfl) (by decide) ?_
    refine K_iload (dt_at dtX12_gains 29 rfl) rfl ?_
    refine K_iadd (dt_at dtX12_gains 30 rfl) ?_
    refine K_iald (dt_at dtX12_gains 31 rfl) (show TT 18 = (1, 154) from rfl) (by omega) (by omega) ?_
    rw [show hA hh 18 (70 + (k : Int)) = (f (22 + (k : Int))) from RV_k (MG_D0 G).2.2.2 (p := (k : Int)) (by omega) (by omega)]
    refine K_iload_n (dt_at dtX12_gains 32 rfl) rfl rfl ?_
    refine K_icmp_ne (tgt := 72) (dt_at dtX12_gains 33 rfl) (by decide) (by first | assumption | exact ⟨by omega, by omega⟩) (by first | assumption | exact ⟨by omega, by omega⟩) (fun c2 => ?_) (fun c2 => ?_)
    · refine K_iconst (dt_at dtX12_gains 39 rfl) ?_
      refine K_iadd (dt_at dtX12_gains 40 rfl) ?_
      refine K_istore (ls' := [(5, vi ((guF S (gaR S f p q 0 0) p k) + 0)), (6, vi (k : Int)), (0, vr 0), (1, vi p), (2, vi q), (3, vi 0), (4, vi 0)]) (dt_at dtX12_gains 41 rfl) (by decide) rfl ?_
      refine K_iinc (ls' := [(6, vi ((k : Int) + 1)), (5, vi ((guF S (gaR S f p q 0 0) p k) + 0)), (0, vr 0), (1, vi p), (2, vi q), (3, vi 0), (4, vi 0)]) (dt_at dtX12_gains 42 rfl) rfl (by decide) rfl ?_
      refine K_goto (tgt := 36) (dt_at dtX12_gains 43 rfl) (by decide) ?_
      refine K_pk [0, 1, 2, 3, 4, 5, 6] (ls' := [(6, vi ((k : Int) + 1)), (5, vi ((guF S (gaR S f p q 0 0) p k) + 0)), (0, vr 0), (1, vi p), (2, vi q), (3, vi 0), (4, vi 0)]) rfl ?_
      exact K_cg (ls' := [(6, vi ((k + 1 : Nat) : Int)), (5, vi (guF S (gaR S f p q 0 0) p (k + 1))), (0, vr 0), (1, vi p), (2, vi q), (3, vi 0), (4, vi 0)]) (h' := hh) (by rw [guF_f (by rw [gl _ (by omega) (by omega)]; assumption), show (guF S (gaR S f p q 0 0) p k) + 0 = (guF S (gaR S f p q 0 0) p k) by omega]; rfl) (by rfl) (ih (k + 1) (by omega))
    · refine K_aload_n (dt_at dtX12_gains 34 rfl) rfl rfl ?_
      refine K_bipush (dt_at dtX12_gains 35 rfl) (by decide) ?_
      refine K_iload (dt_at dtX12_gains 36 rfl) rfl ?_
      refine K_callV (M' := mX12_useIn) (a := 0) (ci := 12) (As := [vi 77, vi (k : Int)]) (st := [vi (guF S (gaR S f p q 0 0) p k)]) (dt_at dtX12_gains 37 rfl) (sX12_useIn (MG_D7 G) gT.1 (by omega)) (show TT 0 = (0, 12) from rfl) rfl wL_X12_319 vX12_useIn rfl npX12_useIn (by decide) (by decide) (Nat.le_of_ble_eq_true rfl) (by decide) (by decide) GK_E (fun v9 h9 hq => ?_) (fun E h9 hq => by cases hq.1)
      obtain ⟨e9, e8⟩ := hq
      cases e9
      rw [e8]
      show K mX12_gains _ _ 0 0 69 [(6, vi (k : Int)), (5, vi (guF S (gaR S f p q 0 0) p k)), (0, vr 0), (1, vi p), (2, vi q), (3, vi 0), (4, vi 0)] [vi (sumF (sU S) (gaR S f p q 0 0) (k : Int) (sNt S)), vi (guF S (gaR S f p q 0 0) p k)] hh
      refine K_goto (tgt := 73) (dt_at dtX12_gains 38 rfl) (by decide) ?_
      refine K_iadd (dt_at dtX12_gains 40 rfl) ?_
      refine K_istore (ls' := [(5, vi ((guF S (gaR S f p q 0 0) p k) + (sumF (sU S) (gaR S f p q 0 0) (k : Int) (sNt S)))), (6, vi (k : Int)), (0, vr 0), (1, vi p), (2, vi q), (3, vi 0), (4, vi 0)]) (dt_at dtX12_gains 41 rfl) (by decide) rfl ?_
      refine K_iinc (ls' := [(6, vi ((k : Int) + 1)), (5, vi ((guF S (gaR S f p q 0 0) p k) + (sumF (sU S) (gaR S f p q 0 0) (k : Int) (sNt S)))), (0, vr 0), (1, vi p), (2, vi q), (3, vi 0), (4, vi 0)]) (dt_at dtX12_gains 42 rfl) rfl (by decide) rfl ?_
      refine K_goto (tgt := 36) (dt_at dtX12_gains 43 rfl) (by decide) ?_
      refine K_pk [0, 1, 2, 3, 4, 5, 6] (ls' := [(6, vi ((k : Int) + 1)), (5, vi ((guF S (gaR S f p q 0 0) p k) + (sumF (sU S) (gaR S f p q 0 0) (k : Int) (sNt S)))), (0, vr 0), (1, vi p), (2, vi q), (3, vi 0), (4, vi 0)]) rfl ?_
      exact K_cg (ls' := [(6, vi ((k + 1 : Nat) : Int)), (5, vi (guF S (gaR S f p q 0 0) p (k + 1))), (0, vr 0), (1, vi p), (2, vi q), (3, vi 0), (4, vi 0)]) (h' := hh) (by rw [guF_t (by rw [gl _ (by omega) (by omega)]; assumption)]; rfl) (by rfl) (ih (k + 1) (by omega))
set_option maxHeartbeats 4000000 in
set_option maxRecDepth 100000 in
theorem sX12_gains_00 {h hh : HP} {S : HS} {f g : Int → Int} {p q : Int} (Q0 : MAsk h S f) (hp : 0 ≤ p ∧ p < sNp S) (hqt : 0 ≤ q ∧ q < sNp S) (G : MG h hh S f g) : SpecK mX12_gains [vr 0, vi p, vi q, vi 0, vi 0] hh (fun o h' => o = .inl (some (vi (gaV S f p q 0 0))) ∧ ∃ g, MG h h' S f g) := by
  refine Spec_of (by decide +kernel) (Nat.le_of_ble_eq_true rfl) ?_
  have hB := Q0.1.1
  have hNt := hB.1
  have hNp := hB.2.1
  have R := Q0.2.2.2.2
  have hT := R.1
  have hW := hT.1
  have xo := crX_ok (q := p) (n := sNp S) (x := 0) hT R.2.1 hNp hNp
  have xr := crX_R (B := 0) (q := p) (n := sNp S) (x := 0) hB R.2.2.2.1 R.2.2.2.2.2 hNp
  have yo := crX_ok (q := q) (n := sNp S) (x := 0) xo.1 xo.2.1 hNp hNp
  have yr := crX_R (B := 0) (q := q) (n := sNp S) (x := 0) hB xr.1 xr.2.1 hNp
  have d9 := R.2.2.1
  have o0 : crX (crX f p (sNp S) 0) q (sNp S) 0 0 = f 0 := by rw [yo.2.2, xo.2.2]
  have go := dysF_ok hB yo.1 yo.2.1 5 (by omega)
  have gl : ∀ i, 22 ≤ i → i < 29 → (gaR S f p q 0 0) i = f i := fun i i0 i1 => by unfold gaR; rw [dys_lo hB yo.1 yo.2.1 5 (by omega) i (Or.inr ⟨i0, i1⟩), yr.2.2.1 i i0, xr.2.2.1 i i0]
  have gT : rT 600 (gaR S f p q 0 0) := go.1
  refine K_aload_n (dt_at dtX12_gains 0 rfl) rfl rfl ?_
  refine K_callV (M' := mX12_tries) (a := 0) (ci := 12) (As := []) (st := []) (dt_at dtX12_gains 1 rfl) (sX12_tries) (show TT 0 = (0, 12) from rfl) rfl wL_X12_397 vX12_tries rfl npX12_tries (by decide) (by decide) (Nat.le_of_ble_eq_true rfl) (by decide) (by decide) GK_E (fun v9 hc1 hq => ?_) (fun E h9 hq => by cases hq.1)
  have hqq2 := hq
  obtain ⟨e9q2, t1q2, t2q2, t3q2, t4q2⟩ := hqq2
  have Gq2 := MG_try G t1q2 t2q2 t3q2 t4q2
  cases e9q2
  show K mX12_gains _ _ 0 0 4 [(0, vr 0), (1, vi p), (2, vi q), (3, vi 0), (4, vi 0)] [] hc1
  refine K_iload_n (dt_at dtX12_gains 2 rfl) rfl rfl ?_
  refine K_iconst (dt_at dtX12_gains 3 rfl) ?_
  refine K_icmp_ne (tgt := 14) (dt_at dtX12_gains 4 rfl) (by decide) (by first | assumption | exact ⟨by omega, by omega⟩) (by first | assumption | exact ⟨by omega, by omega⟩) (fun c1 => ?_) (fun c1 => absurd c1 (by omega))
  refine K_iload (dt_at dtX12_gains 8 rfl) rfl ?_
  refine K_iconst (dt_at dtX12_gains 9 rfl) ?_
  refine K_icmp_ne (tgt := 25) (dt_at dtX12_gains 10 rfl) (by decide) (by first | assumption | exact ⟨by omega, by omega⟩) (by first | assumption | exact ⟨by omega, by omega⟩) (fun c2 => ?_) (fun c2 => absurd c2 (by omega))
  have Gc : MG h hc1 S f (crX (crX f p (sNp S) 0) q (sNp S) 0) := Gq2
  refine K_aload_n (dt_at dtX12_gains 14 rfl) rfl rfl ?_
  refine K_iconst (dt_at dtX12_gains 15 rfl) ?_
  refine K_callV (M' := mX12_daysGo) (a := 0) (ci := 12) (As := [vi 5]) (st := []) (dt_at dtX12_gains 16 rfl) (sX12_daysGo (n := 5) (MG_D7 Gc) yo.1 yo.2.1 yr.1 yr.2.1 (MG_49 Gc) (by omega) (by omega)) (show TT 0 = (0, 12) from rfl) rfl wL_X12_400 vX12_daysGo rfl npX12_daysGo (by decide) (by decide) (Nat.le_of_ble_eq_true rfl) (by decide) (by decide) GK_E (fun v9 hc3 hq => ?_) (fun E h9 hq => by cases hq.1)
  have hqq4 := hq
  obtain ⟨e9q4, dq4, iq4⟩ := hqq4
  have Gq4 : MG h hc3 S f (gaR S f p q 0 0) := MG_day Gc dq4
  cases e9q4
  show K mX12_gains _ _ 0 0 30 [(0, vr 0), (1, vi p), (2, vi q), (3, vi 0), (4, vi 0)] [] hc3
  refine K_iconst (dt_at dtX12_gains 17 rfl) ?_
  refine K_istore (ls' := [(5, vi 0), (0, vr 0), (1, vi p), (2, vi q), (3, vi 0), (4, vi 0)]) (dt_at dtX12_gains 18 rfl) (by decide) rfl ?_
  refine K_iconst (dt_at dtX12_gains 19 rfl) ?_
  refine K_istore (ls' := [(6, vi 0), (5, vi 0), (0, vr 0), (1, vi p), (2, vi q), (3, vi 0), (4, vi 0)]) (dt_at dtX12_gains 20 rfl) (by decide) rfl ?_
  exact K_pk [0, 1, 2, 3, 4, 5, 6] rfl (lp_X12_gains_00 Q0 hp hqt Gq4 (sNp S) 0 (by omega))
set_option maxHeartbeats 4000000 in
set_option maxRecDepth 100000 in
theorem lp_X12_gains_01 {h hh : HP} {S : HS} {f : Int → Int} {p q : Int} (Q0 : MAsk h S f) (hp : 0 ≤ p ∧ p < sNp S) (hqt : 0 ≤ q ∧ q < sNp S) (G : MG h hh S f (gaR S f p q 0 1)) : ∀ (dd k : Nat), k + dd = sNp S → K mX12_gains GK (ZK (fun o h' => o = .inl (some (vi (gaV S f p q 0 1))) ∧ ∃ g, MG h h' S f g) 0 0) 0 0 36 [(6, vi (k : Int)), (5, vi (guF S (gaR S f p q 0 1) p k)), (0, vr 0), (1, vi p), (2, vi q), (3, vi 0), (4, vi 1)] [] hh := by
  intro dd
  induction dd with
  | zero =>
    intro k hk
    have hB := Q0.1.1
    have hNt := hB.1
    have hNp := hB.2.1
    have R := Q0.2.2.2.2
    have hT := R.1
    have hW := hT.1
    have xo := crX_ok (q := p) (n := sNp S) (x := 0) hT R.2.1 hNp hNp
    have xr := crX_R (B := 0) (q := p) (n := sNp S) (x := 0) hB R.2.2.2.1 R.2.2.2.2.2 hNp
    have yo := crX_ok (q := q) (n := sNp S) (x := 1) xo.1 xo.2.1 hNp hNp
    have yr := crX_R (B := 0) (q := q) (n := sNp S) (x := 1) hB xr.1 xr.2.1 hNp
    have d9 := R.2.2.1
    have o0 : crX (crX f p (sNp S) 0) q (sNp S) 1 0 = f 0 := by rw [yo.2.2, xo.2.2]
    have go := dysF_ok hB yo.1 yo.2.1 5 (by omega)
    have gl : ∀ i, 22 ≤ i → i < 29 → (gaR S f p q 0 1) i = f i := fun i i0 i1 => by unfold gaR; rw [dys_lo hB yo.1 yo.2.1 5 (by omega) i (Or.inr ⟨i0, i1⟩), yr.2.2.1 i i0, xr.2.2.1 i i0]
    have gT : rT 600 (gaR S f p q 0 1) := go.1
    have ek : k = sNp S := by omega
    have gb := guF_b (q := p) hB gT k (by omega)
    refine K_iload (dt_at dtX12_gains 21 rfl) rfl ?_
    refine K_aload_n (dt_at dtX12_gains 22 rfl) rfl rfl ?_
    refine K_get (a := 0) (ci := 12) (k := 2) (v := vi (sNp S : Int)) (dt_at dtX12_gains 23 rfl) (show TT 0 = (0, 12) from rfl) rfl (by decide) wF_X12_270 (by show vi (hI hh 0 2) = vi (sNp S : Int); rw [(MD_np (MG_D0 G))]) ?_
    refine K_icmp_ge (tgt := 82) (dt_at dtX12_gains 24 rfl) (by decide) (by first | assumption | exact ⟨by omega, by omega⟩) (by first | assumption | exact ⟨by omega, by omega⟩) (fun c1 => ?_) (fun c1 => absurd c1 (by omega))
    refine K_iload (dt_at dtX12_gains 44 rfl) rfl ?_
    refine K_iconst (dt_at dtX12_gains 45 rfl) ?_
    refine K_idiv (dt_at dtX12_gains 46 rfl) (by first | assumption | exact ⟨by omega, by omega⟩) (by first | assumption | exact ⟨by omega, by omega⟩) (by omega) ?_
    refine K_iconst (dt_at dtX12_gains 47 rfl) ?_
    refine K_iload_n (dt_at dtX12_gains 48 rfl) rfl rfl ?_
    refine K_imul (dt_at dtX12_gains 49 rfl) ?_
    refine K_iadd (dt_at dtX12_gains 50 rfl) ?_
    exact K_iret (dt_at dtX12_gains 51 rfl) rfl rfl (by decide) (by decide) ⟨by rw [ek]; rfl, ⟨_, G⟩⟩
  | succ dd ih =>
    intro k hk
    have hB := Q0.1.1
    have hNt := hB.1
    have hNp := hB.2.1
    have R := Q0.2.2.2.2
    have hT := R.1
    have hW := hT.1
    have xo := crX_ok (q := p) (n := sNp S) (x := 0) hT R.2.1 hNp hNp
    have xr := crX_R (B := 0) (q := p) (n := sNp S) (x := 0) hB R.2.2.2.1 R.2.2.2.2.2 hNp
    have yo := crX_ok (q := q) (n := sNp S) (x := 1) xo.1 xo.2.1 hNp hNp
    have yr := crX_R (B := 0) (q := q) (n := sNp S) (x := 1) hB xr.1 xr.2.1 hNp
    have d9 := R.2.2.1
    have o0 : crX (crX f p (sNp S) 0) q (sNp S) 1 0 = f 0 := by rw [yo.2.2, xo.2.2]
    have go := dysF_ok hB yo.1 yo.2.1 5 (by omega)
    have gl : ∀ i, 22 ≤ i → i < 29 → (gaR S f p q 0 1) i = f i := fun i i0 i1 => by unfold gaR; rw [dys_lo hB yo.1 yo.2.1 5 (by omega) i (Or.inr ⟨i0, i1⟩), yr.2.2.1 i i0, xr.2.2.1 i i0]
    have gT : rT 600 (gaR S f p q 0 1) := go.1
    have wk := (hW.2 (k : Int) (by omega) (by omega)).2.2.2
    refine K_iload (dt_at dtX12_gains 21 rfl) rfl ?_
    refine K_aload_n (dt_at dtX12_gains 22 rfl) rfl rfl ?_
    refine K_get (a := 0) (ci := 12) (k := 2) (v := vi (sNp S : Int)) (dt_at dtX12_gains 23 rfl) (show TT 0 = (0, 12) from rfl) rfl (by decide) wF_X12_270 (by show vi (hI hh 0 2) = vi (sNp S : Int); rw [(MD_np (MG_D0 G))]) ?_
    refine K_icmp_ge (tgt := 82) (dt_at dtX12_gains 24 rfl) (by decide) (by first | assumption | exact ⟨by omega, by omega⟩) (by first | assumption | exact ⟨by omega, by omega⟩) (fun c1 => absurd c1 (by omega)) (fun c1 => ?_)
    refine K_iload (dt_at dtX12_gains 25 rfl) rfl ?_
    refine K_aload_n (dt_at dtX12_gains 26 rfl) rfl rfl ?_
    refine K_get (a := 0) (ci := 12) (k := 42) (v := vr 18) (dt_at dtX12_gains 27 rfl) (show TT 0 = (0, 12) from rfl) rfl (by decide) wF_X12_72 rfl ?_
    refine K_bipush (dt_at dtX12_gains 28 rfl) (by decide) ?_
    refine K_iload (dt_at dtX12_gains 29 rfl) rfl ?_
    refine K_iadd (dt_at dtX12_gains 30 rfl) ?_
    refine K_iald (dt_at dtX12_gains 31 rfl) (show TT 18 = (1, 154) from rfl) (by omega) (by omega) ?_
    rw [show hA hh 18 (70 + (k : Int)) = (f (22 + (k : Int))) from RV_k (MG_D0 G).2.2.2 (p := (k : Int)) (by omega) (by omega)]
    refine K_iload_n (dt_at dtX12_gains 32 rfl) rfl rfl ?_
    refine K_icmp_ne (tgt := 72) (dt_at dtX12_gains 33 rfl) (by decide) (by first | assumption | exact ⟨by omega, by omega⟩) (by first | assumption | exact ⟨by omega, by omega⟩) (fun c2 => ?_) (fun c2 => ?_)
    · refine K_iconst (dt_at dtX12_gains 39 rfl) ?_
      refine K_iadd (dt_at dtX12_gains 40 rfl) ?_
      refine K_istore (ls' := [(5, vi ((guF S (gaR S f p q 0 1) p k) + 0)), (6, vi (k : Int)), (0, vr 0), (1, vi p), (2, vi q), (3, vi 0), (4, vi 1)]) (dt_at dtX12_gains 41 rfl) (by decide) rfl ?_
      refine K_iinc (ls' := [(6, vi ((k : Int) + 1)), (5, vi ((guF S (gaR S f p q 0 1) p k) + 0)), (0, vr 0), (1, vi p), (2, vi q), (3, vi 0), (4, vi 1)]) (dt_at dtX12_gains 42 rfl) rfl (by decide) rfl ?_
      refine K_goto (tgt := 36) (dt_at dtX12_gains 43 rfl) (by decide) ?_
      refine K_pk [0, 1, 2, 3, 4, 5, 6] (ls' := [(6, vi ((k : Int) + 1)), (5, vi ((guF S (gaR S f p q 0 1) p k) + 0)), (0, vr 0), (1, vi p), (2, vi q), (3, vi 0), (4, vi 1)]) rfl ?_
      exact K_cg (ls' := [(6, vi ((k + 1 : Nat) : Int)), (5, vi (guF S (gaR S f p q 0 1) p (k + 1))), (0, vr 0), (1, vi p), (2, vi q), (3, vi 0), (4, vi 1)]) (h' := hh) (by rw [guF_f (by rw [gl _ (by omega) (by omega)]; assumption), show (guF S (gaR S f p q 0 1) p k) + 0 = (guF S (gaR S f p q 0 1) p k) by omega]; rfl) (by rfl) (ih (k + 1) (by omega))
    · refine K_aload_n (dt_at dtX12_gains 34 rfl) rfl rfl ?_
      refine K_bipush (dt_at dtX12_gains 35 rfl) (by decide) ?_
      refine K_iload (dt_at dtX12_gains 36 rfl) rfl ?_
      refine K_callV (M' := mX12_useIn) (a := 0) (ci := 12) (As := [vi 77, vi (k : Int)]) (st := [vi (guF S (gaR S f p q 0 1) p k)]) (dt_at dtX12_gains 37 rfl) (sX12_useIn (MG_D7 G) gT.1 (by omega)) (show TT 0 = (0, 12) from rfl) rfl wL_X12_319 vX12_useIn rfl npX12_useIn (by decide) (by decide) (Nat.le_of_ble_eq_true rfl) (by decide) (by decide) GK_E (fun v9 h9 hq => ?_) (fun E h9 hq => by cases hq.1)
      obtain ⟨e9, e8⟩ := hq
      cases e9
      rw [e8]
      show K mX12_gains _ _ 0 0 69 [(6, vi (k : Int)), (5, vi (guF S (gaR S f p q 0 1) p k)), (0, vr 0), (1, vi p), (2, vi q), (3, vi 0), (4, vi 1)] [vi (sumF (sU S) (gaR S f p q 0 1) (k : Int) (sNt S)), vi (guF S (gaR S f p q 0 1) p k)] hh
      refine K_goto (tgt := 73) (dt_at dtX12_gains 38 rfl) (by decide) ?_
      refine K_iadd (dt_at dtX12_gains 40 rfl) ?_
      refine K_istore (ls' := [(5, vi ((guF S (gaR S f p q 0 1) p k) + (sumF (sU S) (gaR S f p q 0 1) (k : Int) (sNt S)))), (6, vi (k : Int)), (0, vr 0), (1, vi p), (2, vi q), (3, vi 0), (4, vi 1)]) (dt_at dtX12_gains 41 rfl) (by decide) rfl ?_
      refine K_iinc (ls' := [(6, vi ((k : Int) + 1)), (5, vi ((guF S (gaR S f p q 0 1) p k) + (sumF (sU S) (gaR S f p q 0 1) (k : Int) (sNt S)))), (0, vr 0), (1, vi p), (2, vi q), (3, vi 0), (4, vi 1)]) (dt_at dtX12_gains 42 rfl) rfl (by decide) rfl ?_
      refine K_goto (tgt := 36) (dt_at dtX12_gains 43 rfl) (by decide) ?_
      refine K_pk [0, 1, 2, 3, 4, 5, 6] (ls' := [(6, vi ((k : Int) + 1)), (5, vi ((guF S (gaR S f p q 0 1) p k) + (sumF (sU S) (gaR S f p q 0 1) (k : Int) (sNt S)))), (0, vr 0), (1, vi p), (2, vi q), (3, vi 0), (4, vi 1)]) rfl ?_
      exact K_cg (ls' := [(6, vi ((k + 1 : Nat) : Int)), (5, vi (guF S (gaR S f p q 0 1) p (k + 1))), (0, vr 0), (1, vi p), (2, vi q), (3, vi 0), (4, vi 1)]) (h' := hh) (by rw [guF_t (by rw [gl _ (by omega) (by omega)]; assumption)]; rfl) (by rfl) (ih (k + 1) (by omega))
set_option maxHeartbeats 4000000 in
set_option maxRecDepth 100000 in
theorem sX12_gains_01 {h hh : HP} {S : HS} {f g : Int → Int} {p q : Int} (Q0 : MAsk h S f) (hp : 0 ≤ p ∧ p < sNp S) (hqt : 0 ≤ q ∧ q < sNp S) (G : MG h hh S f g) : SpecK mX12_gains [vr 0, vi p, vi q, vi 0, vi 1] hh (fun o h' => o = .inl (some (vi (gaV S f p q 0 1))) ∧ ∃ g, MG h h' S f g) := by
  refine Spec_of (by decide +kernel) (Nat.le_of_ble_eq_true rfl) ?_
  have hB := Q0.1.1
  have hNt := hB.1
  have hNp := hB.2.1
  have R := Q0.2.2.2.2
  have hT := R.1
  have hW := hT.1
  have xo := crX_ok (q := p) (n := sNp S) (x := 0) hT R.2.1 hNp hNp
  have xr := crX_R (B := 0) (q := p) (n := sNp S) (x := 0) hB R.2.2.2.1 R.2.2.2.2.2 hNp
  have yo := crX_ok (q := q) (n := sNp S) (x := 1) xo.1 xo.2.1 hNp hNp
  have yr := crX_R (B := 0) (q := q) (n := sNp S) (x := 1) hB xr.1 xr.2.1 hNp
  have d9 := R.2.2.1
  have o0 : crX (crX f p (sNp S) 0) q (sNp S) 1 0 = f 0 := by rw [yo.2.2, xo.2.2]
  have go := dysF_ok hB yo.1 yo.2.1 5 (by omega)
  have gl : ∀ i, 22 ≤ i → i < 29 → (gaR S f p q 0 1) i = f i := fun i i0 i1 => by unfold gaR; rw [dys_lo hB yo.1 yo.2.1 5 (by omega) i (Or.inr ⟨i0, i1⟩), yr.2.2.1 i i0, xr.2.2.1 i i0]
  have gT : rT 600 (gaR S f p q 0 1) := go.1
  refine K_aload_n (dt_at dtX12_gains 0 rfl) rfl rfl ?_
  refine K_callV (M' := mX12_tries) (a := 0) (ci := 12) (As := []) (st := []) (dt_at dtX12_gains 1 rfl) (sX12_tries) (show TT 0 = (0, 12) from rfl) rfl wL_X12_397 vX12_tries rfl npX12_tries (by decide) (by decide) (Nat.le_of_ble_eq_true rfl) (by decide) (by decide) GK_E (fun v9 hc1 hq => ?_) (fun E h9 hq => by cases hq.1)
  have hqq2 := hq
  obtain ⟨e9q2, t1q2, t2q2, t3q2, t4q2⟩ := hqq2
  have Gq2 := MG_try G t1q2 t2q2 t3q2 t4q2
  cases e9q2
  show K mX12_gains _ _ 0 0 4 [(0, vr 0), (1, vi p), (2, vi q), (3, vi 0), (4, vi 1)] [] hc1
  refine K_iload_n (dt_at dtX12_gains 2 rfl) rfl rfl ?_
  refine K_iconst (dt_at dtX12_gains 3 rfl) ?_
  refine K_icmp_ne (tgt := 14) (dt_at dtX12_gains 4 rfl) (by decide) (by first | assumption | exact ⟨by omega, by omega⟩) (by first | assumption | exact ⟨by omega, by omega⟩) (fun c1 => ?_) (fun c1 => absurd c1 (by omega))
  refine K_iload (dt_at dtX12_gains 8 rfl) rfl ?_
  refine K_iconst (dt_at dtX12_gains 9 rfl) ?_
  refine K_icmp_ne (tgt := 25) (dt_at dtX12_gains 10 rfl) (by decide) (by first | assumption | exact ⟨by omega, by omega⟩) (by first | assumption | exact ⟨by omega, by omega⟩) (fun c2 => absurd c2 (by omega)) (fun c2 => ?_)
  refine K_aload_n (dt_at dtX12_gains 11 rfl) rfl rfl ?_
  refine K_iload_n (dt_at dtX12_gains 12 rfl) rfl rfl ?_
  refine K_callV (M' := mX12_isCross) (a := 0) (ci := 12) (As := [vi q]) (st := []) (dt_at dtX12_gains 13 rfl) (sX12_isCross Q0 ⟨by omega, by omega⟩ (fun _ _ _ => rfl) Gq2) (show TT 0 = (0, 12) from rfl) rfl wL_X12_435 vX12_isCross rfl npX12_isCross (by decide) (by decide) (Nat.le_of_ble_eq_true rfl) (by decide) (by decide) GK_E (fun v9 hc3 hq => ?_) (fun E h9 hq => by cases hq.1)
  have hqq4 := hq
  obtain ⟨e9q4, Gq4⟩ := hqq4
  cases e9q4
  show K mX12_gains _ _ 0 0 25 [(0, vr 0), (1, vi p), (2, vi q), (3, vi 0), (4, vi 1)] [] hc3
  have Gc : MG h hc3 S f (crX (crX f p (sNp S) 0) q (sNp S) 1) := Gq4
  refine K_aload_n (dt_at dtX12_gains 14 rfl) rfl rfl ?_
  refine K_iconst (dt_at dtX12_gains 15 rfl) ?_
  refine K_callV (M' := mX12_daysGo) (a := 0) (ci := 12) (As := [vi 5]) (st := []) (dt_at dtX12_gains 16 rfl) (sX12_daysGo (n := 5) (MG_D7 Gc) yo.1 yo.2.1 yr.1 yr.2.1 (MG_49 Gc) (by omega) (by omega)) (show TT 0 = (0, 12) from rfl) rfl wL_X12_400 vX12_daysGo rfl npX12_daysGo (by decide) (by decide) (Nat.le_of_ble_eq_true rfl) (by decide) (by decide) GK_E (fun v9 hc5 hq => ?_) (fun E h9 hq => by cases hq.1)
  have hqq6 := hq
  obtain ⟨e9q6, dq6, iq6⟩ := hqq6
  have Gq6 : MG h hc5 S f (gaR S f p q 0 1) := MG_day Gc dq6
  cases e9q6
  show K mX12_gains _ _ 0 0 30 [(0, vr 0), (1, vi p), (2, vi q), (3, vi 0), (4, vi 1)] [] hc5
  refine K_iconst (dt_at dtX12_gains 17 rfl) ?_
  refine K_istore (ls' := [(5, vi 0), (0, vr 0), (1, vi p), (2, vi q), (3, vi 0), (4, vi 1)]) (dt_at dtX12_gains 18 rfl) (by decide) rfl ?_
  refine K_iconst (dt_at dtX12_gains 19 rfl) ?_
  refine K_istore (ls' := [(6, vi 0), (5, vi 0), (0, vr 0), (1, vi p), (2, vi q), (3, vi 0), (4, vi 1)]) (dt_at dtX12_gains 20 rfl) (by decide) rfl ?_
  exact K_pk [0, 1, 2, 3, 4, 5, 6] rfl (lp_X12_gains_01 Q0 hp hqt Gq6 (sNp S) 0 (by omega))
set_option maxHeartbeats 4000000 in
set_option maxRecDepth 100000 in
theorem lp_X12_gains_10 {h hh : HP} {S : HS} {f : Int → Int} {p q : Int} (Q0 : MAsk h S f) (hp : 0 ≤ p ∧ p < sNp S) (hqt : 0 ≤ q ∧ q < sNp S) (G : MG h hh S f (gaR S f p q 1 0)) : ∀ (dd k : Nat), k + dd = sNp S → K mX12_gains GK (ZK (fun o h' => o = .inl (some (vi (gaV S f p q 1 0))) ∧ ∃ g, MG h h' S f g) 0 0) 0 0 36 [(6, vi (k : Int)), (5, vi (guF S (gaR S f p q 1 0) p k)), (0, vr 0), (1, vi p), (2, vi q), (3, vi 1), (4, vi 0)] [] hh := by
  intro dd
  induction dd with
  | zero =>
    intro k hk
    have hB := Q0.1.1
    have hNt := hB.1
    have hNp := hB.2.1
    have R := Q0.2.2.2.2
    have hT := R.1
    have hW := hT.1
    have xo := crX_ok (q := p) (n := sNp S) (x := 1) hT R.2.1 hNp hNp
    have xr := crX_R (B := 0) (q := p) (n := sNp S) (x := 1) hB R.2.2.2.1 R.2.2.2.2.2 hNp
    have yo := crX_ok (q := q) (n := sNp S) (x := 0) xo.1 xo.2.1 hNp hNp
    have yr := crX_R (B := 0) (q := q) (n := sNp S) (x := 0) hB xr.1 xr.2.1 hNp
    have d9 := R.2.2.1
    have o0 : crX (crX f p (sNp S) 1) q (sNp S) 0 0 = f 0 := by rw [yo.2.2, xo.2.2]
    have go := dysF_ok hB yo.1 yo.2.1 5 (by omega)
    have gl : ∀ i, 22 ≤ i → i < 29 → (gaR S f p q 1 0) i = f i := fun i i0 i1 => by unfold gaR; rw [dys_lo hB yo.1 yo.2.1 5 (by omega) i (Or.inr ⟨i0, i1⟩), yr.2.2.1 i i0, xr.2.2.1 i i0]
    have gT : rT 600 (gaR S f p q 1 0) := go.1
    have ek : k = sNp S := by omega
    have gb := guF_b (q := p) hB gT k (by omega)
    refine K_iload (dt_at dtX12_gains 21 rfl) rfl ?_
    refine K_aload_n (dt_at dtX12_gains 22 rfl) rfl rfl ?_
    refine K_get (a := 0) (ci := 12) (k := 2) (v := vi (sNp S : Int)) (dt_at dtX12_gains 23 rfl) (show TT 0 = (0, 12) from rfl) rfl (by decide) wF_X12_270 (by show vi (hI hh 0 2) = vi (sNp S : Int); rw [(MD_np (MG_D0 G))]) ?_
    refine K_icmp_ge (tgt := 82) (dt_at dtX12_gains 24 rfl) (by decide) (by first | assumption | exact ⟨by omega, by omega⟩) (by first | assumption | exact ⟨by omega, by omega⟩) (fun c1 => ?_) (fun c1 => absurd c1 (by omega))
    refine K_iload (dt_at dtX12_gains 44 rfl) rfl ?_
    refine K_iconst (dt_at dtX12_gains 45 rfl) ?_
    refine K_idiv (dt_at dtX12_gains 46 rfl) (by first | assumption | exact ⟨by omega, by omega⟩) (by first | assumption | exact ⟨by omega, by omega⟩) (by omega) ?_
    refine K_iconst (dt_at dtX12_gains 47 rfl) ?_
    refine K_iload_n (dt_at dtX12_gains 48 rfl) rfl rfl ?_
    refine K_imul (dt_at dtX12_gains 49 rfl) ?_
    refine K_iadd (dt_at dtX12_gains 50 rfl) ?_
    exact K_iret (dt_at dtX12_gains 51 rfl) rfl rfl (by decide) (by decide) ⟨by rw [ek]; rfl, ⟨_, G⟩⟩
  | succ dd ih =>
    intro k hk
    have hB := Q0.1.1
    have hNt := hB.1
    have hNp := hB.2.1
    have R := Q0.2.2.2.2
    have hT := R.1
    have hW := hT.1
    have xo := crX_ok (q := p) (n := sNp S) (x := 1) hT R.2.1 hNp hNp
    have xr := crX_R (B := 0) (q := p) (n := sNp S) (x := 1) hB R.2.2.2.1 R.2.2.2.2.2 hNp
    have yo := crX_ok (q := q) (n := sNp S) (x := 0) xo.1 xo.2.1 hNp hNp
    have yr := crX_R (B := 0) (q := q) (n := sNp S) (x := 0) hB xr.1 xr.2.1 hNp
    have d9 := R.2.2.1
    have o0 : crX (crX f p (sNp S) 1) q (sNp S) 0 0 = f 0 := by rw [yo.2.2, xo.2.2]
    have go := dysF_ok hB yo.1 yo.2.1 5 (by omega)
    have gl : ∀ i, 22 ≤ i → i < 29 → (gaR S f p q 1 0) i = f i := fun i i0 i1 => by unfold gaR; rw [dys_lo hB yo.1 yo.2.1 5 (by omega) i (Or.inr ⟨i0, i1⟩), yr.2.2.1 i i0, xr.2.2.1 i i0]
    have gT : rT 600 (gaR S f p q 1 0) := go.1
    have wk := (hW.2 (k : Int) (by omega) (by omega)).2.2.2
    refine K_iload (dt_at dtX12_gains 21 rfl) rfl ?_
    refine K_aload_n (dt_at dtX12_gains 22 rfl) rfl rfl ?_
    refine K_get (a := 0) (ci := 12) (k := 2) (v := vi (sNp S : Int)) (dt_at dtX12_gains 23 rfl) (show TT 0 = (0, 12) from rfl) rfl (by decide) wF_X12_270 (by show vi (hI hh 0 2) = vi (sNp S : Int); rw [(MD_np (MG_D0 G))]) ?_
    refine K_icmp_ge (tgt := 82) (dt_at dtX12_gains 24 rfl) (by decide) (by first | assumption | exact ⟨by omega, by omega⟩) (by first | assumption | exact ⟨by omega, by omega⟩) (fun c1 => absurd c1 (by omega)) (fun c1 => ?_)
    refine K_iload (dt_at dtX12_gains 25 rfl) rfl ?_
    refine K_aload_n (dt_at dtX12_gains 26 rfl) rfl rfl ?_
    refine K_get (a := 0) (ci := 12) (k := 42) (v := vr 18) (dt_at dtX12_gains 27 rfl) (show TT 0 = (0, 12) from rfl) rfl (by decide) wF_X12_72 rfl ?_
    refine K_bipush (dt_at dtX12_gains 28 rfl) (by decide) ?_
    refine K_iload (dt_at dtX12_gains 29 rfl) rfl ?_
    refine K_iadd (dt_at dtX12_gains 30 rfl) ?_
    refine K_iald (dt_at dtX12_gains 31 rfl) (show TT 18 = (1, 154) from rfl) (by omega) (by omega) ?_
    rw [show hA hh 18 (70 + (k : Int)) = (f (22 + (k : Int))) from RV_k (MG_D0 G).2.2.2 (p := (k : Int)) (by omega) (by omega)]
    refine K_iload_n (dt_at dtX12_gains 32 rfl) rfl rfl ?_
    refine K_icmp_ne (tgt := 72) (dt_at dtX12_gains 33 rfl) (by decide) (by first | assumption | exact ⟨by omega, by omega⟩) (by first | assumption | exact ⟨by omega, by omega⟩) (fun c2 => ?_) (fun c2 => ?_)
    · refine K_iconst (dt_at dtX12_gains 39 rfl) ?_
      refine K_iadd (dt_at dtX12_gains 40 rfl) ?_
      refine K_istore (ls' := [(5, vi ((guF S (gaR S f p q 1 0) p k) + 0)), (6, vi (k : Int)), (0, vr 0), (1, vi p), (2, vi q), (3, vi 1), (4, vi 0)]) (dt_at dtX12_gains 41 rfl) (by decide) rfl ?_
      refine K_iinc (ls' := [(6, vi ((k : Int) + 1)), (5, vi ((guF S (gaR S f p q 1 0) p k) + 0)), (0, vr 0), (1, vi p), (2, vi q), (3, vi 1), (4, vi 0)]) (dt_at dtX12_gains 42 rfl) rfl (by decide) rfl ?_
      refine K_goto (tgt := 36) (dt_at dtX12_gains 43 rfl) (by decide) ?_
      refine K_pk [0, 1, 2, 3, 4, 5, 6] (ls' := [(6, vi ((k : Int) + 1)), (5, vi ((guF S (gaR S f p q 1 0) p k) + 0)), (0, vr 0), (1, vi p), (2, vi q), (3, vi 1), (4, vi 0)]) rfl ?_
      exact K_cg (ls' := [(6, vi ((k + 1 : Nat) : Int)), (5, vi (guF S (gaR S f p q 1 0) p (k + 1))), (0, vr 0), (1, vi p), (2, vi q), (3, vi 1), (4, vi 0)]) (h' := hh) (by rw [guF_f (by rw [gl _ (by omega) (by omega)]; assumption), show (guF S (gaR S f p q 1 0) p k) + 0 = (guF S (gaR S f p q 1 0) p k) by omega]; rfl) (by rfl) (ih (k + 1) (by omega))
    · refine K_aload_n (dt_at dtX12_gains 34 rfl) rfl rfl ?_
      refine K_bipush (dt_at dtX12_gains 35 rfl) (by decide) ?_
      refine K_iload (dt_at dtX12_gains 36 rfl) rfl ?_
      refine K_callV (M' := mX12_useIn) (a := 0) (ci := 12) (As := [vi 77, vi (k : Int)]) (st := [vi (guF S (gaR S f p q 1 0) p k)]) (dt_at dtX12_gains 37 rfl) (sX12_useIn (MG_D7 G) gT.1 (by omega)) (show TT 0 = (0, 12) from rfl) rfl wL_X12_319 vX12_useIn rfl npX12_useIn (by decide) (by decide) (Nat.le_of_ble_eq_true rfl) (by decide) (by decide) GK_E (fun v9 h9 hq => ?_) (fun E h9 hq => by cases hq.1)
      obtain ⟨e9, e8⟩ := hq
      cases e9
      rw [e8]
      show K mX12_gains _ _ 0 0 69 [(6, vi (k : Int)), (5, vi (guF S (gaR S f p q 1 0) p k)), (0, vr 0), (1, vi p), (2, vi q), (3, vi 1), (4, vi 0)] [vi (sumF (sU S) (gaR S f p q 1 0) (k : Int) (sNt S)), vi (guF S (gaR S f p q 1 0) p k)] hh
      refine K_goto (tgt := 73) (dt_at dtX12_gains 38 rfl) (by decide) ?_
      refine K_iadd (dt_at dtX12_gains 40 rfl) ?_
      refine K_istore (ls' := [(5, vi ((guF S (gaR S f p q 1 0) p k) + (sumF (sU S) (gaR S f p q 1 0) (k : Int) (sNt S)))), (6, vi (k : Int)), (0, vr 0), (1, vi p), (2, vi q), (3, vi 1), (4, vi 0)]) (dt_at dtX12_gains 41 rfl) (by decide) rfl ?_
      refine K_iinc (ls' := [(6, vi ((k : Int) + 1)), (5, vi ((guF S (gaR S f p q 1 0) p k) + (sumF (sU S) (gaR S f p q 1 0) (k : Int) (sNt S)))), (0, vr 0), (1, vi p), (2, vi q), (3, vi 1), (4, vi 0)]) (dt_at dtX12_gains 42 rfl) rfl (by decide) rfl ?_
      refine K_goto (tgt := 36) (dt_at dtX12_gains 43 rfl) (by decide) ?_
      refine K_pk [0, 1, 2, 3, 4, 5, 6] (ls' := [(6, vi ((k : Int) + 1)), (5, vi ((guF S (gaR S f p q 1 0) p k) + (sumF (sU S) (gaR S f p q 1 0) (k : Int) (sNt S)))), (0, vr 0), (1, vi p), (2, vi q), (3, vi 1), (4, vi 0)]) rfl ?_
      exact K_cg (ls' := [(6, vi ((k + 1 : Nat) : Int)), (5, vi (guF S (gaR S f p q 1 0) p (k + 1))), (0, vr 0), (1, vi p), (2, vi q), (3, vi 1), (4, vi 0)]) (h' := hh) (by rw [guF_t (by rw [gl _ (by omega) (by omega)]; assumption)]; rfl) (by rfl) (ih (k + 1) (by omega))
set_option maxHeartbeats 4000000 in
set_option maxRecDepth 100000 in
theorem sX12_gains_10 {h hh : HP} {S : HS} {f g : Int → Int} {p q : Int} (Q0 : MAsk h S f) (hp : 0 ≤ p ∧ p < sNp S) (hqt : 0 ≤ q ∧ q < sNp S) (G : MG h hh S f g) : SpecK mX12_gains [vr 0, vi p, vi q, vi 1, vi 0] hh (fun o h' => o = .inl (some (vi (gaV S f p q 1 0))) ∧ ∃ g, MG h h' S f g) := by
  refine Spec_of (by decide +kernel) (Nat.le_of_ble_eq_true rfl) ?_
  have hB := Q0.1.1
  have hNt := hB.1
  have hNp := hB.2.1
  have R := Q0.2.2.2.2
  have hT := R.1
  have hW := hT.1
  have xo := crX_ok (q := p) (n := sNp S) (x := 1) hT R.2.1 hNp hNp
  have xr := crX_R (B := 0) (q := p) (n := sNp S) (x := 1) hB R.2.2.2.1 R.2.2.2.2.2 hNp
  have yo := crX_ok (q := q) (n := sNp S) (x := 0) xo.1 xo.2.1 hNp hNp
  have yr := crX_R (B := 0) (q := q) (n := sNp S) (x := 0) hB xr.1 xr.2.1 hNp
  have d9 := R.2.2.1
  have o0 : crX (crX f p (sNp S) 1) q (sNp S) 0 0 = f 0 := by rw [yo.2.2, xo.2.2]
  have go := dysF_ok hB yo.1 yo.2.1 5 (by omega)
  have gl : ∀ i, 22 ≤ i → i < 29 → (gaR S f p q 1 0) i = f i := fun i i0 i1 => by unfold gaR; rw [dys_lo hB yo.1 yo.2.1 5 (by omega) i (Or.inr ⟨i0, i1⟩), yr.2.2.1 i i0, xr.2.2.1 i i0]
  have gT : rT 600 (gaR S f p q 1 0) := go.1
  refine K_aload_n (dt_at dtX12_gains 0 rfl) rfl rfl ?_
  refine K_callV (M' := mX12_tries) (a := 0) (ci := 12) (As := []) (st := []) (dt_at dtX12_gains 1 rfl) (sX12_tries) (show TT 0 = (0, 12) from rfl) rfl wL_X12_397 vX12_tries rfl npX12_tries (by decide) (by decide) (Nat.le_of_ble_eq_true rfl) (by decide) (by decide) GK_E (fun v9 hc1 hq => ?_) (fun E h9 hq => by cases hq.1)
  have hqq2 := hq
  obtain ⟨e9q2, t1q2, t2q2, t3q2, t4q2⟩ := hqq2
  have Gq2 := MG_try G t1q2 t2q2 t3q2 t4q2
  cases e9q2
  show K mX12_gains _ _ 0 0 4 [(0, vr 0), (1, vi p), (2, vi q), (3, vi 1), (4, vi 0)] [] hc1
  refine K_iload_n (dt_at dtX12_gains 2 rfl) rfl rfl ?_
  refine K_iconst (dt_at dtX12_gains 3 rfl) ?_
  refine K_icmp_ne (tgt := 14) (dt_at dtX12_gains 4 rfl) (by decide) (by first | assumption | exact ⟨by omega, by omega⟩) (by first | assumption | exact ⟨by omega, by omega⟩) (fun c1 => absurd c1 (by omega)) (fun c1 => ?_)
  refine K_aload_n (dt_at dtX12_gains 5 rfl) rfl rfl ?_
  refine K_iload_n (dt_at dtX12_gains 6 rfl) rfl rfl ?_
  refine K_callV (M' := mX12_isCross) (a := 0) (ci := 12) (As := [vi p]) (st := []) (dt_at dtX12_gains 7 rfl) (sX12_isCross Q0 ⟨by omega, by omega⟩ (fun _ _ _ => rfl) Gq2) (show TT 0 = (0, 12) from rfl) rfl wL_X12_435 vX12_isCross rfl npX12_isCross (by decide) (by decide) (Nat.le_of_ble_eq_true rfl) (by decide) (by decide) GK_E (fun v9 hc3 hq => ?_) (fun E h9 hq => by cases hq.1)
  have hqq4 := hq
  obtain ⟨e9q4, Gq4⟩ := hqq4
  cases e9q4
  show K mX12_gains _ _ 0 0 14 [(0, vr 0), (1, vi p), (2, vi q), (3, vi 1), (4, vi 0)] [] hc3
  refine K_iload (dt_at dtX12_gains 8 rfl) rfl ?_
  refine K_iconst (dt_at dtX12_gains 9 rfl) ?_
  refine K_icmp_ne (tgt := 25) (dt_at dtX12_gains 10 rfl) (by decide) (by first | assumption | exact ⟨by omega, by omega⟩) (by first | assumption | exact ⟨by omega, by omega⟩) (fun c2 => ?_) (fun c2 => absurd c2 (by omega))
  have Gc : MG h hc3 S f (crX (crX f p (sNp S) 1) q (sNp S) 0) := Gq4
  refine K_aload_n (dt_at dtX12_gains 14 rfl) rfl rfl ?_
  refine K_iconst (dt_at dtX12_gains 15 rfl) ?_
  refine K_callV (M' := mX12_daysGo) (a := 0) (ci := 12) (As := [vi 5]) (st := []) (dt_at dtX12_gains 16 rfl) (sX12_daysGo (n := 5) (MG_D7 Gc) yo.1 yo.2.1 yr.1 yr.2.1 (MG_49 Gc) (by omega) (by omega)) (show TT 0 = (0, 12) from rfl) rfl wL_X12_400 vX12_daysGo rfl npX12_daysGo (by decide) (by decide) (Nat.le_of_ble_eq_true rfl) (by decide) (by decide) GK_E (fun v9 hc5 hq => ?_) (fun E h9 hq => by cases hq.1)
  have hqq6 := hq
  obtain ⟨e9q6, dq6, iq6⟩ := hqq6
  have Gq6 : MG h hc5 S f (gaR S f p q 1 0) := MG_day Gc dq6
  cases e9q6
  show K mX12_gains _ _ 0 0 30 [(0, vr 0), (1, vi p), (2, vi q), (3, vi 1), (4, vi 0)] [] hc5
  refine K_iconst (dt_at dtX12_gains 17 rfl) ?_
  refine K_istore (ls' := [(5, vi 0), (0, vr 0), (1, vi p), (2, vi q), (3, vi 1), (4, vi 0)]) (dt_at dtX12_gains 18 rfl) (by decide) rfl ?_
  refine K_iconst (dt_at dtX12_gains 19 rfl) ?_
  refine K_istore (ls' := [(6, vi 0), (5, vi 0), (0, vr 0), (1, vi p), (2, vi q), (3, vi 1), (4, vi 0)]) (dt_at dtX12_gains 20 rfl) (by decide) rfl ?_
  exact K_pk [0, 1, 2, 3, 4, 5, 6] rfl (lp_X12_gains_10 Q0 hp hqt Gq6 (sNp S) 0 (by omega))
set_option maxHeartbeats 4000000 in
set_option maxRecDepth 100000 in
theorem lp_X12_gains_11 {h hh : HP} {S : HS} {f : Int → Int} {p q : Int} (Q0 : MAsk h S f) (hp : 0 ≤ p ∧ p < sNp S) (hqt : 0 ≤ q ∧ q < sNp S) (G : MG h hh S f (gaR S f p q 1 1)) : ∀ (dd k : Nat), k + dd = sNp S → K mX12_gains GK (ZK (fun o h' => o = .inl (some (vi (gaV S f p q 1 1))) ∧ ∃ g, MG h h' S f g) 0 0) 0 0 36 [(6, vi (k : Int)), (5, vi (guF S (gaR S f p q 1 1) p k)), (0, vr 0), (1, vi p), (2, vi q), (3, vi 1), (4, vi 1)] [] hh := by
  intro dd
  induction dd with
  | zero =>
    intro k hk
    have hB := Q0.1.1
    have hNt := hB.1
    have hNp := hB.2.1
    have R := Q0.2.2.2.2
    have hT := R.1
    have hW := hT.1
    have xo := crX_ok (q := p) (n := sNp S) (x := 1) hT R.2.1 hNp hNp
    have xr := crX_R (B := 0) (q := p) (n := sNp S) (x := 1) hB R.2.2.2.1 R.2.2.2.2.2 hNp
    have yo := crX_ok (q := q) (n := sNp S) (x := 1) xo.1 xo.2.1 hNp hNp
    have yr := crX_R (B := 0) (q := q) (n := sNp S) (x := 1) hB xr.1 xr.2.1 hNp
    have d9 := R.2.2.1
    have o0 : crX (crX f p (sNp S) 1) q (sNp S) 1 0 = f 0 := by rw [yo.2.2, xo.2.2]
    have go := dysF_ok hB yo.1 yo.2.1 5 (by omega)
    have gl : ∀ i, 22 ≤ i → i < 29 → (gaR S f p q 1 1) i = f i := fun i i0 i1 => by unfold gaR; rw [dys_lo hB yo.1 yo.2.1 5 (by omega) i (Or.inr ⟨i0, i1⟩), yr.2.2.1 i i0, xr.2.2.1 i i0]
    have gT : rT 600 (gaR S f p q 1 1) := go.1
    have ek : k = sNp S := by omega
    have gb := guF_b (q := p) hB gT k (by omega)
    refine K_iload (dt_at dtX12_gains 21 rfl) rfl ?_
    refine K_aload_n (dt_at dtX12_gains 22 rfl) rfl rfl ?_
    refine K_get (a := 0) (ci := 12) (k := 2) (v := vi (sNp S : Int)) (dt_at dtX12_gains 23 rfl) (show TT 0 = (0, 12) from rfl) rfl (by decide) wF_X12_270 (by show vi (hI hh 0 2) = vi (sNp S : Int); rw [(MD_np (MG_D0 G))]) ?_
    refine K_icmp_ge (tgt := 82) (dt_at dtX12_gains 24 rfl) (by decide) (by first | assumption | exact ⟨by omega, by omega⟩) (by first | assumption | exact ⟨by omega, by omega⟩) (fun c1 => ?_) (fun c1 => absurd c1 (by omega))
    refine K_iload (dt_at dtX12_gains 44 rfl) rfl ?_
    refine K_iconst (dt_at dtX12_gains 45 rfl) ?_
    refine K_idiv (dt_at dtX12_gains 46 rfl) (by first | assumption | exact ⟨by omega, by omega⟩) (by first | assumption | exact ⟨by omega, by omega⟩) (by omega) ?_
    refine K_iconst (dt_at dtX12_gains 47 rfl) ?_
    refine K_iload_n (dt_at dtX12_gains 48 rfl) rfl rfl ?_
    refine K_imul (dt_at dtX12_gains 49 rfl) ?_
    refine K_iadd (dt_at dtX12_gains 50 rfl) ?_
    exact K_iret (dt_at dtX12_gains 51 rfl) rfl rfl (by decide) (by decide) ⟨by rw [ek]; rfl, ⟨_, G⟩⟩
  | succ dd ih =>
    intro k hk
    have hB := Q0.1.1
    have hNt := hB.1
    have hNp := hB.2.1
    have R := Q0.2.2.2.2
    have hT := R.1
    have hW := hT.1
    have xo := crX_ok (q := p) (n := sNp S) (x := 1) hT R.2.1 hNp hNp
    have xr := crX_R (B := 0) (q := p) (n := sNp S) (x := 1) hB R.2.2.2.1 R.2.2.2.2.2 hNp
    have yo := crX_ok (q := q) (n := sNp S) (x := 1) xo.1 xo.2.1 hNp hNp
    have yr := crX_R (B := 0) (q := q) (n := sNp S) (x := 1) hB xr.1 xr.2.1 hNp
    have d9 := R.2.2.1
    have o0 : crX (crX f p (sNp S) 1) q (sNp S) 1 0 = f 0 := by rw [yo.2.2, xo.2.2]
    have go := dysF_ok hB yo.1 yo.2.1 5 (by omega)
    have gl : ∀ i, 22 ≤ i → i < 29 → (gaR S f p q 1 1) i = f i := fun i i0 i1 => by unfold gaR; rw [dys_lo hB yo.1 yo.2.1 5 (by omega) i (Or.inr ⟨i0, i1⟩), yr.2.2.1 i i0, xr.2.2.1 i i0]
    have gT : rT 600 (gaR S f p q 1 1) := go.1
    have wk := (hW.2 (k : Int) (by omega) (by omega)).2.2.2
    refine K_iload (dt_at dtX12_gains 21 rfl) rfl ?_
    refine K_aload_n (dt_at dtX12_gains 22 rfl) rfl rfl ?_
    refine K_get (a := 0) (ci := 12) (k := 2) (v := vi (sNp S : Int)) (dt_at dtX12_gains 23 rfl) (show TT 0 = (0, 12) from rfl) rfl (by decide) wF_X12_270 (by show vi (hI hh 0 2) = vi (sNp S : Int); rw [(MD_np (MG_D0 G))]) ?_
    refine K_icmp_ge (tgt := 82) (dt_at dtX12_gains 24 rfl) (by decide) (by first | assumption | exact ⟨by omega, by omega⟩) (by first | assumption | exact ⟨by omega, by omega⟩) (fun c1 => absurd c1 (by omega)) (fun c1 => ?_)
    refine K_iload (dt_at dtX12_gains 25 rfl) rfl ?_
    refine K_aload_n (dt_at dtX12_gains 26 rfl) rfl rfl ?_
    refine K_get (a := 0) (ci := 12) (k := 42) (v := vr 18) (dt_at dtX12_gains 27 rfl) (show TT 0 = (0, 12) from rfl) rfl (by decide) wF_X12_72 rfl ?_
    refine K_bipush (dt_at dtX12_gains 28 rfl) (by decide) ?_
    refine K_iload (dt_at dtX12_gains 29 rfl) rfl ?_
    refine K_iadd (dt_at dtX12_gains 30 rfl) ?_
    refine K_iald (dt_at dtX12_gains 31 rfl) (show TT 18 = (1, 154) from rfl) (by omega) (by omega) ?_
    rw [show hA hh 18 (70 + (k : Int)) = (f (22 + (k : Int))) from RV_k (MG_D0 G).2.2.2 (p := (k : Int)) (by omega) (by omega)]
    refine K_iload_n (dt_at dtX12_gains 32 rfl) rfl rfl ?_
    refine K_icmp_ne (tgt := 72) (dt_at dtX12_gains 33 rfl) (by decide) (by first | assumption | exact ⟨by omega, by omega⟩) (by first | assumption | exact ⟨by omega, by omega⟩) (fun c2 => ?_) (fun c2 => ?_)
    · refine K_iconst (dt_at dtX12_gains 39 rfl) ?_
      refine K_iadd (dt_at dtX12_gains 40 rfl) ?_
      refine K_istore (ls' := [(5, vi ((guF S (gaR S f p q 1 1) p k) + 0)), (6, vi (k : Int)), (0, vr 0), (1, vi p), (2, vi q), (3, vi 1), (4, vi 1)]) (dt_at dtX12_gains 41 rfl) (by decide) rfl ?_
      refine K_iinc (ls' := [(6, vi ((k : Int) + 1)), (5, vi ((guF S (gaR S f p q 1 1) p k) + 0)), (0, vr 0), (1, vi p), (2, vi q), (3, vi 1), (4, vi 1)]) (dt_at dtX12_gains 42 rfl) rfl (by decide) rfl ?_
      refine K_goto (tgt := 36) (dt_at dtX12_gains 43 rfl) (by decide) ?_
      refine K_pk [0, 1, 2, 3, 4, 5, 6] (ls' := [(6, vi ((k : Int) + 1)), (5, vi ((guF S (gaR S f p q 1 1) p k) + 0)), (0, vr 0), (1, vi p), (2, vi q), (3, vi 1), (4, vi 1)]) rfl ?_
      exact K_cg (ls' := [(6, vi ((k + 1 : Nat) : Int)), (5, vi (guF S (gaR S f p q 1 1) p (k + 1))), (0, vr 0), (1, vi p), (2, vi q), (3, vi 1), (4, vi 1)]) (h' := hh) (by rw [guF_f (by rw [gl _ (by omega) (by omega)]; assumption), show (guF S (gaR S f p q 1 1) p k) + 0 = (guF S (gaR S f p q 1 1) p k) by omega]; rfl) (by rfl) (ih (k + 1) (by omega))
    · refine K_aload_n (dt_at dtX12_gains 34 rfl) rfl rfl ?_
      refine K_bipush (dt_at dtX12_gains 35 rfl) (by decide) ?_
      refine K_iload (dt_at dtX12_gains 36 rfl) rfl ?_
      refine K_callV (M' := mX12_useIn) (a := 0) (ci := 12) (As := [vi 77, vi (k : Int)]) (st := [vi (guF S (gaR S f p q 1 1) p k)]) (dt_at dtX12_gains 37 rfl) (sX12_useIn (MG_D7 G) gT.1 (by omega)) (show TT 0 = (0, 12) from rfl) rfl wL_X12_319 vX12_useIn rfl npX12_useIn (by decide) (by decide) (Nat.le_of_ble_eq_true rfl) (by decide) (by decide) GK_E (fun v9 h9 hq => ?_) (fun E h9 hq => by cases hq.1)
      obtain ⟨e9, e8⟩ := hq
      cases e9
      rw [e8]
      show K mX12_gains _ _ 0 0 69 [(6, vi (k : Int)), (5, vi (guF S (gaR S f p q 1 1) p k)), (0, vr 0), (1, vi p), (2, vi q), (3, vi 1), (4, vi 1)] [vi (sumF (sU S) (gaR S f p q 1 1) (k : Int) (sNt S)), vi (guF S (gaR S f p q 1 1) p k)] hh
      refine K_goto (tgt := 73) (dt_at dtX12_gains 38 rfl) (by decide) ?_
      refine K_iadd (dt_at dtX12_gains 40 rfl) ?_
      refine K_istore (ls' := [(5, vi ((guF S (gaR S f p q 1 1) p k) + (sumF (sU S) (gaR S f p q 1 1) (k : Int) (sNt S)))), (6, vi (k : Int)), (0, vr 0), (1, vi p), (2, vi q), (3, vi 1), (4, vi 1)]) (dt_at dtX12_gains 41 rfl) (by decide) rfl ?_
      refine K_iinc (ls' := [(6, vi ((k : Int) + 1)), (5, vi ((guF S (gaR S f p q 1 1) p k) + (sumF (sU S) (gaR S f p q 1 1) (k : Int) (sNt S)))), (0, vr 0), (1, vi p), (2, vi q), (3, vi 1), (4, vi 1)]) (dt_at dtX12_gains 42 rfl) rfl (by decide) rfl ?_
      refine K_goto (tgt := 36) (dt_at dtX12_gains 43 rfl) (by decide) ?_
      refine K_pk [0, 1, 2, 3, 4, 5, 6] (ls' := [(6, vi ((k : Int) + 1)), (5, vi ((guF S (gaR S f p q 1 1) p k) + (sumF (sU S) (gaR S f p q 1 1) (k : Int) (sNt S)))), (0, vr 0), (1, vi p), (2, vi q), (3, vi 1), (4, vi 1)]) rfl ?_
      exact K_cg (ls' := [(6, vi ((k + 1 : Nat) : Int)), (5, vi (guF S (gaR S f p q 1 1) p (k + 1))), (0, vr 0), (1, vi p), (2, vi q), (3, vi 1), (4, vi 1)]) (h' := hh) (by rw [guF_t (by rw [gl _ (by omega) (by omega)]; assumption)]; rfl) (by rfl) (ih (k + 1) (by omega))
set_option maxHeartbeats 4000000 in
set_option maxRecDepth 100000 in
theorem sX12_gains_11 {h hh : HP} {S : HS} {f g : Int → Int} {p q : Int} (Q0 : MAsk h S f) (hp : 0 ≤ p ∧ p < sNp S) (hqt : 0 ≤ q ∧ q < sNp S) (G : MG h hh S f g) : SpecK mX12_gains [vr 0, vi p, vi q, vi 1, vi 1] hh (fun o h' => o = .inl (some (vi (gaV S f p q 1 1))) ∧ ∃ g, MG h h' S f g) := by
  refine Spec_of (by decide +kernel) (Nat.le_of_ble_eq_true rfl) ?_
  have hB := Q0.1.1
  have hNt := hB.1
  have hNp := hB.2.1
  have R := Q0.2.2.2.2
  have hT := R.1
  have hW := hT.1
  have xo := crX_ok (q := p) (n := sNp S) (x := 1) hT R.2.1 hNp hNp
  have xr := crX_R (B := 0) (q := p) (n := sNp S) (x := 1) hB R.2.2.2.1 R.2.2.2.2.2 hNp
  have yo := crX_ok (q := q) (n := sNp S) (x := 1) xo.1 xo.2.1 hNp hNp
  have yr := crX_R (B := 0) (q := q) (n := sNp S) (x := 1) hB xr.1 xr.2.1 hNp
  have d9 := R.2.2.1
  have o0 : crX (crX f p (sNp S) 1) q (sNp S) 1 0 = f 0 := by rw [yo.2.2, xo.2.2]
  have go := dysF_ok hB yo.1 yo.2.1 5 (by omega)
  have gl : ∀ i, 22 ≤ i → i < 29 → (gaR S f p q 1 1) i = f i := fun i i0 i1 => by unfold gaR; rw [dys_lo hB yo.1 yo.2.1 5 (by omega) i (Or.inr ⟨i0, i1⟩), yr.2.2.1 i i0, xr.2.2.1 i i0]
  have gT : rT 600 (gaR S f p q 1 1) := go.1
  refine K_aload_n (dt_at dtX12_gains 0 rfl) rfl rfl ?_
  refine K_callV (M' := mX12_tries) (a := 0) (ci := 12) (As := []) (st := []) (dt_at dtX12_gains 1 rfl) (sX12_tries) (show TT 0 = (0, 12) from rfl) rfl wL_X12_397 vX12_tries rfl npX12_tries (by decide) (by decide) (Nat.le_of_ble_eq_true rfl) (by decide) (by decide) GK_E (fun v9 hc1 hq => ?_) (fun E h9 hq => by cases hq.1)
  have hqq2 := hq
  obtain ⟨e9q2, t1q2, t2q2, t3q2, t4q2⟩ := hqq2
  have Gq2 := MG_try G t1q2 t2q2 t3q2 t4q2
  cases e9q2
  show K mX12_gains _ _ 0 0 4 [(0, vr 0), (1, vi p), (2, vi q), (3, vi 1), (4, vi 1)] [] hc1
  refine K_iload_n (dt_at dtX12_gains 2 rfl) rfl rfl ?_
  refine K_iconst (dt_at dtX12_gains 3 rfl) ?_
  refine K_icmp_ne (tgt := 14) (dt_at dtX12_gains 4 rfl) (by decide) (by first | assumption | exact ⟨by omega, by omega⟩) (by first | assumption | exact ⟨by omega, by omega⟩) (fun c1 => absurd c1 (by omega)) (fun c1 => ?_)
  refine K_aload_n (dt_at dtX12_gains 5 rfl) rfl rfl ?_
  refine K_iload_n (dt_at dtX12_gains 6 rfl) rfl rfl ?_
  refine K_callV (M' := mX12_isCross) (a := 0) (ci := 12) (As := [vi p]) (st := []) (dt_at dtX12_gains 7 rfl) (sX12_isCross Q0 ⟨by omega, by omega⟩ (fun _ _ _ => rfl) Gq2) (show TT 0 = (0, 12) from rfl) rfl wL_X12_435 vX12_isCross rfl npX12_isCross (by decide) (by decide) (Nat.le_of_ble_eq_true rfl) (by decide) (by decide) GK_E (fun v9 hc3 hq => ?_) (fun E h9 hq => by cases hq.1)
  have hqq4 := hq
  obtain ⟨e9q4, Gq4⟩ := hqq4
  cases e9q4
  show K mX12_gains _ _ 0 0 14 [(0, vr 0), (1, vi p), (2, vi q), (3, vi 1), (4, vi 1)] [] hc3
  refine K_iload (dt_at dtX12_gains 8 rfl) rfl ?_
  refine K_iconst (dt_at dtX12_gains 9 rfl) ?_
  refine K_icmp_ne (tgt := 25) (dt_at dtX12_gains 10 rfl) (by decide) (by first | assumption | exact ⟨by omega, by omega⟩) (by first | assumption | exact ⟨by omega, by omega⟩) (fun c2 => absurd c2 (by omega)) (fun c2 => ?_)
  refine K_aload_n (dt_at dtX12_gains 11 rfl) rfl rfl ?_
  refine K_iload_n (dt_at dtX12_gains 12 rfl) rfl rfl ?_
  refine K_callV (M' := mX12_isCross) (a := 0) (ci := 12) (As := [vi q]) (st := []) (dt_at dtX12_gains 13 rfl) (sX12_isCross Q0 ⟨by omega, by omega⟩ (fun i i0 i1 => xr.2.2.1 i i0) Gq4) (show TT 0 = (0, 12) from rfl) rfl wL_X12_435 vX12_isCross rfl npX12_isCross (by decide) (by decide) (Nat.le_of_ble_eq_true rfl) (by decide) (by decide) GK_E (fun v9 hc5 hq => ?_) (fun E h9 hq => by cases hq.1)
  have hqq6 := hq
  obtain ⟨e9q6, Gq6⟩ := hqq6
  cases e9q6
  show K mX12_gains _ _ 0 0 25 [(0, vr 0), (1, vi p), (2, vi q), (3, vi 1), (4, vi 1)] [] hc5
  have Gc : MG h hc5 S f (crX (crX f p (sNp S) 1) q (sNp S) 1) := Gq6
  refine K_aload_n (dt_at dtX12_gains 14 rfl) rfl rfl ?_
  refine K_iconst (dt_at dtX12_gains 15 rfl) ?_
  refine K_callV (M' := mX12_daysGo) (a := 0) (ci := 12) (As := [vi 5]) (st := []) (dt_at dtX12_gains 16 rfl) (sX12_daysGo (n := 5) (MG_D7 Gc) yo.1 yo.2.1 yr.1 yr.2.1 (MG_49 Gc) (by omega) (by omega)) (show TT 0 = (0, 12) from rfl) rfl wL_X12_400 vX12_daysGo rfl npX12_daysGo (by decide) (by decide) (Nat.le_of_ble_eq_true rfl) (by decide) (by decide) GK_E (fun v9 hc7 hq => ?_) (fun E h9 hq => by cases hq.1)
  have hqq8 := hq
  obtain ⟨e9q8, dq8, iq8⟩ := hqq8
  have Gq8 : MG h hc7 S f (gaR S f p q 1 1) := MG_day Gc dq8
  cases e9q8
  show K mX12_gains _ _ 0 0 30 [(0, vr 0), (1, vi p), (2, vi q), (3, vi 1), (4, vi 1)] [] hc7
  refine K_iconst (dt_at dtX12_gains 17 rfl) ?_
  refine K_istore (ls' := [(5, vi 0), (0, vr 0), (1, vi p), (2, vi q), (3, vi 1), (4, vi 1)]) (dt_at dtX12_gains 18 rfl) (by decide) rfl ?_
  refine K_iconst (dt_at dtX12_gains 19 rfl) ?_
  refine K_istore (ls' := [(6, vi 0), (5, vi 0), (0, vr 0), (1, vi p), (2, vi q), (3, vi 1), (4, vi 1)]) (dt_at dtX12_gains 20 rfl) (by decide) rfl ?_
  exact K_pk [0, 1, 2, 3, 4, 5, 6] rfl (lp_X12_gains_11 Q0 hp hqt Gq8 (sNp S) 0 (by omega))
theorem sX12_gains {h hh : HP} {S : HS} {f g : Int → Int} {p q : Int} {x y : Nat} (Q0 : MAsk h S f) (hp : 0 ≤ p ∧ p < sNp S) (hqt : 0 ≤ q ∧ q < sNp S) (G : MG h hh S f g) (hx : x ≤ 1) (hy : y ≤ 1) : SpecK mX12_gains [vr 0, vi p, vi q, vi (x : Int), vi (y : Int)] hh (fun o h' => o = .inl (some (vi (gaV S f p q x y))) ∧ ∃ g, MG h h' S f g) := by
  rcases (show x = 0 ∨ x = 1 by omega) with rfl | rfl <;> rcases (show y = 0 ∨ y = 1 by omega) with rfl | rfl
  · exact sX12_gains_00 Q0 hp hqt G
  · exact sX12_gains_01 Q0 hp hqt G
  · exact sX12_gains_10 Q0 hp hqt G
  · exact sX12_gains_11 Q0 hp hqt G
def mX12_game : MI := (yX12_game, cX12_game, 9, (some .int), rmK 9 0)
def tX12_game : List (Nat × Instr × Nat) := [(0, .aload_n 0, 1), (1, .iconst 0, 1), (2, .putfield 105, 3), (5, .aload_n 0, 1), (6, .iload_n 1, 1), (7, .invokevirtual 375, 3), (10, .ifCond .eq 38, 3), (13, .aload_n 0, 1), (14, .iload_n 2, 1), (15, .invokevirtual 375, 3), (18, .ifCond .eq 30, 3), (21, .aload_n 0, 1), (22, .iload_n 3, 1), (23, .iconst 1, 1), (24, .invokevirtual 371, 3), (27, .ifCond .eq 21, 3), (30, .aload_n 0, 1), (31, .iload_n 1, 1), (32, .iload_n 2, 1), (33, .if_icmp .eq 7, 3), (36, .iconst 1, 1), (37, .goto 4, 3), (40, .iconst 0, 1), (41, .iconst 2, 1), (42, .invokevirtual 260, 3), (45, .ifCond .ne 5, 3), (48, .iconst 0, 1), (49, .ireturn, 1), (50, .aload_n 0, 1), (51, .iload_n 1, 1), (52, .invokevirtual 378, 3), (55, .ifCond .eq 11, 3), (58, .aload_n 0, 1), (59, .iload_n 2, 1), (60, .invokevirtual 378, 3), (63, .ifCond .ne 5, 3), (66, .iconst (-1), 1), (67, .ireturn, 1), (68, .iconst 0, 1), (69, .istore 4, 2), (71, .iconst (-1), 1), (72, .istore 5, 2), (74, .iconst 0, 1), (75, .istore 6, 2), (77, .iload 6, 2), (79, .iconst 4, 1), (80, .if_icmp .ge 93, 3), (83, .iload 6, 2), (85, .iconst 2, 1), (86, .idiv, 1), (87, .istore 7, 2), (89, .iload 6, 2), (91, .iconst 2, 1), (92, .irem, 1), (93, .istore 8, 2), (95, .aload_n 0, 1), (96, .iload_n 1, 1), (97, .iload_n 2, 1), (98, .iconst 1, 1), (99, .iload 7, 2), (101, .isub, 1), (102, .iload 8, 2), (104, .invokevirtual 438, 3), (107, .aload_n 0, 1), (108, .iload_n 1, 1), (109, .iload_n 2, 1), (110, .iload 7, 2), (112, .iload 8, 2), (114, .invokevirtual 438, 3), (117, .if_icmp .gt 50, 3), (120, .aload_n 0, 1), (121, .iload_n 2, 1), (122, .iload_n 1, 1), (123, .iconst 1, 1), (124, .iload 8, 2), (126, .isub, 1), (127, .iload 7, 2), (129, .invokevirtual 438, 3), (132, .aload_n 0, 1), (133, .iload_n 2, 1), (134, .iload_n 1, 1), (135, .iload 8, 2), (137, .iload 7, 2), (139, .invokevirtual 438, 3), (142, .if_icmp .le 6, 3), (145, .goto 22, 3), (148, .iinc 4 1, 3), (151, .iload 5, 2), (153, .iconst (-1), 1), (154, .if_icmp .ne 13, 3), (157, .bipush 10, 2), (159, .iload 7, 2), (161, .imul, 1), (162, .iload 8, 2), (164, .iadd, 1), (165, .istore 5, 2), (167, .iinc 6 1, 3), (170, .goto (-93), 3), (173, .iload_n 3, 1), (174, .ifCond .ne 8, 3), (177, .iload 4, 2), (179, .goto 5, 3), (182, .iload 5, 2), (184, .ireturn, 1)]
theorem dtX12_game : tX12_game.all (fun q => decide (decode cX12_game q.1 = .ok (q.2.1, q.2.2))) = true := by decide +kernel
theorem npX12_game : (parseMethodDescriptor (mY mX12_game).desc).map (fun d => d.parameters.length) = some 3 := by decide +kernel
theorem vX12_game : mV mX12_game := ⟨wI_X12_game, wS_X12_game, wN_X12, wC_X12_game, by decide +kernel, by decide +kernel⟩
set_option maxHeartbeats 4000000 in
set_option maxRecDepth 100000 in
theorem sX12_game_x1 {h : HP} {S : HS} {f : Int → Int} {p q w : Int} (Q0 : MAsk h S f) (hp_ : i32 p) (hq_ : i32 q) (hw_ : i32 w) (kn : ¬ (0 ≤ p ∧ p < sNp S)) : SpecK mX12_game [vr 0, vi p, vi q, vi w] h (fun o h' => o = .inl (some (vi 0)) ∧ FQ h h' ∧ hI h' 0 0 = 1) := by
  refine Spec_of (by decide +kernel) (Nat.le_of_ble_eq_true rfl) ?_
  have hB := Q0.1.1
  have hNt := hB.1
  have hNp := hB.2.1
  have R := Q0.2.2.2.2
  have hT := R.1
  have hW := hT.1
  refine K_aload_n (dt_at dtX12_game 0 rfl) rfl rfl ?_
  refine K_iconst (dt_at dtX12_game 1 rfl) ?_
  refine K_putI (a := 0) (ci := 12) (k := 0) (dt_at dtX12_game 2 rfl) (show TT 0 = (0, 12) from rfl) rfl (by decide) wF_X12_105 rfl (Or.inl rfl) rfl rfl ?_
  obtain ⟨hu1, eu1⟩ : ∃ z, z = sI h 0 0 0 := ⟨_, rfl⟩
  rw [← eu1]
  obtain ⟨iu1, fu1, au1, ru1⟩ := sI_fx eu1
  have Gu1 := MG_0 Q0 eu1
  refine K_aload_n (dt_at dtX12_game 3 rfl) rfl rfl ?_
  refine K_iload_n (dt_at dtX12_game 4 rfl) rfl rfl ?_
  refine K_callV (M' := mX12_isPerson) (a := 0) (ci := 12) (As := [vi p]) (st := []) (dt_at dtX12_game 5 rfl) (sX12_isPerson_f (MD_np (MG_D0 Gu1)) hNp Gu1.2.2.2 (by assumption) (by omega)) (show TT 0 = (0, 12) from rfl) rfl wL_X12_375 vX12_isPerson rfl npX12_isPerson (by decide) (by decide) (Nat.le_of_ble_eq_true rfl) (by decide) (by decide) GK_E (fun v9 hc2 hq => ?_) (fun E h9 hq => by cases hq.1)
  have hqq3 := hq
  obtain ⟨e9q3, e8q3⟩ := hqq3
  obtain ⟨iq3, fq3, aq3, rq3⟩ := sI_fx e8q3
  have Bq3 : FQ h hc2 := FQ_tr Gu1.2.1 (FQ_I e8q3 rfl Gu1.2.1.2.2.2.2)
  cases e9q3
  show K mX12_game _ _ 0 0 10 [(0, vr 0), (1, vi p), (2, vi q), (3, vi w)] [vi 0] hc2
  refine K_if_eq (tgt := 48) (dt_at dtX12_game 6 rfl) (by decide) (by first | assumption | exact ⟨by omega, by omega⟩) (fun c1 => ?_) (fun c1 => absurd c1 (by omega))
  refine K_iconst (dt_at dtX12_game 26 rfl) ?_
  exact K_iret (dt_at dtX12_game 27 rfl) rfl rfl (by decide) (by decide) ⟨rfl, Bq3, iq3⟩
set_option maxHeartbeats 4000000 in
set_option maxRecDepth 100000 in
theorem sX12_game_x2 {h : HP} {S : HS} {f : Int → Int} {p q w : Int} (Q0 : MAsk h S f) (hp_ : i32 p) (hq_ : i32 q) (hw_ : i32 w) (k0 : 0 ≤ p ∧ p < sNp S) (kn : ¬ (0 ≤ q ∧ q < sNp S)) : SpecK mX12_game [vr 0, vi p, vi q, vi w] h (fun o h' => o = .inl (some (vi 0)) ∧ FQ h h' ∧ hI h' 0 0 = 1) := by
  refine Spec_of (by decide +kernel) (Nat.le_of_ble_eq_true rfl) ?_
  have hB := Q0.1.1
  have hNt := hB.1
  have hNp := hB.2.1
  have R := Q0.2.2.2.2
  have hT := R.1
  have hW := hT.1
  refine K_aload_n (dt_at dtX12_game 0 rfl) rfl rfl ?_
  refine K_iconst (dt_at dtX12_game 1 rfl) ?_
  refine K_putI (a := 0) (ci := 12) (k := 0) (dt_at dtX12_game 2 rfl) (show TT 0 = (0, 12) from rfl) rfl (by decide) wF_X12_105 rfl (Or.inl rfl) rfl rfl ?_
  obtain ⟨hu1, eu1⟩ : ∃ z, z = sI h 0 0 0 := ⟨_, rfl⟩
  rw [← eu1]
  obtain ⟨iu1, fu1, au1, ru1⟩ := sI_fx eu1
  have Gu1 := MG_0 Q0 eu1
  refine K_aload_n (dt_at dtX12_game 3 rfl) rfl rfl ?_
  refine K_iload_n (dt_at dtX12_game 4 rfl) rfl rfl ?_
  refine K_callV (M' := mX12_isPerson) (a := 0) (ci := 12) (As := [vi p]) (st := []) (dt_at dtX12_game 5 rfl) (sX12_isPerson_t (MD_np (MG_D0 Gu1)) hNp Gu1.2.2.2 (by omega)) (show TT 0 = (0, 12) from rfl) rfl wL_X12_375 vX12_isPerson rfl npX12_isPerson (by decide) (by decide) (Nat.le_of_ble_eq_true rfl) (by decide) (by decide) GK_E (fun v9 h9 hq => ?_) (fun E h9 hq => by cases hq.1)
  obtain ⟨e9, e8⟩ := hq
  cases e9
  rw [e8]
  show K mX12_game _ _ 0 0 10 [(0, vr 0), (1, vi p), (2, vi q), (3, vi w)] [vi 1] hu1
  refine K_if_eq (tgt := 48) (dt_at dtX12_game 6 rfl) (by decide) (by first | assumption | exact ⟨by omega, by omega⟩) (fun c1 => absurd c1 (by omega)) (fun c1 => ?_)
  refine K_aload_n (dt_at dtX12_game 7 rfl) rfl rfl ?_
  refine K_iload_n (dt_at dtX12_game 8 rfl) rfl rfl ?_
  refine K_callV (M' := mX12_isPerson) (a := 0) (ci := 12) (As := [vi q]) (st := []) (dt_at dtX12_game 9 rfl) (sX12_isPerson_f (MD_np (MG_D0 Gu1)) hNp Gu1.2.2.2 (by assumption) (by omega)) (show TT 0 = (0, 12) from rfl) rfl wL_X12_375 vX12_isPerson rfl npX12_isPerson (by decide) (by decide) (Nat.le_of_ble_eq_true rfl) (by decide) (by decide) GK_E (fun v9 hc2 hq => ?_) (fun E h9 hq => by cases hq.1)
  have hqq3 := hq
  obtain ⟨e9q3, e8q3⟩ := hqq3
  obtain ⟨iq3, fq3, aq3, rq3⟩ := sI_fx e8q3
  have Bq3 : FQ h hc2 := FQ_tr Gu1.2.1 (FQ_I e8q3 rfl Gu1.2.1.2.2.2.2)
  cases e9q3
  show K mX12_game _ _ 0 0 18 [(0, vr 0), (1, vi p), (2, vi q), (3, vi w)] [vi 0] hc2
  refine K_if_eq (tgt := 48) (dt_at dtX12_game 10 rfl) (by decide) (by first | assumption | exact ⟨by omega, by omega⟩) (fun c2 => ?_) (fun c2 => absurd c2 (by omega))
  refine K_iconst (dt_at dtX12_game 26 rfl) ?_
  exact K_iret (dt_at dtX12_game 27 rfl) rfl rfl (by decide) (by decide) ⟨rfl, Bq3, iq3⟩
set_option maxHeartbeats 4000000 in
set_option maxRecDepth 100000 in
theorem sX12_game_x3 {h : HP} {S : HS} {f : Int → Int} {p q w : Int} (Q0 : MAsk h S f) (hp_ : i32 p) (hq_ : i32 q) (hw_ : i32 w) (k0 : 0 ≤ p ∧ p < sNp S) (k1 : 0 ≤ q ∧ q < sNp S) (kn : ¬ (0 ≤ w ∧ w ≤ 1)) : SpecK mX12_game [vr 0, vi p, vi q, vi w] h (fun o h' => o = .inl (some (vi 0)) ∧ FQ h h' ∧ hI h' 0 0 = 1) := by
  refine Spec_of (by decide +kernel) (Nat.le_of_ble_eq_true rfl) ?_
  have hB := Q0.1.1
  have hNt := hB.1
  have hNp := hB.2.1
  have R := Q0.2.2.2.2
  have hT := R.1
  have hW := hT.1
  refine K_aload_n (dt_at dtX12_game 0 rfl) rfl rfl ?_
  refine K_iconst (dt_at dtX12_game 1 rfl) ?_
  refine K_putI (a := 0) (ci := 12) (k := 0) (dt_at dtX12_game 2 rfl) (show TT 0 = (0, 12) from rfl) rfl (by decide) wF_X12_105 rfl (Or.inl rfl) rfl rfl ?_
  obtain ⟨hu1, eu1⟩ : ∃ z, z = sI h 0 0 0 := ⟨_, rfl⟩
  rw [← eu1]
  obtain ⟨iu1, fu1, au1, ru1⟩ := sI_fx eu1
  have Gu1 := MG_0 Q0 eu1
  refine K_aload_n (dt_at dtX12_game 3 rfl) rfl rfl ?_
  refine K_iload_n (dt_at dtX12_game 4 rfl) rfl rfl ?_
  refine K_callV (M' := mX12_isPerson) (a := 0) (ci := 12) (As := [vi p]) (st := []) (dt_at dtX12_game 5 rfl) (sX12_isPerson_t (MD_np (MG_D0 Gu1)) hNp Gu1.2.2.2 (by omega)) (show TT 0 = (0, 12) from rfl) rfl wL_X12_375 vX12_isPerson rfl npX12_isPerson (by decide) (by decide) (Nat.le_of_ble_eq_true rfl) (by decide) (by decide) GK_E (fun v9 h9 hq => ?_) (fun E h9 hq => by cases hq.1)
  obtain ⟨e9, e8⟩ := hq
  cases e9
  rw [e8]
  show K mX12_game _ _ 0 0 10 [(0, vr 0), (1, vi p), (2, vi q), (3, vi w)] [vi 1] hu1
  refine K_if_eq (tgt := 48) (dt_at dtX12_game 6 rfl) (by decide) (by first | assumption | exact ⟨by omega, by omega⟩) (fun c1 => absurd c1 (by omega)) (fun c1 => ?_)
  refine K_aload_n (dt_at dtX12_game 7 rfl) rfl rfl ?_
  refine K_iload_n (dt_at dtX12_game 8 rfl) rfl rfl ?_
  refine K_callV (M' := mX12_isPerson) (a := 0) (ci := 12) (As := [vi q]) (st := []) (dt_at dtX12_game 9 rfl) (sX12_isPerson_t (MD_np (MG_D0 Gu1)) hNp Gu1.2.2.2 (by omega)) (show TT 0 = (0, 12) from rfl) rfl wL_X12_375 vX12_isPerson rfl npX12_isPerson (by decide) (by decide) (Nat.le_of_ble_eq_true rfl) (by decide) (by decide) GK_E (fun v9 h9 hq => ?_) (fun E h9 hq => by cases hq.1)
  obtain ⟨e9, e8⟩ := hq
  cases e9
  rw [e8]
  show K mX12_game _ _ 0 0 18 [(0, vr 0), (1, vi p), (2, vi q), (3, vi w)] [vi 1] hu1
  refine K_if_eq (tgt := 48) (dt_at dtX12_game 10 rfl) (by decide) (by first | assumption | exact ⟨by omega, by omega⟩) (fun c2 => absurd c2 (by omega)) (fun c2 => ?_)
  refine K_aload_n (dt_at dtX12_game 11 rfl) rfl rfl ?_
  refine K_iload_n (dt_at dtX12_game 12 rfl) rfl rfl ?_
  refine K_iconst (dt_at dtX12_game 13 rfl) ?_
  refine K_callV (M' := mX12_isWhat) (a := 0) (ci := 12) (As := [vi w, vi 1]) (st := []) (dt_at dtX12_game 14 rfl) (sX12_isWhat_f Gu1.2.2.2 (by decide) (by assumption) (by omega)) (show TT 0 = (0, 12) from rfl) rfl wL_X12_371 vX12_isWhat rfl npX12_isWhat (by decide) (by decide) (Nat.le_of_ble_eq_true rfl) (by decide) (by decide) GK_E (fun v9 hc2 hq => ?_) (fun E h9 hq => by cases hq.1)
  have hqq3 := hq
  obtain ⟨e9q3, e8q3⟩ := hqq3
  obtain ⟨iq3, fq3, aq3, rq3⟩ := sI_fx e8q3
  have Bq3 : FQ h hc2 := FQ_tr Gu1.2.1 (FQ_I e8q3 rfl Gu1.2.1.2.2.2.2)
  cases e9q3
  show K mX12_game _ _ 0 0 27 [(0, vr 0), (1, vi p), (2, vi q), (3, vi w)] [vi 0] hc2
  refine K_if_eq (tgt := 48) (dt_at dtX12_game 15 rfl) (by decide) (by first | assumption | exact ⟨by omega, by omega⟩) (fun c3 => ?_) (fun c3 => absurd c3 (by omega))
  refine K_iconst (dt_at dtX12_game 26 rfl) ?_
  exact K_iret (dt_at dtX12_game 27 rfl) rfl rfl (by decide) (by decide) ⟨rfl, Bq3, iq3⟩
set_option maxHeartbeats 4000000 in
set_option maxRecDepth 100000 in
theorem sX12_game_x4 {h : HP} {S : HS} {f : Int → Int} {p q w : Int} (Q0 : MAsk h S f) (hp_ : i32 p) (hq_ : i32 q) (hw_ : i32 w) (k0 : 0 ≤ p ∧ p < sNp S) (k1 : 0 ≤ q ∧ q < sNp S) (k2 : 0 ≤ w ∧ w ≤ 1) (kn : ¬ (p ≠ q)) : SpecK mX12_game [vr 0, vi p, vi q, vi w] h (fun o h' => o = .inl (some (vi 0)) ∧ FQ h h' ∧ hI h' 0 0 = 2) := by
  refine Spec_of (by decide +kernel) (Nat.le_of_ble_eq_true rfl) ?_
  have hB := Q0.1.1
  have hNt := hB.1
  have hNp := hB.2.1
  have R := Q0.2.2.2.2
  have hT := R.1
  have hW := hT.1
  refine K_aload_n (dt_at dtX12_game 0 rfl) rfl rfl ?_
  refine K_iconst (dt_at dtX12_game 1 rfl) ?_
  refine K_putI (a := 0) (ci := 12) (k := 0) (dt_at dtX12_game 2 rfl) (show TT 0 = (0, 12) from rfl) rfl (by decide) wF_X12_105 rfl (Or.inl rfl) rfl rfl ?_
  obtain ⟨hu1, eu1⟩ : ∃ z, z = sI h 0 0 0 := ⟨_, rfl⟩
  rw [← eu1]
  obtain ⟨iu1, fu1, au1, ru1⟩ := sI_fx eu1
  have Gu1 := MG_0 Q0 eu1
  refine K_aload_n (dt_at dtX12_game 3 rfl) rfl rfl ?_
  refine K_iload_n (dt_at dtX12_game 4 rfl) rfl rfl ?_
  refine K_callV (M' := mX12_isPerson) (a := 0) (ci := 12) (As := [vi p]) (st := []) (dt_at dtX12_game 5 rfl) (sX12_isPerson_t (MD_np (MG_D0 Gu1)) hNp Gu1.2.2.2 (by omega)) (show TT 0 = (0, 12) from rfl) rfl wL_X12_375 vX12_isPerson rfl npX12_isPerson (by decide) (by decide) (Nat.le_of_ble_eq_true rfl) (by decide) (by decide) GK_E (fun v9 h9 hq => ?_) (fun E h9 hq => by cases hq.1)
  obtain ⟨e9, e8⟩ := hq
  cases e9
  rw [e8]
  show K mX12_game _ _ 0 0 10 [(0, vr 0), (1, vi p), (2, vi q), (3, vi w)] [vi 1] hu1
  refine K_if_eq (tgt := 48) (dt_at dtX12_game 6 rfl) (by decide) (by first | assumption | exact ⟨by omega, by omega⟩) (fun c1 => absurd c1 (by omega)) (fun c1 => ?_)
  refine K_aload_n (dt_at dtX12_game 7 rfl) rfl rfl ?_
  refine K_iload_n (dt_at dtX12_game 8 rfl) rfl rfl ?_
  refine K_callV (M' := mX12_isPerson) (a := 0) (ci := 12) (As := [vi q]) (st := []) (dt_at dtX12_game 9 rfl) (sX12_isPerson_t (MD_np (MG_D0 Gu1)) hNp Gu1.2.2.2 (by omega)) (show TT 0 = (0, 12) from rfl) rfl wL_X12_375 vX12_isPerson rfl npX12_isPerson (by decide) (by decide) (Nat.le_of_ble_eq_true rfl) (by decide) (by decide) GK_E (fun v9 h9 hq => ?_) (fun E h9 hq => by cases hq.1)
  obtain ⟨e9, e8⟩ := hq
  cases e9
  rw [e8]
  show K mX12_game _ _ 0 0 18 [(0, vr 0), (1, vi p), (2, vi q), (3, vi w)] [vi 1] hu1
  refine K_if_eq (tgt := 48) (dt_at dtX12_game 10 rfl) (by decide) (by first | assumption | exact ⟨by omega, by omega⟩) (fun c2 => absurd c2 (by omega)) (fun c2 => ?_)
  refine K_aload_n (dt_at dtX12_game 11 rfl) rfl rfl ?_
  refine K_iload_n (dt_at dtX12_game 12 rfl) rfl rfl ?_
  refine K_iconst (dt_at dtX12_game 13 rfl) ?_
  refine K_callV (M' := mX12_isWhat) (a := 0) (ci := 12) (As := [vi w, vi 1]) (st := []) (dt_at dtX12_game 14 rfl) (sX12_isWhat_t Gu1.2.2.2 (by omega) (by omega)) (show TT 0 = (0, 12) from rfl) rfl wL_X12_371 vX12_isWhat rfl npX12_isWhat (by decide) (by decide) (Nat.le_of_ble_eq_true rfl) (by decide) (by decide) GK_E (fun v9 h9 hq => ?_) (fun E h9 hq => by cases hq.1)
  obtain ⟨e9, e8⟩ := hq
  cases e9
  rw [e8]
  show K mX12_game _ _ 0 0 27 [(0, vr 0), (1, vi p), (2, vi q), (3, vi w)] [vi 1] hu1
  refine K_if_eq (tgt := 48) (dt_at dtX12_game 15 rfl) (by decide) (by first | assumption | exact ⟨by omega, by omega⟩) (fun c3 => absurd c3 (by omega)) (fun c3 => ?_)
  refine K_aload_n (dt_at dtX12_game 16 rfl) rfl rfl ?_
  refine K_iload_n (dt_at dtX12_game 17 rfl) rfl rfl ?_
  refine K_iload_n (dt_at dtX12_game 18 rfl) rfl rfl ?_
  refine K_icmp_eq (tgt := 40) (dt_at dtX12_game 19 rfl) (by decide) (by first | assumption | exact ⟨by omega, by omega⟩) (by first | assumption | exact ⟨by omega, by omega⟩) (fun c4 => ?_) (fun c4 => ?_)
  · refine K_iconst (dt_at dtX12_game 22 rfl) ?_
    refine K_iconst (dt_at dtX12_game 23 rfl) ?_
    refine K_callV (M' := mX12_right) (a := 0) (ci := 12) (As := [vi 0, vi 2]) (st := []) (dt_at dtX12_game 24 rfl) (sX12_right_f Gu1.2.2.2 (by decide)) (show TT 0 = (0, 12) from rfl) rfl wL_X12_260 vX12_right rfl npX12_right (by decide) (by decide) (Nat.le_of_ble_eq_true rfl) (by decide) (by decide) GK_E (fun v9 hc2 hq => ?_) (fun E h9 hq => by cases hq.1)
    have hqq3 := hq
    obtain ⟨e9q3, e8q3⟩ := hqq3
    obtain ⟨iq3, fq3, aq3, rq3⟩ := sI_fx e8q3
    have Bq3 : FQ h hc2 := FQ_tr Gu1.2.1 (FQ_I e8q3 rfl Gu1.2.1.2.2.2.2)
    cases e9q3
    show K mX12_game _ _ 0 0 45 [(0, vr 0), (1, vi p), (2, vi q), (3, vi w)] [vi 0] hc2
    refine K_if_ne (tgt := 50) (dt_at dtX12_game 25 rfl) (by decide) (by first | assumption | exact ⟨by omega, by omega⟩) (fun c5 => absurd c5 (by omega)) (fun c5 => ?_)
    refine K_iconst (dt_at dtX12_game 26 rfl) ?_
    exact K_iret (dt_at dtX12_game 27 rfl) rfl rfl (by decide) (by decide) ⟨rfl, Bq3, iq3⟩
  · refine K_iconst (dt_at dtX12_game 20 rfl) ?_
    refine K_goto (tgt := 41) (dt_at dtX12_game 21 rfl) (by decide) ?_
    refine K_iconst (dt_at dtX12_game 23 rfl) ?_
    exact (by omega : False).elim
set_option maxHeartbeats 4000000 in
set_option maxRecDepth 100000 in
theorem sX12_game_no0 {h : HP} {S : HS} {f : Int → Int} {p q : Int} (Q0 : MAsk h S f) (hp : 0 ≤ p ∧ p < sNp S) (hqt : 0 ≤ q ∧ q < sNp S) (pq : p ≠ q) (no : (bitN (fun j => decide (f (22 + (j : Int)) = p)) (sNp S)) = 0 ∨ (bitN (fun j => decide (f (22 + (j : Int)) = q)) (sNp S)) = 0) : SpecK mX12_game [vr 0, vi p, vi q, vi 0] h (fun o h' => o = .inl (some (vi (-1))) ∧ FQ h h' ∧ hI h' 0 0 = 0) := by
  refine Spec_of (by decide +kernel) (Nat.le_of_ble_eq_true rfl) ?_
  have hB := Q0.1.1
  have hNt := hB.1
  have hNp := hB.2.1
  have R := Q0.2.2.2.2
  have hT := R.1
  have hW := hT.1
  refine K_aload_n (dt_at dtX12_game 0 rfl) rfl rfl ?_
  refine K_iconst (dt_at dtX12_game 1 rfl) ?_
  refine K_putI (a := 0) (ci := 12) (k := 0) (dt_at dtX12_game 2 rfl) (show TT 0 = (0, 12) from rfl) rfl (by decide) wF_X12_105 rfl (Or.inl rfl) rfl rfl ?_
  obtain ⟨hu1, eu1⟩ : ∃ z, z = sI h 0 0 0 := ⟨_, rfl⟩
  rw [← eu1]
  obtain ⟨iu1, fu1, au1, ru1⟩ := sI_fx eu1
  have Gu1 := MG_0 Q0 eu1
  refine K_aload_n (dt_at dtX12_game 3 rfl) rfl rfl ?_
  refine K_iload_n (dt_at dtX12_game 4 rfl) rfl rfl ?_
  refine K_callV (M' := mX12_isPerson) (a := 0) (ci := 12) (As := [vi p]) (st := []) (dt_at dtX12_game 5 rfl) (sX12_isPerson_t (MD_np (MG_D0 Gu1)) hNp Gu1.2.2.2 (by omega)) (show TT 0 = (0, 12) from rfl) rfl wL_X12_375 vX12_isPerson rfl npX12_isPerson (by decide) (by decide) (Nat.le_of_ble_eq_true rfl) (by decide) (by decide) GK_E (fun v9 h9 hq => ?_) (fun E h9 hq => by cases hq.1)
  obtain ⟨e9, e8⟩ := hq
  cases e9
  rw [e8]
  show K mX12_game _ _ 0 0 10 [(0, vr 0), (1, vi p), (2, vi q), (3, vi 0)] [vi 1] hu1
  refine K_if_eq (tgt := 48) (dt_at dtX12_game 6 rfl) (by decide) (by first | assumption | exact ⟨by omega, by omega⟩) (fun c1 => absurd c1 (by omega)) (fun c1 => ?_)
  refine K_aload_n (dt_at dtX12_game 7 rfl) rfl rfl ?_
  refine K_iload_n (dt_at dtX12_game 8 rfl) rfl rfl ?_
  refine K_callV (M' := mX12_isPerson) (a := 0) (ci := 12) (As := [vi q]) (st := []) (dt_at dtX12_game 9 rfl) (sX12_isPerson_t (MD_np (MG_D0 Gu1)) hNp Gu1.2.2.2 (by omega)) (show TT 0 = (0, 12) from rfl) rfl wL_X12_375 vX12_isPerson rfl npX12_isPerson (by decide) (by decide) (Nat.le_of_ble_eq_true rfl) (by decide) (by decide) GK_E (fun v9 h9 hq => ?_) (fun E h9 hq => by cases hq.1)
  obtain ⟨e9, e8⟩ := hq
  cases e9
  rw [e8]
  show K mX12_game _ _ 0 0 18 [(0, vr 0), (1, vi p), (2, vi q), (3, vi 0)] [vi 1] hu1
  refine K_if_eq (tgt := 48) (dt_at dtX12_game 10 rfl) (by decide) (by first | assumption | exact ⟨by omega, by omega⟩) (fun c2 => absurd c2 (by omega)) (fun c2 => ?_)
  refine K_aload_n (dt_at dtX12_game 11 rfl) rfl rfl ?_
  refine K_iload_n (dt_at dtX12_game 12 rfl) rfl rfl ?_
  refine K_iconst (dt_at dtX12_game 13 rfl) ?_
  refine K_callV (M' := mX12_isWhat) (a := 0) (ci := 12) (As := [vi 0, vi 1]) (st := []) (dt_at dtX12_game 14 rfl) (sX12_isWhat_t Gu1.2.2.2 (by omega) (by omega)) (show TT 0 = (0, 12) from rfl) rfl wL_X12_371 vX12_isWhat rfl npX12_isWhat (by decide) (by decide) (Nat.le_of_ble_eq_true rfl) (by decide) (by decide) GK_E (fun v9 h9 hq => ?_) (fun E h9 hq => by cases hq.1)
  obtain ⟨e9, e8⟩ := hq
  cases e9
  rw [e8]
  show K mX12_game _ _ 0 0 27 [(0, vr 0), (1, vi p), (2, vi q), (3, vi 0)] [vi 1] hu1
  refine K_if_eq (tgt := 48) (dt_at dtX12_game 15 rfl) (by decide) (by first | assumption | exact ⟨by omega, by omega⟩) (fun c3 => absurd c3 (by omega)) (fun c3 => ?_)
  refine K_aload_n (dt_at dtX12_game 16 rfl) rfl rfl ?_
  refine K_iload_n (dt_at dtX12_game 17 rfl) rfl rfl ?_
  refine K_iload_n (dt_at dtX12_game 18 rfl) rfl rfl ?_
  refine K_icmp_eq (tgt := 40) (dt_at dtX12_game 19 rfl) (by decide) (by first | assumption | exact ⟨by omega, by omega⟩) (by first | assumption | exact ⟨by omega, by omega⟩) (fun c4 => ?_) (fun c4 => ?_)
  · refine K_iconst (dt_at dtX12_game 22 rfl) ?_
    refine K_iconst (dt_at dtX12_game 23 rfl) ?_
    exact (by omega : False).elim
  · refine K_iconst (dt_at dtX12_game 20 rfl) ?_
    refine K_goto (tgt := 41) (dt_at dtX12_game 21 rfl) (by decide) ?_
    refine K_iconst (dt_at dtX12_game 23 rfl) ?_
    refine K_callV (M' := mX12_right) (a := 0) (ci := 12) (As := [vi 1, vi 2]) (st := []) (dt_at dtX12_game 24 rfl) (sX12_right_t Gu1.2.2.2) (show TT 0 = (0, 12) from rfl) rfl wL_X12_260 vX12_right rfl npX12_right (by decide) (by decide) (Nat.le_of_ble_eq_true rfl) (by decide) (by decide) GK_E (fun v9 h9 hq => ?_) (fun E h9 hq => by cases hq.1)
    obtain ⟨e9, e8⟩ := hq
    cases e9
    rw [e8]
    show K mX12_game _ _ 0 0 45 [(0, vr 0), (1, vi p), (2, vi q), (3, vi 0)] [vi 1] hu1
    refine K_if_ne (tgt := 50) (dt_at dtX12_game 25 rfl) (by decide) (by first | assumption | exact ⟨by omega, by omega⟩) (fun c5 => ?_) (fun c5 => absurd c5 (by omega))
    refine K_aload_n (dt_at dtX12_game 28 rfl) rfl rfl ?_
    refine K_iload_n (dt_at dtX12_game 29 rfl) rfl rfl ?_
    refine K_callV (M' := mX12_packsFor) (a := 0) (ci := 12) (As := [vi p]) (st := []) (dt_at dtX12_game 30 rfl) (sX12_packsFor (MG_D0 Gu1) hW ⟨by omega, by omega⟩) (show TT 0 = (0, 12) from rfl) rfl wL_X12_378 vX12_packsFor rfl npX12_packsFor (by decide) (by decide) (Nat.le_of_ble_eq_true rfl) (by decide) (by decide) GK_E (fun v9 h9 hq => ?_) (fun E h9 hq => by cases hq.1)
    obtain ⟨e9, e8⟩ := hq
    cases e9
    rw [e8]
    show K mX12_game _ _ 0 0 55 [(0, vr 0), (1, vi p), (2, vi q), (3, vi 0)] [vi (bitN (fun j => decide (f (22 + (j : Int)) = p)) (sNp S))] hu1
    refine K_if_eq (tgt := 66) (dt_at dtX12_game 31 rfl) (by decide) (bitN32 _ _) (fun c6 => ?_) (fun c6 => ?_)
    · refine K_iconst (dt_at dtX12_game 36 rfl) ?_
      exact K_iret (dt_at dtX12_game 37 rfl) rfl rfl (by decide) (by decide) ⟨rfl, Gu1.2.1, Gu1.2.2.2⟩
    · refine K_aload_n (dt_at dtX12_game 32 rfl) rfl rfl ?_
      refine K_iload_n (dt_at dtX12_game 33 rfl) rfl rfl ?_
      refine K_callV (M' := mX12_packsFor) (a := 0) (ci := 12) (As := [vi q]) (st := []) (dt_at dtX12_game 34 rfl) (sX12_packsFor (MG_D0 Gu1) hW ⟨by omega, by omega⟩) (show TT 0 = (0, 12) from rfl) rfl wL_X12_378 vX12_packsFor rfl npX12_packsFor (by decide) (by decide) (Nat.le_of_ble_eq_true rfl) (by decide) (by decide) GK_E (fun v9 h9 hq => ?_) (fun E h9 hq => by cases hq.1)
      obtain ⟨e9, e8⟩ := hq
      cases e9
      rw [e8]
      show K mX12_game _ _ 0 0 63 [(0, vr 0), (1, vi p), (2, vi q), (3, vi 0)] [vi (bitN (fun j => decide (f (22 + (j : Int)) = q)) (sNp S))] hu1
      refine K_if_ne (tgt := 68) (dt_at dtX12_game 35 rfl) (by decide) (bitN32 _ _) (fun c7 => ?_) (fun c7 => ?_)
      · exact (by rcases no with z | z <;> contradiction : False).elim
      · refine K_iconst (dt_at dtX12_game 36 rfl) ?_
        exact K_iret (dt_at dtX12_game 37 rfl) rfl rfl (by decide) (by decide) ⟨rfl, Gu1.2.1, Gu1.2.2.2⟩
set_option maxHeartbeats 4000000 in
set_option maxRecDepth 100000 in
theorem sX12_game_no1 {h : HP} {S : HS} {f : Int → Int} {p q : Int} (Q0 : MAsk h S f) (hp : 0 ≤ p ∧ p < sNp S) (hqt : 0 ≤ q ∧ q < sNp S) (pq : p ≠ q) (no : (bitN (fun j => decide (f (22 + (j : Int)) = p)) (sNp S)) = 0 ∨ (bitN (fun j => decide (f (22 + (j : Int)) = q)) (sNp S)) = 0) : SpecK mX12_game [vr 0, vi p, vi q, vi 1] h (fun o h' => o = .inl (some (vi (-1))) ∧ FQ h h' ∧ hI h' 0 0 = 0) := by
  refine Spec_of (by decide +kernel) (Nat.le_of_ble_eq_true rfl) ?_
  have hB := Q0.1.1
  have hNt := hB.1
  have hNp := hB.2.1
  have R := Q0.2.2.2.2
  have hT := R.1
  have hW := hT.1
  refine K_aload_n (dt_at dtX12_game 0 rfl) rfl rfl ?_
  refine K_iconst (dt_at dtX12_game 1 rfl) ?_
  refine K_putI (a := 0) (ci := 12) (k := 0) (dt_at dtX12_game 2 rfl) (show TT 0 = (0, 12) from rfl) rfl (by decide) wF_X12_105 rfl (Or.inl rfl) rfl rfl ?_
  obtain ⟨hu1, eu1⟩ : ∃ z, z = sI h 0 0 0 := ⟨_, rfl⟩
  rw [← eu1]
  obtain ⟨iu1, fu1, au1, ru1⟩ := sI_fx eu1
  have Gu1 := MG_0 Q0 eu1
  refine K_aload_n (dt_at dtX12_game 3 rfl) rfl rfl ?_
  refine K_iload_n (dt_at dtX12_game 4 rfl) rfl rfl ?_
  refine K_callV (M' := mX12_isPerson) (a := 0) (ci := 12) (As := [vi p]) (st := []) (dt_at dtX12_game 5 rfl) (sX12_isPerson_t (MD_np (MG_D0 Gu1)) hNp Gu1.2.2.2 (by omega)) (show TT 0 = (0, 12) from rfl) rfl wL_X12_375 vX12_isPerson rfl npX12_isPerson (by decide) (by decide) (Nat.le_of_ble_eq_true rfl) (by decide) (by decide) GK_E (fun v9 h9 hq => ?_) (fun E h9 hq => by cases hq.1)
  obtain ⟨e9, e8⟩ := hq
  cases e9
  rw [e8]
  show K mX12_game _ _ 0 0 10 [(0, vr 0), (1, vi p), (2, vi q), (3, vi 1)] [vi 1] hu1
  refine K_if_eq (tgt := 48) (dt_at dtX12_game 6 rfl) (by decide) (by first | assumption | exact ⟨by omega, by omega⟩) (fun c1 => absurd c1 (by omega)) (fun c1 => ?_)
  refine K_aload_n (dt_at dtX12_game 7 rfl) rfl rfl ?_
  refine K_iload_n (dt_at dtX12_game 8 rfl) rfl rfl ?_
  refine K_callV (M' := mX12_isPerson) (a := 0) (ci := 12) (As := [vi q]) (st := []) (dt_at dtX12_game 9 rfl) (sX12_isPerson_t (MD_np (MG_D0 Gu1)) hNp Gu1.2.2.2 (by omega)) (show TT 0 = (0, 12) from rfl) rfl wL_X12_375 vX12_isPerson rfl npX12_isPerson (by decide) (by decide) (Nat.le_of_ble_eq_true rfl) (by decide) (by decide) GK_E (fun v9 h9 hq => ?_) (fun E h9 hq => by cases hq.1)
  obtain ⟨e9, e8⟩ := hq
  cases e9
  rw [e8]
  show K mX12_game _ _ 0 0 18 [(0, vr 0), (1, vi p), (2, vi q), (3, vi 1)] [vi 1] hu1
  refine K_if_eq (tgt := 48) (dt_at dtX12_game 10 rfl) (by decide) (by first | assumption | exact ⟨by omega, by omega⟩) (fun c2 => absurd c2 (by omega)) (fun c2 => ?_)
  refine K_aload_n (dt_at dtX12_game 11 rfl) rfl rfl ?_
  refine K_iload_n (dt_at dtX12_game 12 rfl) rfl rfl ?_
  refine K_iconst (dt_at dtX12_game 13 rfl) ?_
  refine K_callV (M' := mX12_isWhat) (a := 0) (ci := 12) (As := [vi 1, vi 1]) (st := []) (dt_at dtX12_game 14 rfl) (sX12_isWhat_t Gu1.2.2.2 (by omega) (by omega)) (show TT 0 = (0, 12) from rfl) rfl wL_X12_371 vX12_isWhat rfl npX12_isWhat (by decide) (by decide) (Nat.le_of_ble_eq_true rfl) (by decide) (by decide) GK_E (fun v9 h9 hq => ?_) (fun E h9 hq => by cases hq.1)
  obtain ⟨e9, e8⟩ := hq
  cases e9
  rw [e8]
  show K mX12_game _ _ 0 0 27 [(0, vr 0), (1, vi p), (2, vi q), (3, vi 1)] [vi 1] hu1
  refine K_if_eq (tgt := 48) (dt_at dtX12_game 15 rfl) (by decide) (by first | assumption | exact ⟨by omega, by omega⟩) (fun c3 => absurd c3 (by omega)) (fun c3 => ?_)
  refine K_aload_n (dt_at dtX12_game 16 rfl) rfl rfl ?_
  refine K_iload_n (dt_at dtX12_game 17 rfl) rfl rfl ?_
  refine K_iload_n (dt_at dtX12_game 18 rfl) rfl rfl ?_
  refine K_icmp_eq (tgt := 40) (dt_at dtX12_game 19 rfl) (by decide) (by first | assumption | exact ⟨by omega, by omega⟩) (by first | assumption | exact ⟨by omega, by omega⟩) (fun c4 => ?_) (fun c4 => ?_)
  · refine K_iconst (dt_at dtX12_game 22 rfl) ?_
    refine K_iconst (dt_at dtX12_game 23 rfl) ?_
    exact (by omega : False).elim
  · refine K_iconst (dt_at dtX12_game 20 rfl) ?_
    refine K_goto (tgt := 41) (dt_at dtX12_game 21 rfl) (by decide) ?_
    refine K_iconst (dt_at dtX12_game 23 rfl) ?_
    refine K_callV (M' := mX12_right) (a := 0) (ci := 12) (As := [vi 1, vi 2]) (st := []) (dt_at dtX12_game 24 rfl) (sX12_right_t Gu1.2.2.2) (show TT 0 = (0, 12) from rfl) rfl wL_X12_260 vX12_right rfl npX12_right (by decide) (by decide) (Nat.le_of_ble_eq_true rfl) (by decide) (by decide) GK_E (fun v9 h9 hq => ?_) (fun E h9 hq => by cases hq.1)
    obtain ⟨e9, e8⟩ := hq
    cases e9
    rw [e8]
    show K mX12_game _ _ 0 0 45 [(0, vr 0), (1, vi p), (2, vi q), (3, vi 1)] [vi 1] hu1
    refine K_if_ne (tgt := 50) (dt_at dtX12_game 25 rfl) (by decide) (by first | assumption | exact ⟨by omega, by omega⟩) (fun c5 => ?_) (fun c5 => absurd c5 (by omega))
    refine K_aload_n (dt_at dtX12_game 28 rfl) rfl rfl ?_
    refine K_iload_n (dt_at dtX12_game 29 rfl) rfl rfl ?_
    refine K_callV (M' := mX12_packsFor) (a := 0) (ci := 12) (As := [vi p]) (st := []) (dt_at dtX12_game 30 rfl) (sX12_packsFor (MG_D0 Gu1) hW ⟨by omega, by omega⟩) (show TT 0 = (0, 12) from rfl) rfl wL_X12_378 vX12_packsFor rfl npX12_packsFor (by decide) (by decide) (Nat.le_of_ble_eq_true rfl) (by decide) (by decide) GK_E (fun v9 h9 hq => ?_) (fun E h9 hq => by cases hq.1)
    obtain ⟨e9, e8⟩ := hq
    cases e9
    rw [e8]
    show K mX12_game _ _ 0 0 55 [(0, vr 0), (1, vi p), (2, vi q), (3, vi 1)] [vi (bitN (fun j => decide (f (22 + (j : Int)) = p)) (sNp S))] hu1
    refine K_if_eq (tgt := 66) (dt_at dtX12_game 31 rfl) (by decide) (bitN32 _ _) (fun c6 => ?_) (fun c6 => ?_)
    · refine K_iconst (dt_at dtX12_game 36 rfl) ?_
      exact K_iret (dt_at dtX12_game 37 rfl) rfl rfl (by decide) (by decide) ⟨rfl, Gu1.2.1, Gu1.2.2.2⟩
    · refine K_aload_n (dt_at dtX12_game 32 rfl) rfl rfl ?_
      refine K_iload_n (dt_at dtX12_game 33 rfl) rfl rfl ?_
      refine K_callV (M' := mX12_packsFor) (a := 0) (ci := 12) (As := [vi q]) (st := []) (dt_at dtX12_game 34 rfl) (sX12_packsFor (MG_D0 Gu1) hW ⟨by omega, by omega⟩) (show TT 0 = (0, 12) from rfl) rfl wL_X12_378 vX12_packsFor rfl npX12_packsFor (by decide) (by decide) (Nat.le_of_ble_eq_true rfl) (by decide) (by decide) GK_E (fun v9 h9 hq => ?_) (fun E h9 hq => by cases hq.1)
      obtain ⟨e9, e8⟩ := hq
      cases e9
      rw [e8]
      show K mX12_game _ _ 0 0 63 [(0, vr 0), (1, vi p), (2, vi q), (3, vi 1)] [vi (bitN (fun j => decide (f (22 + (j : Int)) = q)) (sNp S))] hu1
      refine K_if_ne (tgt := 68) (dt_at dtX12_game 35 rfl) (by decide) (bitN32 _ _) (fun c7 => ?_) (fun c7 => ?_)
      · exact (by rcases no with z | z <;> contradiction : False).elim
      · refine K_iconst (dt_at dtX12_game 36 rfl) ?_
        exact K_iret (dt_at dtX12_game 37 rfl) rfl rfl (by decide) (by decide) ⟨rfl, Gu1.2.1, Gu1.2.2.2⟩
theorem fs_b (P : Nat → Bool) : ∀ k : Nat, k ≤ 4 → -1 ≤ itN (fun k v => if v = -1 ∧ P k = true then (((k / 2 * 10 + k % 2 : Nat) : Int)) else v) (-1) k ∧ itN (fun k v => if v = -1 ∧ P k = true then (((k / 2 * 10 + k % 2 : Nat) : Int)) else v) (-1) k ≤ 11
  | 0, _ => ⟨by show (-1 : Int) ≤ -1; omega, by show (-1 : Int) ≤ 11; omega⟩
  | k + 1, hk => by
    have ih := fs_b P k (by omega)
    show -1 ≤ (if _ ∧ _ then _ else _) ∧ (if _ ∧ _ then _ else _) ≤ (11 : Int)
    split
    · omega
    · exact ih
set_option maxHeartbeats 4000000 in
set_option maxRecDepth 100000 in
theorem lp_X12_game_0 {h : HP} {S : HS} {f : Int → Int} {p q : Int} (Q0 : MAsk h S f) (hp : 0 ≤ p ∧ p < sNp S) (hqt : 0 ≤ q ∧ q < sNp S) : ∀ (dd k : Nat) (hh : HP), k + dd = 4 → (∃ g, MG h hh S f g) → K mX12_game GK (ZK (fun o h' => o = .inl (some (vi (cntN (rsB (gm1 S f p q) (gm2 S f p q)) 4))) ∧ FQ h h' ∧ hI h' 0 0 = 0) 0 0) 0 0 77 [(6, vi (k : Int)), (5, vi (itN (fun k v => if v = -1 ∧ rsB (gm1 S f p q) (gm2 S f p q) k = true then (((k / 2 * 10 + k % 2 : Nat) : Int)) else v) (-1) k)), (4, vi (cntN (rsB (gm1 S f p q) (gm2 S f p q)) k)), (0, vr 0), (1, vi p), (2, vi q), (3, vi 0)] [] hh := by
  intro dd
  induction dd with
  | zero =>
    intro k hh hk ge
    have hB := Q0.1.1
    have hNt := hB.1
    have hNp := hB.2.1
    have R := Q0.2.2.2.2
    have hT := R.1
    have hW := hT.1
    obtain ⟨g, G⟩ := ge
    have ek : k = 4 := by omega
    refine K_iload (dt_at dtX12_game 44 rfl) rfl ?_
    refine K_iconst (dt_at dtX12_game 45 rfl) ?_
    refine K_icmp_ge (tgt := 173) (dt_at dtX12_game 46 rfl) (by decide) (by first | assumption | exact ⟨by omega, by omega⟩) (by first | assumption | exact ⟨by omega, by omega⟩) (fun c1 => ?_) (fun c1 => absurd c1 (by omega))
    refine K_iload_n (dt_at dtX12_game 98 rfl) rfl rfl ?_
    refine K_if_ne (tgt := 182) (dt_at dtX12_game 99 rfl) (by decide) (by first | assumption | exact ⟨by omega, by omega⟩) (fun c2 => absurd c2 (by omega)) (fun c2 => ?_)
    refine K_iload (dt_at dtX12_game 100 rfl) rfl ?_
    refine K_goto (tgt := 184) (dt_at dtX12_game 101 rfl) (by decide) ?_
    exact K_iret (dt_at dtX12_game 103 rfl) rfl rfl (by decide) (by decide) ⟨by rw [ek], G.2.1, G.2.2.2⟩
  | succ dd ih =>
    intro k hh hk ge
    have hB := Q0.1.1
    have hNt := hB.1
    have hNp := hB.2.1
    have R := Q0.2.2.2.2
    have hT := R.1
    have hW := hT.1
    obtain ⟨g, G⟩ := ge
    have fb : -1 ≤ (itN (fun k v => if v = -1 ∧ rsB (gm1 S f p q) (gm2 S f p q) k = true then (((k / 2 * 10 + k % 2 : Nat) : Int)) else v) (-1) k) ∧ (itN (fun k v => if v = -1 ∧ rsB (gm1 S f p q) (gm2 S f p q) k = true then (((k / 2 * 10 + k % 2 : Nat) : Int)) else v) (-1) k) ≤ 11 := fs_b (fun k => rsB (gm1 S f p q) (gm2 S f p q) k) k (by omega)
    obtain ⟨x1, x2, x3, x4⟩ := xor2 ⟨k, by omega⟩
    change (k ^^^ 2) / 2 = 1 - k / 2 at x1
    change (k ^^^ 2) % 2 = k % 2 at x2
    change (k ^^^ 1) / 2 = k / 2 at x3
    change (k ^^^ 1) % 2 = 1 - k % 2 at x4
    have eu0 : gm1 S f p q (k ^^^ 2) = (gaV S f p q (1 - k / 2) (k % 2)) := by rw [ga_1, x1, x2]
    have eu1 : gm1 S f p q k = (gaV S f p q (k / 2) (k % 2)) := ga_1 S f p q k
    have ew0 : gm2 S f p q (k ^^^ 1) = (gaV S f q p (1 - k % 2) (k / 2)) := by rw [ga_2 hB, x3, x4]
    have ew1 : gm2 S f p q k = (gaV S f q p (k % 2) (k / 2)) := ga_2 hB f p q k
    have gb : ∀ (a b : Int) (x y : Nat), 0 ≤ gaV S f a b x y ∧ gaV S f a b x y ≤ 1000000000 := fun a b x y => gnF_b hB (dysF_ok hB (crX_ok (crX_ok hT R.2.1 hNp hNp).1 (crX_ok hT R.2.1 hNp hNp).2.1 hNp hNp).1 (crX_ok (crX_ok hT R.2.1 hNp hNp).1 (crX_ok hT R.2.1 hNp hNp).2.1 hNp hNp).2.1 5 (by rw [(crX_ok (crX_ok hT R.2.1 hNp hNp).1 (crX_ok hT R.2.1 hNp hNp).2.1 hNp hNp).2.2, (crX_ok hT R.2.1 hNp hNp).2.2]; have := R.2.2.1; omega)).1
    have bu0 := gb p q (1 - k / 2) (k % 2)
    have bu1 := gb p q (k / 2) (k % 2)
    have bw0 := gb q p (1 - k % 2) (k / 2)
    have bw1 := gb q p (k % 2) (k / 2)
    refine K_iload (dt_at dtX12_game 44 rfl) rfl ?_
    refine K_iconst (dt_at dtX12_game 45 rfl) ?_
    refine K_icmp_ge (tgt := 173) (dt_at dtX12_game 46 rfl) (by decide) (by first | assumption | exact ⟨by omega, by omega⟩) (by first | assumption | exact ⟨by omega, by omega⟩) (fun c1 => absurd c1 (by omega)) (fun c1 => ?_)
    refine K_iload (dt_at dtX12_game 47 rfl) rfl ?_
    refine K_iconst (dt_at dtX12_game 48 rfl) ?_
    refine K_idiv (dt_at dtX12_game 49 rfl) (by first | assumption | exact ⟨by omega, by omega⟩) (by first | assumption | exact ⟨by omega, by omega⟩) (by omega) ?_
    rw [td2]
    refine K_istore (ls' := [(7, vi ((k / 2 : Nat) : Int)), (6, vi (k : Int)), (5, vi (itN (fun k v => if v = -1 ∧ rsB (gm1 S f p q) (gm2 S f p q) k = true then (((k / 2 * 10 + k % 2 : Nat) : Int)) else v) (-1) k)), (4, vi (cntN (rsB (gm1 S f p q) (gm2 S f p q)) k)), (0, vr 0), (1, vi p), (2, vi q), (3, vi 0)]) (dt_at dtX12_game 50 rfl) (by decide) rfl ?_
    refine K_iload (dt_at dtX12_game 51 rfl) rfl ?_
    refine K_iconst (dt_at dtX12_game 52 rfl) ?_
    refine K_irem (dt_at dtX12_game 53 rfl) (by first | assumption | exact ⟨by omega, by omega⟩) (by first | assumption | exact ⟨by omega, by omega⟩) (by omega) ?_
    rw [tm2]
    refine K_istore (ls' := [(8, vi ((k % 2 : Nat) : Int)), (7, vi ((k / 2 : Nat) : Int)), (6, vi (k : Int)), (5, vi (itN (fun k v => if v = -1 ∧ rsB (gm1 S f p q) (gm2 S f p q) k = true then (((k / 2 * 10 + k % 2 : Nat) : Int)) else v) (-1) k)), (4, vi (cntN (rsB (gm1 S f p q) (gm2 S f p q)) k)), (0, vr 0), (1, vi p), (2, vi q), (3, vi 0)]) (dt_at dtX12_game 54 rfl) (by decide) rfl ?_
    refine K_aload_n (dt_at dtX12_game 55 rfl) rfl rfl ?_
    refine K_iload_n (dt_at dtX12_game 56 rfl) rfl rfl ?_
    refine K_iload_n (dt_at dtX12_game 57 rfl) rfl rfl ?_
    refine K_iconst (dt_at dtX12_game 58 rfl) ?_
    refine K_iload (dt_at dtX12_game 59 rfl) rfl ?_
    refine K_isub (dt_at dtX12_game 60 rfl) ?_
    refine K_iload (dt_at dtX12_game 61 rfl) rfl ?_
    refine K_callV (M' := mX12_gains) (a := 0) (ci := 12) (As := [vi p, vi q, vi (1 - ((k / 2 : Nat) : Int)), vi ((k % 2 : Nat) : Int)]) (st := []) (dt_at dtX12_game 62 rfl) (show SpecK mX12_gains [vr 0, vi p, vi q, vi (1 - ((k / 2 : Nat) : Int)), vi ((k % 2 : Nat) : Int)] hh (fun o h' => o = .inl (some (vi (gaV S f p q (1 - k / 2) (k % 2)))) ∧ ∃ g, MG h h' S f g) by have z := sX12_gains (x := (1 - k / 2)) (y := (k % 2)) Q0 hp hqt G (by omega) (by omega); rw [show (((1 - k / 2) : Nat) : Int) = (1 - ((k / 2 : Nat) : Int)) by omega] at z; exact z) (show TT 0 = (0, 12) from rfl) rfl wL_X12_438 vX12_gains rfl npX12_gains (by decide) (by decide) (Nat.le_of_ble_eq_true rfl) (by decide) (by decide) GK_E (fun v9 hc1 hq => ?_) (fun E h9 hq => by cases hq.1)
    have hqq2 := hq
    obtain ⟨e9q2, ⟨gq2, Gq2⟩⟩ := hqq2
    cases e9q2
    show K mX12_game _ _ 0 0 107 [(8, vi ((k % 2 : Nat) : Int)), (7, vi ((k / 2 : Nat) : Int)), (6, vi (k : Int)), (5, vi (itN (fun k v => if v = -1 ∧ rsB (gm1 S f p q) (gm2 S f p q) k = true then (((k / 2 * 10 + k % 2 : Nat) : Int)) else v) (-1) k)), (4, vi (cntN (rsB (gm1 S f p q) (gm2 S f p q)) k)), (0, vr 0), (1, vi p), (2, vi q), (3, vi 0)] [vi (gaV S f p q (1 - k / 2) (k % 2))] hc1
    refine K_aload_n (dt_at dtX12_game 63 rfl) rfl rfl ?_
    refine K_iload_n (dt_at dtX12_game 64 rfl) rfl rfl ?_
    refine K_iload_n (dt_at dtX12_game 65 rfl) rfl rfl ?_
    refine K_iload (dt_at dtX12_game 66 rfl) rfl ?_
    refine K_iload (dt_at dtX12_game 67 rfl) rfl ?_
    refine K_callV (M' := mX12_gains) (a := 0) (ci := 12) (As := [vi p, vi q, vi ((k / 2 : Nat) : Int), vi ((k % 2 : Nat) : Int)]) (st := [vi (gaV S f p q (1 - k / 2) (k % 2))]) (dt_at dtX12_game 68 rfl) (show SpecK mX12_gains [vr 0, vi p, vi q, vi ((k / 2 : Nat) : Int), vi ((k % 2 : Nat) : Int)] hc1 (fun o h' => o = .inl (some (vi (gaV S f p q (k / 2) (k % 2)))) ∧ ∃ g, MG h h' S f g) by have z := sX12_gains (x := (k / 2)) (y := (k % 2)) Q0 hp hqt Gq2 (by omega) (by omega); exact z) (show TT 0 = (0, 12) from rfl) rfl wL_X12_438 vX12_gains rfl npX12_gains (by decide) (by decide) (Nat.le_of_ble_eq_true rfl) (by decide) (by decide) GK_E (fun v9 hc3 hq => ?_) (fun E h9 hq => by cases hq.1)
    have hqq4 := hq
    obtain ⟨e9q4, ⟨gq4, Gq4⟩⟩ := hqq4
    cases e9q4
    show K mX12_game _ _ 0 0 117 [(8, vi ((k % 2 : Nat) : Int)), (7, vi ((k / 2 : Nat) : Int)), (6, vi (k : Int)), (5, vi (itN (fun k v => if v = -1 ∧ rsB (gm1 S f p q) (gm2 S f p q) k = true then (((k / 2 * 10 + k % 2 : Nat) : Int)) else v) (-1) k)), (4, vi (cntN (rsB (gm1 S f p q) (gm2 S f p q)) k)), (0, vr 0), (1, vi p), (2, vi q), (3, vi 0)] [vi (gaV S f p q (k / 2) (k % 2)), vi (gaV S f p q (1 - k / 2) (k % 2))] hc3
    refine K_icmp_gt (tgt := 167) (dt_at dtX12_game 69 rfl) (by decide) (by first | assumption | exact ⟨by omega, by omega⟩) (by first | assumption | exact ⟨by omega, by omega⟩) (fun c2 => ?_) (fun c2 => ?_)
    · refine K_iinc (ls' := [(6, vi ((k : Int) + 1)), (8, vi ((k % 2 : Nat) : Int)), (7, vi ((k / 2 : Nat) : Int)), (5, vi (itN (fun k v => if v = -1 ∧ rsB (gm1 S f p q) (gm2 S f p q) k = true then (((k / 2 * 10 + k % 2 : Nat) : Int)) else v) (-1) k)), (4, vi (cntN (rsB (gm1 S f p q) (gm2 S f p q)) k)), (0, vr 0), (1, vi p), (2, vi q), (3, vi 0)]) (dt_at dtX12_game 96 rfl) rfl (by decide) rfl ?_
      refine K_goto (tgt := 77) (dt_at dtX12_game 97 rfl) (by decide) ?_
      have rs : rsB (gm1 S f p q) (gm2 S f p q) k = false := by unfold rsB; rw [eu0, eu1, ew0, ew1]; simp only [Bool.and_eq_true, Bool.and_eq_false_iff, decide_eq_true_eq, decide_eq_false_iff_not]; omega
      refine K_pk [0, 3, 4, 5, 6, 7, 8] (ls' := [(6, vi ((k : Int) + 1)), (5, vi (itN (fun k v => if v = -1 ∧ rsB (gm1 S f p q) (gm2 S f p q) k = true then (((k / 2 * 10 + k % 2 : Nat) : Int)) else v) (-1) k)), (4, vi (cntN (rsB (gm1 S f p q) (gm2 S f p q)) k)), (0, vr 0), (1, vi p), (2, vi q), (3, vi 0)]) rfl ?_
      exact K_cg (ls' := [(6, vi ((k + 1 : Nat) : Int)), (5, vi (itN (fun k v => if v = -1 ∧ rsB (gm1 S f p q) (gm2 S f p q) k = true then (((k / 2 * 10 + k % 2 : Nat) : Int)) else v) (-1) (k + 1))), (4, vi (cntN (rsB (gm1 S f p q) (gm2 S f p q)) (k + 1))), (0, vr 0), (1, vi p), (2, vi q), (3, vi 0)]) (h' := hc3) (by rw [show (itN (fun k v => if v = -1 ∧ rsB (gm1 S f p q) (gm2 S f p q) k = true then (((k / 2 * 10 + k % 2 : Nat) : Int)) else v) (-1) (k + 1)) = (if (itN (fun k v => if v = -1 ∧ rsB (gm1 S f p q) (gm2 S f p q) k = true then (((k / 2 * 10 + k % 2 : Nat) : Int)) else v) (-1) k) = -1 ∧ rsB (gm1 S f p q) (gm2 S f p q) k = true then (((k / 2 * 10 + k % 2 : Nat) : Int)) else (itN (fun k v => if v = -1 ∧ rsB (gm1 S f p q) (gm2 S f p q) k = true then (((k / 2 * 10 + k % 2 : Nat) : Int)) else v) (-1) k)) from rfl, if_neg (by rw [rs]; rintro ⟨-, z⟩; cases z), cntN_f rs]; rfl) rfl (ih (k + 1) hc3 (by omega) ⟨_, Gq4⟩)
    · refine K_aload_n (dt_at dtX12_game 70 rfl) rfl rfl ?_
      refine K_iload_n (dt_at dtX12_game 71 rfl) rfl rfl ?_
      refine K_iload_n (dt_at dtX12_game 72 rfl) rfl rfl ?_
      refine K_iconst (dt_at dtX12_game 73 rfl) ?_
      refine K_iload (dt_at dtX12_game 74 rfl) rfl ?_
      refine K_isub (dt_at dtX12_game 75 rfl) ?_
      refine K_iload (dt_at dtX12_game 76 rfl) rfl ?_
      refine K_callV (M' := mX12_gains) (a := 0) (ci := 12) (As := [vi q, vi p, vi (1 - ((k % 2 : Nat) : Int)), vi ((k / 2 : Nat) : Int)]) (st := []) (dt_at dtX12_game 77 rfl) (show SpecK mX12_gains [vr 0, vi q, vi p, vi (1 - ((k % 2 : Nat) : Int)), vi ((k / 2 : Nat) : Int)] hc3 (fun o h' => o = .inl (some (vi (gaV S f q p (1 - k % 2) (k / 2)))) ∧ ∃ g, MG h h' S f g) by have z := sX12_gains (x := (1 - k % 2)) (y := (k / 2)) Q0 hqt hp Gq4 (by omega) (by omega); rw [show (((1 - k % 2) : Nat) : Int) = (1 - ((k % 2 : Nat) : Int)) by omega] at z; exact z) (show TT 0 = (0, 12) from rfl) rfl wL_X12_438 vX12_gains rfl npX12_gains (by decide) (by decide) (Nat.le_of_ble_eq_true rfl) (by decide) (by decide) GK_E (fun v9 hc5 hq => ?_) (fun E h9 hq => by cases hq.1)
      have hqq6 := hq
      obtain ⟨e9q6, ⟨gq6, Gq6⟩⟩ := hqq6
      cases e9q6
      show K mX12_game _ _ 0 0 132 [(8, vi ((k % 2 : Nat) : Int)), (7, vi ((k / 2 : Nat) : Int)), (6, vi (k : Int)), (5, vi (itN (fun k v => if v = -1 ∧ rsB (gm1 S f p q) (gm2 S f p q) k = true then (((k / 2 * 10 + k % 2 : Nat) : Int)) else v) (-1) k)), (4, vi (cntN (rsB (gm1 S f p q) (gm2 S f p q)) k)), (0, vr 0), (1, vi p), (2, vi q), (3, vi 0)] [vi (gaV S f q p (1 - k % 2) (k / 2))] hc5
      refine K_aload_n (dt_at dtX12_game 78 rfl) rfl rfl ?_
      refine K_iload_n (dt_at dtX12_game 79 rfl) rfl rfl ?_
      refine K_iload_n (dt_at dtX12_game 80 rfl) rfl rfl ?_
      refine K_iload (dt_at dtX12_game 81 rfl) rfl ?_
      refine K_iload (dt_at dtX12_game 82 rfl) rfl ?_
      refine K_callV (M' := mX12_gains) (a := 0) (ci := 12) (As := [vi q, vi p, vi ((k % 2 : Nat) : Int), vi ((k / 2 : Nat) : Int)]) (st := [vi (gaV S f q p (1 - k % 2) (k / 2))]) (dt_at dtX12_game 83 rfl) (show SpecK mX12_gains [vr 0, vi q, vi p, vi ((k % 2 : Nat) : Int), vi ((k / 2 : Nat) : Int)] hc5 (fun o h' => o = .inl (some (vi (gaV S f q p (k % 2) (k / 2)))) ∧ ∃ g, MG h h' S f g) by have z := sX12_gains (x := (k % 2)) (y := (k / 2)) Q0 hqt hp Gq6 (by omega) (by omega); exact z) (show TT 0 = (0, 12) from rfl) rfl wL_X12_438 vX12_gains rfl npX12_gains (by decide) (by decide) (Nat.le_of_ble_eq_true rfl) (by decide) (by decide) GK_E (fun v9 hc7 hq => ?_) (fun E h9 hq => by cases hq.1)
      have hqq8 := hq
      obtain ⟨e9q8, ⟨gq8, Gq8⟩⟩ := hqq8
      cases e9q8
      show K mX12_game _ _ 0 0 142 [(8, vi ((k % 2 : Nat) : Int)), (7, vi ((k / 2 : Nat) : Int)), (6, vi (k : Int)), (5, vi (itN (fun k v => if v = -1 ∧ rsB (gm1 S f p q) (gm2 S f p q) k = true then (((k / 2 * 10 + k % 2 : Nat) : Int)) else v) (-1) k)), (4, vi (cntN (rsB (gm1 S f p q) (gm2 S f p q)) k)), (0, vr 0), (1, vi p), (2, vi q), (3, vi 0)] [vi (gaV S f q p (k % 2) (k / 2)), vi (gaV S f q p (1 - k % 2) (k / 2))] hc7
      refine K_icmp_le (tgt := 148) (dt_at dtX12_game 84 rfl) (by decide) (by first | assumption | exact ⟨by omega, by omega⟩) (by first | assumption | exact ⟨by omega, by omega⟩) (fun c3 => ?_) (fun c3 => ?_)
      · refine K_iinc (ls' := [(4, vi ((cntN (rsB (gm1 S f p q) (gm2 S f p q)) k) + 1)), (8, vi ((k % 2 : Nat) : Int)), (7, vi ((k / 2 : Nat) : Int)), (6, vi (k : Int)), (5, vi (itN (fun k v => if v = -1 ∧ rsB (gm1 S f p q) (gm2 S f p q) k = true then (((k / 2 * 10 + k % 2 : Nat) : Int)) else v) (-1) k)), (0, vr 0), (1, vi p), (2, vi q), (3, vi 0)]) (dt_at dtX12_game 86 rfl) rfl (by decide) rfl ?_
        refine K_iload (dt_at dtX12_game 87 rfl) rfl ?_
        refine K_iconst (dt_at dtX12_game 88 rfl) ?_
        refine K_icmp_ne (tgt := 167) (dt_at dtX12_game 89 rfl) (by decide) (by first | assumption | exact ⟨by omega, by omega⟩) (by first | assumption | exact ⟨by omega, by omega⟩) (fun c4 => ?_) (fun c4 => ?_)
        · refine K_iinc (ls' := [(6, vi ((k : Int) + 1)), (4, vi ((cntN (rsB (gm1 S f p q) (gm2 S f p q)) k) + 1)), (8, vi ((k % 2 : Nat) : Int)), (7, vi ((k / 2 : Nat) : Int)), (5, vi (itN (fun k v => if v = -1 ∧ rsB (gm1 S f p q) (gm2 S f p q) k = true then (((k / 2 * 10 + k % 2 : Nat) : Int)) else v) (-1) k)), (0, vr 0), (1, vi p), (2, vi q), (3, vi 0)]) (dt_at dtX12_game 96 rfl) rfl (by decide) rfl ?_
          refine K_goto (tgt := 77) (dt_at dtX12_game 97 rfl) (by decide) ?_
          have rs : rsB (gm1 S f p q) (gm2 S f p q) k = true := by unfold rsB; rw [eu0, eu1, ew0, ew1]; simp only [Bool.and_eq_true, Bool.and_eq_false_iff, decide_eq_true_eq, decide_eq_false_iff_not]; omega
          refine K_pk [0, 4, 1, 5, 6, 7, 8] (ls' := [(6, vi ((k : Int) + 1)), (5, vi (itN (fun k v => if v = -1 ∧ rsB (gm1 S f p q) (gm2 S f p q) k = true then (((k / 2 * 10 + k % 2 : Nat) : Int)) else v) (-1) k)), (4, vi ((cntN (rsB (gm1 S f p q) (gm2 S f p q)) k) + 1)), (0, vr 0), (1, vi p), (2, vi q), (3, vi 0)]) rfl ?_
          exact K_cg (ls' := [(6, vi ((k + 1 : Nat) : Int)), (5, vi (itN (fun k v => if v = -1 ∧ rsB (gm1 S f p q) (gm2 S f p q) k = true then (((k / 2 * 10 + k % 2 : Nat) : Int)) else v) (-1) (k + 1))), (4, vi (cntN (rsB (gm1 S f p q) (gm2 S f p q)) (k + 1))), (0, vr 0), (1, vi p), (2, vi q), (3, vi 0)]) (h' := hc7) (by rw [show (itN (fun k v => if v = -1 ∧ rsB (gm1 S f p q) (gm2 S f p q) k = true then (((k / 2 * 10 + k % 2 : Nat) : Int)) else v) (-1) (k + 1)) = (if (itN (fun k v => if v = -1 ∧ rsB (gm1 S f p q) (gm2 S f p q) k = true then (((k / 2 * 10 + k % 2 : Nat) : Int)) else v) (-1) k) = -1 ∧ rsB (gm1 S f p q) (gm2 S f p q) k = true then (((k / 2 * 10 + k % 2 : Nat) : Int)) else (itN (fun k v => if v = -1 ∧ rsB (gm1 S f p q) (gm2 S f p q) k = true then (((k / 2 * 10 + k % 2 : Nat) : Int)) else v) (-1) k)) from rfl, if_neg (by rintro ⟨z, -⟩; contradiction), cntN_t rs]; rfl) rfl (ih (k + 1) hc7 (by omega) ⟨_, Gq8⟩)
        · refine K_bipush (dt_at dtX12_game 90 rfl) (by decide) ?_
          refine K_iload (dt_at dtX12_game 91 rfl) rfl ?_
          refine K_imul (dt_at dtX12_game 92 rfl) ?_
          refine K_iload (dt_at dtX12_game 93 rfl) rfl ?_
          refine K_iadd (dt_at dtX12_game 94 rfl) ?_
          refine K_istore (ls' := [(5, vi ((10 * ((k / 2 : Nat) : Int)) + ((k % 2 : Nat) : Int))), (4, vi ((cntN (rsB (gm1 S f p q) (gm2 S f p q)) k) + 1)), (8, vi ((k % 2 : Nat) : Int)), (7, vi ((k / 2 : Nat) : Int)), (6, vi (k : Int)), (0, vr 0), (1, vi p), (2, vi q), (3, vi 0)]) (dt_at dtX12_game 95 rfl) (by decide) rfl ?_
          refine K_iinc (ls' := [(6, vi ((k : Int) + 1)), (5, vi ((10 * ((k / 2 : Nat) : Int)) + ((k % 2 : Nat) : Int))), (4, vi ((cntN (rsB (gm1 S f p q) (gm2 S f p q)) k) + 1)), (8, vi ((k % 2 : Nat) : Int)), (7, vi ((k / 2 : Nat) : Int)), (0, vr 0), (1, vi p), (2, vi q), (3, vi 0)]) (dt_at dtX12_game 96 rfl) rfl (by decide) rfl ?_
          refine K_goto (tgt := 77) (dt_at dtX12_game 97 rfl) (by decide) ?_
          have rs : rsB (gm1 S f p q) (gm2 S f p q) k = true := by unfold rsB; rw [eu0, eu1, ew0, ew1]; simp only [Bool.and_eq_true, Bool.and_eq_false_iff, decide_eq_true_eq, decide_eq_false_iff_not]; omega
          refine K_pk [0, 1, 2, 5, 6, 7, 8] (ls' := [(6, vi ((k : Int) + 1)), (5, vi ((10 * ((k / 2 : Nat) : Int)) + ((k % 2 : Nat) : Int))), (4, vi ((cntN (rsB (gm1 S f p q) (gm2 S f p q)) k) + 1)), (0, vr 0), (1, vi p), (2, vi q), (3, vi 0)]) rfl ?_
          exact K_cg (ls' := [(6, vi ((k + 1 : Nat) : Int)), (5, vi (itN (fun k v => if v = -1 ∧ rsB (gm1 S f p q) (gm2 S f p q) k = true then (((k / 2 * 10 + k % 2 : Nat) : Int)) else v) (-1) (k + 1))), (4, vi (cntN (rsB (gm1 S f p q) (gm2 S f p q)) (k + 1))), (0, vr 0), (1, vi p), (2, vi q), (3, vi 0)]) (h' := hc7) (by rw [show (itN (fun k v => if v = -1 ∧ rsB (gm1 S f p q) (gm2 S f p q) k = true then (((k / 2 * 10 + k % 2 : Nat) : Int)) else v) (-1) (k + 1)) = (if (itN (fun k v => if v = -1 ∧ rsB (gm1 S f p q) (gm2 S f p q) k = true then (((k / 2 * 10 + k % 2 : Nat) : Int)) else v) (-1) k) = -1 ∧ rsB (gm1 S f p q) (gm2 S f p q) k = true then (((k / 2 * 10 + k % 2 : Nat) : Int)) else (itN (fun k v => if v = -1 ∧ rsB (gm1 S f p q) (gm2 S f p q) k = true then (((k / 2 * 10 + k % 2 : Nat) : Int)) else v) (-1) k)) from rfl, if_pos ⟨by assumption, rs⟩, cntN_t rs, show ((k / 2 * 10 + k % 2 : Nat) : Int) = ((10 * ((k / 2 : Nat) : Int)) + ((k % 2 : Nat) : Int)) by omega]; rfl) rfl (ih (k + 1) hc7 (by omega) ⟨_, Gq8⟩)
      · refine K_goto (tgt := 167) (dt_at dtX12_game 85 rfl) (by decide) ?_
        refine K_iinc (ls' := [(6, vi ((k : Int) + 1)), (8, vi ((k % 2 : Nat) : Int)), (7, vi ((k / 2 : Nat) : Int)), (5, vi (itN (fun k v => if v = -1 ∧ rsB (gm1 S f p q) (gm2 S f p q) k = true then (((k / 2 * 10 + k % 2 : Nat) : Int)) else v) (-1) k)), (4, vi (cntN (rsB (gm1 S f p q) (gm2 S f p q)) k)), (0, vr 0), (1, vi p), (2, vi q), (3, vi 0)]) (dt_at dtX12_game 96 rfl) rfl (by decide) rfl ?_
        refine K_goto (tgt := 77) (dt_at dtX12_game 97 rfl) (by decide) ?_
        have rs : rsB (gm1 S f p q) (gm2 S f p q) k = false := by unfold rsB; rw [eu0, eu1, ew0, ew1]; simp only [Bool.and_eq_true, Bool.and_eq_false_iff, decide_eq_true_eq, decide_eq_false_iff_not]; omega
        refine K_pk [0, 3, 4, 5, 6, 7, 8] (ls' := [(6, vi ((k : Int) + 1)), (5, vi (itN (fun k v => if v = -1 ∧ rsB (gm1 S f p q) (gm2 S f p q) k = true then (((k / 2 * 10 + k % 2 : Nat) : Int)) else v) (-1) k)), (4, vi (cntN (rsB (gm1 S f p q) (gm2 S f p q)) k)), (0, vr 0), (1, vi p), (2, vi q), (3, vi 0)]) rfl ?_
        exact K_cg (ls' := [(6, vi ((k + 1 : Nat) : Int)), (5, vi (itN (fun k v => if v = -1 ∧ rsB (gm1 S f p q) (gm2 S f p q) k = true then (((k / 2 * 10 + k % 2 : Nat) : Int)) else v) (-1) (k + 1))), (4, vi (cntN (rsB (gm1 S f p q) (gm2 S f p q)) (k + 1))), (0, vr 0), (1, vi p), (2, vi q), (3, vi 0)]) (h' := hc7) (by rw [show (itN (fun k v => if v = -1 ∧ rsB (gm1 S f p q) (gm2 S f p q) k = true then (((k / 2 * 10 + k % 2 : Nat) : Int)) else v) (-1) (k + 1)) = (if (itN (fun k v => if v = -1 ∧ rsB (gm1 S f p q) (gm2 S f p q) k = true then (((k / 2 * 10 + k % 2 : Nat) : Int)) else v) (-1) k) = -1 ∧ rsB (gm1 S f p q) (gm2 S f p q) k = true then (((k / 2 * 10 + k % 2 : Nat) : Int)) else (itN (fun k v => if v = -1 ∧ rsB (gm1 S f p q) (gm2 S f p q) k = true then (((k / 2 * 10 + k % 2 : Nat) : Int)) else v) (-1) k)) from rfl, if_neg (by rw [rs]; rintro ⟨-, z⟩; cases z), cntN_f rs]; rfl) rfl (ih (k + 1) hc7 (by omega) ⟨_, Gq8⟩)
set_option maxHeartbeats 4000000 in
set_option maxRecDepth 100000 in
theorem sX12_game_0 {h : HP} {S : HS} {f : Int → Int} {p q : Int} (Q0 : MAsk h S f) (hp : 0 ≤ p ∧ p < sNp S) (hqt : 0 ≤ q ∧ q < sNp S) (pq : p ≠ q) (ok1 : (bitN (fun j => decide (f (22 + (j : Int)) = p)) (sNp S)) ≠ 0) (ok2 : (bitN (fun j => decide (f (22 + (j : Int)) = q)) (sNp S)) ≠ 0) : SpecK mX12_game [vr 0, vi p, vi q, vi 0] h (fun o h' => o = .inl (some (vi (cntN (rsB (gm1 S f p q) (gm2 S f p q)) 4))) ∧ FQ h h' ∧ hI h' 0 0 = 0) := by
  refine Spec_of (by decide +kernel) (Nat.le_of_ble_eq_true rfl) ?_
  have hB := Q0.1.1
  have hNt := hB.1
  have hNp := hB.2.1
  have R := Q0.2.2.2.2
  have hT := R.1
  have hW := hT.1
  refine K_aload_n (dt_at dtX12_game 0 rfl) rfl rfl ?_
  refine K_iconst (dt_at dtX12_game 1 rfl) ?_
  refine K_putI (a := 0) (ci := 12) (k := 0) (dt_at dtX12_game 2 rfl) (show TT 0 = (0, 12) from rfl) rfl (by decide) wF_X12_105 rfl (Or.inl rfl) rfl rfl ?_
  obtain ⟨hu1, eu1⟩ : ∃ z, z = sI h 0 0 0 := ⟨_, rfl⟩
  rw [← eu1]
  obtain ⟨iu1, fu1, au1, ru1⟩ := sI_fx eu1
  have Gu1 := MG_0 Q0 eu1
  refine K_aload_n (dt_at dtX12_game 3 rfl) rfl rfl ?_
  refine K_iload_n (dt_at dtX12_game 4 rfl) rfl rfl ?_
  refine K_callV (M' := mX12_isPerson) (a := 0) (ci := 12) (As := [vi p]) (st := []) (dt_at dtX12_game 5 rfl) (sX12_isPerson_t (MD_np (MG_D0 Gu1)) hNp Gu1.2.2.2 (by omega)) (show TT 0 = (0, 12) from rfl) rfl wL_X12_375 vX12_isPerson rfl npX12_isPerson (by decide) (by decide) (Nat.le_of_ble_eq_true rfl) (by decide) (by decide) GK_E (fun v9 h9 hq => ?_) (fun E h9 hq => by cases hq.1)
  obtain ⟨e9, e8⟩ := hq
  cases e9
  rw [e8]
  show K mX12_game _ _ 0 0 10 [(0, vr 0), (1, vi p), (2, vi q), (3, vi 0)] [vi 1] hu1
  refine K_if_eq (tgt := 48) (dt_at dtX12_game 6 rfl) (by decide) (by first | assumption | exact ⟨by omega, by omega⟩) (fun c1 => absurd c1 (by omega)) (fun c1 => ?_)
  refine K_aload_n (dt_at dtX12_game 7 rfl) rfl rfl ?_
  refine K_iload_n (dt_at dtX12_game 8 rfl) rfl rfl ?_
  refine K_callV (M' := mX12_isPerson) (a := 0) (ci := 12) (As := [vi q]) (st := []) (dt_at dtX12_game 9 rfl) (sX12_isPerson_t (MD_np (MG_D0 Gu1)) hNp Gu1.2.2.2 (by omega)) (show TT 0 = (0, 12) from rfl) rfl wL_X12_375 vX12_isPerson rfl npX12_isPerson (by decide) (by decide) (Nat.le_of_ble_eq_true rfl) (by decide) (by decide) GK_E (fun v9 h9 hq => ?_) (fun E h9 hq => by cases hq.1)
  obtain ⟨e9, e8⟩ := hq
  cases e9
  rw [e8]
  show K mX12_game _ _ 0 0 18 [(0, vr 0), (1, vi p), (2, vi q), (3, vi 0)] [vi 1] hu1
  refine K_if_eq (tgt := 48) (dt_at dtX12_game 10 rfl) (by decide) (by first | assumption | exact ⟨by omega, by omega⟩) (fun c2 => absurd c2 (by omega)) (fun c2 => ?_)
  refine K_aload_n (dt_at dtX12_game 11 rfl) rfl rfl ?_
  refine K_iload_n (dt_at dtX12_game 12 rfl) rfl rfl ?_
  refine K_iconst (dt_at dtX12_game 13 rfl) ?_
  refine K_callV (M' := mX12_isWhat) (a := 0) (ci := 12) (As := [vi 0, vi 1]) (st := []) (dt_at dtX12_game 14 rfl) (sX12_isWhat_t Gu1.2.2.2 (by omega) (by omega)) (show TT 0 = (0, 12) from rfl) rfl wL_X12_371 vX12_isWhat rfl npX12_isWhat (by decide) (by decide) (Nat.le_of_ble_eq_true rfl) (by decide) (by decide) GK_E (fun v9 h9 hq => ?_) (fun E h9 hq => by cases hq.1)
  obtain ⟨e9, e8⟩ := hq
  cases e9
  rw [e8]
  show K mX12_game _ _ 0 0 27 [(0, vr 0), (1, vi p), (2, vi q), (3, vi 0)] [vi 1] hu1
  refine K_if_eq (tgt := 48) (dt_at dtX12_game 15 rfl) (by decide) (by first | assumption | exact ⟨by omega, by omega⟩) (fun c3 => absurd c3 (by omega)) (fun c3 => ?_)
  refine K_aload_n (dt_at dtX12_game 16 rfl) rfl rfl ?_
  refine K_iload_n (dt_at dtX12_game 17 rfl) rfl rfl ?_
  refine K_iload_n (dt_at dtX12_game 18 rfl) rfl rfl ?_
  refine K_icmp_eq (tgt := 40) (dt_at dtX12_game 19 rfl) (by decide) (by first | assumption | exact ⟨by omega, by omega⟩) (by first | assumption | exact ⟨by omega, by omega⟩) (fun c4 => ?_) (fun c4 => ?_)
  · refine K_iconst (dt_at dtX12_game 22 rfl) ?_
    refine K_iconst (dt_at dtX12_game 23 rfl) ?_
    exact (by omega : False).elim
  · refine K_iconst (dt_at dtX12_game 20 rfl) ?_
    refine K_goto (tgt := 41) (dt_at dtX12_game 21 rfl) (by decide) ?_
    refine K_iconst (dt_at dtX12_game 23 rfl) ?_
    refine K_callV (M' := mX12_right) (a := 0) (ci := 12) (As := [vi 1, vi 2]) (st := []) (dt_at dtX12_game 24 rfl) (sX12_right_t Gu1.2.2.2) (show TT 0 = (0, 12) from rfl) rfl wL_X12_260 vX12_right rfl npX12_right (by decide) (by decide) (Nat.le_of_ble_eq_true rfl) (by decide) (by decide) GK_E (fun v9 h9 hq => ?_) (fun E h9 hq => by cases hq.1)
    obtain ⟨e9, e8⟩ := hq
    cases e9
    rw [e8]
    show K mX12_game _ _ 0 0 45 [(0, vr 0), (1, vi p), (2, vi q), (3, vi 0)] [vi 1] hu1
    refine K_if_ne (tgt := 50) (dt_at dtX12_game 25 rfl) (by decide) (by first | assumption | exact ⟨by omega, by omega⟩) (fun c5 => ?_) (fun c5 => absurd c5 (by omega))
    refine K_aload_n (dt_at dtX12_game 28 rfl) rfl rfl ?_
    refine K_iload_n (dt_at dtX12_game 29 rfl) rfl rfl ?_
    refine K_callV (M' := mX12_packsFor) (a := 0) (ci := 12) (As := [vi p]) (st := []) (dt_at dtX12_game 30 rfl) (sX12_packsFor (MG_D0 Gu1) hW ⟨by omega, by omega⟩) (show TT 0 = (0, 12) from rfl) rfl wL_X12_378 vX12_packsFor rfl npX12_packsFor (by decide) (by decide) (Nat.le_of_ble_eq_true rfl) (by decide) (by decide) GK_E (fun v9 h9 hq => ?_) (fun E h9 hq => by cases hq.1)
    obtain ⟨e9, e8⟩ := hq
    cases e9
    rw [e8]
    show K mX12_game _ _ 0 0 55 [(0, vr 0), (1, vi p), (2, vi q), (3, vi 0)] [vi (bitN (fun j => decide (f (22 + (j : Int)) = p)) (sNp S))] hu1
    refine K_if_eq (tgt := 66) (dt_at dtX12_game 31 rfl) (by decide) (bitN32 _ _) (fun c6 => ?_) (fun c6 => ?_)
    · exact (by contradiction : False).elim
    · refine K_aload_n (dt_at dtX12_game 32 rfl) rfl rfl ?_
      refine K_iload_n (dt_at dtX12_game 33 rfl) rfl rfl ?_
      refine K_callV (M' := mX12_packsFor) (a := 0) (ci := 12) (As := [vi q]) (st := []) (dt_at dtX12_game 34 rfl) (sX12_packsFor (MG_D0 Gu1) hW ⟨by omega, by omega⟩) (show TT 0 = (0, 12) from rfl) rfl wL_X12_378 vX12_packsFor rfl npX12_packsFor (by decide) (by decide) (Nat.le_of_ble_eq_true rfl) (by decide) (by decide) GK_E (fun v9 h9 hq => ?_) (fun E h9 hq => by cases hq.1)
      obtain ⟨e9, e8⟩ := hq
      cases e9
      rw [e8]
      show K mX12_game _ _ 0 0 63 [(0, vr 0), (1, vi p), (2, vi q), (3, vi 0)] [vi (bitN (fun j => decide (f (22 + (j : Int)) = q)) (sNp S))] hu1
      refine K_if_ne (tgt := 68) (dt_at dtX12_game 35 rfl) (by decide) (bitN32 _ _) (fun c7 => ?_) (fun c7 => ?_)
      · refine K_iconst (dt_at dtX12_game 38 rfl) ?_
        refine K_istore (ls' := [(4, vi 0), (0, vr 0), (1, vi p), (2, vi q), (3, vi 0)]) (dt_at dtX12_game 39 rfl) (by decide) rfl ?_
        refine K_iconst (dt_at dtX12_game 40 rfl) ?_
        refine K_istore (ls' := [(5, vi (-1)), (4, vi 0), (0, vr 0), (1, vi p), (2, vi q), (3, vi 0)]) (dt_at dtX12_game 41 rfl) (by decide) rfl ?_
        refine K_iconst (dt_at dtX12_game 42 rfl) ?_
        refine K_istore (ls' := [(6, vi 0), (5, vi (-1)), (4, vi 0), (0, vr 0), (1, vi p), (2, vi q), (3, vi 0)]) (dt_at dtX12_game 43 rfl) (by decide) rfl ?_
        exact K_pk [0, 1, 2, 3, 4, 5, 6] rfl (lp_X12_game_0 Q0 hp hqt 4 0 hu1 (by omega) ⟨_, Gu1⟩)
      · exact (by contradiction : False).elim
set_option maxHeartbeats 4000000 in
set_option maxRecDepth 100000 in
theorem lp_X12_game_1 {h : HP} {S : HS} {f : Int → Int} {p q : Int} (Q0 : MAsk h S f) (hp : 0 ≤ p ∧ p < sNp S) (hqt : 0 ≤ q ∧ q < sNp S) : ∀ (dd k : Nat) (hh : HP), k + dd = 4 → (∃ g, MG h hh S f g) → K mX12_game GK (ZK (fun o h' => o = .inl (some (vi (srN (fun k => if rsB (gm1 S f p q) (gm2 S f p q) k = true then some (((k / 2 * 10 + k % 2 : Nat) : Int)) else none) (-1) 0 4))) ∧ FQ h h' ∧ hI h' 0 0 = 0) 0 0) 0 0 77 [(6, vi (k : Int)), (5, vi (itN (fun k v => if v = -1 ∧ rsB (gm1 S f p q) (gm2 S f p q) k = true then (((k / 2 * 10 + k % 2 : Nat) : Int)) else v) (-1) k)), (4, vi (cntN (rsB (gm1 S f p q) (gm2 S f p q)) k)), (0, vr 0), (1, vi p), (2, vi q), (3, vi 1)] [] hh := by
  intro dd
  induction dd with
  | zero =>
    intro k hh hk ge
    have hB := Q0.1.1
    have hNt := hB.1
    have hNp := hB.2.1
    have R := Q0.2.2.2.2
    have hT := R.1
    have hW := hT.1
    obtain ⟨g, G⟩ := ge
    have ek : k = 4 := by omega
    refine K_iload (dt_at dtX12_game 44 rfl) rfl ?_
    refine K_iconst (dt_at dtX12_game 45 rfl) ?_
    refine K_icmp_ge (tgt := 173) (dt_at dtX12_game 46 rfl) (by decide) (by first | assumption | exact ⟨by omega, by omega⟩) (by first | assumption | exact ⟨by omega, by omega⟩) (fun c1 => ?_) (fun c1 => absurd c1 (by omega))
    refine K_iload_n (dt_at dtX12_game 98 rfl) rfl rfl ?_
    refine K_if_ne (tgt := 182) (dt_at dtX12_game 99 rfl) (by decide) (by first | assumption | exact ⟨by omega, by omega⟩) (fun c2 => ?_) (fun c2 => absurd c2 (by omega))
    refine K_iload (dt_at dtX12_game 102 rfl) rfl ?_
    exact K_iret (dt_at dtX12_game 103 rfl) rfl rfl (by decide) (by decide) ⟨by rw [ek, first_eq (P := rsB (gm1 S f p q) (gm2 S f p q)) (c := fun k => (((k / 2 * 10 + k % 2 : Nat) : Int))) (fun k => by omega)], G.2.1, G.2.2.2⟩
  | succ dd ih =>
    intro k hh hk ge
    have hB := Q0.1.1
    have hNt := hB.1
    have hNp := hB.2.1
    have R := Q0.2.2.2.2
    have hT := R.1
    have hW := hT.1
    obtain ⟨g, G⟩ := ge
    have fb : -1 ≤ (itN (fun k v => if v = -1 ∧ rsB (gm1 S f p q) (gm2 S f p q) k = true then (((k / 2 * 10 + k % 2 : Nat) : Int)) else v) (-1) k) ∧ (itN (fun k v => if v = -1 ∧ rsB (gm1 S f p q) (gm2 S f p q) k = true then (((k / 2 * 10 + k % 2 : Nat) : Int)) else v) (-1) k) ≤ 11 := fs_b (fun k => rsB (gm1 S f p q) (gm2 S f p q) k) k (by omega)
    obtain ⟨x1, x2, x3, x4⟩ := xor2 ⟨k, by omega⟩
    change (k ^^^ 2) / 2 = 1 - k / 2 at x1
    change (k ^^^ 2) % 2 = k % 2 at x2
    change (k ^^^ 1) / 2 = k / 2 at x3
    change (k ^^^ 1) % 2 = 1 - k % 2 at x4
    have eu0 : gm1 S f p q (k ^^^ 2) = (gaV S f p q (1 - k / 2) (k % 2)) := by rw [ga_1, x1, x2]
    have eu1 : gm1 S f p q k = (gaV S f p q (k / 2) (k % 2)) := ga_1 S f p q k
    have ew0 : gm2 S f p q (k ^^^ 1) = (gaV S f q p (1 - k % 2) (k / 2)) := by rw [ga_2 hB, x3, x4]
    have ew1 : gm2 S f p q k = (gaV S f q p (k % 2) (k / 2)) := ga_2 hB f p q k
    have gb : ∀ (a b : Int) (x y : Nat), 0 ≤ gaV S f a b x y ∧ gaV S f a b x y ≤ 1000000000 := fun a b x y => gnF_b hB (dysF_ok hB (crX_ok (crX_ok hT R.2.1 hNp hNp).1 (crX_ok hT R.2.1 hNp hNp).2.1 hNp hNp).1 (crX_ok (crX_ok hT R.2.1 hNp hNp).1 (crX_ok hT R.2.1 hNp hNp).2.1 hNp hNp).2.1 5 (by rw [(crX_ok (crX_ok hT R.2.1 hNp hNp).1 (crX_ok hT R.2.1 hNp hNp).2.1 hNp hNp).2.2, (crX_ok hT R.2.1 hNp hNp).2.2]; have := R.2.2.1; omega)).1
    have bu0 := gb p q (1 - k / 2) (k % 2)
    have bu1 := gb p q (k / 2) (k % 2)
    have bw0 := gb q p (1 - k % 2) (k / 2)
    have bw1 := gb q p (k % 2) (k / 2)
    refine K_iload (dt_at dtX12_game 44 rfl) rfl ?_
    refine K_iconst (dt_at dtX12_game 45 rfl) ?_
    refine K_icmp_ge (tgt := 173) (dt_at dtX12_game 46 rfl) (by decide) (by first | assumption | exact ⟨by omega, by omega⟩) (by first | assumption | exact ⟨by omega, by omega⟩) (fun c1 => absurd c1 (by omega)) (fun c1 => ?_)
    refine K_iload (dt_at dtX12_game 47 rfl) rfl ?_
    refine K_iconst (dt_at dtX12_game 48 rfl) ?_
    refine K_idiv (dt_at dtX12_game 49 rfl) (by first | assumption | exact ⟨by omega, by omega⟩) (by first | assumption | exact ⟨by omega, by omega⟩) (by omega) ?_
    rw [td2]
    refine K_istore (ls' := [(7, vi ((k / 2 : Nat) : Int)), (6, vi (k : Int)), (5, vi (itN (fun k v => if v = -1 ∧ rsB (gm1 S f p q) (gm2 S f p q) k = true then (((k / 2 * 10 + k % 2 : Nat) : Int)) else v) (-1) k)), (4, vi (cntN (rsB (gm1 S f p q) (gm2 S f p q)) k)), (0, vr 0), (1, vi p), (2, vi q), (3, vi 1)]) (dt_at dtX12_game 50 rfl) (by decide) rfl ?_
    refine K_iload (dt_at dtX12_game 51 rfl) rfl ?_
    refine K_iconst (dt_at dtX12_game 52 rfl) ?_
    refine K_irem (dt_at dtX12_game 53 rfl) (by first | assumption | exact ⟨by omega, by omega⟩) (by first | assumption | exact ⟨by omega, by omega⟩) (by omega) ?_
    rw [tm2]
    refine K_istore (ls' := [(8, vi ((k % 2 : Nat) : Int)), (7, vi ((k / 2 : Nat) : Int)), (6, vi (k : Int)), (5, vi (itN (fun k v => if v = -1 ∧ rsB (gm1 S f p q) (gm2 S f p q) k = true then (((k / 2 * 10 + k % 2 : Nat) : Int)) else v) (-1) k)), (4, vi (cntN (rsB (gm1 S f p q) (gm2 S f p q)) k)), (0, vr 0), (1, vi p), (2, vi q), (3, vi 1)]) (dt_at dtX12_game 54 rfl) (by decide) rfl ?_
    refine K_aload_n (dt_at dtX12_game 55 rfl) rfl rfl ?_
    refine K_iload_n (dt_at dtX12_game 56 rfl) rfl rfl ?_
    refine K_iload_n (dt_at dtX12_game 57 rfl) rfl rfl ?_
    refine K_iconst (dt_at dtX12_game 58 rfl) ?_
    refine K_iload (dt_at dtX12_game 59 rfl) rfl ?_
    refine K_isub (dt_at dtX12_game 60 rfl) ?_
    refine K_iload (dt_at dtX12_game 61 rfl) rfl ?_
    refine K_callV (M' := mX12_gains) (a := 0) (ci := 12) (As := [vi p, vi q, vi (1 - ((k / 2 : Nat) : Int)), vi ((k % 2 : Nat) : Int)]) (st := []) (dt_at dtX12_game 62 rfl) (show SpecK mX12_gains [vr 0, vi p, vi q, vi (1 - ((k / 2 : Nat) : Int)), vi ((k % 2 : Nat) : Int)] hh (fun o h' => o = .inl (some (vi (gaV S f p q (1 - k / 2) (k % 2)))) ∧ ∃ g, MG h h' S f g) by have z := sX12_gains (x := (1 - k / 2)) (y := (k % 2)) Q0 hp hqt G (by omega) (by omega); rw [show (((1 - k / 2) : Nat) : Int) = (1 - ((k / 2 : Nat) : Int)) by omega] at z; exact z) (show TT 0 = (0, 12) from rfl) rfl wL_X12_438 vX12_gains rfl npX12_gains (by decide) (by decide) (Nat.le_of_ble_eq_true rfl) (by decide) (by decide) GK_E (fun v9 hc1 hq => ?_) (fun E h9 hq => by cases hq.1)
    have hqq2 := hq
    obtain ⟨e9q2, ⟨gq2, Gq2⟩⟩ := hqq2
    cases e9q2
    show K mX12_game _ _ 0 0 107 [(8, vi ((k % 2 : Nat) : Int)), (7, vi ((k / 2 : Nat) : Int)), (6, vi (k : Int)), (5, vi (itN (fun k v => if v = -1 ∧ rsB (gm1 S f p q) (gm2 S f p q) k = true then (((k / 2 * 10 + k % 2 : Nat) : Int)) else v) (-1) k)), (4, vi (cntN (rsB (gm1 S f p q) (gm2 S f p q)) k)), (0, vr 0), (1, vi p), (2, vi q), (3, vi 1)] [vi (gaV S f p q (1 - k / 2) (k % 2))] hc1
    refine K_aload_n (dt_at dtX12_game 63 rfl) rfl rfl ?_
    refine K_iload_n (dt_at dtX12_game 64 rfl) rfl rfl ?_
    refine K_iload_n (dt_at dtX12_game 65 rfl) rfl rfl ?_
    refine K_iload (dt_at dtX12_game 66 rfl) rfl ?_
    refine K_iload (dt_at dtX12_game 67 rfl) rfl ?_
    refine K_callV (M' := mX12_gains) (a := 0) (ci := 12) (As := [vi p, vi q, vi ((k / 2 : Nat) : Int), vi ((k % 2 : Nat) : Int)]) (st := [vi (gaV S f p q (1 - k / 2) (k % 2))]) (dt_at dtX12_game 68 rfl) (show SpecK mX12_gains [vr 0, vi p, vi q, vi ((k / 2 : Nat) : Int), vi ((k % 2 : Nat) : Int)] hc1 (fun o h' => o = .inl (some (vi (gaV S f p q (k / 2) (k % 2)))) ∧ ∃ g, MG h h' S f g) by have z := sX12_gains (x := (k / 2)) (y := (k % 2)) Q0 hp hqt Gq2 (by omega) (by omega); exact z) (show TT 0 = (0, 12) from rfl) rfl wL_X12_438 vX12_gains rfl npX12_gains (by decide) (by decide) (Nat.le_of_ble_eq_true rfl) (by decide) (by decide) GK_E (fun v9 hc3 hq => ?_) (fun E h9 hq => by cases hq.1)
    have hqq4 := hq
    obtain ⟨e9q4, ⟨gq4, Gq4⟩⟩ := hqq4
    cases e9q4
    show K mX12_game _ _ 0 0 117 [(8, vi ((k % 2 : Nat) : Int)), (7, vi ((k / 2 : Nat) : Int)), (6, vi (k : Int)), (5, vi (itN (fun k v => if v = -1 ∧ rsB (gm1 S f p q) (gm2 S f p q) k = true then (((k / 2 * 10 + k % 2 : Nat) : Int)) else v) (-1) k)), (4, vi (cntN (rsB (gm1 S f p q) (gm2 S f p q)) k)), (0, vr 0), (1, vi p), (2, vi q), (3, vi 1)] [vi (gaV S f p q (k / 2) (k % 2)), vi (gaV S f p q (1 - k / 2) (k % 2))] hc3
    refine K_icmp_gt (tgt := 167) (dt_at dtX12_game 69 rfl) (by decide) (by first | assumption | exact ⟨by omega, by omega⟩) (by first | assumption | exact ⟨by omega, by omega⟩) (fun c2 => ?_) (fun c2 => ?_)
    · refine K_iinc (ls' := [(6, vi ((k : Int) + 1)), (8, vi ((k % 2 : Nat) : Int)), (7, vi ((k / 2 : Nat) : Int)), (5, vi (itN (fun k v => if v = -1 ∧ rsB (gm1 S f p q) (gm2 S f p q) k = true then (((k / 2 * 10 + k % 2 : Nat) : Int)) else v) (-1) k)), (4, vi (cntN (rsB (gm1 S f p q) (gm2 S f p q)) k)), (0, vr 0), (1, vi p), (2, vi q), (3, vi 1)]) (dt_at dtX12_game 96 rfl) rfl (by decide) rfl ?_
      refine K_goto (tgt := 77) (dt_at dtX12_game 97 rfl) (by decide) ?_
      have rs : rsB (gm1 S f p q) (gm2 S f p q) k = false := by unfold rsB; rw [eu0, eu1, ew0, ew1]; simp only [Bool.and_eq_true, Bool.and_eq_false_iff, decide_eq_true_eq, decide_eq_false_iff_not]; omega
      refine K_pk [0, 3, 4, 5, 6, 7, 8] (ls' := [(6, vi ((k : Int) + 1)), (5, vi (itN (fun k v => if v = -1 ∧ rsB (gm1 S f p q) (gm2 S f p q) k = true then (((k / 2 * 10 + k % 2 : Nat) : Int)) else v) (-1) k)), (4, vi (cntN (rsB (gm1 S f p q) (gm2 S f p q)) k)), (0, vr 0), (1, vi p), (2, vi q), (3, vi 1)]) rfl ?_
      exact K_cg (ls' := [(6, vi ((k + 1 : Nat) : Int)), (5, vi (itN (fun k v => if v = -1 ∧ rsB (gm1 S f p q) (gm2 S f p q) k = true then (((k / 2 * 10 + k % 2 : Nat) : Int)) else v) (-1) (k + 1))), (4, vi (cntN (rsB (gm1 S f p q) (gm2 S f p q)) (k + 1))), (0, vr 0), (1, vi p), (2, vi q), (3, vi 1)]) (h' := hc3) (by rw [show (itN (fun k v => if v = -1 ∧ rsB (gm1 S f p q) (gm2 S f p q) k = true then (((k / 2 * 10 + k % 2 : Nat) : Int)) else v) (-1) (k + 1)) = (if (itN (fun k v => if v = -1 ∧ rsB (gm1 S f p q) (gm2 S f p q) k = true then (((k / 2 * 10 + k % 2 : Nat) : Int)) else v) (-1) k) = -1 ∧ rsB (gm1 S f p q) (gm2 S f p q) k = true then (((k / 2 * 10 + k % 2 : Nat) : Int)) else (itN (fun k v => if v = -1 ∧ rsB (gm1 S f p q) (gm2 S f p q) k = true then (((k / 2 * 10 + k % 2 : Nat) : Int)) else v) (-1) k)) from rfl, if_neg (by rw [rs]; rintro ⟨-, z⟩; cases z), cntN_f rs]; rfl) rfl (ih (k + 1) hc3 (by omega) ⟨_, Gq4⟩)
    · refine K_aload_n (dt_at dtX12_game 70 rfl) rfl rfl ?_
      refine K_iload_n (dt_at dtX12_game 71 rfl) rfl rfl ?_
      refine K_iload_n (dt_at dtX12_game 72 rfl) rfl rfl ?_
      refine K_iconst (dt_at dtX12_game 73 rfl) ?_
      refine K_iload (dt_at dtX12_game 74 rfl) rfl ?_
      refine K_isub (dt_at dtX12_game 75 rfl) ?_
      refine K_iload (dt_at dtX12_game 76 rfl) rfl ?_
      refine K_callV (M' := mX12_gains) (a := 0) (ci := 12) (As := [vi q, vi p, vi (1 - ((k % 2 : Nat) : Int)), vi ((k / 2 : Nat) : Int)]) (st := []) (dt_at dtX12_game 77 rfl) (show SpecK mX12_gains [vr 0, vi q, vi p, vi (1 - ((k % 2 : Nat) : Int)), vi ((k / 2 : Nat) : Int)] hc3 (fun o h' => o = .inl (some (vi (gaV S f q p (1 - k % 2) (k / 2)))) ∧ ∃ g, MG h h' S f g) by have z := sX12_gains (x := (1 - k % 2)) (y := (k / 2)) Q0 hqt hp Gq4 (by omega) (by omega); rw [show (((1 - k % 2) : Nat) : Int) = (1 - ((k % 2 : Nat) : Int)) by omega] at z; exact z) (show TT 0 = (0, 12) from rfl) rfl wL_X12_438 vX12_gains rfl npX12_gains (by decide) (by decide) (Nat.le_of_ble_eq_true rfl) (by decide) (by decide) GK_E (fun v9 hc5 hq => ?_) (fun E h9 hq => by cases hq.1)
      have hqq6 := hq
      obtain ⟨e9q6, ⟨gq6, Gq6⟩⟩ := hqq6
      cases e9q6
      show K mX12_game _ _ 0 0 132 [(8, vi ((k % 2 : Nat) : Int)), (7, vi ((k / 2 : Nat) : Int)), (6, vi (k : Int)), (5, vi (itN (fun k v => if v = -1 ∧ rsB (gm1 S f p q) (gm2 S f p q) k = true then (((k / 2 * 10 + k % 2 : Nat) : Int)) else v) (-1) k)), (4, vi (cntN (rsB (gm1 S f p q) (gm2 S f p q)) k)), (0, vr 0), (1, vi p), (2, vi q), (3, vi 1)] [vi (gaV S f q p (1 - k % 2) (k / 2))] hc5
      refine K_aload_n (dt_at dtX12_game 78 rfl) rfl rfl ?_
      refine K_iload_n (dt_at dtX12_game 79 rfl) rfl rfl ?_
      refine K_iload_n (dt_at dtX12_game 80 rfl) rfl rfl ?_
      refine K_iload (dt_at dtX12_game 81 rfl) rfl ?_
      refine K_iload (dt_at dtX12_game 82 rfl) rfl ?_
      refine K_callV (M' := mX12_gains) (a := 0) (ci := 12) (As := [vi q, vi p, vi ((k % 2 : Nat) : Int), vi ((k / 2 : Nat) : Int)]) (st := [vi (gaV S f q p (1 - k % 2) (k / 2))]) (dt_at dtX12_game 83 rfl) (show SpecK mX12_gains [vr 0, vi q, vi p, vi ((k % 2 : Nat) : Int), vi ((k / 2 : Nat) : Int)] hc5 (fun o h' => o = .inl (some (vi (gaV S f q p (k % 2) (k / 2)))) ∧ ∃ g, MG h h' S f g) by have z := sX12_gains (x := (k % 2)) (y := (k / 2)) Q0 hqt hp Gq6 (by omega) (by omega); exact z) (show TT 0 = (0, 12) from rfl) rfl wL_X12_438 vX12_gains rfl npX12_gains (by decide) (by decide) (Nat.le_of_ble_eq_true rfl) (by decide) (by decide) GK_E (fun v9 hc7 hq => ?_) (fun E h9 hq => by cases hq.1)
      have hqq8 := hq
      obtain ⟨e9q8, ⟨gq8, Gq8⟩⟩ := hqq8
      cases e9q8
      show K mX12_game _ _ 0 0 142 [(8, vi ((k % 2 : Nat) : Int)), (7, vi ((k / 2 : Nat) : Int)), (6, vi (k : Int)), (5, vi (itN (fun k v => if v = -1 ∧ rsB (gm1 S f p q) (gm2 S f p q) k = true then (((k / 2 * 10 + k % 2 : Nat) : Int)) else v) (-1) k)), (4, vi (cntN (rsB (gm1 S f p q) (gm2 S f p q)) k)), (0, vr 0), (1, vi p), (2, vi q), (3, vi 1)] [vi (gaV S f q p (k % 2) (k / 2)), vi (gaV S f q p (1 - k % 2) (k / 2))] hc7
      refine K_icmp_le (tgt := 148) (dt_at dtX12_game 84 rfl) (by decide) (by first | assumption | exact ⟨by omega, by omega⟩) (by first | assumption | exact ⟨by omega, by omega⟩) (fun c3 => ?_) (fun c3 => ?_)
      · refine K_iinc (ls' := [(4, vi ((cntN (rsB (gm1 S f p q) (gm2 S f p q)) k) + 1)), (8, vi ((k % 2 : Nat) : Int)), (7, vi ((k / 2 : Nat) : Int)), (6, vi (k : Int)), (5, vi (itN (fun k v => if v = -1 ∧ rsB (gm1 S f p q) (gm2 S f p q) k = true then (((k / 2 * 10 + k % 2 : Nat) : Int)) else v) (-1) k)), (0, vr 0), (1, vi p), (2, vi q), (3, vi 1)]) (dt_at dtX12_game 86 rfl) rfl (by decide) rfl ?_
        refine K_iload (dt_at dtX12_game 87 rfl) rfl ?_
        refine K_iconst (dt_at dtX12_game 88 rfl) ?_
        refine K_icmp_ne (tgt := 167) (dt_at dtX12_game 89 rfl) (by decide) (by first | assumption | exact ⟨by omega, by omega⟩) (by first | assumption | exact ⟨by omega, by omega⟩) (fun c4 => ?_) (fun c4 => ?_)
        · refine K_iinc (ls' := [(6, vi ((k : Int) + 1)), (4, vi ((cntN (rsB (gm1 S f p q) (gm2 S f p q)) k) + 1)), (8, vi ((k % 2 : Nat) : Int)), (7, vi ((k / 2 : Nat) : Int)), (5, vi (itN (fun k v => if v = -1 ∧ rsB (gm1 S f p q) (gm2 S f p q) k = true then (((k / 2 * 10 + k % 2 : Nat) : Int)) else v) (-1) k)), (0, vr 0), (1, vi p), (2, vi q), (3, vi 1)]) (dt_at dtX12_game 96 rfl) rfl (by decide) rfl ?_
          refine K_goto (tgt := 77) (dt_at dtX12_game 97 rfl) (by decide) ?_
          have rs : rsB (gm1 S f p q) (gm2 S f p q) k = true := by unfold rsB; rw [eu0, eu1, ew0, ew1]; simp only [Bool.and_eq_true, Bool.and_eq_false_iff, decide_eq_true_eq, decide_eq_false_iff_not]; omega
          refine K_pk [0, 4, 1, 5, 6, 7, 8] (ls' := [(6, vi ((k : Int) + 1)), (5, vi (itN (fun k v => if v = -1 ∧ rsB (gm1 S f p q) (gm2 S f p q) k = true then (((k / 2 * 10 + k % 2 : Nat) : Int)) else v) (-1) k)), (4, vi ((cntN (rsB (gm1 S f p q) (gm2 S f p q)) k) + 1)), (0, vr 0), (1, vi p), (2, vi q), (3, vi 1)]) rfl ?_
          exact K_cg (ls' := [(6, vi ((k + 1 : Nat) : Int)), (5, vi (itN (fun k v => if v = -1 ∧ rsB (gm1 S f p q) (gm2 S f p q) k = true then (((k / 2 * 10 + k % 2 : Nat) : Int)) else v) (-1) (k + 1))), (4, vi (cntN (rsB (gm1 S f p q) (gm2 S f p q)) (k + 1))), (0, vr 0), (1, vi p), (2, vi q), (3, vi 1)]) (h' := hc7) (by rw [show (itN (fun k v => if v = -1 ∧ rsB (gm1 S f p q) (gm2 S f p q) k = true then (((k / 2 * 10 + k % 2 : Nat) : Int)) else v) (-1) (k + 1)) = (if (itN (fun k v => if v = -1 ∧ rsB (gm1 S f p q) (gm2 S f p q) k = true then (((k / 2 * 10 + k % 2 : Nat) : Int)) else v) (-1) k) = -1 ∧ rsB (gm1 S f p q) (gm2 S f p q) k = true then (((k / 2 * 10 + k % 2 : Nat) : Int)) else (itN (fun k v => if v = -1 ∧ rsB (gm1 S f p q) (gm2 S f p q) k = true then (((k / 2 * 10 + k % 2 : Nat) : Int)) else v) (-1) k)) from rfl, if_neg (by rintro ⟨z, -⟩; contradiction), cntN_t rs]; rfl) rfl (ih (k + 1) hc7 (by omega) ⟨_, Gq8⟩)
        · refine K_bipush (dt_at dtX12_game 90 rfl) (by decide) ?_
          refine K_iload (dt_at dtX12_game 91 rfl) rfl ?_
          refine K_imul (dt_at dtX12_game 92 rfl) ?_
          refine K_iload (dt_at dtX12_game 93 rfl) rfl ?_
          refine K_iadd (dt_at dtX12_game 94 rfl) ?_
          refine K_istore (ls' := [(5, vi ((10 * ((k / 2 : Nat) : Int)) + ((k % 2 : Nat) : Int))), (4, vi ((cntN (rsB (gm1 S f p q) (gm2 S f p q)) k) + 1)), (8, vi ((k % 2 : Nat) : Int)), (7, vi ((k / 2 : Nat) : Int)), (6, vi (k : Int)), (0, vr 0), (1, vi p), (2, vi q), (3, vi 1)]) (dt_at dtX12_game 95 rfl) (by decide) rfl ?_
          refine K_iinc (ls' := [(6, vi ((k : Int) + 1)), (5, vi ((10 * ((k / 2 : Nat) : Int)) + ((k % 2 : Nat) : Int))), (4, vi ((cntN (rsB (gm1 S f p q) (gm2 S f p q)) k) + 1)), (8, vi ((k % 2 : Nat) : Int)), (7, vi ((k / 2 : Nat) : Int)), (0, vr 0), (1, vi p), (2, vi q), (3, vi 1)]) (dt_at dtX12_game 96 rfl) rfl (by decide) rfl ?_
          refine K_goto (tgt := 77) (dt_at dtX12_game 97 rfl) (by decide) ?_
          have rs : rsB (gm1 S f p q) (gm2 S f p q) k = true := by unfold rsB; rw [eu0, eu1, ew0, ew1]; simp only [Bool.and_eq_true, Bool.and_eq_false_iff, decide_eq_true_eq, decide_eq_false_iff_not]; omega
          refine K_pk [0, 1, 2, 5, 6, 7, 8] (ls' := [(6, vi ((k : Int) + 1)), (5, vi ((10 * ((k / 2 : Nat) : Int)) + ((k % 2 : Nat) : Int))), (4, vi ((cntN (rsB (gm1 S f p q) (gm2 S f p q)) k) + 1)), (0, vr 0), (1, vi p), (2, vi q), (3, vi 1)]) rfl ?_
          exact K_cg (ls' := [(6, vi ((k + 1 : Nat) : Int)), (5, vi (itN (fun k v => if v = -1 ∧ rsB (gm1 S f p q) (gm2 S f p q) k = true then (((k / 2 * 10 + k % 2 : Nat) : Int)) else v) (-1) (k + 1))), (4, vi (cntN (rsB (gm1 S f p q) (gm2 S f p q)) (k + 1))), (0, vr 0), (1, vi p), (2, vi q), (3, vi 1)]) (h' := hc7) (by rw [show (itN (fun k v => if v = -1 ∧ rsB (gm1 S f p q) (gm2 S f p q) k = true then (((k / 2 * 10 + k % 2 : Nat) : Int)) else v) (-1) (k + 1)) = (if (itN (fun k v => if v = -1 ∧ rsB (gm1 S f p q) (gm2 S f p q) k = true then (((k / 2 * 10 + k % 2 : Nat) : Int)) else v) (-1) k) = -1 ∧ rsB (gm1 S f p q) (gm2 S f p q) k = true then (((k / 2 * 10 + k % 2 : Nat) : Int)) else (itN (fun k v => if v = -1 ∧ rsB (gm1 S f p q) (gm2 S f p q) k = true then (((k / 2 * 10 + k % 2 : Nat) : Int)) else v) (-1) k)) from rfl, if_pos ⟨by assumption, rs⟩, cntN_t rs, show ((k / 2 * 10 + k % 2 : Nat) : Int) = ((10 * ((k / 2 : Nat) : Int)) + ((k % 2 : Nat) : Int)) by omega]; rfl) rfl (ih (k + 1) hc7 (by omega) ⟨_, Gq8⟩)
      · refine K_goto (tgt := 167) (dt_at dtX12_game 85 rfl) (by decide) ?_
        refine K_iinc (ls' := [(6, vi ((k : Int) + 1)), (8, vi ((k % 2 : Nat) : Int)), (7, vi ((k / 2 : Nat) : Int)), (5, vi (itN (fun k v => if v = -1 ∧ rsB (gm1 S f p q) (gm2 S f p q) k = true then (((k / 2 * 10 + k % 2 : Nat) : Int)) else v) (-1) k)), (4, vi (cntN (rsB (gm1 S f p q) (gm2 S f p q)) k)), (0, vr 0), (1, vi p), (2, vi q), (3, vi 1)]) (dt_at dtX12_game 96 rfl) rfl (by decide) rfl ?_
        refine K_goto (tgt := 77) (dt_at dtX12_game 97 rfl) (by decide) ?_
        have rs : rsB (gm1 S f p q) (gm2 S f p q) k = false := by unfold rsB; rw [eu0, eu1, ew0, ew1]; simp only [Bool.and_eq_true, Bool.and_eq_false_iff, decide_eq_true_eq, decide_eq_false_iff_not]; omega
        refine K_pk [0, 3, 4, 5, 6, 7, 8] (ls' := [(6, vi ((k : Int) + 1)), (5, vi (itN (fun k v => if v = -1 ∧ rsB (gm1 S f p q) (gm2 S f p q) k = true then (((k / 2 * 10 + k % 2 : Nat) : Int)) else v) (-1) k)), (4, vi (cntN (rsB (gm1 S f p q) (gm2 S f p q)) k)), (0, vr 0), (1, vi p), (2, vi q), (3, vi 1)]) rfl ?_
        exact K_cg (ls' := [(6, vi ((k + 1 : Nat) : Int)), (5, vi (itN (fun k v => if v = -1 ∧ rsB (gm1 S f p q) (gm2 S f p q) k = true then (((k / 2 * 10 + k % 2 : Nat) : Int)) else v) (-1) (k + 1))), (4, vi (cntN (rsB (gm1 S f p q) (gm2 S f p q)) (k + 1))), (0, vr 0), (1, vi p), (2, vi q), (3, vi 1)]) (h' := hc7) (by rw [show (itN (fun k v => if v = -1 ∧ rsB (gm1 S f p q) (gm2 S f p q) k = true then (((k / 2 * 10 + k % 2 : Nat) : Int)) else v) (-1) (k + 1)) = (if (itN (fun k v => if v = -1 ∧ rsB (gm1 S f p q) (gm2 S f p q) k = true then (((k / 2 * 10 + k % 2 : Nat) : Int)) else v) (-1) k) = -1 ∧ rsB (gm1 S f p q) (gm2 S f p q) k = true then (((k / 2 * 10 + k % 2 : Nat) : Int)) else (itN (fun k v => if v = -1 ∧ rsB (gm1 S f p q) (gm2 S f p q) k = true then (((k / 2 * 10 + k % 2 : Nat) : Int)) else v) (-1) k)) from rfl, if_neg (by rw [rs]; rintro ⟨-, z⟩; cases z), cntN_f rs]; rfl) rfl (ih (k + 1) hc7 (by omega) ⟨_, Gq8⟩)
set_option maxHeartbeats 4000000 in
set_option maxRecDepth 100000 in
theorem sX12_game_1 {h : HP} {S : HS} {f : Int → Int} {p q : Int} (Q0 : MAsk h S f) (hp : 0 ≤ p ∧ p < sNp S) (hqt : 0 ≤ q ∧ q < sNp S) (pq : p ≠ q) (ok1 : (bitN (fun j => decide (f (22 + (j : Int)) = p)) (sNp S)) ≠ 0) (ok2 : (bitN (fun j => decide (f (22 + (j : Int)) = q)) (sNp S)) ≠ 0) : SpecK mX12_game [vr 0, vi p, vi q, vi 1] h (fun o h' => o = .inl (some (vi (srN (fun k => if rsB (gm1 S f p q) (gm2 S f p q) k = true then some (((k / 2 * 10 + k % 2 : Nat) : Int)) else none) (-1) 0 4))) ∧ FQ h h' ∧ hI h' 0 0 = 0) := by
  refine Spec_of (by decide +kernel) (Nat.le_of_ble_eq_true rfl) ?_
  have hB := Q0.1.1
  have hNt := hB.1
  have hNp := hB.2.1
  have R := Q0.2.2.2.2
  have hT := R.1
  have hW := hT.1
  refine K_aload_n (dt_at dtX12_game 0 rfl) rfl rfl ?_
  refine K_iconst (dt_at dtX12_game 1 rfl) ?_
  refine K_putI (a := 0) (ci := 12) (k := 0) (dt_at dtX12_game 2 rfl) (show TT 0 = (0, 12) from rfl) rfl (by decide) wF_X12_105 rfl (Or.inl rfl) rfl rfl ?_
  obtain ⟨hu1, eu1⟩ : ∃ z, z = sI h 0 0 0 := ⟨_, rfl⟩
  rw [← eu1]
  obtain ⟨iu1, fu1, au1, ru1⟩ := sI_fx eu1
  have Gu1 := MG_0 Q0 eu1
  refine K_aload_n (dt_at dtX12_game 3 rfl) rfl rfl ?_
  refine K_iload_n (dt_at dtX12_game 4 rfl) rfl rfl ?_
  refine K_callV (M' := mX12_isPerson) (a := 0) (ci := 12) (As := [vi p]) (st := []) (dt_at dtX12_game 5 rfl) (sX12_isPerson_t (MD_np (MG_D0 Gu1)) hNp Gu1.2.2.2 (by omega)) (show TT 0 = (0, 12) from rfl) rfl wL_X12_375 vX12_isPerson rfl npX12_isPerson (by decide) (by decide) (Nat.le_of_ble_eq_true rfl) (by decide) (by decide) GK_E (fun v9 h9 hq => ?_) (fun E h9 hq => by cases hq.1)
  obtain ⟨e9, e8⟩ := hq
  cases e9
  rw [e8]
  show K mX12_game _ _ 0 0 10 [(0, vr 0), (1, vi p), (2, vi q), (3, vi 1)] [vi 1] hu1
  refine K_if_eq (tgt := 48) (dt_at dtX12_game 6 rfl) (by decide) (by first | assumption | exact ⟨by omega, by omega⟩) (fun c1 => absurd c1 (by omega)) (fun c1 => ?_)
  refine K_aload_n (dt_at dtX12_game 7 rfl) rfl rfl ?_
  refine K_iload_n (dt_at dtX12_game 8 rfl) rfl rfl ?_
  refine K_callV (M' := mX12_isPerson) (a := 0) (ci := 12) (As := [vi q]) (st := []) (dt_at dtX12_game 9 rfl) (sX12_isPerson_t (MD_np (MG_D0 Gu1)) hNp Gu1.2.2.2 (by omega)) (show TT 0 = (0, 12) from rfl) rfl wL_X12_375 vX12_isPerson rfl npX12_isPerson (by decide) (by decide) (Nat.le_of_ble_eq_true rfl) (by decide) (by decide) GK_E (fun v9 h9 hq => ?_) (fun E h9 hq => by cases hq.1)
  obtain ⟨e9, e8⟩ := hq
  cases e9
  rw [e8]
  show K mX12_game _ _ 0 0 18 [(0, vr 0), (1, vi p), (2, vi q), (3, vi 1)] [vi 1] hu1
  refine K_if_eq (tgt := 48) (dt_at dtX12_game 10 rfl) (by decide) (by first | assumption | exact ⟨by omega, by omega⟩) (fun c2 => absurd c2 (by omega)) (fun c2 => ?_)
  refine K_aload_n (dt_at dtX12_game 11 rfl) rfl rfl ?_
  refine K_iload_n (dt_at dtX12_game 12 rfl) rfl rfl ?_
  refine K_iconst (dt_at dtX12_game 13 rfl) ?_
  refine K_callV (M' := mX12_isWhat) (a := 0) (ci := 12) (As := [vi 1, vi 1]) (st := []) (dt_at dtX12_game 14 rfl) (sX12_isWhat_t Gu1.2.2.2 (by omega) (by omega)) (show TT 0 = (0, 12) from rfl) rfl wL_X12_371 vX12_isWhat rfl npX12_isWhat (by decide) (by decide) (Nat.le_of_ble_eq_true rfl) (by decide) (by decide) GK_E (fun v9 h9 hq => ?_) (fun E h9 hq => by cases hq.1)
  obtain ⟨e9, e8⟩ := hq
  cases e9
  rw [e8]
  show K mX12_game _ _ 0 0 27 [(0, vr 0), (1, vi p), (2, vi q), (3, vi 1)] [vi 1] hu1
  refine K_if_eq (tgt := 48) (dt_at dtX12_game 15 rfl) (by decide) (by first | assumption | exact ⟨by omega, by omega⟩) (fun c3 => absurd c3 (by omega)) (fun c3 => ?_)
  refine K_aload_n (dt_at dtX12_game 16 rfl) rfl rfl ?_
  refine K_iload_n (dt_at dtX12_game 17 rfl) rfl rfl ?_
  refine K_iload_n (dt_at dtX12_game 18 rfl) rfl rfl ?_
  refine K_icmp_eq (tgt := 40) (dt_at dtX12_game 19 rfl) (by decide) (by first | assumption | exact ⟨by omega, by omega⟩) (by first | assumption | exact ⟨by omega, by omega⟩) (fun c4 => ?_) (fun c4 => ?_)
  · refine K_iconst (dt_at dtX12_game 22 rfl) ?_
    refine K_iconst (dt_at dtX12_game 23 rfl) ?_
    exact (by omega : False).elim
  · refine K_iconst (dt_at dtX12_game 20 rfl) ?_
    refine K_goto (tgt := 41) (dt_at dtX12_game 21 rfl) (by decide) ?_
    refine K_iconst (dt_at dtX12_game 23 rfl) ?_
    refine K_callV (M' := mX12_right) (a := 0) (ci := 12) (As := [vi 1, vi 2]) (st := []) (dt_at dtX12_game 24 rfl) (sX12_right_t Gu1.2.2.2) (show TT 0 = (0, 12) from rfl) rfl wL_X12_260 vX12_right rfl npX12_right (by decide) (by decide) (Nat.le_of_ble_eq_true rfl) (by decide) (by decide) GK_E (fun v9 h9 hq => ?_) (fun E h9 hq => by cases hq.1)
    obtain ⟨e9, e8⟩ := hq
    cases e9
    rw [e8]
    show K mX12_game _ _ 0 0 45 [(0, vr 0), (1, vi p), (2, vi q), (3, vi 1)] [vi 1] hu1
    refine K_if_ne (tgt := 50) (dt_at dtX12_game 25 rfl) (by decide) (by first | assumption | exact ⟨by omega, by omega⟩) (fun c5 => ?_) (fun c5 => absurd c5 (by omega))
    refine K_aload_n (dt_at dtX12_game 28 rfl) rfl rfl ?_
    refine K_iload_n (dt_at dtX12_game 29 rfl) rfl rfl ?_
    refine K_callV (M' := mX12_packsFor) (a := 0) (ci := 12) (As := [vi p]) (st := []) (dt_at dtX12_game 30 rfl) (sX12_packsFor (MG_D0 Gu1) hW ⟨by omega, by omega⟩) (show TT 0 = (0, 12) from rfl) rfl wL_X12_378 vX12_packsFor rfl npX12_packsFor (by decide) (by decide) (Nat.le_of_ble_eq_true rfl) (by decide) (by decide) GK_E (fun v9 h9 hq => ?_) (fun E h9 hq => by cases hq.1)
    obtain ⟨e9, e8⟩ := hq
    cases e9
    rw [e8]
    show K mX12_game _ _ 0 0 55 [(0, vr 0), (1, vi p), (2, vi q), (3, vi 1)] [vi (bitN (fun j => decide (f (22 + (j : Int)) = p)) (sNp S))] hu1
    refine K_if_eq (tgt := 66) (dt_at dtX12_game 31 rfl) (by decide) (bitN32 _ _) (fun c6 => ?_) (fun c6 => ?_)
    · exact (by contradiction : False).elim
    · refine K_aload_n (dt_at dtX12_game 32 rfl) rfl rfl ?_
      refine K_iload_n (dt_at dtX12_game 33 rfl) rfl rfl ?_
      refine K_callV (M' := mX12_packsFor) (a := 0) (ci := 12) (As := [vi q]) (st := []) (dt_at dtX12_game 34 rfl) (sX12_packsFor (MG_D0 Gu1) hW ⟨by omega, by omega⟩) (show TT 0 = (0, 12) from rfl) rfl wL_X12_378 vX12_packsFor rfl npX12_packsFor (by decide) (by decide) (Nat.le_of_ble_eq_true rfl) (by decide) (by decide) GK_E (fun v9 h9 hq => ?_) (fun E h9 hq => by cases hq.1)
      obtain ⟨e9, e8⟩ := hq
      cases e9
      rw [e8]
      show K mX12_game _ _ 0 0 63 [(0, vr 0), (1, vi p), (2, vi q), (3, vi 1)] [vi (bitN (fun j => decide (f (22 + (j : Int)) = q)) (sNp S))] hu1
      refine K_if_ne (tgt := 68) (dt_at dtX12_game 35 rfl) (by decide) (bitN32 _ _) (fun c7 => ?_) (fun c7 => ?_)
      · refine K_iconst (dt_at dtX12_game 38 rfl) ?_
        refine K_istore (ls' := [(4, vi 0), (0, vr 0), (1, vi p), (2, vi q), (3, vi 1)]) (dt_at dtX12_game 39 rfl) (by decide) rfl ?_
        refine K_iconst (dt_at dtX12_game 40 rfl) ?_
        refine K_istore (ls' := [(5, vi (-1)), (4, vi 0), (0, vr 0), (1, vi p), (2, vi q), (3, vi 1)]) (dt_at dtX12_game 41 rfl) (by decide) rfl ?_
        refine K_iconst (dt_at dtX12_game 42 rfl) ?_
        refine K_istore (ls' := [(6, vi 0), (5, vi (-1)), (4, vi 0), (0, vr 0), (1, vi p), (2, vi q), (3, vi 1)]) (dt_at dtX12_game 43 rfl) (by decide) rfl ?_
        exact K_pk [0, 1, 2, 3, 4, 5, 6] rfl (lp_X12_game_1 Q0 hp hqt 4 0 hu1 (by omega) ⟨_, Gu1⟩)
      · exact (by contradiction : False).elim
