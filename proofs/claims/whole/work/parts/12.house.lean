/-- what is in one's case, weighed by us -/
def sumF (us f : Int → Int) (p : Int) (n : Nat) : Int := itN (fun k v => v + us (k : Int) * f (35 + f (8 + p) * 6 + (k : Int))) 0 n
/-- bounds of a row: what is in cases and in stock -/
def rB (B : Int) (f : Int → Int) : Prop := rW f ∧ (∀ i, 29 ≤ i → i < 77 → 0 ≤ f i ∧ f i ≤ B) ∧ 0 ≤ f 0 ∧ f 0 ≤ 20000
theorem sumF_b {us f : Int → Int} {p B : Int} {n : Nat} (hu : ∀ i : Int, 0 ≤ i → i < n → 0 ≤ us i ∧ us i ≤ 20) (hB : 0 ≤ B) (hf : ∀ i : Int, 0 ≤ i → i < n → 0 ≤ f (35 + f (8 + p) * 6 + i) ∧ f (35 + f (8 + p) * 6 + i) ≤ B) : 0 ≤ sumF us f p n ∧ sumF us f p n ≤ 20 * B * n := by
  induction n with
  | zero => exact ⟨Int.le_refl 0, by show (0 : Int) ≤ 20 * B * ((0 : Nat) : Int); omega⟩
  | succ k ih =>
    have h1 := ih (fun i a b => hu i a (by omega)) (fun i a b => hf i a (by omega))
    have h2 := hu (k : Int) (by omega) (by omega)
    have h3 := hf (k : Int) (by omega) (by omega)
    have h4 : 0 ≤ us (k : Int) * f (35 + f (8 + p) * 6 + (k : Int)) := Int.mul_nonneg h2.1 h3.1
    have h5 : us (k : Int) * f (35 + f (8 + p) * 6 + (k : Int)) ≤ 20 * B := Int.mul_le_mul h2.2 h3.2 h3.1 (by omega)
    have e : sumF us f p (k + 1) = sumF us f p k + us (k : Int) * f (35 + f (8 + p) * 6 + (k : Int)) := rfl
    rw [e]
    have e2 : 20 * B * ((k + 1 : Nat) : Int) = 20 * B * (k : Int) + 20 * B := by
      rw [Int.natCast_succ, Int.mul_add, Int.mul_one]
    rw [e2]
    constructor <;> omega

def mX3_useWith : MI := (yX3_useWith, cX3_useWith, 5, (some .int), rmK 2 0)
def tX3_useWith : List (Nat × Instr × Nat) := [(0, .iconst 0, 1), (1, .istore_n 3, 1), (2, .iconst 0, 1), (3, .istore 4, 2), (5, .iload 4, 2), (7, .aload_n 0, 1), (8, .getfield 46, 3), (11, .if_icmp .ge 27, 3), (14, .iload_n 3, 1), (15, .aload_n 0, 1), (16, .getfield 15, 3), (19, .iload 4, 2), (21, .iaload, 1), (22, .aload_n 1, 1), (23, .iload_n 2, 1), (24, .iload 4, 2), (26, .invokevirtual 56, 3), (29, .imul, 1), (30, .iadd, 1), (31, .istore_n 3, 1), (32, .iinc 4 1, 3), (35, .goto (-30), 3), (38, .iload_n 3, 1), (39, .ireturn, 1)]
theorem dtX3_useWith : tX3_useWith.all (fun q => decide (decode cX3_useWith q.1 = .ok (q.2.1, q.2.2))) = true := by decide +kernel
theorem npX3_useWith : (parseMethodDescriptor (mY mX3_useWith).desc).map (fun d => d.parameters.length) = some 2 := by decide +kernel
theorem vX3_useWith : mV mX3_useWith := ⟨wI_X3_useWith, wS_X3_useWith, wN_X3, wC_X3_useWith, by decide +kernel, by decide +kernel⟩
set_option maxHeartbeats 4000000 in
set_option maxRecDepth 100000 in
theorem lp_X3_useWith {Z : CT → State → Prop} {h : HP} {t a n : Nat} {p : Int} (hH : TT t = (0, 3)) (hT : TT a = (0, 8)) (hW : rW (hA h (a + 1))) (hn : n ≤ 6) (hnt : hI h t 10 = (n : Int)) (hp : 0 ≤ p ∧ p < 7) (kx : K mX3_useWith GK Z 0 0 38 [(4, vi (n : Int)), (3, vi (sumF (hA h (t + 2)) (hA h (a + 1)) p n)), (0, vr t), (1, vr a), (2, vi p)] [] h) : ∀ (d k : Nat), k + d = n → K mX3_useWith GK Z 0 0 5 [(4, vi (k : Int)), (3, vi (sumF (hA h (t + 2)) (hA h (a + 1)) p k)), (0, vr t), (1, vr a), (2, vi p)] [] h := by
  intro d
  induction d with
  | zero =>
    intro k hk
    obtain rfl : n = k := by omega
    refine K_iload (dt_at dtX3_useWith 4 rfl) rfl ?_
    refine K_aload_n (dt_at dtX3_useWith 5 rfl) rfl rfl ?_
    refine K_get (a := t) (ci := 3) (k := 10) (v := vi (n : Int)) (dt_at dtX3_useWith 6 rfl) hH rfl (by decide) wF_X3_46 (by show vi (hI h t 10) = _; rw [hnt]) ?_
    refine K_icmp_ge (tgt := 38) (dt_at dtX3_useWith 7 rfl) (by decide) (by first | assumption | exact ⟨by omega, by omega⟩) (by first | assumption | exact ⟨by omega, by omega⟩) (fun c1 => ?_) (fun c1 => absurd c1 (by omega))
    exact K_pk [0, 1, 2, 3, 4] rfl kx
  | succ d ih =>
    intro k hk
    refine K_iload (dt_at dtX3_useWith 4 rfl) rfl ?_
    refine K_aload_n (dt_at dtX3_useWith 5 rfl) rfl rfl ?_
    refine K_get (a := t) (ci := 3) (k := 10) (v := vi (n : Int)) (dt_at dtX3_useWith 6 rfl) hH rfl (by decide) wF_X3_46 (by show vi (hI h t 10) = _; rw [hnt]) ?_
    refine K_icmp_ge (tgt := 38) (dt_at dtX3_useWith 7 rfl) (by decide) (by first | assumption | exact ⟨by omega, by omega⟩) (by first | assumption | exact ⟨by omega, by omega⟩) (fun c1 => absurd c1 (by omega)) (fun c1 => ?_)
    refine K_iload_n (dt_at dtX3_useWith 8 rfl) rfl rfl ?_
    refine K_aload_n (dt_at dtX3_useWith 9 rfl) rfl rfl ?_
    refine K_get (a := t) (ci := 3) (k := 1) (v := vr (t + 2)) (dt_at dtX3_useWith 10 rfl) hH rfl (by decide) wF_X3_15 rfl ?_
    refine K_iload (dt_at dtX3_useWith 11 rfl) rfl ?_
    refine K_iald (dt_at dtX3_useWith 12 rfl) (lay_3_1 hH) (by omega) (by omega) ?_
    refine K_aload_n (dt_at dtX3_useWith 13 rfl) rfl rfl ?_
    refine K_iload_n (dt_at dtX3_useWith 14 rfl) rfl rfl ?_
    refine K_iload (dt_at dtX3_useWith 15 rfl) rfl ?_
    refine K_callV (M' := mX8_pieces) (a := a) (ci := 8) (As := [vi p, vi (k : Int)]) (st := [vi (hA h (t + 2) (k : Int)), vi (sumF (hA h (t + 2)) (hA h (a + 1)) p k)]) (dt_at dtX3_useWith 16 rfl) (sX8_pieces hT ⟨by omega, by omega⟩ ⟨by omega, by omega⟩ (hW.2 _ (by omega) (by omega)).2.1) hT rfl wL_X3_56 vX8_pieces rfl npX8_pieces (by decide) (by decide) (Nat.le_of_ble_eq_true rfl) (by decide) (by decide) GK_E (fun v9 h9 hq => ?_) (fun E h9 hq => by cases hq.1)
    obtain ⟨e9, e8⟩ := hq
    cases e9
    rw [e8]
    show K mX3_useWith _ _ 0 0 29 [(4, vi (k : Int)), (3, vi (sumF (hA h (t + 2)) (hA h (a + 1)) p k)), (0, vr t), (1, vr a), (2, vi p)] [vi (hA h (a + 1) (35 + (hA h (a + 1) (8 + p)) * 6 + (k : Int))), vi (hA h (t + 2) (k : Int)), vi (sumF (hA h (t + 2)) (hA h (a + 1)) p k)] h
    refine K_imul (dt_at dtX3_useWith 17 rfl) ?_
    refine K_iadd (dt_at dtX3_useWith 18 rfl) ?_
    refine K_istore_n (ls' := [(3, vi ((sumF (hA h (t + 2)) (hA h (a + 1)) p k) + ((hA h (t + 2) (k : Int)) * (hA h (a + 1) (35 + (hA h (a + 1) (8 + p)) * 6 + (k : Int)))))), (4, vi (k : Int)), (0, vr t), (1, vr a), (2, vi p)]) (dt_at dtX3_useWith 19 rfl) rfl (by decide) rfl ?_
    refine K_iinc (ls' := [(4, vi ((k : Int) + 1)), (3, vi ((sumF (hA h (t + 2)) (hA h (a + 1)) p k) + ((hA h (t + 2) (k : Int)) * (hA h (a + 1) (35 + (hA h (a + 1) (8 + p)) * 6 + (k : Int)))))), (0, vr t), (1, vr a), (2, vi p)]) (dt_at dtX3_useWith 20 rfl) rfl (by decide) rfl ?_
    refine K_goto (tgt := 5) (dt_at dtX3_useWith 21 rfl) (by decide) ?_
    refine K_pk [0, 1, 2, 3, 4] (ls' := [(4, vi ((k : Int) + 1)), (3, vi ((sumF (hA h (t + 2)) (hA h (a + 1)) p k) + ((hA h (t + 2) (k : Int)) * (hA h (a + 1) (35 + (hA h (a + 1) (8 + p)) * 6 + (k : Int)))))), (0, vr t), (1, vr a), (2, vi p)]) rfl ?_
    exact K_cg (ls' := [(4, vi ((k + 1 : Nat) : Int)), (3, vi (sumF (hA h (t + 2)) (hA h (a + 1)) p (k + 1))), (0, vr t), (1, vr a), (2, vi p)]) (h' := h) (by rfl) (by rfl) (ih (k + 1) (by omega))
set_option maxHeartbeats 4000000 in
set_option maxRecDepth 100000 in
theorem sX3_useWith {h : HP} {t a n : Nat} {p : Int} (hH : TT t = (0, 3)) (hT : TT a = (0, 8)) (hW : rW (hA h (a + 1))) (hn : n ≤ 6) (hnt : hI h t 10 = (n : Int)) (hp : 0 ≤ p ∧ p < 7) : SpecK mX3_useWith [vr t, vr a, vi p] h (fun o h' => o = .inl (some (vi (sumF (hA h (t + 2)) (hA h (a + 1)) p n))) ∧ h' = h) := by
  refine Spec_of (by decide +kernel) (Nat.le_of_ble_eq_true rfl) ?_
  refine K_iconst (dt_at dtX3_useWith 0 rfl) ?_
  refine K_istore_n (ls' := [(3, vi 0), (0, vr t), (1, vr a), (2, vi p)]) (dt_at dtX3_useWith 1 rfl) rfl (by decide) rfl ?_
  refine K_iconst (dt_at dtX3_useWith 2 rfl) ?_
  refine K_istore (ls' := [(4, vi 0), (3, vi 0), (0, vr t), (1, vr a), (2, vi p)]) (dt_at dtX3_useWith 3 rfl) (by decide) rfl ?_
  refine K_pk [0, 1, 2, 3, 4] rfl (lp_X3_useWith hH hT hW hn hnt hp ?_ n 0 (by omega))
  refine K_iload_n (dt_at dtX3_useWith 22 rfl) rfl rfl ?_
  exact K_iret (dt_at dtX3_useWith 23 rfl) rfl rfl (by decide) (by decide) ⟨rfl, rfl⟩
def mX3_weightWith : MI := (yX3_weightWith, cX3_weightWith, 5, (some .int), rmK 2 0)
def tX3_weightWith : List (Nat × Instr × Nat) := [(0, .iconst 0, 1), (1, .istore_n 3, 1), (2, .iconst 0, 1), (3, .istore 4, 2), (5, .iload 4, 2), (7, .aload_n 0, 1), (8, .getfield 46, 3), (11, .if_icmp .ge 27, 3), (14, .iload_n 3, 1), (15, .aload_n 0, 1), (16, .getfield 9, 3), (19, .iload 4, 2), (21, .iaload, 1), (22, .aload_n 1, 1), (23, .iload_n 2, 1), (24, .iload 4, 2), (26, .invokevirtual 56, 3), (29, .imul, 1), (30, .iadd, 1), (31, .istore_n 3, 1), (32, .iinc 4 1, 3), (35, .goto (-30), 3), (38, .iload_n 3, 1), (39, .ireturn, 1)]
theorem dtX3_weightWith : tX3_weightWith.all (fun q => decide (decode cX3_weightWith q.1 = .ok (q.2.1, q.2.2))) = true := by decide +kernel
theorem npX3_weightWith : (parseMethodDescriptor (mY mX3_weightWith).desc).map (fun d => d.parameters.length) = some 2 := by decide +kernel
theorem vX3_weightWith : mV mX3_weightWith := ⟨wI_X3_weightWith, wS_X3_weightWith, wN_X3, wC_X3_weightWith, by decide +kernel, by decide +kernel⟩
set_option maxHeartbeats 4000000 in
set_option maxRecDepth 100000 in
theorem lp_X3_weightWith {Z : CT → State → Prop} {h : HP} {t a n : Nat} {p : Int} (hH : TT t = (0, 3)) (hT : TT a = (0, 8)) (hW : rW (hA h (a + 1))) (hn : n ≤ 6) (hnt : hI h t 10 = (n : Int)) (hp : 0 ≤ p ∧ p < 7) (kx : K mX3_weightWith GK Z 0 0 38 [(4, vi (n : Int)), (3, vi (sumF (hA h (t + 1)) (hA h (a + 1)) p n)), (0, vr t), (1, vr a), (2, vi p)] [] h) : ∀ (d k : Nat), k + d = n → K mX3_weightWith GK Z 0 0 5 [(4, vi (k : Int)), (3, vi (sumF (hA h (t + 1)) (hA h (a + 1)) p k)), (0, vr t), (1, vr a), (2, vi p)] [] h := by
  intro d
  induction d with
  | zero =>
    intro k hk
    obtain rfl : n = k := by omega
    refine K_iload (dt_at dtX3_weightWith 4 rfl) rfl ?_
    refine K_aload_n (dt_at dtX3_weightWith 5 rfl) rfl rfl ?_
    refine K_get (a := t) (ci := 3) (k := 10) (v := vi (n : Int)) (dt_at dtX3_weightWith 6 rfl) hH rfl (by decide) wF_X3_46 (by show vi (hI h t 10) = _; rw [hnt]) ?_
    refine K_icmp_ge (tgt := 38) (dt_at dtX3_weightWith 7 rfl) (by decide) (by first | assumption | exact ⟨by omega, by omega⟩) (by first | assumption | exact ⟨by omega, by omega⟩) (fun c1 => ?_) (fun c1 => absurd c1 (by omega))
    exact K_pk [0, 1, 2, 3, 4] rfl kx
  | succ d ih =>
    intro k hk
    refine K_iload (dt_at dtX3_weightWith 4 rfl) rfl ?_
    refine K_aload_n (dt_at dtX3_weightWith 5 rfl) rfl rfl ?_
    refine K_get (a := t) (ci := 3) (k := 10) (v := vi (n : Int)) (dt_at dtX3_weightWith 6 rfl) hH rfl (by decide) wF_X3_46 (by show vi (hI h t 10) = _; rw [hnt]) ?_
    refine K_icmp_ge (tgt := 38) (dt_at dtX3_weightWith 7 rfl) (by decide) (by first | assumption | exact ⟨by omega, by omega⟩) (by first | assumption | exact ⟨by omega, by omega⟩) (fun c1 => absurd c1 (by omega)) (fun c1 => ?_)
    refine K_iload_n (dt_at dtX3_weightWith 8 rfl) rfl rfl ?_
    refine K_aload_n (dt_at dtX3_weightWith 9 rfl) rfl rfl ?_
    refine K_get (a := t) (ci := 3) (k := 0) (v := vr (t + 1)) (dt_at dtX3_weightWith 10 rfl) hH rfl (by decide) wF_X3_9 rfl ?_
    refine K_iload (dt_at dtX3_weightWith 11 rfl) rfl ?_
    refine K_iald (dt_at dtX3_weightWith 12 rfl) (lay_3_0 hH) (by omega) (by omega) ?_
    refine K_aload_n (dt_at dtX3_weightWith 13 rfl) rfl rfl ?_
    refine K_iload_n (dt_at dtX3_weightWith 14 rfl) rfl rfl ?_
    refine K_iload (dt_at dtX3_weightWith 15 rfl) rfl ?_
    refine K_callV (M' := mX8_pieces) (a := a) (ci := 8) (As := [vi p, vi (k : Int)]) (st := [vi (hA h (t + 1) (k : Int)), vi (sumF (hA h (t + 1)) (hA h (a + 1)) p k)]) (dt_at dtX3_weightWith 16 rfl) (sX8_pieces hT ⟨by omega, by omega⟩ ⟨by omega, by omega⟩ (hW.2 _ (by omega) (by omega)).2.1) hT rfl wL_X3_56 vX8_pieces rfl npX8_pieces (by decide) (by decide) (Nat.le_of_ble_eq_true rfl) (by decide) (by decide) GK_E (fun v9 h9 hq => ?_) (fun E h9 hq => by cases hq.1)
    obtain ⟨e9, e8⟩ := hq
    cases e9
    rw [e8]
    show K mX3_weightWith _ _ 0 0 29 [(4, vi (k : Int)), (3, vi (sumF (hA h (t + 1)) (hA h (a + 1)) p k)), (0, vr t), (1, vr a), (2, vi p)] [vi (hA h (a + 1) (35 + (hA h (a + 1) (8 + p)) * 6 + (k : Int))), vi (hA h (t + 1) (k : Int)), vi (sumF (hA h (t + 1)) (hA h (a + 1)) p k)] h
    refine K_imul (dt_at dtX3_weightWith 17 rfl) ?_
    refine K_iadd (dt_at dtX3_weightWith 18 rfl) ?_
    refine K_istore_n (ls' := [(3, vi ((sumF (hA h (t + 1)) (hA h (a + 1)) p k) + ((hA h (t + 1) (k : Int)) * (hA h (a + 1) (35 + (hA h (a + 1) (8 + p)) * 6 + (k : Int)))))), (4, vi (k : Int)), (0, vr t), (1, vr a), (2, vi p)]) (dt_at dtX3_weightWith 19 rfl) rfl (by decide) rfl ?_
    refine K_iinc (ls' := [(4, vi ((k : Int) + 1)), (3, vi ((sumF (hA h (t + 1)) (hA h (a + 1)) p k) + ((hA h (t + 1) (k : Int)) * (hA h (a + 1) (35 + (hA h (a + 1) (8 + p)) * 6 + (k : Int)))))), (0, vr t), (1, vr a), (2, vi p)]) (dt_at dtX3_weightWith 20 rfl) rfl (by decide) rfl ?_
    refine K_goto (tgt := 5) (dt_at dtX3_weightWith 21 rfl) (by decide) ?_
    refine K_pk [0, 1, 2, 3, 4] (ls' := [(4, vi ((k : Int) + 1)), (3, vi ((sumF (hA h (t + 1)) (hA h (a + 1)) p k) + ((hA h (t + 1) (k : Int)) * (hA h (a + 1) (35 + (hA h (a + 1) (8 + p)) * 6 + (k : Int)))))), (0, vr t), (1, vr a), (2, vi p)]) rfl ?_
    exact K_cg (ls' := [(4, vi ((k + 1 : Nat) : Int)), (3, vi (sumF (hA h (t + 1)) (hA h (a + 1)) p (k + 1))), (0, vr t), (1, vr a), (2, vi p)]) (h' := h) (by rfl) (by rfl) (ih (k + 1) (by omega))
set_option maxHeartbeats 4000000 in
set_option maxRecDepth 100000 in
theorem sX3_weightWith {h : HP} {t a n : Nat} {p : Int} (hH : TT t = (0, 3)) (hT : TT a = (0, 8)) (hW : rW (hA h (a + 1))) (hn : n ≤ 6) (hnt : hI h t 10 = (n : Int)) (hp : 0 ≤ p ∧ p < 7) : SpecK mX3_weightWith [vr t, vr a, vi p] h (fun o h' => o = .inl (some (vi (sumF (hA h (t + 1)) (hA h (a + 1)) p n))) ∧ h' = h) := by
  refine Spec_of (by decide +kernel) (Nat.le_of_ble_eq_true rfl) ?_
  refine K_iconst (dt_at dtX3_weightWith 0 rfl) ?_
  refine K_istore_n (ls' := [(3, vi 0), (0, vr t), (1, vr a), (2, vi p)]) (dt_at dtX3_weightWith 1 rfl) rfl (by decide) rfl ?_
  refine K_iconst (dt_at dtX3_weightWith 2 rfl) ?_
  refine K_istore (ls' := [(4, vi 0), (3, vi 0), (0, vr t), (1, vr a), (2, vi p)]) (dt_at dtX3_weightWith 3 rfl) (by decide) rfl ?_
  refine K_pk [0, 1, 2, 3, 4] rfl (lp_X3_weightWith hH hT hW hn hnt hp ?_ n 0 (by omega))
  refine K_iload_n (dt_at dtX3_weightWith 22 rfl) rfl rfl ?_
  exact K_iret (dt_at dtX3_weightWith 23 rfl) rfl rfl (by decide) (by decide) ⟨rfl, rfl⟩
def mX3_weightInAll : MI := (yX3_weightInAll, cX3_weightInAll, 4, (some .int), rmK 3 0)
def tX3_weightInAll : List (Nat × Instr × Nat) := [(0, .iconst 0, 1), (1, .istore_n 2, 1), (2, .iconst 0, 1), (3, .istore_n 3, 1), (4, .iload_n 3, 1), (5, .aload_n 0, 1), (6, .getfield 46, 3), (9, .if_icmp .ge 24, 3), (12, .iload_n 2, 1), (13, .aload_n 0, 1), (14, .getfield 9, 3), (17, .iload_n 3, 1), (18, .iaload, 1), (19, .aload_n 1, 1), (20, .iload_n 3, 1), (21, .invokevirtual 62, 3), (24, .imul, 1), (25, .iadd, 1), (26, .istore_n 2, 1), (27, .iinc 3 1, 3), (30, .goto (-26), 3), (33, .iconst 0, 1), (34, .istore_n 3, 1), (35, .iload_n 3, 1), (36, .aload_n 0, 1), (37, .getfield 50, 3), (40, .if_icmp .ge 18, 3), (43, .iload_n 2, 1), (44, .aload_n 0, 1), (45, .aload_n 1, 1), (46, .iload_n 3, 1), (47, .invokevirtual 65, 3), (50, .iadd, 1), (51, .istore_n 2, 1), (52, .iinc 3 1, 3), (55, .goto (-20), 3), (58, .iload_n 2, 1), (59, .ireturn, 1)]
theorem dtX3_weightInAll : tX3_weightInAll.all (fun q => decide (decode cX3_weightInAll q.1 = .ok (q.2.1, q.2.2))) = true := by decide +kernel
theorem npX3_weightInAll : (parseMethodDescriptor (mY mX3_weightInAll).desc).map (fun d => d.parameters.length) = some 1 := by decide +kernel
theorem vX3_weightInAll : mV mX3_weightInAll := ⟨wI_X3_weightInAll, wS_X3_weightInAll, wN_X3, wC_X3_weightInAll, by decide +kernel, by decide +kernel⟩
set_option maxHeartbeats 4000000 in
set_option maxRecDepth 100000 in
theorem lp1_X3_weightInAll {Z : CT → State → Prop} {h : HP} {t a n np : Nat} (hH : TT t = (0, 3)) (hT : TT a = (0, 8)) (hW : rW (hA h (a + 1))) (hn : n ≤ 6) (hnt : hI h t 10 = (n : Int)) (hnp : hI h t 11 = (np : Int)) (hn7 : np ≤ 7) (kx : K mX3_weightInAll GK Z 0 0 33 [(3, vi (n : Int)), (2, vi (itN (fun k v => v + hA h (t + 1) (k : Int) * (hA h (a + 1) (29 + (k : Int)))) 0 n)), (0, vr t), (1, vr a)] [] h) : ∀ (d k : Nat), k + d = n → K mX3_weightInAll GK Z 0 0 4 [(3, vi (k : Int)), (2, vi (itN (fun k v => v + hA h (t + 1) (k : Int) * (hA h (a + 1) (29 + (k : Int)))) 0 k)), (0, vr t), (1, vr a)] [] h := by
  intro d
  induction d with
  | zero =>
    intro k hk
    obtain rfl : n = k := by omega
    refine K_iload_n (dt_at dtX3_weightInAll 4 rfl) rfl rfl ?_
    refine K_aload_n (dt_at dtX3_weightInAll 5 rfl) rfl rfl ?_
    refine K_get (a := t) (ci := 3) (k := 10) (v := vi (n : Int)) (dt_at dtX3_weightInAll 6 rfl) hH rfl (by decide) wF_X3_46 (by show vi (hI h t 10) = _; rw [hnt]) ?_
    refine K_icmp_ge (tgt := 33) (dt_at dtX3_weightInAll 7 rfl) (by decide) (by first | assumption | exact ⟨by omega, by omega⟩) (by first | assumption | exact ⟨by omega, by omega⟩) (fun c1 => ?_) (fun c1 => absurd c1 (by omega))
    exact K_pk [0, 1, 2, 3] rfl kx
  | succ d ih =>
    intro k hk
    refine K_iload_n (dt_at dtX3_weightInAll 4 rfl) rfl rfl ?_
    refine K_aload_n (dt_at dtX3_weightInAll 5 rfl) rfl rfl ?_
    refine K_get (a := t) (ci := 3) (k := 10) (v := vi (n : Int)) (dt_at dtX3_weightInAll 6 rfl) hH rfl (by decide) wF_X3_46 (by show vi (hI h t 10) = _; rw [hnt]) ?_
    refine K_icmp_ge (tgt := 33) (dt_at dtX3_weightInAll 7 rfl) (by decide) (by first | assumption | exact ⟨by omega, by omega⟩) (by first | assumption | exact ⟨by omega, by omega⟩) (fun c1 => absurd c1 (by omega)) (fun c1 => ?_)
    refine K_iload_n (dt_at dtX3_weightInAll 8 rfl) rfl rfl ?_
    refine K_aload_n (dt_at dtX3_weightInAll 9 rfl) rfl rfl ?_
    refine K_get (a := t) (ci := 3) (k := 0) (v := vr (t + 1)) (dt_at dtX3_weightInAll 10 rfl) hH rfl (by decide) wF_X3_9 rfl ?_
    refine K_iload_n (dt_at dtX3_weightInAll 11 rfl) rfl rfl ?_
    refine K_iald (dt_at dtX3_weightInAll 12 rfl) (lay_3_0 hH) (by omega) (by omega) ?_
    refine K_aload_n (dt_at dtX3_weightInAll 13 rfl) rfl rfl ?_
    refine K_iload_n (dt_at dtX3_weightInAll 14 rfl) rfl rfl ?_
    refine K_callV (M' := mX8_stock) (a := a) (ci := 8) (As := [vi (k : Int)]) (st := [vi (hA h (t + 1) (k : Int)), vi (itN (fun k v => v + hA h (t + 1) (k : Int) * (hA h (a + 1) (29 + (k : Int)))) 0 k)]) (dt_at dtX3_weightInAll 15 rfl) (sX8_stock hT ⟨by omega, by omega⟩) hT rfl wL_X3_62 vX8_stock rfl npX8_stock (by decide) (by decide) (Nat.le_of_ble_eq_true rfl) (by decide) (by decide) GK_E (fun v9 h9 hq => ?_) (fun E h9 hq => by cases hq.1)
    obtain ⟨e9, e8⟩ := hq
    cases e9
    rw [e8]
    show K mX3_weightInAll _ _ 0 0 24 [(3, vi (k : Int)), (2, vi (itN (fun k v => v + hA h (t + 1) (k : Int) * (hA h (a + 1) (29 + (k : Int)))) 0 k)), (0, vr t), (1, vr a)] [vi (hA h (a + 1) (29 + (k : Int))), vi (hA h (t + 1) (k : Int)), vi (itN (fun k v => v + hA h (t + 1) (k : Int) * (hA h (a + 1) (29 + (k : Int)))) 0 k)] h
    refine K_imul (dt_at dtX3_weightInAll 16 rfl) ?_
    refine K_iadd (dt_at dtX3_weightInAll 17 rfl) ?_
    refine K_istore_n (ls' := [(2, vi ((itN (fun k v => v + hA h (t + 1) (k : Int) * (hA h (a + 1) (29 + (k : Int)))) 0 k) + ((hA h (t + 1) (k : Int)) * (hA h (a + 1) (29 + (k : Int)))))), (3, vi (k : Int)), (0, vr t), (1, vr a)]) (dt_at dtX3_weightInAll 18 rfl) rfl (by decide) rfl ?_
    refine K_iinc (ls' := [(3, vi ((k : Int) + 1)), (2, vi ((itN (fun k v => v + hA h (t + 1) (k : Int) * (hA h (a + 1) (29 + (k : Int)))) 0 k) + ((hA h (t + 1) (k : Int)) * (hA h (a + 1) (29 + (k : Int)))))), (0, vr t), (1, vr a)]) (dt_at dtX3_weightInAll 19 rfl) rfl (by decide) rfl ?_
    refine K_goto (tgt := 4) (dt_at dtX3_weightInAll 20 rfl) (by decide) ?_
    refine K_pk [0, 1, 2, 3] (ls' := [(3, vi ((k : Int) + 1)), (2, vi ((itN (fun k v => v + hA h (t + 1) (k : Int) * (hA h (a + 1) (29 + (k : Int)))) 0 k) + ((hA h (t + 1) (k : Int)) * (hA h (a + 1) (29 + (k : Int)))))), (0, vr t), (1, vr a)]) rfl ?_
    exact K_cg (ls' := [(3, vi ((k + 1 : Nat) : Int)), (2, vi (itN (fun k v => v + hA h (t + 1) (k : Int) * (hA h (a + 1) (29 + (k : Int)))) 0 (k + 1))), (0, vr t), (1, vr a)]) (h' := h) (by rfl) (by rfl) (ih (k + 1) (by omega))
set_option maxHeartbeats 4000000 in
set_option maxRecDepth 100000 in
theorem lp2_X3_weightInAll {Z : CT → State → Prop} {h : HP} {t a n np : Nat} (hH : TT t = (0, 3)) (hT : TT a = (0, 8)) (hW : rW (hA h (a + 1))) (hn : n ≤ 6) (hnt : hI h t 10 = (n : Int)) (hnp : hI h t 11 = (np : Int)) (hn7 : np ≤ 7) (kx : K mX3_weightInAll GK Z 0 0 58 [(3, vi (np : Int)), (2, vi (itN (fun k v => v + sumF (hA h (t + 1)) (hA h (a + 1)) (k : Int) n) (itN (fun k v => v + hA h (t + 1) (k : Int) * (hA h (a + 1) (29 + (k : Int)))) 0 n) np)), (0, vr t), (1, vr a)] [] h) : ∀ (d k : Nat), k + d = np → K mX3_weightInAll GK Z 0 0 35 [(3, vi (k : Int)), (2, vi (itN (fun k v => v + sumF (hA h (t + 1)) (hA h (a + 1)) (k : Int) n) (itN (fun k v => v + hA h (t + 1) (k : Int) * (hA h (a + 1) (29 + (k : Int)))) 0 n) k)), (0, vr t), (1, vr a)] [] h := by
  intro d
  induction d with
  | zero =>
    intro k hk
    obtain rfl : np = k := by omega
    refine K_iload_n (dt_at dtX3_weightInAll 23 rfl) rfl rfl ?_
    refine K_aload_n (dt_at dtX3_weightInAll 24 rfl) rfl rfl ?_
    refine K_get (a := t) (ci := 3) (k := 11) (v := vi (np : Int)) (dt_at dtX3_weightInAll 25 rfl) hH rfl (by decide) wF_X3_50 (by show vi (hI h t 11) = _; rw [hnp]) ?_
    refine K_icmp_ge (tgt := 58) (dt_at dtX3_weightInAll 26 rfl) (by decide) (by first | assumption | exact ⟨by omega, by omega⟩) (by first | assumption | exact ⟨by omega, by omega⟩) (fun c1 => ?_) (fun c1 => absurd c1 (by omega))
    exact K_pk [0, 1, 2, 3] rfl kx
  | succ d ih =>
    intro k hk
    refine K_iload_n (dt_at dtX3_weightInAll 23 rfl) rfl rfl ?_
    refine K_aload_n (dt_at dtX3_weightInAll 24 rfl) rfl rfl ?_
    refine K_get (a := t) (ci := 3) (k := 11) (v := vi (np : Int)) (dt_at dtX3_weightInAll 25 rfl) hH rfl (by decide) wF_X3_50 (by show vi (hI h t 11) = _; rw [hnp]) ?_
    refine K_icmp_ge (tgt := 58) (dt_at dtX3_weightInAll 26 rfl) (by decide) (by first | assumption | exact ⟨by omega, by omega⟩) (by first | assumption | exact ⟨by omega, by omega⟩) (fun c1 => absurd c1 (by omega)) (fun c1 => ?_)
    refine K_iload_n (dt_at dtX3_weightInAll 27 rfl) rfl rfl ?_
    refine K_aload_n (dt_at dtX3_weightInAll 28 rfl) rfl rfl ?_
    refine K_aload_n (dt_at dtX3_weightInAll 29 rfl) rfl rfl ?_
    refine K_iload_n (dt_at dtX3_weightInAll 30 rfl) rfl rfl ?_
    refine K_callV (M' := mX3_weightWith) (a := t) (ci := 3) (As := [vr a, vi (k : Int)]) (st := [vi (itN (fun k v => v + sumF (hA h (t + 1)) (hA h (a + 1)) (k : Int) n) (itN (fun k v => v + hA h (t + 1) (k : Int) * (hA h (a + 1) (29 + (k : Int)))) 0 n) k)]) (dt_at dtX3_weightInAll 31 rfl) (sX3_weightWith hH hT hW hn hnt ⟨by omega, by omega⟩) hH rfl wL_X3_65 vX3_weightWith rfl npX3_weightWith (by decide) (by decide) (Nat.le_of_ble_eq_true rfl) (by decide) (by decide) GK_E (fun v9 h9 hq => ?_) (fun E h9 hq => by cases hq.1)
    obtain ⟨e9, e8⟩ := hq
    cases e9
    rw [e8]
    show K mX3_weightInAll _ _ 0 0 50 [(3, vi (k : Int)), (2, vi (itN (fun k v => v + sumF (hA h (t + 1)) (hA h (a + 1)) (k : Int) n) (itN (fun k v => v + hA h (t + 1) (k : Int) * (hA h (a + 1) (29 + (k : Int)))) 0 n) k)), (0, vr t), (1, vr a)] [vi (sumF (hA h (t + 1)) (hA h (a + 1)) (k : Int) n), vi (itN (fun k v => v + sumF (hA h (t + 1)) (hA h (a + 1)) (k : Int) n) (itN (fun k v => v + hA h (t + 1) (k : Int) * (hA h (a + 1) (29 + (k : Int)))) 0 n) k)] h
    refine K_iadd (dt_at dtX3_weightInAll 32 rfl) ?_
    refine K_istore_n (ls' := [(2, vi ((itN (fun k v => v + sumF (hA h (t + 1)) (hA h (a + 1)) (k : Int) n) (itN (fun k v => v + hA h (t + 1) (k : Int) * (hA h (a + 1) (29 + (k : Int)))) 0 n) k) + (sumF (hA h (t + 1)) (hA h (a + 1)) (k : Int) n))), (3, vi (k : Int)), (0, vr t), (1, vr a)]) (dt_at dtX3_weightInAll 33 rfl) rfl (by decide) rfl ?_
    refine K_iinc (ls' := [(3, vi ((k : Int) + 1)), (2, vi ((itN (fun k v => v + sumF (hA h (t + 1)) (hA h (a + 1)) (k : Int) n) (itN (fun k v => v + hA h (t + 1) (k : Int) * (hA h (a + 1) (29 + (k : Int)))) 0 n) k) + (sumF (hA h (t + 1)) (hA h (a + 1)) (k : Int) n))), (0, vr t), (1, vr a)]) (dt_at dtX3_weightInAll 34 rfl) rfl (by decide) rfl ?_
    refine K_goto (tgt := 35) (dt_at dtX3_weightInAll 35 rfl) (by decide) ?_
    refine K_pk [0, 1, 2, 3] (ls' := [(3, vi ((k : Int) + 1)), (2, vi ((itN (fun k v => v + sumF (hA h (t + 1)) (hA h (a + 1)) (k : Int) n) (itN (fun k v => v + hA h (t + 1) (k : Int) * (hA h (a + 1) (29 + (k : Int)))) 0 n) k) + (sumF (hA h (t + 1)) (hA h (a + 1)) (k : Int) n))), (0, vr t), (1, vr a)]) rfl ?_
    exact K_cg (ls' := [(3, vi ((k + 1 : Nat) : Int)), (2, vi (itN (fun k v => v + sumF (hA h (t + 1)) (hA h (a + 1)) (k : Int) n) (itN (fun k v => v + hA h (t + 1) (k : Int) * (hA h (a + 1) (29 + (k : Int)))) 0 n) (k + 1))), (0, vr t), (1, vr a)]) (h' := h) (by rfl) (by rfl) (ih (k + 1) (by omega))
set_option maxHeartbeats 4000000 in
set_option maxRecDepth 100000 in
theorem sX3_weightInAll {h : HP} {t a n np : Nat} (hH : TT t = (0, 3)) (hT : TT a = (0, 8)) (hW : rW (hA h (a + 1))) (hn : n ≤ 6) (hnt : hI h t 10 = (n : Int)) (hnp : hI h t 11 = (np : Int)) (hn7 : np ≤ 7) : SpecK mX3_weightInAll [vr t, vr a] h (fun o h' => o = .inl (some (vi (itN (fun k v => v + sumF (hA h (t + 1)) (hA h (a + 1)) (k : Int) n) (itN (fun k v => v + hA h (t + 1) (k : Int) * (hA h (a + 1) (29 + (k : Int)))) 0 n) np))) ∧ h' = h) := by
  refine Spec_of (by decide +kernel) (Nat.le_of_ble_eq_true rfl) ?_
  refine K_iconst (dt_at dtX3_weightInAll 0 rfl) ?_
  refine K_istore_n (ls' := [(2, vi 0), (0, vr t), (1, vr a)]) (dt_at dtX3_weightInAll 1 rfl) rfl (by decide) rfl ?_
  refine K_iconst (dt_at dtX3_weightInAll 2 rfl) ?_
  refine K_istore_n (ls' := [(3, vi 0), (2, vi 0), (0, vr t), (1, vr a)]) (dt_at dtX3_weightInAll 3 rfl) rfl (by decide) rfl ?_
  refine K_pk [0, 1, 2, 3] rfl (lp1_X3_weightInAll hH hT hW hn hnt hnp hn7 ?_ n 0 (by omega))
  refine K_iconst (dt_at dtX3_weightInAll 21 rfl) ?_
  refine K_istore_n (ls' := [(3, vi 0), (2, vi (itN (fun k v => v + hA h (t + 1) (k : Int) * (hA h (a + 1) (29 + (k : Int)))) 0 n)), (0, vr t), (1, vr a)]) (dt_at dtX3_weightInAll 22 rfl) rfl (by decide) rfl ?_
  refine K_pk [0, 1, 2, 3] rfl (lp2_X3_weightInAll hH hT hW hn hnt hnp hn7 ?_ np 0 (by omega))
  refine K_iload_n (dt_at dtX3_weightInAll 36 rfl) rfl rfl ?_
  exact K_iret (dt_at dtX3_weightInAll 37 rfl) rfl rfl (by decide) (by decide) ⟨rfl, rfl⟩
