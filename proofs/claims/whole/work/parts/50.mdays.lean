theorem in_at {S : HS} {g : Int → Int} {p : Int} (hB : hsW S) (hp : 0 ≤ p ∧ p < sNp S) : bAnd (bShr (bitN (fun j => decide (g (1 + (j : Int)) = 0)) (sNp S)) p) 1 = if g (1 + p) = 0 then 1 else 0 := by
  rw [bit_at1 hB.2.1 hp.1 hp.2, show ((p.toNat : Nat) : Int) = p by omega]
  by_cases z : g (1 + p) = 0
  · rw [if_pos z, if_pos (decide_eq_true z)]
  · rw [if_neg z, if_neg (by rw [decide_eq_false z]; decide)]
theorem bAnd_cm (x y : Int) : bAnd x y = bAnd y x := by unfold bAnd; rw [Int32.and_comm]
theorem out_eq {S : HS} {g : Int → Int} (hB : hsW S) : bAnd (bShl 1 (sNp S : Int) - 1) (bXor (bitN (fun j => decide (g (1 + (j : Int)) = 0)) (sNp S)) (-1)) = bitN (fun j => decide ((g (1 + (j : Int))) ≠ 0)) (sNp S) := by
  rw [bAnd_cm]
  exact bit_not hB.2.1 (fun k _ => by
    by_cases z : g (1 + (k : Int)) = 0
    · simp [z]
    · simp [z])
theorem emN_c {S : HS} {f : Int → Int} {em : Int} : ∀ n : Nat, emN S f em n = em + cntN (emA S f) n
  | 0 => by show em = em + 0; omega
  | n + 1 => by
    show (if emA S f n then emN S f em n + 1 else emN S f em n) = em + (if emA S f n then cntN (emA S f) n + 1 else cntN (emA S f) n)
    rw [emN_c n]
    cases emA S f n
    · simp
    · simp; omega
theorem emD_s {S : HS} {f : Int → Int} (hB : hsW S) (k : Nat) : emD S f 0 (k + 1) = emD S f 0 k + bitC (bitN (emA S (dysF S f k)) (sNp S)) := by
  show emN S (dysF S f k) (emD S f 0 k) (sNp S) = _
  rw [emN_c, (bits_c hB.2.1).1]
theorem trN_c {S : HS} {f tr : Int → Int} {p : Int} (hp : 0 ≤ p) : ∀ n : Nat, trN S f tr n p = tr p + (if p < n ∧ lvA S f p.toNat = true then 1 else 0)
  | 0 => by rw [if_neg (by omega)]; show tr p = tr p + 0; omega
  | n + 1 => by
    show (if lvA S f n then upI (trN S f tr n) (n : Int) (trN S f tr n (n : Int) + 1) else trN S f tr n) p = _
    by_cases e : p = (n : Int)
    · have ep : p.toNat = n := by omega
      rw [ep]
      cases z : lvA S f n
      · rw [if_neg (by decide), trN_c hp n, if_neg (by omega), if_neg (by rintro ⟨-, q⟩; cases q)]
      · rw [if_pos rfl, e, upI_s, ← e, trN_c hp n, if_neg (by omega), if_pos ⟨by omega, rfl⟩]; omega
    · have : (if lvA S f n then upI (trN S f tr n) (n : Int) (trN S f tr n (n : Int) + 1) else trN S f tr n) p = trN S f tr n p := by
        cases lvA S f n
        · rw [if_neg (by decide)]
        · rw [if_pos rfl, upI_n e]
      rw [this, trN_c hp n]
      by_cases q : p < (n : Int) ∧ lvA S f p.toNat = true
      · rw [if_pos q, if_pos ⟨by omega, q.2⟩]
      · rw [if_neg q, if_neg (fun w => q ⟨by omega, w.2⟩)]
theorem trD_s {S : HS} {f : Int → Int} {p : Int} (hB : hsW S) (hp : 0 ≤ p ∧ p < sNp S) (k : Nat) : trD S f (fun _ => 0) (k + 1) p = trD S f (fun _ => 0) k p + bAnd (bShr (bitN (lvA S (dysF S f k)) (sNp S)) p) 1 := by
  show trN S (dysF S f k) (trD S f (fun _ => 0) k) (sNp S) p = _
  rw [trN_c hp.1, bit_at1 hB.2.1 hp.1 hp.2]
  by_cases q : lvA S (dysF S f k) p.toNat = true
  · rw [if_pos ⟨hp.2, q⟩, if_pos q]
  · rw [if_neg (fun w => q w.2), if_neg q]
theorem in_out {g : Int → Int} {n : Nat} (hn : n ≤ 7) : cntN (fun j => decide (g (1 + (j : Int)) = 0)) n = n - bcI (bitN (fun j => decide ((g (1 + (j : Int))) ≠ 0)) n) ∧ 0 ≤ bcI (bitN (fun j => decide ((g (1 + (j : Int))) ≠ 0)) n) ∧ bcI (bitN (fun j => decide ((g (1 + (j : Int))) ≠ 0)) n) ≤ n := by
  rw [(bits_c hn).2]
  have key : ∀ m : Nat, cntN (fun j => decide (g (1 + (j : Int)) = 0)) m + cntN (fun j => decide ((g (1 + (j : Int))) ≠ 0)) m = m := by
    intro m
    induction m with
    | zero => rfl
    | succ m ih =>
      by_cases z : g (1 + (m : Int)) = 0
      · rw [cntN_t (p := fun j => decide (g (1 + (j : Int)) = 0)) (decide_eq_true z), cntN_f (p := fun j => decide (g (1 + (j : Int)) ≠ 0)) (decide_eq_false (fun w => w z))]; omega
      · rw [cntN_f (p := fun j => decide (g (1 + (j : Int)) = 0)) (decide_eq_false z), cntN_t (p := fun j => decide (g (1 + (j : Int)) ≠ 0)) (decide_eq_true z)]; omega
  have k := key n
  have l := cntN_le (fun j => decide ((g (1 + (j : Int))) ≠ 0)) n
  omega
def emW (u : Nat → Int) : Nat → Int
  | 0 => 0
  | k + 1 => fmN (-1) 1 (-1) u (k + 1)
def emL (n : Int) (u : Nat → Int) : Nat → Int
  | 0 => 99999
  | k + 1 => n - mxN (-1) u (k + 1)
theorem em_c {n : Int} {u : Nat → Int} {k : Nat} (h : 0 ≤ u k ∧ u k ≤ n) (hn : n ≤ 7) : (n - u k < emL n u k ↔ mxN (-1) u k < u k) := by
  cases k with
  | zero => show n - u 0 < 99999 ↔ (-1 : Int) < u 0; omega
  | succ k => show n - u (k + 1) < n - mxN (-1) u (k + 1) ↔ _; omega
theorem em_t {n : Int} {u : Nat → Int} {k : Nat} (h : mxN (-1) u k < u k) : emW u (k + 1) = (k : Int) + 1 ∧ emL n u (k + 1) = n - u k := by
  refine ⟨fmN_t h, ?_⟩
  show n - mxN (-1) u (k + 1) = _
  rw [mxN_t h]
theorem em_f {n : Int} {u : Nat → Int} {k : Nat} (h0 : 0 ≤ u k) (h : ¬ mxN (-1) u k < u k) : emW u (k + 1) = emW u k ∧ emL n u (k + 1) = emL n u k := by
  cases k with
  | zero => exact absurd (show (-1 : Int) < u 0 by omega) h
  | succ k =>
    refine ⟨fmN_f h, ?_⟩
    show n - mxN (-1) u (k + 1 + 1) = n - mxN (-1) u (k + 1)
    rw [mxN_f h]
theorem fm_z {u : Nat → Int} (h : 0 ≤ u 0) (z y : Int) : ∀ n : Nat, fmN (-1) 0 z u (n + 1) = fmN (-1) 0 y u (n + 1)
  | 0 => by rw [fmN_t (show mxN (-1) u 0 < u 0 by show (-1 : Int) < u 0; omega), fmN_t (show mxN (-1) u 0 < u 0 by show (-1 : Int) < u 0; omega)]
  | n + 1 => by
    by_cases e : mxN (-1) u (n + 1) < u (n + 1)
    · rw [fmN_t e, fmN_t e]
    · rw [fmN_f e, fmN_f e]; exact fm_z h z y n
def mX12_crossest : MI := (yX12_crossest, cX12_crossest, 3, (some .int), rmK 1 0)
def tX12_crossest : List (Nat × Instr × Nat) := [(0, .iconst (-1), 1), (1, .istore_n 1, 1), (2, .iconst 0, 1), (3, .istore_n 2, 1), (4, .iload_n 2, 1), (5, .aload_n 0, 1), (6, .getfield 270, 3), (9, .if_icmp .ge 53, 3), (12, .aload_n 0, 1), (13, .getfield 72, 3), (16, .sipush 147, 3), (19, .iload_n 2, 1), (20, .iadd, 1), (21, .iaload, 1), (22, .iconst (-1), 1), (23, .if_icmp .eq 33, 3), (26, .iload_n 1, 1), (27, .iconst (-1), 1), (28, .if_icmp .eq 26, 3), (31, .aload_n 0, 1), (32, .getfield 72, 3), (35, .sipush 140, 3), (38, .iload_n 2, 1), (39, .iadd, 1), (40, .iaload, 1), (41, .aload_n 0, 1), (42, .getfield 72, 3), (45, .sipush 140, 3), (48, .iload_n 1, 1), (49, .iadd, 1), (50, .iaload, 1), (51, .if_icmp .ge 5, 3), (54, .iload_n 2, 1), (55, .istore_n 1, 1), (56, .iinc 2 1, 3), (59, .goto (-55), 3), (62, .iload_n 1, 1), (63, .ireturn, 1)]
theorem dtX12_crossest : tX12_crossest.all (fun q => decide (decode cX12_crossest q.1 = .ok (q.2.1, q.2.2))) = true := by decide +kernel
theorem npX12_crossest : (parseMethodDescriptor (mY mX12_crossest).desc).map (fun d => d.parameters.length) = some 0 := by decide +kernel
theorem vX12_crossest : mV mX12_crossest := ⟨wI_X12_crossest, wS_X12_crossest, wN_X12, wC_X12_crossest, by decide +kernel, by decide +kernel⟩
set_option maxHeartbeats 4000000 in
set_option maxRecDepth 100000 in
theorem lp_X12_crossest {Z : CT → State → Prop} {h0 h : HP} {S : HS} {f : Int → Int} (d : MD h0 h 77 S f) (hW : rW f) (kx : K mX12_crossest GK Z 0 0 62 [(2, vi (sNp S : Int)), (1, vi (selN (fun j v => decide ((f (22 + (j : Int))) ≠ -1) && (decide (v = -1) || decide ((f (15 + (j : Int))) < (f (15 + v))))) (sNp S))), (0, vr 0)] [] h) : ∀ (dd k : Nat), k + dd = (sNp S) → K mX12_crossest GK Z 0 0 4 [(2, vi (k : Int)), (1, vi (selN (fun j v => decide ((f (22 + (j : Int))) ≠ -1) && (decide (v = -1) || decide ((f (15 + (j : Int))) < (f (15 + v))))) k)), (0, vr 0)] [] h := by
  intro dd
  induction dd with
  | zero =>
    intro k hk
    have hB := d.1.1
    have hNt := hB.1
    have hNp := hB.2.1
    have ek : k = (sNp S) := by omega
    subst ek
    refine K_iload_n (dt_at dtX12_crossest 4 rfl) rfl rfl ?_
    refine K_aload_n (dt_at dtX12_crossest 5 rfl) rfl rfl ?_
    refine K_get (a := 0) (ci := 12) (k := 2) (v := vi (sNp S : Int)) (dt_at dtX12_crossest 6 rfl) (show TT 0 = (0, 12) from rfl) rfl (by decide) wF_X12_270 (by show vi (hI h 0 2) = vi (sNp S : Int); rw [(MD_np d)]) ?_
    refine K_icmp_ge (tgt := 62) (dt_at dtX12_crossest 7 rfl) (by decide) (by first | assumption | exact ⟨by omega, by omega⟩) (by first | assumption | exact ⟨by omega, by omega⟩) (fun c1 => ?_) (fun c1 => absurd c1 (by omega))
    exact K_pk [0, 1, 2] rfl kx
  | succ dd ih =>
    intro k hk
    have hB := d.1.1
    have hNt := hB.1
    have hNp := hB.2.1
    have wk := hW.2 (k : Int) (by omega) (by omega)
    have sb := selN_b (fun j v => decide ((f (22 + (j : Int))) ≠ -1) && (decide (v = -1) || decide ((f (15 + (j : Int))) < (f (15 + v))))) k
    have ws : (selN (fun j v => decide ((f (22 + (j : Int))) ≠ -1) && (decide (v = -1) || decide ((f (15 + (j : Int))) < (f (15 + v))))) k) ≠ -1 → 0 ≤ f (15 + (selN (fun j v => decide ((f (22 + (j : Int))) ≠ -1) && (decide (v = -1) || decide ((f (15 + (j : Int))) < (f (15 + v))))) k)) ∧ f (15 + (selN (fun j v => decide ((f (22 + (j : Int))) ≠ -1) && (decide (v = -1) || decide ((f (15 + (j : Int))) < (f (15 + v))))) k)) ≤ 9 := fun z => (hW.2 (selN (fun j v => decide ((f (22 + (j : Int))) ≠ -1) && (decide (v = -1) || decide ((f (15 + (j : Int))) < (f (15 + v))))) k) (by omega) (by omega)).2.2.1
    refine K_iload_n (dt_at dtX12_crossest 4 rfl) rfl rfl ?_
    refine K_aload_n (dt_at dtX12_crossest 5 rfl) rfl rfl ?_
    refine K_get (a := 0) (ci := 12) (k := 2) (v := vi (sNp S : Int)) (dt_at dtX12_crossest 6 rfl) (show TT 0 = (0, 12) from rfl) rfl (by decide) wF_X12_270 (by show vi (hI h 0 2) = vi (sNp S : Int); rw [(MD_np d)]) ?_
    refine K_icmp_ge (tgt := 62) (dt_at dtX12_crossest 7 rfl) (by decide) (by first | assumption | exact ⟨by omega, by omega⟩) (by first | assumption | exact ⟨by omega, by omega⟩) (fun c1 => absurd c1 (by omega)) (fun c1 => ?_)
    refine K_aload_n (dt_at dtX12_crossest 8 rfl) rfl rfl ?_
    refine K_get (a := 0) (ci := 12) (k := 42) (v := vr 18) (dt_at dtX12_crossest 9 rfl) (show TT 0 = (0, 12) from rfl) rfl (by decide) wF_X12_72 rfl ?_
    refine K_sipush (dt_at dtX12_crossest 10 rfl) (by decide) ?_
    refine K_iload_n (dt_at dtX12_crossest 11 rfl) rfl rfl ?_
    refine K_iadd (dt_at dtX12_crossest 12 rfl) ?_
    refine K_iald (dt_at dtX12_crossest 13 rfl) (show TT 18 = (1, 154) from rfl) (by omega) (by omega) ?_
    rw [show hA h 18 (147 + (k : Int)) = (f (22 + (k : Int))) from RV_k d.2.2.2 (p := (k : Int)) (by omega) (by omega)]
    refine K_iconst (dt_at dtX12_crossest 14 rfl) ?_
    refine K_icmp_eq (tgt := 56) (dt_at dtX12_crossest 15 rfl) (by decide) (by first | assumption | exact ⟨by omega, by omega⟩) (by first | assumption | exact ⟨by omega, by omega⟩) (fun c2 => ?_) (fun c2 => ?_)
    · refine K_iinc (ls' := [(2, vi ((k : Int) + 1)), (1, vi (selN (fun j v => decide ((f (22 + (j : Int))) ≠ -1) && (decide (v = -1) || decide ((f (15 + (j : Int))) < (f (15 + v))))) k)), (0, vr 0)]) (dt_at dtX12_crossest 34 rfl) rfl (by decide) rfl ?_
      refine K_goto (tgt := 4) (dt_at dtX12_crossest 35 rfl) (by decide) ?_
      refine K_pk [0, 1, 2] (ls' := [(2, vi ((k : Int) + 1)), (1, vi (selN (fun j v => decide ((f (22 + (j : Int))) ≠ -1) && (decide (v = -1) || decide ((f (15 + (j : Int))) < (f (15 + v))))) k)), (0, vr 0)]) rfl ?_
      exact K_cg (ls' := [(2, vi ((k + 1 : Nat) : Int)), (1, vi (selN (fun j v => decide ((f (22 + (j : Int))) ≠ -1) && (decide (v = -1) || decide ((f (15 + (j : Int))) < (f (15 + v))))) (k + 1))), (0, vr 0)]) (h' := h) (by rw [selN_f (by simp only [Bool.and_eq_true, Bool.or_eq_true, Bool.and_eq_false_iff, Bool.or_eq_false_iff, decide_eq_true_eq, decide_eq_false_iff_not]; omega)]; rfl) (by rfl) (ih (k + 1) (by omega))
    · refine K_iload_n (dt_at dtX12_crossest 16 rfl) rfl rfl ?_
      refine K_iconst (dt_at dtX12_crossest 17 rfl) ?_
      refine K_icmp_eq (tgt := 54) (dt_at dtX12_crossest 18 rfl) (by decide) (by first | assumption | exact ⟨by omega, by omega⟩) (by first | assumption | exact ⟨by omega, by omega⟩) (fun c3 => ?_) (fun c3 => ?_)
      · refine K_iload_n (dt_at dtX12_crossest 32 rfl) rfl rfl ?_
        refine K_istore_n (ls' := [(1, vi (k : Int)), (2, vi (k : Int)), (0, vr 0)]) (dt_at dtX12_crossest 33 rfl) rfl (by decide) rfl ?_
        refine K_iinc (ls' := [(2, vi ((k : Int) + 1)), (1, vi (k : Int)), (0, vr 0)]) (dt_at dtX12_crossest 34 rfl) rfl (by decide) rfl ?_
        refine K_goto (tgt := 4) (dt_at dtX12_crossest 35 rfl) (by decide) ?_
        refine K_pk [0, 1, 2] (ls' := [(2, vi ((k : Int) + 1)), (1, vi (k : Int)), (0, vr 0)]) rfl ?_
        exact K_cg (ls' := [(2, vi ((k + 1 : Nat) : Int)), (1, vi (selN (fun j v => decide ((f (22 + (j : Int))) ≠ -1) && (decide (v = -1) || decide ((f (15 + (j : Int))) < (f (15 + v))))) (k + 1))), (0, vr 0)]) (h' := h) (by rw [selN_t (by simp only [Bool.and_eq_true, Bool.or_eq_true, Bool.and_eq_false_iff, Bool.or_eq_false_iff, decide_eq_true_eq, decide_eq_false_iff_not]; omega)]; rfl) (by rfl) (ih (k + 1) (by omega))
      · refine K_aload_n (dt_at dtX12_crossest 19 rfl) rfl rfl ?_
        refine K_get (a := 0) (ci := 12) (k := 42) (v := vr 18) (dt_at dtX12_crossest 20 rfl) (show TT 0 = (0, 12) from rfl) rfl (by decide) wF_X12_72 rfl ?_
        refine K_sipush (dt_at dtX12_crossest 21 rfl) (by decide) ?_
        refine K_iload_n (dt_at dtX12_crossest 22 rfl) rfl rfl ?_
        refine K_iadd (dt_at dtX12_crossest 23 rfl) ?_
        refine K_iald (dt_at dtX12_crossest 24 rfl) (show TT 18 = (1, 154) from rfl) (by omega) (by omega) ?_
        rw [show hA h 18 (140 + (k : Int)) = (f (15 + (k : Int))) from RV_f d.2.2.2 (p := (k : Int)) (by omega) (by omega)]
        refine K_aload_n (dt_at dtX12_crossest 25 rfl) rfl rfl ?_
        refine K_get (a := 0) (ci := 12) (k := 42) (v := vr 18) (dt_at dtX12_crossest 26 rfl) (show TT 0 = (0, 12) from rfl) rfl (by decide) wF_X12_72 rfl ?_
        refine K_sipush (dt_at dtX12_crossest 27 rfl) (by decide) ?_
        refine K_iload_n (dt_at dtX12_crossest 28 rfl) rfl rfl ?_
        refine K_iadd (dt_at dtX12_crossest 29 rfl) ?_
        refine K_iald (dt_at dtX12_crossest 30 rfl) (show TT 18 = (1, 154) from rfl) (by omega) (by omega) ?_
        rw [show hA h 18 (140 + (selN (fun j v => decide ((f (22 + (j : Int))) ≠ -1) && (decide (v = -1) || decide ((f (15 + (j : Int))) < (f (15 + v))))) k)) = (f (15 + selN (fun j v => decide ((f (22 + (j : Int))) ≠ -1) && (decide (v = -1) || decide ((f (15 + (j : Int))) < (f (15 + v))))) k)) from RV_f d.2.2.2 (p := selN (fun j v => decide ((f (22 + (j : Int))) ≠ -1) && (decide (v = -1) || decide ((f (15 + (j : Int))) < (f (15 + v))))) k) (by omega) (by omega)]
        refine K_icmp_ge (tgt := 56) (dt_at dtX12_crossest 31 rfl) (by decide) (by first | assumption | exact ⟨by omega, by omega⟩) (by first | assumption | exact ⟨by omega, by omega⟩) (fun c4 => ?_) (fun c4 => ?_)
        · refine K_iinc (ls' := [(2, vi ((k : Int) + 1)), (1, vi (selN (fun j v => decide ((f (22 + (j : Int))) ≠ -1) && (decide (v = -1) || decide ((f (15 + (j : Int))) < (f (15 + v))))) k)), (0, vr 0)]) (dt_at dtX12_crossest 34 rfl) rfl (by decide) rfl ?_
          refine K_goto (tgt := 4) (dt_at dtX12_crossest 35 rfl) (by decide) ?_
          refine K_pk [0, 1, 2] (ls' := [(2, vi ((k : Int) + 1)), (1, vi (selN (fun j v => decide ((f (22 + (j : Int))) ≠ -1) && (decide (v = -1) || decide ((f (15 + (j : Int))) < (f (15 + v))))) k)), (0, vr 0)]) rfl ?_
          exact K_cg (ls' := [(2, vi ((k + 1 : Nat) : Int)), (1, vi (selN (fun j v => decide ((f (22 + (j : Int))) ≠ -1) && (decide (v = -1) || decide ((f (15 + (j : Int))) < (f (15 + v))))) (k + 1))), (0, vr 0)]) (h' := h) (by rw [selN_f (by simp only [Bool.and_eq_true, Bool.or_eq_true, Bool.and_eq_false_iff, Bool.or_eq_false_iff, decide_eq_true_eq, decide_eq_false_iff_not]; omega)]; rfl) (by rfl) (ih (k + 1) (by omega))
        · refine K_iload_n (dt_at dtX12_crossest 32 rfl) rfl rfl ?_
          refine K_istore_n (ls' := [(1, vi (k : Int)), (2, vi (k : Int)), (0, vr 0)]) (dt_at dtX12_crossest 33 rfl) rfl (by decide) rfl ?_
          refine K_iinc (ls' := [(2, vi ((k : Int) + 1)), (1, vi (k : Int)), (0, vr 0)]) (dt_at dtX12_crossest 34 rfl) rfl (by decide) rfl ?_
          refine K_goto (tgt := 4) (dt_at dtX12_crossest 35 rfl) (by decide) ?_
          refine K_pk [0, 1, 2] (ls' := [(2, vi ((k : Int) + 1)), (1, vi (k : Int)), (0, vr 0)]) rfl ?_
          exact K_cg (ls' := [(2, vi ((k + 1 : Nat) : Int)), (1, vi (selN (fun j v => decide ((f (22 + (j : Int))) ≠ -1) && (decide (v = -1) || decide ((f (15 + (j : Int))) < (f (15 + v))))) (k + 1))), (0, vr 0)]) (h' := h) (by rw [selN_t (by simp only [Bool.and_eq_true, Bool.or_eq_true, Bool.and_eq_false_iff, Bool.or_eq_false_iff, decide_eq_true_eq, decide_eq_false_iff_not]; omega)]; rfl) (by rfl) (ih (k + 1) (by omega))
set_option maxHeartbeats 4000000 in
set_option maxRecDepth 100000 in
theorem sX12_crossest {h0 h : HP} {S : HS} {f : Int → Int} (d : MD h0 h 77 S f) (hW : rW f) : SpecK mX12_crossest [vr 0] h (fun o h' => o = .inl (some (vi (selN (fun j v => decide ((f (22 + (j : Int))) ≠ -1) && (decide (v = -1) || decide ((f (15 + (j : Int))) < (f (15 + v))))) (sNp S)))) ∧ h' = h) := by
  refine Spec_of (by decide +kernel) (Nat.le_of_ble_eq_true rfl) ?_
  have hB := d.1.1
  have hNt := hB.1
  have hNp := hB.2.1
  refine K_iconst (dt_at dtX12_crossest 0 rfl) ?_
  refine K_istore_n (ls' := [(1, vi (-1)), (0, vr 0)]) (dt_at dtX12_crossest 1 rfl) rfl (by decide) rfl ?_
  refine K_iconst (dt_at dtX12_crossest 2 rfl) ?_
  refine K_istore_n (ls' := [(2, vi 0), (1, vi (-1)), (0, vr 0)]) (dt_at dtX12_crossest 3 rfl) rfl (by decide) rfl ?_
  refine K_pk [0, 1, 2] rfl (lp_X12_crossest d hW ?_ (sNp S) 0 (by omega))
  refine K_iload_n (dt_at dtX12_crossest 36 rfl) rfl rfl ?_
  exact K_iret (dt_at dtX12_crossest 37 rfl) rfl rfl (by decide) (by decide) ⟨rfl, rfl⟩
def mX12_heaviest : MI := (yX12_heaviest, cX12_heaviest, 3, (some .int), rmK 3 0)
def tX12_heaviest : List (Nat × Instr × Nat) := [(0, .iconst (-1), 1), (1, .istore_n 1, 1), (2, .iconst 0, 1), (3, .istore_n 2, 1), (4, .iload_n 2, 1), (5, .aload_n 0, 1), (6, .getfield 270, 3), (9, .if_icmp .ge 37, 3), (12, .aload_n 0, 1), (13, .bipush 77, 2), (15, .iload_n 2, 1), (16, .invokevirtual 300, 3), (19, .iload_n 1, 1), (20, .iconst (-1), 1), (21, .if_icmp .ne 7, 3), (24, .iconst 0, 1), (25, .goto 10, 3), (28, .aload_n 0, 1), (29, .bipush 77, 2), (31, .iload_n 1, 1), (32, .invokevirtual 300, 3), (35, .if_icmp .le 5, 3), (38, .iload_n 2, 1), (39, .istore_n 1, 1), (40, .iinc 2 1, 3), (43, .goto (-39), 3), (46, .iload_n 1, 1), (47, .ireturn, 1)]
theorem dtX12_heaviest : tX12_heaviest.all (fun q => decide (decode cX12_heaviest q.1 = .ok (q.2.1, q.2.2))) = true := by decide +kernel
theorem npX12_heaviest : (parseMethodDescriptor (mY mX12_heaviest).desc).map (fun d => d.parameters.length) = some 0 := by decide +kernel
theorem vX12_heaviest : mV mX12_heaviest := ⟨wI_X12_heaviest, wS_X12_heaviest, wN_X12, wC_X12_heaviest, by decide +kernel, by decide +kernel⟩
set_option maxHeartbeats 4000000 in
set_option maxRecDepth 100000 in
theorem lp_X12_heaviest {Z : CT → State → Prop} {h0 h : HP} {S : HS} {f : Int → Int} {B : Int} (d : MD h0 h 77 S f) (hW : rW f) (hT : rT B f) (kx : K mX12_heaviest GK Z 0 0 46 [(2, vi (sNp S : Int)), (1, vi (fmN 0 0 (-1) (fun j => sumF (sW S) f (j : Int) (sNt S)) (sNp S))), (0, vr 0)] [] h) : ∀ (dd k : Nat), k + dd = (sNp S) → K mX12_heaviest GK Z 0 0 4 [(2, vi (k : Int)), (1, vi (fmN 0 0 (-1) (fun j => sumF (sW S) f (j : Int) (sNt S)) k)), (0, vr 0)] [] h := by
  intro dd
  induction dd with
  | zero =>
    intro k hk
    have hB := d.1.1
    have hNt := hB.1
    have hNp := hB.2.1
    have ek : k = (sNp S) := by omega
    subst ek
    refine K_iload_n (dt_at dtX12_heaviest 4 rfl) rfl rfl ?_
    refine K_aload_n (dt_at dtX12_heaviest 5 rfl) rfl rfl ?_
    refine K_get (a := 0) (ci := 12) (k := 2) (v := vi (sNp S : Int)) (dt_at dtX12_heaviest 6 rfl) (show TT 0 = (0, 12) from rfl) rfl (by decide) wF_X12_270 (by show vi (hI h 0 2) = vi (sNp S : Int); rw [(MD_np d)]) ?_
    refine K_icmp_ge (tgt := 46) (dt_at dtX12_heaviest 7 rfl) (by decide) (by first | assumption | exact ⟨by omega, by omega⟩) (by first | assumption | exact ⟨by omega, by omega⟩) (fun c1 => ?_) (fun c1 => absurd c1 (by omega))
    exact K_pk [0, 1, 2] rfl kx
  | succ dd ih =>
    intro k hk
    have hB := d.1.1
    have hNt := hB.1
    have hNp := hB.2.1
    have wk := hW.2 (k : Int) (by omega) (by omega)
    have pk := sumF_rT (us := sW S) (p := (k : Int)) (n := sNt S) hT ⟨by omega, by omega⟩ hNt (fun i a b => by have := (hB.2.2.1 i a b).1; constructor <;> omega)
    have fm := fm_mx (u := (fun j => sumF (sW S) f (j : Int) (sNt S))) k
    have pj : (fmN 0 0 (-1) (fun j => sumF (sW S) f (j : Int) (sNt S)) k) ≠ -1 → (0 ≤ (fmN 0 0 (-1) (fun j => sumF (sW S) f (j : Int) (sNt S)) k) ∧ (fmN 0 0 (-1) (fun j => sumF (sW S) f (j : Int) (sNt S)) k) < sNp S) ∧ (0 ≤ sumF (sW S) f (fmN 0 0 (-1) (fun j => sumF (sW S) f (j : Int) (sNt S)) k) (sNt S) ∧ sumF (sW S) f (fmN 0 0 (-1) (fun j => sumF (sW S) f (j : Int) (sNt S)) k) (sNt S) ≤ 120000000) ∧ mxN 0 (fun j => sumF (sW S) f (j : Int) (sNt S)) k = sumF (sW S) f (fmN 0 0 (-1) (fun j => sumF (sW S) f (j : Int) (sNt S)) k) (sNt S) := fun z => by
      rcases fm with ⟨e, -⟩ | ⟨j, e1, e2, e3⟩
      · exact absurd e z
      · have := sumF_rT (us := sW S) (p := (j : Int)) (n := sNt S) hT ⟨by omega, by omega⟩ hNt (fun i a b => by have := (hB.2.2.1 i a b).1; constructor <;> omega)
        rw [e2]
        exact ⟨by omega, by omega, e3⟩
    have pz : (fmN 0 0 (-1) (fun j => sumF (sW S) f (j : Int) (sNt S)) k) = -1 → mxN 0 (fun j => sumF (sW S) f (j : Int) (sNt S)) k = 0 := fun z => by
      rcases fm with ⟨e, e4⟩ | ⟨j, e1, e2, e3⟩
      · exact e4
      · omega
    have pb : -1 ≤ (fmN 0 0 (-1) (fun j => sumF (sW S) f (j : Int) (sNt S)) k) ∧ (fmN 0 0 (-1) (fun j => sumF (sW S) f (j : Int) (sNt S)) k) < 7 := by rcases fm with ⟨e, -⟩ | ⟨j, e1, e2, -⟩ <;> omega
    refine K_iload_n (dt_at dtX12_heaviest 4 rfl) rfl rfl ?_
    refine K_aload_n (dt_at dtX12_heaviest 5 rfl) rfl rfl ?_
    refine K_get (a := 0) (ci := 12) (k := 2) (v := vi (sNp S : Int)) (dt_at dtX12_heaviest 6 rfl) (show TT 0 = (0, 12) from rfl) rfl (by decide) wF_X12_270 (by show vi (hI h 0 2) = vi (sNp S : Int); rw [(MD_np d)]) ?_
    refine K_icmp_ge (tgt := 46) (dt_at dtX12_heaviest 7 rfl) (by decide) (by first | assumption | exact ⟨by omega, by omega⟩) (by first | assumption | exact ⟨by omega, by omega⟩) (fun c1 => absurd c1 (by omega)) (fun c1 => ?_)
    refine K_aload_n (dt_at dtX12_heaviest 8 rfl) rfl rfl ?_
    refine K_bipush (dt_at dtX12_heaviest 9 rfl) (by decide) ?_
    refine K_iload_n (dt_at dtX12_heaviest 10 rfl) rfl rfl ?_
    refine K_callV (M' := mX12_weightIn) (a := 0) (ci := 12) (As := [vi 77, vi (k : Int)]) (st := []) (dt_at dtX12_heaviest 11 rfl) (sX12_weightIn d hW (by omega)) (show TT 0 = (0, 12) from rfl) rfl wL_X12_300 vX12_weightIn rfl npX12_weightIn (by decide) (by decide) (Nat.le_of_ble_eq_true rfl) (by decide) (by decide) GK_E (fun v9 h9 hq => ?_) (fun E h9 hq => by cases hq.1)
    obtain ⟨e9, e8⟩ := hq
    cases e9
    rw [e8]
    show K mX12_heaviest _ _ 0 0 19 [(2, vi (k : Int)), (1, vi (fmN 0 0 (-1) (fun j => sumF (sW S) f (j : Int) (sNt S)) k)), (0, vr 0)] [vi (sumF (sW S) f (k : Int) (sNt S))] h
    refine K_iload_n (dt_at dtX12_heaviest 12 rfl) rfl rfl ?_
    refine K_iconst (dt_at dtX12_heaviest 13 rfl) ?_
    refine K_icmp_ne (tgt := 28) (dt_at dtX12_heaviest 14 rfl) (by decide) (by first | assumption | exact ⟨by omega, by omega⟩) (by first | assumption | exact ⟨by omega, by omega⟩) (fun c2 => ?_) (fun c2 => ?_)
    · refine K_aload_n (dt_at dtX12_heaviest 17 rfl) rfl rfl ?_
      refine K_bipush (dt_at dtX12_heaviest 18 rfl) (by decide) ?_
      refine K_iload_n (dt_at dtX12_heaviest 19 rfl) rfl rfl ?_
      refine K_callV (M' := mX12_weightIn) (a := 0) (ci := 12) (As := [vi 77, vi (fmN 0 0 (-1) (fun j => sumF (sW S) f (j : Int) (sNt S)) k)]) (st := [vi (sumF (sW S) f (k : Int) (sNt S))]) (dt_at dtX12_heaviest 20 rfl) (sX12_weightIn d hW (by omega)) (show TT 0 = (0, 12) from rfl) rfl wL_X12_300 vX12_weightIn rfl npX12_weightIn (by decide) (by decide) (Nat.le_of_ble_eq_true rfl) (by decide) (by decide) GK_E (fun v9 h9 hq => ?_) (fun E h9 hq => by cases hq.1)
      obtain ⟨e9, e8⟩ := hq
      cases e9
      rw [e8]
      show K mX12_heaviest _ _ 0 0 35 [(2, vi (k : Int)), (1, vi (fmN 0 0 (-1) (fun j => sumF (sW S) f (j : Int) (sNt S)) k)), (0, vr 0)] [vi (sumF (sW S) f (fmN 0 0 (-1) (fun j => sumF (sW S) f (j : Int) (sNt S)) k) (sNt S)), vi (sumF (sW S) f (k : Int) (sNt S))] h
      refine K_icmp_le (tgt := 40) (dt_at dtX12_heaviest 21 rfl) (by decide) (by first | assumption | exact ⟨by omega, by omega⟩) (by first | assumption | exact ⟨by omega, by omega⟩) (fun c3 => ?_) (fun c3 => ?_)
      · refine K_iinc (ls' := [(2, vi ((k : Int) + 1)), (1, vi (fmN 0 0 (-1) (fun j => sumF (sW S) f (j : Int) (sNt S)) k)), (0, vr 0)]) (dt_at dtX12_heaviest 24 rfl) rfl (by decide) rfl ?_
        refine K_goto (tgt := 4) (dt_at dtX12_heaviest 25 rfl) (by decide) ?_
        refine K_pk [0, 1, 2] (ls' := [(2, vi ((k : Int) + 1)), (1, vi (fmN 0 0 (-1) (fun j => sumF (sW S) f (j : Int) (sNt S)) k)), (0, vr 0)]) rfl ?_
        exact K_cg (ls' := [(2, vi ((k + 1 : Nat) : Int)), (1, vi (fmN 0 0 (-1) (fun j => sumF (sW S) f (j : Int) (sNt S)) (k + 1))), (0, vr 0)]) (h' := h) (by rw [fmN_f (u := (fun j => sumF (sW S) f (j : Int) (sNt S))) (by show ¬ mxN 0 (fun j => sumF (sW S) f (j : Int) (sNt S)) k < sumF (sW S) f (k : Int) (sNt S); omega)]; rfl) (by rfl) (ih (k + 1) (by omega))
      · refine K_iload_n (dt_at dtX12_heaviest 22 rfl) rfl rfl ?_
        refine K_istore_n (ls' := [(1, vi (k : Int)), (2, vi (k : Int)), (0, vr 0)]) (dt_at dtX12_heaviest 23 rfl) rfl (by decide) rfl ?_
        refine K_iinc (ls' := [(2, vi ((k : Int) + 1)), (1, vi (k : Int)), (0, vr 0)]) (dt_at dtX12_heaviest 24 rfl) rfl (by decide) rfl ?_
        refine K_goto (tgt := 4) (dt_at dtX12_heaviest 25 rfl) (by decide) ?_
        refine K_pk [0, 1, 2] (ls' := [(2, vi ((k : Int) + 1)), (1, vi (k : Int)), (0, vr 0)]) rfl ?_
        exact K_cg (ls' := [(2, vi ((k + 1 : Nat) : Int)), (1, vi (fmN 0 0 (-1) (fun j => sumF (sW S) f (j : Int) (sNt S)) (k + 1))), (0, vr 0)]) (h' := h) (by rw [fmN_t (u := (fun j => sumF (sW S) f (j : Int) (sNt S))) (by show mxN 0 (fun j => sumF (sW S) f (j : Int) (sNt S)) k < sumF (sW S) f (k : Int) (sNt S); omega)]; rw [show ((k : Int) + 0) = (k : Int) by omega]; rfl) (by rfl) (ih (k + 1) (by omega))
    · refine K_iconst (dt_at dtX12_heaviest 15 rfl) ?_
      refine K_goto (tgt := 35) (dt_at dtX12_heaviest 16 rfl) (by decide) ?_
      refine K_icmp_le (tgt := 40) (dt_at dtX12_heaviest 21 rfl) (by decide) (by first | assumption | exact ⟨by omega, by omega⟩) (by first | assumption | exact ⟨by omega, by omega⟩) (fun c4 => ?_) (fun c4 => ?_)
      · refine K_iinc (ls' := [(2, vi ((k : Int) + 1)), (1, vi (fmN 0 0 (-1) (fun j => sumF (sW S) f (j : Int) (sNt S)) k)), (0, vr 0)]) (dt_at dtX12_heaviest 24 rfl) rfl (by decide) rfl ?_
        refine K_goto (tgt := 4) (dt_at dtX12_heaviest 25 rfl) (by decide) ?_
        refine K_pk [0, 1, 2] (ls' := [(2, vi ((k : Int) + 1)), (1, vi (fmN 0 0 (-1) (fun j => sumF (sW S) f (j : Int) (sNt S)) k)), (0, vr 0)]) rfl ?_
        exact K_cg (ls' := [(2, vi ((k + 1 : Nat) : Int)), (1, vi (fmN 0 0 (-1) (fun j => sumF (sW S) f (j : Int) (sNt S)) (k + 1))), (0, vr 0)]) (h' := h) (by rw [fmN_f (u := (fun j => sumF (sW S) f (j : Int) (sNt S))) (by show ¬ mxN 0 (fun j => sumF (sW S) f (j : Int) (sNt S)) k < sumF (sW S) f (k : Int) (sNt S); omega)]; rfl) (by rfl) (ih (k + 1) (by omega))
      · refine K_iload_n (dt_at dtX12_heaviest 22 rfl) rfl rfl ?_
        refine K_istore_n (ls' := [(1, vi (k : Int)), (2, vi (k : Int)), (0, vr 0)]) (dt_at dtX12_heaviest 23 rfl) rfl (by decide) rfl ?_
        refine K_iinc (ls' := [(2, vi ((k : Int) + 1)), (1, vi (k : Int)), (0, vr 0)]) (dt_at dtX12_heaviest 24 rfl) rfl (by decide) rfl ?_
        refine K_goto (tgt := 4) (dt_at dtX12_heaviest 25 rfl) (by decide) ?_
        refine K_pk [0, 1, 2] (ls' := [(2, vi ((k : Int) + 1)), (1, vi (k : Int)), (0, vr 0)]) rfl ?_
        exact K_cg (ls' := [(2, vi ((k + 1 : Nat) : Int)), (1, vi (fmN 0 0 (-1) (fun j => sumF (sW S) f (j : Int) (sNt S)) (k + 1))), (0, vr 0)]) (h' := h) (by rw [fmN_t (u := (fun j => sumF (sW S) f (j : Int) (sNt S))) (by show mxN 0 (fun j => sumF (sW S) f (j : Int) (sNt S)) k < sumF (sW S) f (k : Int) (sNt S); omega)]; rw [show ((k : Int) + 0) = (k : Int) by omega]; rfl) (by rfl) (ih (k + 1) (by omega))
set_option maxHeartbeats 4000000 in
set_option maxRecDepth 100000 in
theorem sX12_heaviest {h0 h : HP} {S : HS} {f : Int → Int} {B : Int} (d : MD h0 h 77 S f) (hW : rW f) (hT : rT B f) : SpecK mX12_heaviest [vr 0] h (fun o h' => o = .inl (some (vi (fmN 0 0 (-1) (fun j => sumF (sW S) f (j : Int) (sNt S)) (sNp S)))) ∧ h' = h) := by
  refine Spec_of (by decide +kernel) (Nat.le_of_ble_eq_true rfl) ?_
  have hB := d.1.1
  have hNt := hB.1
  have hNp := hB.2.1
  refine K_iconst (dt_at dtX12_heaviest 0 rfl) ?_
  refine K_istore_n (ls' := [(1, vi (-1)), (0, vr 0)]) (dt_at dtX12_heaviest 1 rfl) rfl (by decide) rfl ?_
  refine K_iconst (dt_at dtX12_heaviest 2 rfl) ?_
  refine K_istore_n (ls' := [(2, vi 0), (1, vi (-1)), (0, vr 0)]) (dt_at dtX12_heaviest 3 rfl) rfl (by decide) rfl ?_
  refine K_pk [0, 1, 2] rfl (lp_X12_heaviest d hW hT ?_ (sNp S) 0 (by omega))
  refine K_iload_n (dt_at dtX12_heaviest 26 rfl) rfl rfl ?_
  exact K_iret (dt_at dtX12_heaviest 27 rfl) rfl rfl (by decide) (by decide) ⟨rfl, rfl⟩
def mX12_then : MI := (yX12_then, cX12_then, 4, (some .int), rmK 9 0)
def tX12_then : List (Nat × Instr × Nat) := [(0, .aload_n 0, 1), (1, .iconst 0, 1), (2, .putfield 105, 3), (5, .aload_n 0, 1), (6, .iload_n 1, 1), (7, .invokevirtual 375, 3), (10, .ifCond .eq 22, 3), (13, .aload_n 0, 1), (14, .iload_n 3, 1), (15, .iconst 3, 1), (16, .invokevirtual 371, 3), (19, .ifCond .eq 13, 3), (22, .aload_n 0, 1), (23, .iload_n 2, 1), (24, .iconst 0, 1), (25, .iconst 2, 1), (26, .invokevirtual 403, 3), (29, .ifCond .ne 5, 3), (32, .iconst 0, 1), (33, .ireturn, 1), (34, .aload_n 0, 1), (35, .iload_n 2, 1), (36, .invokevirtual 406, 3), (39, .iload_n 3, 1), (40, .ifCond .ne 16, 3), (43, .aload_n 0, 1), (44, .bipush 77, 2), (46, .invokevirtual 350, 3), (49, .iload_n 1, 1), (50, .ishr, 1), (51, .iconst 1, 1), (52, .iand, 1), (53, .goto 43, 3), (56, .iload_n 3, 1), (57, .iconst 1, 1), (58, .if_icmp .ne 16, 3), (61, .aload_n 0, 1), (62, .getfield 72, 3), (65, .sipush 140, 3), (68, .iload_n 1, 1), (69, .iadd, 1), (70, .iaload, 1), (71, .goto 25, 3), (74, .iload_n 3, 1), (75, .iconst 2, 1), (76, .if_icmp .ne 13, 3), (79, .aload_n 0, 1), (80, .bipush 77, 2), (82, .iload_n 1, 1), (83, .invokevirtual 319, 3), (86, .goto 10, 3), (89, .aload_n 0, 1), (90, .bipush 77, 2), (92, .iload_n 1, 1), (93, .invokevirtual 300, 3), (96, .ireturn, 1)]
theorem dtX12_then : tX12_then.all (fun q => decide (decode cX12_then q.1 = .ok (q.2.1, q.2.2))) = true := by decide +kernel
theorem npX12_then : (parseMethodDescriptor (mY mX12_then).desc).map (fun d => d.parameters.length) = some 3 := by decide +kernel
theorem vX12_then : mV mX12_then := ⟨wI_X12_then, wS_X12_then, wN_X12, wC_X12_then, by decide +kernel, by decide +kernel⟩
set_option maxHeartbeats 4000000 in
set_option maxRecDepth 100000 in
theorem sX12_then_x1 {h : HP} {S : HS} {f : Int → Int} {p d w : Int} (Q0 : MAsk h S f) (hp_ : i32 p) (hd_ : i32 d) (hw_ : i32 w) (kn : ¬ (0 ≤ p ∧ p < sNp S)) : SpecK mX12_then [vr 0, vi p, vi d, vi w] h (fun o h' => o = .inl (some (vi 0)) ∧ FQ h h' ∧ hI h' 0 0 = 1) := by
  refine Spec_of (by decide +kernel) (Nat.le_of_ble_eq_true rfl) ?_
  have hB := Q0.1.1
  have hNt := hB.1
  have hNp := hB.2.1
  have R := Q0.2.2.2.2
  have hT := R.1
  have hW := hT.1
  refine K_aload_n (dt_at dtX12_then 0 rfl) rfl rfl ?_
  refine K_iconst (dt_at dtX12_then 1 rfl) ?_
  refine K_putI (a := 0) (ci := 12) (k := 0) (dt_at dtX12_then 2 rfl) (show TT 0 = (0, 12) from rfl) rfl (by decide) wF_X12_105 rfl (Or.inl rfl) rfl rfl ?_
  obtain ⟨hu1, eu1⟩ : ∃ z, z = sI h 0 0 0 := ⟨_, rfl⟩
  rw [← eu1]
  obtain ⟨iu1, fu1, au1, ru1⟩ := sI_fx eu1
  have Gu1 := MG_0 Q0 eu1
  refine K_aload_n (dt_at dtX12_then 3 rfl) rfl rfl ?_
  refine K_iload_n (dt_at dtX12_then 4 rfl) rfl rfl ?_
  refine K_callV (M' := mX12_isPerson) (a := 0) (ci := 12) (As := [vi p]) (st := []) (dt_at dtX12_then 5 rfl) (sX12_isPerson_f (MD_np (MG_D0 Gu1)) hNp Gu1.2.2.2 (by assumption) (by omega)) (show TT 0 = (0, 12) from rfl) rfl wL_X12_375 vX12_isPerson rfl npX12_isPerson (by decide) (by decide) (Nat.le_of_ble_eq_true rfl) (by decide) (by decide) GK_E (fun v9 hc2 hq => ?_) (fun E h9 hq => by cases hq.1)
  have hqq3 := hq
  obtain ⟨e9q3, e8q3⟩ := hqq3
  obtain ⟨iq3, fq3, aq3, rq3⟩ := sI_fx e8q3
  have Bq3 : FQ h hc2 := FQ_tr Gu1.2.1 (FQ_I e8q3 rfl Gu1.2.1.2.2.2.2)
  cases e9q3
  show K mX12_then _ _ 0 0 10 [(0, vr 0), (1, vi p), (2, vi d), (3, vi w)] [vi 0] hc2
  refine K_if_eq (tgt := 32) (dt_at dtX12_then 6 rfl) (by decide) (by first | assumption | exact ⟨by omega, by omega⟩) (fun c1 => ?_) (fun c1 => absurd c1 (by omega))
  refine K_iconst (dt_at dtX12_then 18 rfl) ?_
  exact K_iret (dt_at dtX12_then 19 rfl) rfl rfl (by decide) (by decide) ⟨rfl, Bq3, iq3⟩
set_option maxHeartbeats 4000000 in
set_option maxRecDepth 100000 in
theorem sX12_then_x2 {h : HP} {S : HS} {f : Int → Int} {p d w : Int} (Q0 : MAsk h S f) (hp_ : i32 p) (hd_ : i32 d) (hw_ : i32 w) (k0 : 0 ≤ p ∧ p < sNp S) (kn : ¬ (0 ≤ w ∧ w ≤ 3)) : SpecK mX12_then [vr 0, vi p, vi d, vi w] h (fun o h' => o = .inl (some (vi 0)) ∧ FQ h h' ∧ hI h' 0 0 = 1) := by
  refine Spec_of (by decide +kernel) (Nat.le_of_ble_eq_true rfl) ?_
  have hB := Q0.1.1
  have hNt := hB.1
  have hNp := hB.2.1
  have R := Q0.2.2.2.2
  have hT := R.1
  have hW := hT.1
  refine K_aload_n (dt_at dtX12_then 0 rfl) rfl rfl ?_
  refine K_iconst (dt_at dtX12_then 1 rfl) ?_
  refine K_putI (a := 0) (ci := 12) (k := 0) (dt_at dtX12_then 2 rfl) (show TT 0 = (0, 12) from rfl) rfl (by decide) wF_X12_105 rfl (Or.inl rfl) rfl rfl ?_
  obtain ⟨hu1, eu1⟩ : ∃ z, z = sI h 0 0 0 := ⟨_, rfl⟩
  rw [← eu1]
  obtain ⟨iu1, fu1, au1, ru1⟩ := sI_fx eu1
  have Gu1 := MG_0 Q0 eu1
  refine K_aload_n (dt_at dtX12_then 3 rfl) rfl rfl ?_
  refine K_iload_n (dt_at dtX12_then 4 rfl) rfl rfl ?_
  refine K_callV (M' := mX12_isPerson) (a := 0) (ci := 12) (As := [vi p]) (st := []) (dt_at dtX12_then 5 rfl) (sX12_isPerson_t (MD_np (MG_D0 Gu1)) hNp Gu1.2.2.2 (by omega)) (show TT 0 = (0, 12) from rfl) rfl wL_X12_375 vX12_isPerson rfl npX12_isPerson (by decide) (by decide) (Nat.le_of_ble_eq_true rfl) (by decide) (by decide) GK_E (fun v9 h9 hq => ?_) (fun E h9 hq => by cases hq.1)
  obtain ⟨e9, e8⟩ := hq
  cases e9
  rw [e8]
  show K mX12_then _ _ 0 0 10 [(0, vr 0), (1, vi p), (2, vi d), (3, vi w)] [vi 1] hu1
  refine K_if_eq (tgt := 32) (dt_at dtX12_then 6 rfl) (by decide) (by first | assumption | exact ⟨by omega, by omega⟩) (fun c1 => absurd c1 (by omega)) (fun c1 => ?_)
  refine K_aload_n (dt_at dtX12_then 7 rfl) rfl rfl ?_
  refine K_iload_n (dt_at dtX12_then 8 rfl) rfl rfl ?_
  refine K_iconst (dt_at dtX12_then 9 rfl) ?_
  refine K_callV (M' := mX12_isWhat) (a := 0) (ci := 12) (As := [vi w, vi 3]) (st := []) (dt_at dtX12_then 10 rfl) (sX12_isWhat_f Gu1.2.2.2 (by decide) (by assumption) (by omega)) (show TT 0 = (0, 12) from rfl) rfl wL_X12_371 vX12_isWhat rfl npX12_isWhat (by decide) (by decide) (Nat.le_of_ble_eq_true rfl) (by decide) (by decide) GK_E (fun v9 hc2 hq => ?_) (fun E h9 hq => by cases hq.1)
  have hqq3 := hq
  obtain ⟨e9q3, e8q3⟩ := hqq3
  obtain ⟨iq3, fq3, aq3, rq3⟩ := sI_fx e8q3
  have Bq3 : FQ h hc2 := FQ_tr Gu1.2.1 (FQ_I e8q3 rfl Gu1.2.1.2.2.2.2)
  cases e9q3
  show K mX12_then _ _ 0 0 19 [(0, vr 0), (1, vi p), (2, vi d), (3, vi w)] [vi 0] hc2
  refine K_if_eq (tgt := 32) (dt_at dtX12_then 11 rfl) (by decide) (by first | assumption | exact ⟨by omega, by omega⟩) (fun c2 => ?_) (fun c2 => absurd c2 (by omega))
  refine K_iconst (dt_at dtX12_then 18 rfl) ?_
  exact K_iret (dt_at dtX12_then 19 rfl) rfl rfl (by decide) (by decide) ⟨rfl, Bq3, iq3⟩
set_option maxHeartbeats 4000000 in
set_option maxRecDepth 100000 in
theorem sX12_then_x3 {h : HP} {S : HS} {f : Int → Int} {p d w : Int} (Q0 : MAsk h S f) (hp_ : i32 p) (hd_ : i32 d) (hw_ : i32 w) (k0 : 0 ≤ p ∧ p < sNp S) (k1 : 0 ≤ w ∧ w ≤ 3) (kn : ¬ (0 ≤ d ∧ d ≤ 100)) : SpecK mX12_then [vr 0, vi p, vi d, vi w] h (fun o h' => o = .inl (some (vi 0)) ∧ FQ h h' ∧ hI h' 0 0 = 2) := by
  refine Spec_of (by decide +kernel) (Nat.le_of_ble_eq_true rfl) ?_
  have hB := Q0.1.1
  have hNt := hB.1
  have hNp := hB.2.1
  have R := Q0.2.2.2.2
  have hT := R.1
  have hW := hT.1
  refine K_aload_n (dt_at dtX12_then 0 rfl) rfl rfl ?_
  refine K_iconst (dt_at dtX12_then 1 rfl) ?_
  refine K_putI (a := 0) (ci := 12) (k := 0) (dt_at dtX12_then 2 rfl) (show TT 0 = (0, 12) from rfl) rfl (by decide) wF_X12_105 rfl (Or.inl rfl) rfl rfl ?_
  obtain ⟨hu1, eu1⟩ : ∃ z, z = sI h 0 0 0 := ⟨_, rfl⟩
  rw [← eu1]
  obtain ⟨iu1, fu1, au1, ru1⟩ := sI_fx eu1
  have Gu1 := MG_0 Q0 eu1
  refine K_aload_n (dt_at dtX12_then 3 rfl) rfl rfl ?_
  refine K_iload_n (dt_at dtX12_then 4 rfl) rfl rfl ?_
  refine K_callV (M' := mX12_isPerson) (a := 0) (ci := 12) (As := [vi p]) (st := []) (dt_at dtX12_then 5 rfl) (sX12_isPerson_t (MD_np (MG_D0 Gu1)) hNp Gu1.2.2.2 (by omega)) (show TT 0 = (0, 12) from rfl) rfl wL_X12_375 vX12_isPerson rfl npX12_isPerson (by decide) (by decide) (Nat.le_of_ble_eq_true rfl) (by decide) (by decide) GK_E (fun v9 h9 hq => ?_) (fun E h9 hq => by cases hq.1)
  obtain ⟨e9, e8⟩ := hq
  cases e9
  rw [e8]
  show K mX12_then _ _ 0 0 10 [(0, vr 0), (1, vi p), (2, vi d), (3, vi w)] [vi 1] hu1
  refine K_if_eq (tgt := 32) (dt_at dtX12_then 6 rfl) (by decide) (by first | assumption | exact ⟨by omega, by omega⟩) (fun c1 => absurd c1 (by omega)) (fun c1 => ?_)
  refine K_aload_n (dt_at dtX12_then 7 rfl) rfl rfl ?_
  refine K_iload_n (dt_at dtX12_then 8 rfl) rfl rfl ?_
  refine K_iconst (dt_at dtX12_then 9 rfl) ?_
  refine K_callV (M' := mX12_isWhat) (a := 0) (ci := 12) (As := [vi w, vi 3]) (st := []) (dt_at dtX12_then 10 rfl) (sX12_isWhat_t Gu1.2.2.2 (by omega) (by omega)) (show TT 0 = (0, 12) from rfl) rfl wL_X12_371 vX12_isWhat rfl npX12_isWhat (by decide) (by decide) (Nat.le_of_ble_eq_true rfl) (by decide) (by decide) GK_E (fun v9 h9 hq => ?_) (fun E h9 hq => by cases hq.1)
  obtain ⟨e9, e8⟩ := hq
  cases e9
  rw [e8]
  show K mX12_then _ _ 0 0 19 [(0, vr 0), (1, vi p), (2, vi d), (3, vi w)] [vi 1] hu1
  refine K_if_eq (tgt := 32) (dt_at dtX12_then 11 rfl) (by decide) (by first | assumption | exact ⟨by omega, by omega⟩) (fun c2 => absurd c2 (by omega)) (fun c2 => ?_)
  refine K_aload_n (dt_at dtX12_then 12 rfl) rfl rfl ?_
  refine K_iload_n (dt_at dtX12_then 13 rfl) rfl rfl ?_
  refine K_iconst (dt_at dtX12_then 14 rfl) ?_
  refine K_iconst (dt_at dtX12_then 15 rfl) ?_
  refine K_callV (M' := mX12_isSoon) (a := 0) (ci := 12) (As := [vi d, vi 0, vi 2]) (st := []) (dt_at dtX12_then 16 rfl) (sX12_isSoon_f Gu1.2.2.2 (by decide) (by assumption) (by omega) (by decide)) (show TT 0 = (0, 12) from rfl) rfl wL_X12_403 vX12_isSoon rfl npX12_isSoon (by decide) (by decide) (Nat.le_of_ble_eq_true rfl) (by decide) (by decide) GK_E (fun v9 hc2 hq => ?_) (fun E h9 hq => by cases hq.1)
  have hqq3 := hq
  obtain ⟨e9q3, e8q3⟩ := hqq3
  obtain ⟨iq3, fq3, aq3, rq3⟩ := sI_fx e8q3
  have Bq3 : FQ h hc2 := FQ_tr Gu1.2.1 (FQ_I e8q3 rfl Gu1.2.1.2.2.2.2)
  cases e9q3
  show K mX12_then _ _ 0 0 29 [(0, vr 0), (1, vi p), (2, vi d), (3, vi w)] [vi 0] hc2
  refine K_if_ne (tgt := 34) (dt_at dtX12_then 17 rfl) (by decide) (by first | assumption | exact ⟨by omega, by omega⟩) (fun c3 => absurd c3 (by omega)) (fun c3 => ?_)
  refine K_iconst (dt_at dtX12_then 18 rfl) ?_
  exact K_iret (dt_at dtX12_then 19 rfl) rfl rfl (by decide) (by decide) ⟨rfl, Bq3, iq3⟩
set_option maxHeartbeats 4000000 in
set_option maxRecDepth 100000 in
theorem sX12_then_0 {h : HP} {S : HS} {f : Int → Int} {p : Int} {n : Nat} (Q0 : MAsk h S f) (hp : 0 ≤ p ∧ p < sNp S) (hn : n ≤ 100) : SpecK mX12_then [vr 0, vi p, vi (n : Int), vi 0] h (fun o h' => o = .inl (some (vi (if dysF S f n (1 + p) = 0 then 1 else 0))) ∧ FQ h h' ∧ hI h' 0 0 = 0) := by
  refine Spec_of (by decide +kernel) (Nat.le_of_ble_eq_true rfl) ?_
  have hB := Q0.1.1
  have hNt := hB.1
  have hNp := hB.2.1
  have R := Q0.2.2.2.2
  have hT := R.1
  have hW := hT.1
  obtain ⟨n1, n2, n3, n4, n5⟩ := dys_R hB R (n := n) (by omega)
  refine K_aload_n (dt_at dtX12_then 0 rfl) rfl rfl ?_
  refine K_iconst (dt_at dtX12_then 1 rfl) ?_
  refine K_putI (a := 0) (ci := 12) (k := 0) (dt_at dtX12_then 2 rfl) (show TT 0 = (0, 12) from rfl) rfl (by decide) wF_X12_105 rfl (Or.inl rfl) rfl rfl ?_
  obtain ⟨hu1, eu1⟩ : ∃ z, z = sI h 0 0 0 := ⟨_, rfl⟩
  rw [← eu1]
  obtain ⟨iu1, fu1, au1, ru1⟩ := sI_fx eu1
  have Gu1 := MG_0 Q0 eu1
  refine K_aload_n (dt_at dtX12_then 3 rfl) rfl rfl ?_
  refine K_iload_n (dt_at dtX12_then 4 rfl) rfl rfl ?_
  refine K_callV (M' := mX12_isPerson) (a := 0) (ci := 12) (As := [vi p]) (st := []) (dt_at dtX12_then 5 rfl) (sX12_isPerson_t (MD_np (MG_D0 Gu1)) hNp Gu1.2.2.2 (by omega)) (show TT 0 = (0, 12) from rfl) rfl wL_X12_375 vX12_isPerson rfl npX12_isPerson (by decide) (by decide) (Nat.le_of_ble_eq_true rfl) (by decide) (by decide) GK_E (fun v9 h9 hq => ?_) (fun E h9 hq => by cases hq.1)
  obtain ⟨e9, e8⟩ := hq
  cases e9
  rw [e8]
  show K mX12_then _ _ 0 0 10 [(0, vr 0), (1, vi p), (2, vi (n : Int)), (3, vi 0)] [vi 1] hu1
  refine K_if_eq (tgt := 32) (dt_at dtX12_then 6 rfl) (by decide) (by first | assumption | exact ⟨by omega, by omega⟩) (fun c1 => absurd c1 (by omega)) (fun c1 => ?_)
  refine K_aload_n (dt_at dtX12_then 7 rfl) rfl rfl ?_
  refine K_iload_n (dt_at dtX12_then 8 rfl) rfl rfl ?_
  refine K_iconst (dt_at dtX12_then 9 rfl) ?_
  refine K_callV (M' := mX12_isWhat) (a := 0) (ci := 12) (As := [vi 0, vi 3]) (st := []) (dt_at dtX12_then 10 rfl) (sX12_isWhat_t Gu1.2.2.2 (by omega) (by omega)) (show TT 0 = (0, 12) from rfl) rfl wL_X12_371 vX12_isWhat rfl npX12_isWhat (by decide) (by decide) (Nat.le_of_ble_eq_true rfl) (by decide) (by decide) GK_E (fun v9 h9 hq => ?_) (fun E h9 hq => by cases hq.1)
  obtain ⟨e9, e8⟩ := hq
  cases e9
  rw [e8]
  show K mX12_then _ _ 0 0 19 [(0, vr 0), (1, vi p), (2, vi (n : Int)), (3, vi 0)] [vi 1] hu1
  refine K_if_eq (tgt := 32) (dt_at dtX12_then 11 rfl) (by decide) (by first | assumption | exact ⟨by omega, by omega⟩) (fun c2 => absurd c2 (by omega)) (fun c2 => ?_)
  refine K_aload_n (dt_at dtX12_then 12 rfl) rfl rfl ?_
  refine K_iload_n (dt_at dtX12_then 13 rfl) rfl rfl ?_
  refine K_iconst (dt_at dtX12_then 14 rfl) ?_
  refine K_iconst (dt_at dtX12_then 15 rfl) ?_
  refine K_callV (M' := mX12_isSoon) (a := 0) (ci := 12) (As := [vi (n : Int), vi 0, vi 2]) (st := []) (dt_at dtX12_then 16 rfl) (sX12_isSoon_t Gu1.2.2.2 (by omega) (by omega)) (show TT 0 = (0, 12) from rfl) rfl wL_X12_403 vX12_isSoon rfl npX12_isSoon (by decide) (by decide) (Nat.le_of_ble_eq_true rfl) (by decide) (by decide) GK_E (fun v9 h9 hq => ?_) (fun E h9 hq => by cases hq.1)
  obtain ⟨e9, e8⟩ := hq
  cases e9
  rw [e8]
  show K mX12_then _ _ 0 0 29 [(0, vr 0), (1, vi p), (2, vi (n : Int)), (3, vi 0)] [vi 1] hu1
  refine K_if_ne (tgt := 34) (dt_at dtX12_then 17 rfl) (by decide) (by first | assumption | exact ⟨by omega, by omega⟩) (fun c3 => ?_) (fun c3 => absurd c3 (by omega))
  refine K_aload_n (dt_at dtX12_then 20 rfl) rfl rfl ?_
  refine K_iload_n (dt_at dtX12_then 21 rfl) rfl rfl ?_
  refine K_callV (M' := mX12_goesTo) (a := 0) (ci := 12) (As := [vi (n : Int)]) (st := []) (dt_at dtX12_then 22 rfl) (sX12_goesTo Gu1 (by omega)) (show TT 0 = (0, 12) from rfl) rfl wL_X12_406 vX12_goesTo rfl npX12_goesTo (by decide) (by decide) (Nat.le_of_ble_eq_true rfl) (by decide) (by decide) GK_E (fun v9 hc2 hq => ?_) (fun E h9 hq => by cases hq.1)
  have hqq3 := hq
  obtain ⟨e9q3, Gq3, kq3⟩ := hqq3
  cases e9q3
  show K mX12_then _ _ 0 0 39 [(0, vr 0), (1, vi p), (2, vi (n : Int)), (3, vi 0)] [] hc2
  refine K_iload_n (dt_at dtX12_then 23 rfl) rfl rfl ?_
  refine K_if_ne (tgt := 56) (dt_at dtX12_then 24 rfl) (by decide) (by first | assumption | exact ⟨by omega, by omega⟩) (fun c4 => absurd c4 (by omega)) (fun c4 => ?_)
  refine K_aload_n (dt_at dtX12_then 25 rfl) rfl rfl ?_
  refine K_bipush (dt_at dtX12_then 26 rfl) (by decide) ?_
  refine K_callV (M' := mX12_inOnes) (a := 0) (ci := 12) (As := [vi 77]) (st := []) (dt_at dtX12_then 27 rfl) (sX12_inOnes (MG_D7 Gq3) n1.1) (show TT 0 = (0, 12) from rfl) rfl wL_X12_350 vX12_inOnes rfl npX12_inOnes (by decide) (by decide) (Nat.le_of_ble_eq_true rfl) (by decide) (by decide) GK_E (fun v9 h9 hq => ?_) (fun E h9 hq => by cases hq.1)
  obtain ⟨e9, e8⟩ := hq
  cases e9
  rw [e8]
  show K mX12_then _ _ 0 0 49 [(0, vr 0), (1, vi p), (2, vi (n : Int)), (3, vi 0)] [vi (bitN (fun j => decide ((dysF S f n) (1 + (j : Int)) = 0)) (sNp S))] hc2
  refine K_iload_n (dt_at dtX12_then 28 rfl) rfl rfl ?_
  refine K_ishr (dt_at dtX12_then 29 rfl) ?_
  refine K_iconst (dt_at dtX12_then 30 rfl) ?_
  refine K_iand (dt_at dtX12_then 31 rfl) ?_
  refine K_goto (tgt := 96) (dt_at dtX12_then 32 rfl) (by decide) ?_
  exact K_iret (dt_at dtX12_then 55 rfl) rfl rfl (by decide) (by decide) ⟨by rw [in_at hB hp], Gq3.2.1, Gq3.2.2.2⟩
set_option maxHeartbeats 4000000 in
set_option maxRecDepth 100000 in
theorem sX12_then_1 {h : HP} {S : HS} {f : Int → Int} {p : Int} {n : Nat} (Q0 : MAsk h S f) (hp : 0 ≤ p ∧ p < sNp S) (hn : n ≤ 100) : SpecK mX12_then [vr 0, vi p, vi (n : Int), vi 1] h (fun o h' => o = .inl (some (vi (dysF S f n (15 + p)))) ∧ FQ h h' ∧ hI h' 0 0 = 0) := by
  refine Spec_of (by decide +kernel) (Nat.le_of_ble_eq_true rfl) ?_
  have hB := Q0.1.1
  have hNt := hB.1
  have hNp := hB.2.1
  have R := Q0.2.2.2.2
  have hT := R.1
  have hW := hT.1
  obtain ⟨n1, n2, n3, n4, n5⟩ := dys_R hB R (n := n) (by omega)
  refine K_aload_n (dt_at dtX12_then 0 rfl) rfl rfl ?_
  refine K_iconst (dt_at dtX12_then 1 rfl) ?_
  refine K_putI (a := 0) (ci := 12) (k := 0) (dt_at dtX12_then 2 rfl) (show TT 0 = (0, 12) from rfl) rfl (by decide) wF_X12_105 rfl (Or.inl rfl) rfl rfl ?_
  obtain ⟨hu1, eu1⟩ : ∃ z, z = sI h 0 0 0 := ⟨_, rfl⟩
  rw [← eu1]
  obtain ⟨iu1, fu1, au1, ru1⟩ := sI_fx eu1
  have Gu1 := MG_0 Q0 eu1
  refine K_aload_n (dt_at dtX12_then 3 rfl) rfl rfl ?_
  refine K_iload_n (dt_at dtX12_then 4 rfl) rfl rfl ?_
  refine K_callV (M' := mX12_isPerson) (a := 0) (ci := 12) (As := [vi p]) (st := []) (dt_at dtX12_then 5 rfl) (sX12_isPerson_t (MD_np (MG_D0 Gu1)) hNp Gu1.2.2.2 (by omega)) (show TT 0 = (0, 12) from rfl) rfl wL_X12_375 vX12_isPerson rfl npX12_isPerson (by decide) (by decide) (Nat.le_of_ble_eq_true rfl) (by decide) (by decide) GK_E (fun v9 h9 hq => ?_) (fun E h9 hq => by cases hq.1)
  obtain ⟨e9, e8⟩ := hq
  cases e9
  rw [e8]
  show K mX12_then _ _ 0 0 10 [(0, vr 0), (1, vi p), (2, vi (n : Int)), (3, vi 1)] [vi 1] hu1
  refine K_if_eq (tgt := 32) (dt_at dtX12_then 6 rfl) (by decide) (by first | assumption | exact ⟨by omega, by omega⟩) (fun c1 => absurd c1 (by omega)) (fun c1 => ?_)
  refine K_aload_n (dt_at dtX12_then 7 rfl) rfl rfl ?_
  refine K_iload_n (dt_at dtX12_then 8 rfl) rfl rfl ?_
  refine K_iconst (dt_at dtX12_then 9 rfl) ?_
  refine K_callV (M' := mX12_isWhat) (a := 0) (ci := 12) (As := [vi 1, vi 3]) (st := []) (dt_at dtX12_then 10 rfl) (sX12_isWhat_t Gu1.2.2.2 (by omega) (by omega)) (show TT 0 = (0, 12) from rfl) rfl wL_X12_371 vX12_isWhat rfl npX12_isWhat (by decide) (by decide) (Nat.le_of_ble_eq_true rfl) (by decide) (by decide) GK_E (fun v9 h9 hq => ?_) (fun E h9 hq => by cases hq.1)
  obtain ⟨e9, e8⟩ := hq
  cases e9
  rw [e8]
  show K mX12_then _ _ 0 0 19 [(0, vr 0), (1, vi p), (2, vi (n : Int)), (3, vi 1)] [vi 1] hu1
  refine K_if_eq (tgt := 32) (dt_at dtX12_then 11 rfl) (by decide) (by first | assumption | exact ⟨by omega, by omega⟩) (fun c2 => absurd c2 (by omega)) (fun c2 => ?_)
  refine K_aload_n (dt_at dtX12_then 12 rfl) rfl rfl ?_
  refine K_iload_n (dt_at dtX12_then 13 rfl) rfl rfl ?_
  refine K_iconst (dt_at dtX12_then 14 rfl) ?_
  refine K_iconst (dt_at dtX12_then 15 rfl) ?_
  refine K_callV (M' := mX12_isSoon) (a := 0) (ci := 12) (As := [vi (n : Int), vi 0, vi 2]) (st := []) (dt_at dtX12_then 16 rfl) (sX12_isSoon_t Gu1.2.2.2 (by omega) (by omega)) (show TT 0 = (0, 12) from rfl) rfl wL_X12_403 vX12_isSoon rfl npX12_isSoon (by decide) (by decide) (Nat.le_of_ble_eq_true rfl) (by decide) (by decide) GK_E (fun v9 h9 hq => ?_) (fun E h9 hq => by cases hq.1)
  obtain ⟨e9, e8⟩ := hq
  cases e9
  rw [e8]
  show K mX12_then _ _ 0 0 29 [(0, vr 0), (1, vi p), (2, vi (n : Int)), (3, vi 1)] [vi 1] hu1
  refine K_if_ne (tgt := 34) (dt_at dtX12_then 17 rfl) (by decide) (by first | assumption | exact ⟨by omega, by omega⟩) (fun c3 => ?_) (fun c3 => absurd c3 (by omega))
  refine K_aload_n (dt_at dtX12_then 20 rfl) rfl rfl ?_
  refine K_iload_n (dt_at dtX12_then 21 rfl) rfl rfl ?_
  refine K_callV (M' := mX12_goesTo) (a := 0) (ci := 12) (As := [vi (n : Int)]) (st := []) (dt_at dtX12_then 22 rfl) (sX12_goesTo Gu1 (by omega)) (show TT 0 = (0, 12) from rfl) rfl wL_X12_406 vX12_goesTo rfl npX12_goesTo (by decide) (by decide) (Nat.le_of_ble_eq_true rfl) (by decide) (by decide) GK_E (fun v9 hc2 hq => ?_) (fun E h9 hq => by cases hq.1)
  have hqq3 := hq
  obtain ⟨e9q3, Gq3, kq3⟩ := hqq3
  cases e9q3
  show K mX12_then _ _ 0 0 39 [(0, vr 0), (1, vi p), (2, vi (n : Int)), (3, vi 1)] [] hc2
  refine K_iload_n (dt_at dtX12_then 23 rfl) rfl rfl ?_
  refine K_if_ne (tgt := 56) (dt_at dtX12_then 24 rfl) (by decide) (by first | assumption | exact ⟨by omega, by omega⟩) (fun c4 => ?_) (fun c4 => absurd c4 (by omega))
  refine K_iload_n (dt_at dtX12_then 33 rfl) rfl rfl ?_
  refine K_iconst (dt_at dtX12_then 34 rfl) ?_
  refine K_icmp_ne (tgt := 74) (dt_at dtX12_then 35 rfl) (by decide) (by first | assumption | exact ⟨by omega, by omega⟩) (by first | assumption | exact ⟨by omega, by omega⟩) (fun c5 => absurd c5 (by omega)) (fun c5 => ?_)
  refine K_aload_n (dt_at dtX12_then 36 rfl) rfl rfl ?_
  refine K_get (a := 0) (ci := 12) (k := 42) (v := vr 18) (dt_at dtX12_then 37 rfl) (show TT 0 = (0, 12) from rfl) rfl (by decide) wF_X12_72 rfl ?_
  refine K_sipush (dt_at dtX12_then 38 rfl) (by decide) ?_
  refine K_iload_n (dt_at dtX12_then 39 rfl) rfl rfl ?_
  refine K_iadd (dt_at dtX12_then 40 rfl) ?_
  refine K_iald (dt_at dtX12_then 41 rfl) (show TT 18 = (1, 154) from rfl) (by omega) (by omega) ?_
  rw [show hA hc2 18 (140 + p) = ((dysF S f n) (15 + p)) from RV_f (MG_D7 Gq3).2.2.2 (p := p) (by omega) (by omega)]
  refine K_goto (tgt := 96) (dt_at dtX12_then 42 rfl) (by decide) ?_
  exact K_iret (dt_at dtX12_then 55 rfl) rfl rfl (by decide) (by decide) ⟨rfl, Gq3.2.1, Gq3.2.2.2⟩
set_option maxHeartbeats 4000000 in
set_option maxRecDepth 100000 in
theorem sX12_then_2 {h : HP} {S : HS} {f : Int → Int} {p : Int} {n : Nat} (Q0 : MAsk h S f) (hp : 0 ≤ p ∧ p < sNp S) (hn : n ≤ 100) : SpecK mX12_then [vr 0, vi p, vi (n : Int), vi 2] h (fun o h' => o = .inl (some (vi (sumF (sU S) (dysF S f n) p (sNt S)))) ∧ FQ h h' ∧ hI h' 0 0 = 0) := by
  refine Spec_of (by decide +kernel) (Nat.le_of_ble_eq_true rfl) ?_
  have hB := Q0.1.1
  have hNt := hB.1
  have hNp := hB.2.1
  have R := Q0.2.2.2.2
  have hT := R.1
  have hW := hT.1
  obtain ⟨n1, n2, n3, n4, n5⟩ := dys_R hB R (n := n) (by omega)
  refine K_aload_n (dt_at dtX12_then 0 rfl) rfl rfl ?_
  refine K_iconst (dt_at dtX12_then 1 rfl) ?_
  refine K_putI (a := 0) (ci := 12) (k := 0) (dt_at dtX12_then 2 rfl) (show TT 0 = (0, 12) from rfl) rfl (by decide) wF_X12_105 rfl (Or.inl rfl) rfl rfl ?_
  obtain ⟨hu1, eu1⟩ : ∃ z, z = sI h 0 0 0 := ⟨_, rfl⟩
  rw [← eu1]
  obtain ⟨iu1, fu1, au1, ru1⟩ := sI_fx eu1
  have Gu1 := MG_0 Q0 eu1
  refine K_aload_n (dt_at dtX12_then 3 rfl) rfl rfl ?_
  refine K_iload_n (dt_at dtX12_then 4 rfl) rfl rfl ?_
  refine K_callV (M' := mX12_isPerson) (a := 0) (ci := 12) (As := [vi p]) (st := []) (dt_at dtX12_then 5 rfl) (sX12_isPerson_t (MD_np (MG_D0 Gu1)) hNp Gu1.2.2.2 (by omega)) (show TT 0 = (0, 12) from rfl) rfl wL_X12_375 vX12_isPerson rfl npX12_isPerson (by decide) (by decide) (Nat.le_of_ble_eq_true rfl) (by decide) (by decide) GK_E (fun v9 h9 hq => ?_) (fun E h9 hq => by cases hq.1)
  obtain ⟨e9, e8⟩ := hq
  cases e9
  rw [e8]
  show K mX12_then _ _ 0 0 10 [(0, vr 0), (1, vi p), (2, vi (n : Int)), (3, vi 2)] [vi 1] hu1
  refine K_if_eq (tgt := 32) (dt_at dtX12_then 6 rfl) (by decide) (by first | assumption | exact ⟨by omega, by omega⟩) (fun c1 => absurd c1 (by omega)) (fun c1 => ?_)
  refine K_aload_n (dt_at dtX12_then 7 rfl) rfl rfl ?_
  refine K_iload_n (dt_at dtX12_then 8 rfl) rfl rfl ?_
  refine K_iconst (dt_at dtX12_then 9 rfl) ?_
  refine K_callV (M' := mX12_isWhat) (a := 0) (ci := 12) (As := [vi 2, vi 3]) (st := []) (dt_at dtX12_then 10 rfl) (sX12_isWhat_t Gu1.2.2.2 (by omega) (by omega)) (show TT 0 = (0, 12) from rfl) rfl wL_X12_371 vX12_isWhat rfl npX12_isWhat (by decide) (by decide) (Nat.le_of_ble_eq_true rfl) (by decide) (by decide) GK_E (fun v9 h9 hq => ?_) (fun E h9 hq => by cases hq.1)
  obtain ⟨e9, e8⟩ := hq
  cases e9
  rw [e8]
  show K mX12_then _ _ 0 0 19 [(0, vr 0), (1, vi p), (2, vi (n : Int)), (3, vi 2)] [vi 1] hu1
  refine K_if_eq (tgt := 32) (dt_at dtX12_then 11 rfl) (by decide) (by first | assumption | exact ⟨by omega, by omega⟩) (fun c2 => absurd c2 (by omega)) (fun c2 => ?_)
  refine K_aload_n (dt_at dtX12_then 12 rfl) rfl rfl ?_
  refine K_iload_n (dt_at dtX12_then 13 rfl) rfl rfl ?_
  refine K_iconst (dt_at dtX12_then 14 rfl) ?_
  refine K_iconst (dt_at dtX12_then 15 rfl) ?_
  refine K_callV (M' := mX12_isSoon) (a := 0) (ci := 12) (As := [vi (n : Int), vi 0, vi 2]) (st := []) (dt_at dtX12_then 16 rfl) (sX12_isSoon_t Gu1.2.2.2 (by omega) (by omega)) (show TT 0 = (0, 12) from rfl) rfl wL_X12_403 vX12_isSoon rfl npX12_isSoon (by decide) (by decide) (Nat.le_of_ble_eq_true rfl) (by decide) (by decide) GK_E (fun v9 h9 hq => ?_) (fun E h9 hq => by cases hq.1)
  obtain ⟨e9, e8⟩ := hq
  cases e9
  rw [e8]
  show K mX12_then _ _ 0 0 29 [(0, vr 0), (1, vi p), (2, vi (n : Int)), (3, vi 2)] [vi 1] hu1
  refine K_if_ne (tgt := 34) (dt_at dtX12_then 17 rfl) (by decide) (by first | assumption | exact ⟨by omega, by omega⟩) (fun c3 => ?_) (fun c3 => absurd c3 (by omega))
  refine K_aload_n (dt_at dtX12_then 20 rfl) rfl rfl ?_
  refine K_iload_n (dt_at dtX12_then 21 rfl) rfl rfl ?_
  refine K_callV (M' := mX12_goesTo) (a := 0) (ci := 12) (As := [vi (n : Int)]) (st := []) (dt_at dtX12_then 22 rfl) (sX12_goesTo Gu1 (by omega)) (show TT 0 = (0, 12) from rfl) rfl wL_X12_406 vX12_goesTo rfl npX12_goesTo (by decide) (by decide) (Nat.le_of_ble_eq_true rfl) (by decide) (by decide) GK_E (fun v9 hc2 hq => ?_) (fun E h9 hq => by cases hq.1)
  have hqq3 := hq
  obtain ⟨e9q3, Gq3, kq3⟩ := hqq3
  cases e9q3
  show K mX12_then _ _ 0 0 39 [(0, vr 0), (1, vi p), (2, vi (n : Int)), (3, vi 2)] [] hc2
  refine K_iload_n (dt_at dtX12_then 23 rfl) rfl rfl ?_
  refine K_if_ne (tgt := 56) (dt_at dtX12_then 24 rfl) (by decide) (by first | assumption | exact ⟨by omega, by omega⟩) (fun c4 => ?_) (fun c4 => absurd c4 (by omega))
  refine K_iload_n (dt_at dtX12_then 33 rfl) rfl rfl ?_
  refine K_iconst (dt_at dtX12_then 34 rfl) ?_
  refine K_icmp_ne (tgt := 74) (dt_at dtX12_then 35 rfl) (by decide) (by first | assumption | exact ⟨by omega, by omega⟩) (by first | assumption | exact ⟨by omega, by omega⟩) (fun c5 => ?_) (fun c5 => absurd c5 (by omega))
  refine K_iload_n (dt_at dtX12_then 43 rfl) rfl rfl ?_
  refine K_iconst (dt_at dtX12_then 44 rfl) ?_
  refine K_icmp_ne (tgt := 89) (dt_at dtX12_then 45 rfl) (by decide) (by first | assumption | exact ⟨by omega, by omega⟩) (by first | assumption | exact ⟨by omega, by omega⟩) (fun c6 => absurd c6 (by omega)) (fun c6 => ?_)
  refine K_aload_n (dt_at dtX12_then 46 rfl) rfl rfl ?_
  refine K_bipush (dt_at dtX12_then 47 rfl) (by decide) ?_
  refine K_iload_n (dt_at dtX12_then 48 rfl) rfl rfl ?_
  refine K_callV (M' := mX12_useIn) (a := 0) (ci := 12) (As := [vi 77, vi p]) (st := []) (dt_at dtX12_then 49 rfl) (sX12_useIn (MG_D7 Gq3) n1.1 (by omega)) (show TT 0 = (0, 12) from rfl) rfl wL_X12_319 vX12_useIn rfl npX12_useIn (by decide) (by decide) (Nat.le_of_ble_eq_true rfl) (by decide) (by decide) GK_E (fun v9 h9 hq => ?_) (fun E h9 hq => by cases hq.1)
  obtain ⟨e9, e8⟩ := hq
  cases e9
  rw [e8]
  show K mX12_then _ _ 0 0 86 [(0, vr 0), (1, vi p), (2, vi (n : Int)), (3, vi 2)] [vi (sumF (sU S) (dysF S f n) p (sNt S))] hc2
  refine K_goto (tgt := 96) (dt_at dtX12_then 50 rfl) (by decide) ?_
  exact K_iret (dt_at dtX12_then 55 rfl) rfl rfl (by decide) (by decide) ⟨rfl, Gq3.2.1, Gq3.2.2.2⟩
set_option maxHeartbeats 4000000 in
set_option maxRecDepth 100000 in
theorem sX12_then_3 {h : HP} {S : HS} {f : Int → Int} {p : Int} {n : Nat} (Q0 : MAsk h S f) (hp : 0 ≤ p ∧ p < sNp S) (hn : n ≤ 100) : SpecK mX12_then [vr 0, vi p, vi (n : Int), vi 3] h (fun o h' => o = .inl (some (vi (sumF (sW S) (dysF S f n) p (sNt S)))) ∧ FQ h h' ∧ hI h' 0 0 = 0) := by
  refine Spec_of (by decide +kernel) (Nat.le_of_ble_eq_true rfl) ?_
  have hB := Q0.1.1
  have hNt := hB.1
  have hNp := hB.2.1
  have R := Q0.2.2.2.2
  have hT := R.1
  have hW := hT.1
  obtain ⟨n1, n2, n3, n4, n5⟩ := dys_R hB R (n := n) (by omega)
  refine K_aload_n (dt_at dtX12_then 0 rfl) rfl rfl ?_
  refine K_iconst (dt_at dtX12_then 1 rfl) ?_
  refine K_putI (a := 0) (ci := 12) (k := 0) (dt_at dtX12_then 2 rfl) (show TT 0 = (0, 12) from rfl) rfl (by decide) wF_X12_105 rfl (Or.inl rfl) rfl rfl ?_
  obtain ⟨hu1, eu1⟩ : ∃ z, z = sI h 0 0 0 := ⟨_, rfl⟩
  rw [← eu1]
  obtain ⟨iu1, fu1, au1, ru1⟩ := sI_fx eu1
  have Gu1 := MG_0 Q0 eu1
  refine K_aload_n (dt_at dtX12_then 3 rfl) rfl rfl ?_
  refine K_iload_n (dt_at dtX12_then 4 rfl) rfl rfl ?_
  refine K_callV (M' := mX12_isPerson) (a := 0) (ci := 12) (As := [vi p]) (st := []) (dt_at dtX12_then 5 rfl) (sX12_isPerson_t (MD_np (MG_D0 Gu1)) hNp Gu1.2.2.2 (by omega)) (show TT 0 = (0, 12) from rfl) rfl wL_X12_375 vX12_isPerson rfl npX12_isPerson (by decide) (by decide) (Nat.le_of_ble_eq_true rfl) (by decide) (by decide) GK_E (fun v9 h9 hq => ?_) (fun E h9 hq => by cases hq.1)
  obtain ⟨e9, e8⟩ := hq
  cases e9
  rw [e8]
  show K mX12_then _ _ 0 0 10 [(0, vr 0), (1, vi p), (2, vi (n : Int)), (3, vi 3)] [vi 1] hu1
  refine K_if_eq (tgt := 32) (dt_at dtX12_then 6 rfl) (by decide) (by first | assumption | exact ⟨by omega, by omega⟩) (fun c1 => absurd c1 (by omega)) (fun c1 => ?_)
  refine K_aload_n (dt_at dtX12_then 7 rfl) rfl rfl ?_
  refine K_iload_n (dt_at dtX12_then 8 rfl) rfl rfl ?_
  refine K_iconst (dt_at dtX12_then 9 rfl) ?_
  refine K_callV (M' := mX12_isWhat) (a := 0) (ci := 12) (As := [vi 3, vi 3]) (st := []) (dt_at dtX12_then 10 rfl) (sX12_isWhat_t Gu1.2.2.2 (by omega) (by omega)) (show TT 0 = (0, 12) from rfl) rfl wL_X12_371 vX12_isWhat rfl npX12_isWhat (by decide) (by decide) (Nat.le_of_ble_eq_true rfl) (by decide) (by decide) GK_E (fun v9 h9 hq => ?_) (fun E h9 hq => by cases hq.1)
  obtain ⟨e9, e8⟩ := hq
  cases e9
  rw [e8]
  show K mX12_then _ _ 0 0 19 [(0, vr 0), (1, vi p), (2, vi (n : Int)), (3, vi 3)] [vi 1] hu1
  refine K_if_eq (tgt := 32) (dt_at dtX12_then 11 rfl) (by decide) (by first | assumption | exact ⟨by omega, by omega⟩) (fun c2 => absurd c2 (by omega)) (fun c2 => ?_)
  refine K_aload_n (dt_at dtX12_then 12 rfl) rfl rfl ?_
  refine K_iload_n (dt_at dtX12_then 13 rfl) rfl rfl ?_
  refine K_iconst (dt_at dtX12_then 14 rfl) ?_
  refine K_iconst (dt_at dtX12_then 15 rfl) ?_
  refine K_callV (M' := mX12_isSoon) (a := 0) (ci := 12) (As := [vi (n : Int), vi 0, vi 2]) (st := []) (dt_at dtX12_then 16 rfl) (sX12_isSoon_t Gu1.2.2.2 (by omega) (by omega)) (show TT 0 = (0, 12) from rfl) rfl wL_X12_403 vX12_isSoon rfl npX12_isSoon (by decide) (by decide) (Nat.le_of_ble_eq_true rfl) (by decide) (by decide) GK_E (fun v9 h9 hq => ?_) (fun E h9 hq => by cases hq.1)
  obtain ⟨e9, e8⟩ := hq
  cases e9
  rw [e8]
  show K mX12_then _ _ 0 0 29 [(0, vr 0), (1, vi p), (2, vi (n : Int)), (3, vi 3)] [vi 1] hu1
  refine K_if_ne (tgt := 34) (dt_at dtX12_then 17 rfl) (by decide) (by first | assumption | exact ⟨by omega, by omega⟩) (fun c3 => ?_) (fun c3 => absurd c3 (by omega))
  refine K_aload_n (dt_at dtX12_then 20 rfl) rfl rfl ?_
  refine K_iload_n (dt_at dtX12_then 21 rfl) rfl rfl ?_
  refine K_callV (M' := mX12_goesTo) (a := 0) (ci := 12) (As := [vi (n : Int)]) (st := []) (dt_at dtX12_then 22 rfl) (sX12_goesTo Gu1 (by omega)) (show TT 0 = (0, 12) from rfl) rfl wL_X12_406 vX12_goesTo rfl npX12_goesTo (by decide) (by decide) (Nat.le_of_ble_eq_true rfl) (by decide) (by decide) GK_E (fun v9 hc2 hq => ?_) (fun E h9 hq => by cases hq.1)
  have hqq3 := hq
  obtain ⟨e9q3, Gq3, kq3⟩ := hqq3
  cases e9q3
  show K mX12_then _ _ 0 0 39 [(0, vr 0), (1, vi p), (2, vi (n : Int)), (3, vi 3)] [] hc2
  refine K_iload_n (dt_at dtX12_then 23 rfl) rfl rfl ?_
  refine K_if_ne (tgt := 56) (dt_at dtX12_then 24 rfl) (by decide) (by first | assumption | exact ⟨by omega, by omega⟩) (fun c4 => ?_) (fun c4 => absurd c4 (by omega))
  refine K_iload_n (dt_at dtX12_then 33 rfl) rfl rfl ?_
  refine K_iconst (dt_at dtX12_then 34 rfl) ?_
  refine K_icmp_ne (tgt := 74) (dt_at dtX12_then 35 rfl) (by decide) (by first | assumption | exact ⟨by omega, by omega⟩) (by first | assumption | exact ⟨by omega, by omega⟩) (fun c5 => ?_) (fun c5 => absurd c5 (by omega))
  refine K_iload_n (dt_at dtX12_then 43 rfl) rfl rfl ?_
  refine K_iconst (dt_at dtX12_then 44 rfl) ?_
  refine K_icmp_ne (tgt := 89) (dt_at dtX12_then 45 rfl) (by decide) (by first | assumption | exact ⟨by omega, by omega⟩) (by first | assumption | exact ⟨by omega, by omega⟩) (fun c6 => ?_) (fun c6 => absurd c6 (by omega))
  refine K_aload_n (dt_at dtX12_then 51 rfl) rfl rfl ?_
  refine K_bipush (dt_at dtX12_then 52 rfl) (by decide) ?_
  refine K_iload_n (dt_at dtX12_then 53 rfl) rfl rfl ?_
  refine K_callV (M' := mX12_weightIn) (a := 0) (ci := 12) (As := [vi 77, vi p]) (st := []) (dt_at dtX12_then 54 rfl) (sX12_weightIn (MG_D7 Gq3) n1.1 (by omega)) (show TT 0 = (0, 12) from rfl) rfl wL_X12_300 vX12_weightIn rfl npX12_weightIn (by decide) (by decide) (Nat.le_of_ble_eq_true rfl) (by decide) (by decide) GK_E (fun v9 h9 hq => ?_) (fun E h9 hq => by cases hq.1)
  obtain ⟨e9, e8⟩ := hq
  cases e9
  rw [e8]
  show K mX12_then _ _ 0 0 96 [(0, vr 0), (1, vi p), (2, vi (n : Int)), (3, vi 3)] [vi (sumF (sW S) (dysF S f n) p (sNt S))] hc2
  exact K_iret (dt_at dtX12_then 55 rfl) rfl rfl (by decide) (by decide) ⟨rfl, Gq3.2.1, Gq3.2.2.2⟩
def mX12_packed : MI := (yX12_packed, cX12_packed, 4, (some .int), rmK 9 0)
def tX12_packed : List (Nat × Instr × Nat) := [(0, .aload_n 0, 1), (1, .iconst 0, 1), (2, .putfield 105, 3), (5, .aload_n 0, 1), (6, .iload_n 1, 1), (7, .invokevirtual 375, 3), (10, .ifCond .eq 21, 3), (13, .aload_n 0, 1), (14, .iload_n 2, 1), (15, .invokevirtual 368, 3), (18, .ifCond .eq 13, 3), (21, .aload_n 0, 1), (22, .iload_n 3, 1), (23, .iconst 0, 1), (24, .iconst 2, 1), (25, .invokevirtual 403, 3), (28, .ifCond .ne 5, 3), (31, .iconst 0, 1), (32, .ireturn, 1), (33, .aload_n 0, 1), (34, .iload_n 3, 1), (35, .invokevirtual 406, 3), (38, .aload_n 0, 1), (39, .getfield 72, 3), (42, .aload_n 0, 1), (43, .bipush 77, 2), (45, .iload_n 1, 1), (46, .iload_n 2, 1), (47, .invokevirtual 291, 3), (50, .iaload, 1), (51, .ireturn, 1)]
theorem dtX12_packed : tX12_packed.all (fun q => decide (decode cX12_packed q.1 = .ok (q.2.1, q.2.2))) = true := by decide +kernel
theorem npX12_packed : (parseMethodDescriptor (mY mX12_packed).desc).map (fun d => d.parameters.length) = some 3 := by decide +kernel
theorem vX12_packed : mV mX12_packed := ⟨wI_X12_packed, wS_X12_packed, wN_X12, wC_X12_packed, by decide +kernel, by decide +kernel⟩
set_option maxHeartbeats 4000000 in
set_option maxRecDepth 100000 in
theorem sX12_packed_x1 {h : HP} {S : HS} {f : Int → Int} {p q d : Int} (Q0 : MAsk h S f) (hp_ : i32 p) (hq_ : i32 q) (hd_ : i32 d) (kn : ¬ (0 ≤ p ∧ p < sNp S)) : SpecK mX12_packed [vr 0, vi p, vi q, vi d] h (fun o h' => o = .inl (some (vi 0)) ∧ FQ h h' ∧ hI h' 0 0 = 1) := by
  refine Spec_of (by decide +kernel) (Nat.le_of_ble_eq_true rfl) ?_
  have hB := Q0.1.1
  have hNt := hB.1
  have hNp := hB.2.1
  have R := Q0.2.2.2.2
  have hT := R.1
  have hW := hT.1
  refine K_aload_n (dt_at dtX12_packed 0 rfl) rfl rfl ?_
  refine K_iconst (dt_at dtX12_packed 1 rfl) ?_
  refine K_putI (a := 0) (ci := 12) (k := 0) (dt_at dtX12_packed 2 rfl) (show TT 0 = (0, 12) from rfl) rfl (by decide) wF_X12_105 rfl (Or.inl rfl) rfl rfl ?_
  obtain ⟨hu1, eu1⟩ : ∃ z, z = sI h 0 0 0 := ⟨_, rfl⟩
  rw [← eu1]
  obtain ⟨iu1, fu1, au1, ru1⟩ := sI_fx eu1
  have Gu1 := MG_0 Q0 eu1
  refine K_aload_n (dt_at dtX12_packed 3 rfl) rfl rfl ?_
  refine K_iload_n (dt_at dtX12_packed 4 rfl) rfl rfl ?_
  refine K_callV (M' := mX12_isPerson) (a := 0) (ci := 12) (As := [vi p]) (st := []) (dt_at dtX12_packed 5 rfl) (sX12_isPerson_f (MD_np (MG_D0 Gu1)) hNp Gu1.2.2.2 (by assumption) (by omega)) (show TT 0 = (0, 12) from rfl) rfl wL_X12_375 vX12_isPerson rfl npX12_isPerson (by decide) (by decide) (Nat.le_of_ble_eq_true rfl) (by decide) (by decide) GK_E (fun v9 hc2 hq => ?_) (fun E h9 hq => by cases hq.1)
  have hqq3 := hq
  obtain ⟨e9q3, e8q3⟩ := hqq3
  obtain ⟨iq3, fq3, aq3, rq3⟩ := sI_fx e8q3
  have Bq3 : FQ h hc2 := FQ_tr Gu1.2.1 (FQ_I e8q3 rfl Gu1.2.1.2.2.2.2)
  cases e9q3
  show K mX12_packed _ _ 0 0 10 [(0, vr 0), (1, vi p), (2, vi q), (3, vi d)] [vi 0] hc2
  refine K_if_eq (tgt := 31) (dt_at dtX12_packed 6 rfl) (by decide) (by first | assumption | exact ⟨by omega, by omega⟩) (fun c1 => ?_) (fun c1 => absurd c1 (by omega))
  refine K_iconst (dt_at dtX12_packed 17 rfl) ?_
  exact K_iret (dt_at dtX12_packed 18 rfl) rfl rfl (by decide) (by decide) ⟨rfl, Bq3, iq3⟩
set_option maxHeartbeats 4000000 in
set_option maxRecDepth 100000 in
theorem sX12_packed_x2 {h : HP} {S : HS} {f : Int → Int} {p q d : Int} (Q0 : MAsk h S f) (hp_ : i32 p) (hq_ : i32 q) (hd_ : i32 d) (k0 : 0 ≤ p ∧ p < sNp S) (kn : ¬ (0 ≤ q ∧ q < sNt S)) : SpecK mX12_packed [vr 0, vi p, vi q, vi d] h (fun o h' => o = .inl (some (vi 0)) ∧ FQ h h' ∧ hI h' 0 0 = 1) := by
  refine Spec_of (by decide +kernel) (Nat.le_of_ble_eq_true rfl) ?_
  have hB := Q0.1.1
  have hNt := hB.1
  have hNp := hB.2.1
  have R := Q0.2.2.2.2
  have hT := R.1
  have hW := hT.1
  refine K_aload_n (dt_at dtX12_packed 0 rfl) rfl rfl ?_
  refine K_iconst (dt_at dtX12_packed 1 rfl) ?_
  refine K_putI (a := 0) (ci := 12) (k := 0) (dt_at dtX12_packed 2 rfl) (show TT 0 = (0, 12) from rfl) rfl (by decide) wF_X12_105 rfl (Or.inl rfl) rfl rfl ?_
  obtain ⟨hu1, eu1⟩ : ∃ z, z = sI h 0 0 0 := ⟨_, rfl⟩
  rw [← eu1]
  obtain ⟨iu1, fu1, au1, ru1⟩ := sI_fx eu1
  have Gu1 := MG_0 Q0 eu1
  refine K_aload_n (dt_at dtX12_packed 3 rfl) rfl rfl ?_
  refine K_iload_n (dt_at dtX12_packed 4 rfl) rfl rfl ?_
  refine K_callV (M' := mX12_isPerson) (a := 0) (ci := 12) (As := [vi p]) (st := []) (dt_at dtX12_packed 5 rfl) (sX12_isPerson_t (MD_np (MG_D0 Gu1)) hNp Gu1.2.2.2 (by omega)) (show TT 0 = (0, 12) from rfl) rfl wL_X12_375 vX12_isPerson rfl npX12_isPerson (by decide) (by decide) (Nat.le_of_ble_eq_true rfl) (by decide) (by decide) GK_E (fun v9 h9 hq => ?_) (fun E h9 hq => by cases hq.1)
  obtain ⟨e9, e8⟩ := hq
  cases e9
  rw [e8]
  show K mX12_packed _ _ 0 0 10 [(0, vr 0), (1, vi p), (2, vi q), (3, vi d)] [vi 1] hu1
  refine K_if_eq (tgt := 31) (dt_at dtX12_packed 6 rfl) (by decide) (by first | assumption | exact ⟨by omega, by omega⟩) (fun c1 => absurd c1 (by omega)) (fun c1 => ?_)
  refine K_aload_n (dt_at dtX12_packed 7 rfl) rfl rfl ?_
  refine K_iload_n (dt_at dtX12_packed 8 rfl) rfl rfl ?_
  refine K_callV (M' := mX12_isThing) (a := 0) (ci := 12) (As := [vi q]) (st := []) (dt_at dtX12_packed 9 rfl) (sX12_isThing_f (MD_nt (MG_D0 Gu1)) hNt Gu1.2.2.2 (by assumption) (by omega)) (show TT 0 = (0, 12) from rfl) rfl wL_X12_368 vX12_isThing rfl npX12_isThing (by decide) (by decide) (Nat.le_of_ble_eq_true rfl) (by decide) (by decide) GK_E (fun v9 hc2 hq => ?_) (fun E h9 hq => by cases hq.1)
  have hqq3 := hq
  obtain ⟨e9q3, e8q3⟩ := hqq3
  obtain ⟨iq3, fq3, aq3, rq3⟩ := sI_fx e8q3
  have Bq3 : FQ h hc2 := FQ_tr Gu1.2.1 (FQ_I e8q3 rfl Gu1.2.1.2.2.2.2)
  cases e9q3
  show K mX12_packed _ _ 0 0 18 [(0, vr 0), (1, vi p), (2, vi q), (3, vi d)] [vi 0] hc2
  refine K_if_eq (tgt := 31) (dt_at dtX12_packed 10 rfl) (by decide) (by first | assumption | exact ⟨by omega, by omega⟩) (fun c2 => ?_) (fun c2 => absurd c2 (by omega))
  refine K_iconst (dt_at dtX12_packed 17 rfl) ?_
  exact K_iret (dt_at dtX12_packed 18 rfl) rfl rfl (by decide) (by decide) ⟨rfl, Bq3, iq3⟩
set_option maxHeartbeats 4000000 in
set_option maxRecDepth 100000 in
theorem sX12_packed_x3 {h : HP} {S : HS} {f : Int → Int} {p q d : Int} (Q0 : MAsk h S f) (hp_ : i32 p) (hq_ : i32 q) (hd_ : i32 d) (k0 : 0 ≤ p ∧ p < sNp S) (k1 : 0 ≤ q ∧ q < sNt S) (kn : ¬ (0 ≤ d ∧ d ≤ 100)) : SpecK mX12_packed [vr 0, vi p, vi q, vi d] h (fun o h' => o = .inl (some (vi 0)) ∧ FQ h h' ∧ hI h' 0 0 = 2) := by
  refine Spec_of (by decide +kernel) (Nat.le_of_ble_eq_true rfl) ?_
  have hB := Q0.1.1
  have hNt := hB.1
  have hNp := hB.2.1
  have R := Q0.2.2.2.2
  have hT := R.1
  have hW := hT.1
  refine K_aload_n (dt_at dtX12_packed 0 rfl) rfl rfl ?_
  refine K_iconst (dt_at dtX12_packed 1 rfl) ?_
  refine K_putI (a := 0) (ci := 12) (k := 0) (dt_at dtX12_packed 2 rfl) (show TT 0 = (0, 12) from rfl) rfl (by decide) wF_X12_105 rfl (Or.inl rfl) rfl rfl ?_
  obtain ⟨hu1, eu1⟩ : ∃ z, z = sI h 0 0 0 := ⟨_, rfl⟩
  rw [← eu1]
  obtain ⟨iu1, fu1, au1, ru1⟩ := sI_fx eu1
  have Gu1 := MG_0 Q0 eu1
  refine K_aload_n (dt_at dtX12_packed 3 rfl) rfl rfl ?_
  refine K_iload_n (dt_at dtX12_packed 4 rfl) rfl rfl ?_
  refine K_callV (M' := mX12_isPerson) (a := 0) (ci := 12) (As := [vi p]) (st := []) (dt_at dtX12_packed 5 rfl) (sX12_isPerson_t (MD_np (MG_D0 Gu1)) hNp Gu1.2.2.2 (by omega)) (show TT 0 = (0, 12) from rfl) rfl wL_X12_375 vX12_isPerson rfl npX12_isPerson (by decide) (by decide) (Nat.le_of_ble_eq_true rfl) (by decide) (by decide) GK_E (fun v9 h9 hq => ?_) (fun E h9 hq => by cases hq.1)
  obtain ⟨e9, e8⟩ := hq
  cases e9
  rw [e8]
  show K mX12_packed _ _ 0 0 10 [(0, vr 0), (1, vi p), (2, vi q), (3, vi d)] [vi 1] hu1
  refine K_if_eq (tgt := 31) (dt_at dtX12_packed 6 rfl) (by decide) (by first | assumption | exact ⟨by omega, by omega⟩) (fun c1 => absurd c1 (by omega)) (fun c1 => ?_)
  refine K_aload_n (dt_at dtX12_packed 7 rfl) rfl rfl ?_
  refine K_iload_n (dt_at dtX12_packed 8 rfl) rfl rfl ?_
  refine K_callV (M' := mX12_isThing) (a := 0) (ci := 12) (As := [vi q]) (st := []) (dt_at dtX12_packed 9 rfl) (sX12_isThing_t (MD_nt (MG_D0 Gu1)) hNt Gu1.2.2.2 (by omega)) (show TT 0 = (0, 12) from rfl) rfl wL_X12_368 vX12_isThing rfl npX12_isThing (by decide) (by decide) (Nat.le_of_ble_eq_true rfl) (by decide) (by decide) GK_E (fun v9 h9 hq => ?_) (fun E h9 hq => by cases hq.1)
  obtain ⟨e9, e8⟩ := hq
  cases e9
  rw [e8]
  show K mX12_packed _ _ 0 0 18 [(0, vr 0), (1, vi p), (2, vi q), (3, vi d)] [vi 1] hu1
  refine K_if_eq (tgt := 31) (dt_at dtX12_packed 10 rfl) (by decide) (by first | assumption | exact ⟨by omega, by omega⟩) (fun c2 => absurd c2 (by omega)) (fun c2 => ?_)
  refine K_aload_n (dt_at dtX12_packed 11 rfl) rfl rfl ?_
  refine K_iload_n (dt_at dtX12_packed 12 rfl) rfl rfl ?_
  refine K_iconst (dt_at dtX12_packed 13 rfl) ?_
  refine K_iconst (dt_at dtX12_packed 14 rfl) ?_
  refine K_callV (M' := mX12_isSoon) (a := 0) (ci := 12) (As := [vi d, vi 0, vi 2]) (st := []) (dt_at dtX12_packed 15 rfl) (sX12_isSoon_f Gu1.2.2.2 (by decide) (by assumption) (by omega) (by decide)) (show TT 0 = (0, 12) from rfl) rfl wL_X12_403 vX12_isSoon rfl npX12_isSoon (by decide) (by decide) (Nat.le_of_ble_eq_true rfl) (by decide) (by decide) GK_E (fun v9 hc2 hq => ?_) (fun E h9 hq => by cases hq.1)
  have hqq3 := hq
  obtain ⟨e9q3, e8q3⟩ := hqq3
  obtain ⟨iq3, fq3, aq3, rq3⟩ := sI_fx e8q3
  have Bq3 : FQ h hc2 := FQ_tr Gu1.2.1 (FQ_I e8q3 rfl Gu1.2.1.2.2.2.2)
  cases e9q3
  show K mX12_packed _ _ 0 0 28 [(0, vr 0), (1, vi p), (2, vi q), (3, vi d)] [vi 0] hc2
  refine K_if_ne (tgt := 33) (dt_at dtX12_packed 16 rfl) (by decide) (by first | assumption | exact ⟨by omega, by omega⟩) (fun c3 => absurd c3 (by omega)) (fun c3 => ?_)
  refine K_iconst (dt_at dtX12_packed 17 rfl) ?_
  exact K_iret (dt_at dtX12_packed 18 rfl) rfl rfl (by decide) (by decide) ⟨rfl, Bq3, iq3⟩
set_option maxHeartbeats 4000000 in
set_option maxRecDepth 100000 in
theorem sX12_packed {h : HP} {S : HS} {f : Int → Int} {p q : Int} {n : Nat} (Q0 : MAsk h S f) (hp : 0 ≤ p ∧ p < sNp S) (hqt : 0 ≤ q ∧ q < sNt S) (hn : n ≤ 100) : SpecK mX12_packed [vr 0, vi p, vi q, vi (n : Int)] h (fun o h' => o = .inl (some (vi ((dysF S f n) (35 + (dysF S f n) (8 + p) * 6 + q)))) ∧ FQ h h' ∧ hI h' 0 0 = 0) := by
  refine Spec_of (by decide +kernel) (Nat.le_of_ble_eq_true rfl) ?_
  have hB := Q0.1.1
  have hNt := hB.1
  have hNp := hB.2.1
  have R := Q0.2.2.2.2
  have hT := R.1
  have hW := hT.1
  obtain ⟨n1, n2, n3, n4, n5⟩ := dys_R hB R (n := n) (by omega)
  have wc := (n1.1.2 p (by omega) (by omega)).2.1
  refine K_aload_n (dt_at dtX12_packed 0 rfl) rfl rfl ?_
  refine K_iconst (dt_at dtX12_packed 1 rfl) ?_
  refine K_putI (a := 0) (ci := 12) (k := 0) (dt_at dtX12_packed 2 rfl) (show TT 0 = (0, 12) from rfl) rfl (by decide) wF_X12_105 rfl (Or.inl rfl) rfl rfl ?_
  obtain ⟨hu1, eu1⟩ : ∃ z, z = sI h 0 0 0 := ⟨_, rfl⟩
  rw [← eu1]
  obtain ⟨iu1, fu1, au1, ru1⟩ := sI_fx eu1
  have Gu1 := MG_0 Q0 eu1
  refine K_aload_n (dt_at dtX12_packed 3 rfl) rfl rfl ?_
  refine K_iload_n (dt_at dtX12_packed 4 rfl) rfl rfl ?_
  refine K_callV (M' := mX12_isPerson) (a := 0) (ci := 12) (As := [vi p]) (st := []) (dt_at dtX12_packed 5 rfl) (sX12_isPerson_t (MD_np (MG_D0 Gu1)) hNp Gu1.2.2.2 (by omega)) (show TT 0 = (0, 12) from rfl) rfl wL_X12_375 vX12_isPerson rfl npX12_isPerson (by decide) (by decide) (Nat.le_of_ble_eq_true rfl) (by decide) (by decide) GK_E (fun v9 h9 hq => ?_) (fun E h9 hq => by cases hq.1)
  obtain ⟨e9, e8⟩ := hq
  cases e9
  rw [e8]
  show K mX12_packed _ _ 0 0 10 [(0, vr 0), (1, vi p), (2, vi q), (3, vi (n : Int))] [vi 1] hu1
  refine K_if_eq (tgt := 31) (dt_at dtX12_packed 6 rfl) (by decide) (by first | assumption | exact ⟨by omega, by omega⟩) (fun c1 => absurd c1 (by omega)) (fun c1 => ?_)
  refine K_aload_n (dt_at dtX12_packed 7 rfl) rfl rfl ?_
  refine K_iload_n (dt_at dtX12_packed 8 rfl) rfl rfl ?_
  refine K_callV (M' := mX12_isThing) (a := 0) (ci := 12) (As := [vi q]) (st := []) (dt_at dtX12_packed 9 rfl) (sX12_isThing_t (MD_nt (MG_D0 Gu1)) hNt Gu1.2.2.2 (by omega)) (show TT 0 = (0, 12) from rfl) rfl wL_X12_368 vX12_isThing rfl npX12_isThing (by decide) (by decide) (Nat.le_of_ble_eq_true rfl) (by decide) (by decide) GK_E (fun v9 h9 hq => ?_) (fun E h9 hq => by cases hq.1)
  obtain ⟨e9, e8⟩ := hq
  cases e9
  rw [e8]
  show K mX12_packed _ _ 0 0 18 [(0, vr 0), (1, vi p), (2, vi q), (3, vi (n : Int))] [vi 1] hu1
  refine K_if_eq (tgt := 31) (dt_at dtX12_packed 10 rfl) (by decide) (by first | assumption | exact ⟨by omega, by omega⟩) (fun c2 => absurd c2 (by omega)) (fun c2 => ?_)
  refine K_aload_n (dt_at dtX12_packed 11 rfl) rfl rfl ?_
  refine K_iload_n (dt_at dtX12_packed 12 rfl) rfl rfl ?_
  refine K_iconst (dt_at dtX12_packed 13 rfl) ?_
  refine K_iconst (dt_at dtX12_packed 14 rfl) ?_
  refine K_callV (M' := mX12_isSoon) (a := 0) (ci := 12) (As := [vi (n : Int), vi 0, vi 2]) (st := []) (dt_at dtX12_packed 15 rfl) (sX12_isSoon_t Gu1.2.2.2 (by omega) (by omega)) (show TT 0 = (0, 12) from rfl) rfl wL_X12_403 vX12_isSoon rfl npX12_isSoon (by decide) (by decide) (Nat.le_of_ble_eq_true rfl) (by decide) (by decide) GK_E (fun v9 h9 hq => ?_) (fun E h9 hq => by cases hq.1)
  obtain ⟨e9, e8⟩ := hq
  cases e9
  rw [e8]
  show K mX12_packed _ _ 0 0 28 [(0, vr 0), (1, vi p), (2, vi q), (3, vi (n : Int))] [vi 1] hu1
  refine K_if_ne (tgt := 33) (dt_at dtX12_packed 16 rfl) (by decide) (by first | assumption | exact ⟨by omega, by omega⟩) (fun c3 => ?_) (fun c3 => absurd c3 (by omega))
  refine K_aload_n (dt_at dtX12_packed 19 rfl) rfl rfl ?_
  refine K_iload_n (dt_at dtX12_packed 20 rfl) rfl rfl ?_
  refine K_callV (M' := mX12_goesTo) (a := 0) (ci := 12) (As := [vi (n : Int)]) (st := []) (dt_at dtX12_packed 21 rfl) (sX12_goesTo Gu1 (by omega)) (show TT 0 = (0, 12) from rfl) rfl wL_X12_406 vX12_goesTo rfl npX12_goesTo (by decide) (by decide) (Nat.le_of_ble_eq_true rfl) (by decide) (by decide) GK_E (fun v9 hc2 hq => ?_) (fun E h9 hq => by cases hq.1)
  have hqq3 := hq
  obtain ⟨e9q3, Gq3, kq3⟩ := hqq3
  cases e9q3
  show K mX12_packed _ _ 0 0 38 [(0, vr 0), (1, vi p), (2, vi q), (3, vi (n : Int))] [] hc2
  refine K_aload_n (dt_at dtX12_packed 22 rfl) rfl rfl ?_
  refine K_get (a := 0) (ci := 12) (k := 42) (v := vr 18) (dt_at dtX12_packed 23 rfl) (show TT 0 = (0, 12) from rfl) rfl (by decide) wF_X12_72 rfl ?_
  refine K_aload_n (dt_at dtX12_packed 24 rfl) rfl rfl ?_
  refine K_bipush (dt_at dtX12_packed 25 rfl) (by decide) ?_
  refine K_iload_n (dt_at dtX12_packed 26 rfl) rfl rfl ?_
  refine K_iload_n (dt_at dtX12_packed 27 rfl) rfl rfl ?_
  refine K_callV (M' := mX12_pieceAt) (a := 0) (ci := 12) (As := [vi 77, vi p, vi q]) (st := [vr 18]) (dt_at dtX12_packed 28 rfl) (sX12_pieceAt (MG_D7 Gq3) n1.1 (by omega)) (show TT 0 = (0, 12) from rfl) rfl wL_X12_291 vX12_pieceAt rfl npX12_pieceAt (by decide) (by decide) (Nat.le_of_ble_eq_true rfl) (by decide) (by decide) GK_E (fun v9 h9 hq => ?_) (fun E h9 hq => by cases hq.1)
  obtain ⟨e9, e8⟩ := hq
  cases e9
  rw [e8]
  show K mX12_packed _ _ 0 0 50 [(0, vr 0), (1, vi p), (2, vi q), (3, vi (n : Int))] [vi (77 + 15 + 6 * (dysF S f n) (8 + p) + q), vr 18] hc2
  refine K_iald (dt_at dtX12_packed 29 rfl) (show TT 18 = (1, 154) from rfl) (by omega) (by omega) ?_
  rw [show hA hc2 18 (77 + 15 + 6 * (dysF S f n) (8 + p) + q) = ((dysF S f n) (35 + (dysF S f n) (8 + p) * 6 + q)) from RV_i (MG_D7 Gq3).2.2.2 (c := (dysF S f n) (8 + p)) (t := q) (by omega) (by omega) (by omega)]
  exact K_iret (dt_at dtX12_packed 30 rfl) rfl rfl (by decide) (by decide) ⟨rfl, Gq3.2.1, Gq3.2.2.2⟩
def mX12_cupboard : MI := (yX12_cupboard, cX12_cupboard, 3, (some .int), rmK 9 0)
def tX12_cupboard : List (Nat × Instr × Nat) := [(0, .aload_n 0, 1), (1, .iconst 0, 1), (2, .putfield 105, 3), (5, .aload_n 0, 1), (6, .iload_n 1, 1), (7, .invokevirtual 368, 3), (10, .ifCond .eq 13, 3), (13, .aload_n 0, 1), (14, .iload_n 2, 1), (15, .iconst 0, 1), (16, .iconst 2, 1), (17, .invokevirtual 403, 3), (20, .ifCond .ne 5, 3), (23, .iconst 0, 1), (24, .ireturn, 1), (25, .aload_n 0, 1), (26, .iload_n 2, 1), (27, .invokevirtual 406, 3), (30, .aload_n 0, 1), (31, .getfield 72, 3), (34, .sipush 134, 3), (37, .iload_n 1, 1), (38, .iadd, 1), (39, .iaload, 1), (40, .ireturn, 1)]
theorem dtX12_cupboard : tX12_cupboard.all (fun q => decide (decode cX12_cupboard q.1 = .ok (q.2.1, q.2.2))) = true := by decide +kernel
theorem npX12_cupboard : (parseMethodDescriptor (mY mX12_cupboard).desc).map (fun d => d.parameters.length) = some 2 := by decide +kernel
theorem vX12_cupboard : mV mX12_cupboard := ⟨wI_X12_cupboard, wS_X12_cupboard, wN_X12, wC_X12_cupboard, by decide +kernel, by decide +kernel⟩
set_option maxHeartbeats 4000000 in
set_option maxRecDepth 100000 in
theorem sX12_cupboard_x1 {h : HP} {S : HS} {f : Int → Int} {q d : Int} (Q0 : MAsk h S f) (hq_ : i32 q) (hd_ : i32 d) (kn : ¬ (0 ≤ q ∧ q < sNt S)) : SpecK mX12_cupboard [vr 0, vi q, vi d] h (fun o h' => o = .inl (some (vi 0)) ∧ FQ h h' ∧ hI h' 0 0 = 1) := by
  refine Spec_of (by decide +kernel) (Nat.le_of_ble_eq_true rfl) ?_
  have hB := Q0.1.1
  have hNt := hB.1
  have hNp := hB.2.1
  have R := Q0.2.2.2.2
  have hT := R.1
  have hW := hT.1
  refine K_aload_n (dt_at dtX12_cupboard 0 rfl) rfl rfl ?_
  refine K_iconst (dt_at dtX12_cupboard 1 rfl) ?_
  refine K_putI (a := 0) (ci := 12) (k := 0) (dt_at dtX12_cupboard 2 rfl) (show TT 0 = (0, 12) from rfl) rfl (by decide) wF_X12_105 rfl (Or.inl rfl) rfl rfl ?_
  obtain ⟨hu1, eu1⟩ : ∃ z, z = sI h 0 0 0 := ⟨_, rfl⟩
  rw [← eu1]
  obtain ⟨iu1, fu1, au1, ru1⟩ := sI_fx eu1
  have Gu1 := MG_0 Q0 eu1
  refine K_aload_n (dt_at dtX12_cupboard 3 rfl) rfl rfl ?_
  refine K_iload_n (dt_at dtX12_cupboard 4 rfl) rfl rfl ?_
  refine K_callV (M' := mX12_isThing) (a := 0) (ci := 12) (As := [vi q]) (st := []) (dt_at dtX12_cupboard 5 rfl) (sX12_isThing_f (MD_nt (MG_D0 Gu1)) hNt Gu1.2.2.2 (by assumption) (by omega)) (show TT 0 = (0, 12) from rfl) rfl wL_X12_368 vX12_isThing rfl npX12_isThing (by decide) (by decide) (Nat.le_of_ble_eq_true rfl) (by decide) (by decide) GK_E (fun v9 hc2 hq => ?_) (fun E h9 hq => by cases hq.1)
  have hqq3 := hq
  obtain ⟨e9q3, e8q3⟩ := hqq3
  obtain ⟨iq3, fq3, aq3, rq3⟩ := sI_fx e8q3
  have Bq3 : FQ h hc2 := FQ_tr Gu1.2.1 (FQ_I e8q3 rfl Gu1.2.1.2.2.2.2)
  cases e9q3
  show K mX12_cupboard _ _ 0 0 10 [(0, vr 0), (1, vi q), (2, vi d)] [vi 0] hc2
  refine K_if_eq (tgt := 23) (dt_at dtX12_cupboard 6 rfl) (by decide) (by first | assumption | exact ⟨by omega, by omega⟩) (fun c1 => ?_) (fun c1 => absurd c1 (by omega))
  refine K_iconst (dt_at dtX12_cupboard 13 rfl) ?_
  exact K_iret (dt_at dtX12_cupboard 14 rfl) rfl rfl (by decide) (by decide) ⟨rfl, Bq3, iq3⟩
set_option maxHeartbeats 4000000 in
set_option maxRecDepth 100000 in
theorem sX12_cupboard_x2 {h : HP} {S : HS} {f : Int → Int} {q d : Int} (Q0 : MAsk h S f) (hq_ : i32 q) (hd_ : i32 d) (k0 : 0 ≤ q ∧ q < sNt S) (kn : ¬ (0 ≤ d ∧ d ≤ 100)) : SpecK mX12_cupboard [vr 0, vi q, vi d] h (fun o h' => o = .inl (some (vi 0)) ∧ FQ h h' ∧ hI h' 0 0 = 2) := by
  refine Spec_of (by decide +kernel) (Nat.le_of_ble_eq_true rfl) ?_
  have hB := Q0.1.1
  have hNt := hB.1
  have hNp := hB.2.1
  have R := Q0.2.2.2.2
  have hT := R.1
  have hW := hT.1
  refine K_aload_n (dt_at dtX12_cupboard 0 rfl) rfl rfl ?_
  refine K_iconst (dt_at dtX12_cupboard 1 rfl) ?_
  refine K_putI (a := 0) (ci := 12) (k := 0) (dt_at dtX12_cupboard 2 rfl) (show TT 0 = (0, 12) from rfl) rfl (by decide) wF_X12_105 rfl (Or.inl rfl) rfl rfl ?_
  obtain ⟨hu1, eu1⟩ : ∃ z, z = sI h 0 0 0 := ⟨_, rfl⟩
  rw [← eu1]
  obtain ⟨iu1, fu1, au1, ru1⟩ := sI_fx eu1
  have Gu1 := MG_0 Q0 eu1
  refine K_aload_n (dt_at dtX12_cupboard 3 rfl) rfl rfl ?_
  refine K_iload_n (dt_at dtX12_cupboard 4 rfl) rfl rfl ?_
  refine K_callV (M' := mX12_isThing) (a := 0) (ci := 12) (As := [vi q]) (st := []) (dt_at dtX12_cupboard 5 rfl) (sX12_isThing_t (MD_nt (MG_D0 Gu1)) hNt Gu1.2.2.2 (by omega)) (show TT 0 = (0, 12) from rfl) rfl wL_X12_368 vX12_isThing rfl npX12_isThing (by decide) (by decide) (Nat.le_of_ble_eq_true rfl) (by decide) (by decide) GK_E (fun v9 h9 hq => ?_) (fun E h9 hq => by cases hq.1)
  obtain ⟨e9, e8⟩ := hq
  cases e9
  rw [e8]
  show K mX12_cupboard _ _ 0 0 10 [(0, vr 0), (1, vi q), (2, vi d)] [vi 1] hu1
  refine K_if_eq (tgt := 23) (dt_at dtX12_cupboard 6 rfl) (by decide) (by first | assumption | exact ⟨by omega, by omega⟩) (fun c1 => absurd c1 (by omega)) (fun c1 => ?_)
  refine K_aload_n (dt_at dtX12_cupboard 7 rfl) rfl rfl ?_
  refine K_iload_n (dt_at dtX12_cupboard 8 rfl) rfl rfl ?_
  refine K_iconst (dt_at dtX12_cupboard 9 rfl) ?_
  refine K_iconst (dt_at dtX12_cupboard 10 rfl) ?_
  refine K_callV (M' := mX12_isSoon) (a := 0) (ci := 12) (As := [vi d, vi 0, vi 2]) (st := []) (dt_at dtX12_cupboard 11 rfl) (sX12_isSoon_f Gu1.2.2.2 (by decide) (by assumption) (by omega) (by decide)) (show TT 0 = (0, 12) from rfl) rfl wL_X12_403 vX12_isSoon rfl npX12_isSoon (by decide) (by decide) (Nat.le_of_ble_eq_true rfl) (by decide) (by decide) GK_E (fun v9 hc2 hq => ?_) (fun E h9 hq => by cases hq.1)
  have hqq3 := hq
  obtain ⟨e9q3, e8q3⟩ := hqq3
  obtain ⟨iq3, fq3, aq3, rq3⟩ := sI_fx e8q3
  have Bq3 : FQ h hc2 := FQ_tr Gu1.2.1 (FQ_I e8q3 rfl Gu1.2.1.2.2.2.2)
  cases e9q3
  show K mX12_cupboard _ _ 0 0 20 [(0, vr 0), (1, vi q), (2, vi d)] [vi 0] hc2
  refine K_if_ne (tgt := 25) (dt_at dtX12_cupboard 12 rfl) (by decide) (by first | assumption | exact ⟨by omega, by omega⟩) (fun c2 => absurd c2 (by omega)) (fun c2 => ?_)
  refine K_iconst (dt_at dtX12_cupboard 13 rfl) ?_
  exact K_iret (dt_at dtX12_cupboard 14 rfl) rfl rfl (by decide) (by decide) ⟨rfl, Bq3, iq3⟩
set_option maxHeartbeats 4000000 in
set_option maxRecDepth 100000 in
theorem sX12_cupboard {h : HP} {S : HS} {f : Int → Int} {q : Int} {n : Nat} (Q0 : MAsk h S f) (hqt : 0 ≤ q ∧ q < sNt S) (hn : n ≤ 100) : SpecK mX12_cupboard [vr 0, vi q, vi (n : Int)] h (fun o h' => o = .inl (some (vi ((dysF S f n) (29 + q)))) ∧ FQ h h' ∧ hI h' 0 0 = 0) := by
  refine Spec_of (by decide +kernel) (Nat.le_of_ble_eq_true rfl) ?_
  have hB := Q0.1.1
  have hNt := hB.1
  have hNp := hB.2.1
  have R := Q0.2.2.2.2
  have hT := R.1
  have hW := hT.1
  obtain ⟨n1, n2, n3, n4, n5⟩ := dys_R hB R (n := n) (by omega)
  refine K_aload_n (dt_at dtX12_cupboard 0 rfl) rfl rfl ?_
  refine K_iconst (dt_at dtX12_cupboard 1 rfl) ?_
  refine K_putI (a := 0) (ci := 12) (k := 0) (dt_at dtX12_cupboard 2 rfl) (show TT 0 = (0, 12) from rfl) rfl (by decide) wF_X12_105 rfl (Or.inl rfl) rfl rfl ?_
  obtain ⟨hu1, eu1⟩ : ∃ z, z = sI h 0 0 0 := ⟨_, rfl⟩
  rw [← eu1]
  obtain ⟨iu1, fu1, au1, ru1⟩ := sI_fx eu1
  have Gu1 := MG_0 Q0 eu1
  refine K_aload_n (dt_at dtX12_cupboard 3 rfl) rfl rfl ?_
  refine K_iload_n (dt_at dtX12_cupboard 4 rfl) rfl rfl ?_
  refine K_callV (M' := mX12_isThing) (a := 0) (ci := 12) (As := [vi q]) (st := []) (dt_at dtX12_cupboard 5 rfl) (sX12_isThing_t (MD_nt (MG_D0 Gu1)) hNt Gu1.2.2.2 (by omega)) (show TT 0 = (0, 12) from rfl) rfl wL_X12_368 vX12_isThing rfl npX12_isThing (by decide) (by decide) (Nat.le_of_ble_eq_true rfl) (by decide) (by decide) GK_E (fun v9 h9 hq => ?_) (fun E h9 hq => by cases hq.1)
  obtain ⟨e9, e8⟩ := hq
  cases e9
  rw [e8]
  show K mX12_cupboard _ _ 0 0 10 [(0, vr 0), (1, vi q), (2, vi (n : Int))] [vi 1] hu1
  refine K_if_eq (tgt := 23) (dt_at dtX12_cupboard 6 rfl) (by decide) (by first | assumption | exact ⟨by omega, by omega⟩) (fun c1 => absurd c1 (by omega)) (fun c1 => ?_)
  refine K_aload_n (dt_at dtX12_cupboard 7 rfl) rfl rfl ?_
  refine K_iload_n (dt_at dtX12_cupboard 8 rfl) rfl rfl ?_
  refine K_iconst (dt_at dtX12_cupboard 9 rfl) ?_
  refine K_iconst (dt_at dtX12_cupboard 10 rfl) ?_
  refine K_callV (M' := mX12_isSoon) (a := 0) (ci := 12) (As := [vi (n : Int), vi 0, vi 2]) (st := []) (dt_at dtX12_cupboard 11 rfl) (sX12_isSoon_t Gu1.2.2.2 (by omega) (by omega)) (show TT 0 = (0, 12) from rfl) rfl wL_X12_403 vX12_isSoon rfl npX12_isSoon (by decide) (by decide) (Nat.le_of_ble_eq_true rfl) (by decide) (by decide) GK_E (fun v9 h9 hq => ?_) (fun E h9 hq => by cases hq.1)
  obtain ⟨e9, e8⟩ := hq
  cases e9
  rw [e8]
  show K mX12_cupboard _ _ 0 0 20 [(0, vr 0), (1, vi q), (2, vi (n : Int))] [vi 1] hu1
  refine K_if_ne (tgt := 25) (dt_at dtX12_cupboard 12 rfl) (by decide) (by first | assumption | exact ⟨by omega, by omega⟩) (fun c2 => ?_) (fun c2 => absurd c2 (by omega))
  refine K_aload_n (dt_at dtX12_cupboard 15 rfl) rfl rfl ?_
  refine K_iload_n (dt_at dtX12_cupboard 16 rfl) rfl rfl ?_
  refine K_callV (M' := mX12_goesTo) (a := 0) (ci := 12) (As := [vi (n : Int)]) (st := []) (dt_at dtX12_cupboard 17 rfl) (sX12_goesTo Gu1 (by omega)) (show TT 0 = (0, 12) from rfl) rfl wL_X12_406 vX12_goesTo rfl npX12_goesTo (by decide) (by decide) (Nat.le_of_ble_eq_true rfl) (by decide) (by decide) GK_E (fun v9 hc2 hq => ?_) (fun E h9 hq => by cases hq.1)
  have hqq3 := hq
  obtain ⟨e9q3, Gq3, kq3⟩ := hqq3
  cases e9q3
  show K mX12_cupboard _ _ 0 0 30 [(0, vr 0), (1, vi q), (2, vi (n : Int))] [] hc2
  refine K_aload_n (dt_at dtX12_cupboard 18 rfl) rfl rfl ?_
  refine K_get (a := 0) (ci := 12) (k := 42) (v := vr 18) (dt_at dtX12_cupboard 19 rfl) (show TT 0 = (0, 12) from rfl) rfl (by decide) wF_X12_72 rfl ?_
  refine K_sipush (dt_at dtX12_cupboard 20 rfl) (by decide) ?_
  refine K_iload_n (dt_at dtX12_cupboard 21 rfl) rfl rfl ?_
  refine K_iadd (dt_at dtX12_cupboard 22 rfl) ?_
  refine K_iald (dt_at dtX12_cupboard 23 rfl) (show TT 18 = (1, 154) from rfl) (by omega) (by omega) ?_
  rw [show hA hc2 18 (134 + q) = ((dysF S f n) (29 + q)) from RV_s (MG_D7 Gq3).2.2.2 (p := q) (by omega) (by omega)]
  exact K_iret (dt_at dtX12_cupboard 24 rfl) rfl rfl (by decide) (by decide) ⟨rfl, Gq3.2.1, Gq3.2.2.2⟩
def mX12_later : MI := (yX12_later, cX12_later, 5, (some .int), rmK 7 0)
def tX12_later : List (Nat × Instr × Nat) := [(0, .aload_n 0, 1), (1, .iconst 0, 1), (2, .putfield 105, 3), (5, .aload_n 0, 1), (6, .iload_n 2, 1), (7, .iconst 3, 1), (8, .invokevirtual 371, 3), (11, .ifCond .eq 13, 3), (14, .aload_n 0, 1), (15, .iload_n 1, 1), (16, .iconst 0, 1), (17, .iconst 2, 1), (18, .invokevirtual 403, 3), (21, .ifCond .ne 5, 3), (24, .iconst 0, 1), (25, .ireturn, 1), (26, .iconst 0, 1), (27, .istore_n 3, 1), (28, .aload_n 0, 1), (29, .invokevirtual 397, 3), (32, .iconst 0, 1), (33, .istore 4, 2), (35, .iload 4, 2), (37, .iload_n 1, 1), (38, .if_icmp .ge 25, 3), (41, .aload_n 0, 1), (42, .bipush 77, 2), (44, .invokevirtual 334, 3), (47, .iload_n 3, 1), (48, .aload_n 0, 1), (49, .getfield 316, 3), (52, .invokestatic 340, 3), (55, .iadd, 1), (56, .istore_n 3, 1), (57, .iinc 4 1, 3), (60, .goto (-25), 3), (63, .iload_n 2, 1), (64, .ifCond .ne 23, 3), (67, .iconst 1, 1), (68, .aload_n 0, 1), (69, .getfield 270, 3), (72, .ishl, 1), (73, .iconst 1, 1), (74, .isub, 1), (75, .aload_n 0, 1), (76, .bipush 77, 2), (78, .invokevirtual 350, 3), (81, .iconst (-1), 1), (82, .ixor, 1), (83, .iand, 1), (84, .goto 28, 3), (87, .iload_n 2, 1), (88, .iconst 1, 1), (89, .if_icmp .ne 10, 3), (92, .aload_n 0, 1), (93, .invokevirtual 409, 3), (96, .goto 16, 3), (99, .iload_n 2, 1), (100, .iconst 2, 1), (101, .if_icmp .ne 7, 3), (104, .iload_n 3, 1), (105, .goto 7, 3), (108, .aload_n 0, 1), (109, .invokevirtual 412, 3), (112, .ireturn, 1)]
theorem dtX12_later : tX12_later.all (fun q => decide (decode cX12_later q.1 = .ok (q.2.1, q.2.2))) = true := by decide +kernel
theorem npX12_later : (parseMethodDescriptor (mY mX12_later).desc).map (fun d => d.parameters.length) = some 2 := by decide +kernel
theorem vX12_later : mV mX12_later := ⟨wI_X12_later, wS_X12_later, wN_X12, wC_X12_later, by decide +kernel, by decide +kernel⟩
set_option maxHeartbeats 4000000 in
set_option maxRecDepth 100000 in
theorem sX12_later_x1 {h : HP} {S : HS} {f : Int → Int} {d w : Int} (Q0 : MAsk h S f) (hd_ : i32 d) (hw_ : i32 w) (kn : ¬ (0 ≤ w ∧ w ≤ 3)) : SpecK mX12_later [vr 0, vi d, vi w] h (fun o h' => o = .inl (some (vi 0)) ∧ FQ h h' ∧ hI h' 0 0 = 1) := by
  refine Spec_of (by decide +kernel) (Nat.le_of_ble_eq_true rfl) ?_
  have hB := Q0.1.1
  have hNt := hB.1
  have hNp := hB.2.1
  have R := Q0.2.2.2.2
  have hT := R.1
  have hW := hT.1
  refine K_aload_n (dt_at dtX12_later 0 rfl) rfl rfl ?_
  refine K_iconst (dt_at dtX12_later 1 rfl) ?_
  refine K_putI (a := 0) (ci := 12) (k := 0) (dt_at dtX12_later 2 rfl) (show TT 0 = (0, 12) from rfl) rfl (by decide) wF_X12_105 rfl (Or.inl rfl) rfl rfl ?_
  obtain ⟨hu1, eu1⟩ : ∃ z, z = sI h 0 0 0 := ⟨_, rfl⟩
  rw [← eu1]
  obtain ⟨iu1, fu1, au1, ru1⟩ := sI_fx eu1
  have Gu1 := MG_0 Q0 eu1
  refine K_aload_n (dt_at dtX12_later 3 rfl) rfl rfl ?_
  refine K_iload_n (dt_at dtX12_later 4 rfl) rfl rfl ?_
  refine K_iconst (dt_at dtX12_later 5 rfl) ?_
  refine K_callV (M' := mX12_isWhat) (a := 0) (ci := 12) (As := [vi w, vi 3]) (st := []) (dt_at dtX12_later 6 rfl) (sX12_isWhat_f Gu1.2.2.2 (by decide) (by assumption) (by omega)) (show TT 0 = (0, 12) from rfl) rfl wL_X12_371 vX12_isWhat rfl npX12_isWhat (by decide) (by decide) (Nat.le_of_ble_eq_true rfl) (by decide) (by decide) GK_E (fun v9 hc2 hq => ?_) (fun E h9 hq => by cases hq.1)
  have hqq3 := hq
  obtain ⟨e9q3, e8q3⟩ := hqq3
  obtain ⟨iq3, fq3, aq3, rq3⟩ := sI_fx e8q3
  have Bq3 : FQ h hc2 := FQ_tr Gu1.2.1 (FQ_I e8q3 rfl Gu1.2.1.2.2.2.2)
  cases e9q3
  show K mX12_later _ _ 0 0 11 [(0, vr 0), (1, vi d), (2, vi w)] [vi 0] hc2
  refine K_if_eq (tgt := 24) (dt_at dtX12_later 7 rfl) (by decide) (by first | assumption | exact ⟨by omega, by omega⟩) (fun c1 => ?_) (fun c1 => absurd c1 (by omega))
  refine K_iconst (dt_at dtX12_later 14 rfl) ?_
  exact K_iret (dt_at dtX12_later 15 rfl) rfl rfl (by decide) (by decide) ⟨rfl, Bq3, iq3⟩
set_option maxHeartbeats 4000000 in
set_option maxRecDepth 100000 in
theorem sX12_later_x2 {h : HP} {S : HS} {f : Int → Int} {d w : Int} (Q0 : MAsk h S f) (hd_ : i32 d) (hw_ : i32 w) (k0 : 0 ≤ w ∧ w ≤ 3) (kn : ¬ (0 ≤ d ∧ d ≤ 100)) : SpecK mX12_later [vr 0, vi d, vi w] h (fun o h' => o = .inl (some (vi 0)) ∧ FQ h h' ∧ hI h' 0 0 = 2) := by
  refine Spec_of (by decide +kernel) (Nat.le_of_ble_eq_true rfl) ?_
  have hB := Q0.1.1
  have hNt := hB.1
  have hNp := hB.2.1
  have R := Q0.2.2.2.2
  have hT := R.1
  have hW := hT.1
  refine K_aload_n (dt_at dtX12_later 0 rfl) rfl rfl ?_
  refine K_iconst (dt_at dtX12_later 1 rfl) ?_
  refine K_putI (a := 0) (ci := 12) (k := 0) (dt_at dtX12_later 2 rfl) (show TT 0 = (0, 12) from rfl) rfl (by decide) wF_X12_105 rfl (Or.inl rfl) rfl rfl ?_
  obtain ⟨hu1, eu1⟩ : ∃ z, z = sI h 0 0 0 := ⟨_, rfl⟩
  rw [← eu1]
  obtain ⟨iu1, fu1, au1, ru1⟩ := sI_fx eu1
  have Gu1 := MG_0 Q0 eu1
  refine K_aload_n (dt_at dtX12_later 3 rfl) rfl rfl ?_
  refine K_iload_n (dt_at dtX12_later 4 rfl) rfl rfl ?_
  refine K_iconst (dt_at dtX12_later 5 rfl) ?_
  refine K_callV (M' := mX12_isWhat) (a := 0) (ci := 12) (As := [vi w, vi 3]) (st := []) (dt_at dtX12_later 6 rfl) (sX12_isWhat_t Gu1.2.2.2 (by omega) (by omega)) (show TT 0 = (0, 12) from rfl) rfl wL_X12_371 vX12_isWhat rfl npX12_isWhat (by decide) (by decide) (Nat.le_of_ble_eq_true rfl) (by decide) (by decide) GK_E (fun v9 h9 hq => ?_) (fun E h9 hq => by cases hq.1)
  obtain ⟨e9, e8⟩ := hq
  cases e9
  rw [e8]
  show K mX12_later _ _ 0 0 11 [(0, vr 0), (1, vi d), (2, vi w)] [vi 1] hu1
  refine K_if_eq (tgt := 24) (dt_at dtX12_later 7 rfl) (by decide) (by first | assumption | exact ⟨by omega, by omega⟩) (fun c1 => absurd c1 (by omega)) (fun c1 => ?_)
  refine K_aload_n (dt_at dtX12_later 8 rfl) rfl rfl ?_
  refine K_iload_n (dt_at dtX12_later 9 rfl) rfl rfl ?_
  refine K_iconst (dt_at dtX12_later 10 rfl) ?_
  refine K_iconst (dt_at dtX12_later 11 rfl) ?_
  refine K_callV (M' := mX12_isSoon) (a := 0) (ci := 12) (As := [vi d, vi 0, vi 2]) (st := []) (dt_at dtX12_later 12 rfl) (sX12_isSoon_f Gu1.2.2.2 (by decide) (by assumption) (by omega) (by decide)) (show TT 0 = (0, 12) from rfl) rfl wL_X12_403 vX12_isSoon rfl npX12_isSoon (by decide) (by decide) (Nat.le_of_ble_eq_true rfl) (by decide) (by decide) GK_E (fun v9 hc2 hq => ?_) (fun E h9 hq => by cases hq.1)
  have hqq3 := hq
  obtain ⟨e9q3, e8q3⟩ := hqq3
  obtain ⟨iq3, fq3, aq3, rq3⟩ := sI_fx e8q3
  have Bq3 : FQ h hc2 := FQ_tr Gu1.2.1 (FQ_I e8q3 rfl Gu1.2.1.2.2.2.2)
  cases e9q3
  show K mX12_later _ _ 0 0 21 [(0, vr 0), (1, vi d), (2, vi w)] [vi 0] hc2
  refine K_if_ne (tgt := 26) (dt_at dtX12_later 13 rfl) (by decide) (by first | assumption | exact ⟨by omega, by omega⟩) (fun c2 => absurd c2 (by omega)) (fun c2 => ?_)
  refine K_iconst (dt_at dtX12_later 14 rfl) ?_
  exact K_iret (dt_at dtX12_later 15 rfl) rfl rfl (by decide) (by decide) ⟨rfl, Bq3, iq3⟩
set_option maxHeartbeats 4000000 in
set_option maxRecDepth 100000 in
theorem lp_X12_later_0 {h : HP} {S : HS} {f : Int → Int} {n : Nat} (Q0 : MAsk h S f) (hn : n ≤ 100) : ∀ (dd k : Nat) (hh : HP), k + dd = n → MG h hh S f (dysF S f k) → K mX12_later GK (ZK (fun o h' => o = .inl (some (vi (bitN (fun j => decide (((dysF S f n) (1 + (j : Int))) ≠ 0)) (sNp S)))) ∧ FQ h h' ∧ hI h' 0 0 = 0) 0 0) 0 0 35 [(4, vi (k : Int)), (3, vi (emD S f 0 k)), (0, vr 0), (1, vi (n : Int)), (2, vi 0)] [] hh := by
  intro dd
  induction dd with
  | zero =>
    intro k hh hk G
    have hB := Q0.1.1
    have hNt := hB.1
    have hNp := hB.2.1
    have R := Q0.2.2.2.2
    have hT := R.1
    have hW := hT.1
    obtain ⟨a1, a2, a3, a4, a5⟩ := dys_R hB R (n := k) (by omega)
    have ek : k = n := by omega
    subst ek
    refine K_iload (dt_at dtX12_later 22 rfl) rfl ?_
    refine K_iload_n (dt_at dtX12_later 23 rfl) rfl rfl ?_
    refine K_icmp_ge (tgt := 63) (dt_at dtX12_later 24 rfl) (by decide) (by first | assumption | exact ⟨by omega, by omega⟩) (by first | assumption | exact ⟨by omega, by omega⟩) (fun c1 => ?_) (fun c1 => absurd c1 (by omega))
    refine K_iload_n (dt_at dtX12_later 36 rfl) rfl rfl ?_
    refine K_if_ne (tgt := 87) (dt_at dtX12_later 37 rfl) (by decide) (by first | assumption | exact ⟨by omega, by omega⟩) (fun c2 => absurd c2 (by omega)) (fun c2 => ?_)
    refine K_iconst (dt_at dtX12_later 38 rfl) ?_
    refine K_aload_n (dt_at dtX12_later 39 rfl) rfl rfl ?_
    refine K_get (a := 0) (ci := 12) (k := 2) (v := vi (sNp S : Int)) (dt_at dtX12_later 40 rfl) (show TT 0 = (0, 12) from rfl) rfl (by decide) wF_X12_270 (by show vi (hI hh 0 2) = vi (sNp S : Int); rw [(MD_np (MG_D0 G))]) ?_
    refine K_ishl (dt_at dtX12_later 41 rfl) ?_
    refine K_iconst (dt_at dtX12_later 42 rfl) ?_
    refine K_isub (dt_at dtX12_later 43 rfl) ?_
    refine K_aload_n (dt_at dtX12_later 44 rfl) rfl rfl ?_
    refine K_bipush (dt_at dtX12_later 45 rfl) (by decide) ?_
    refine K_callV (M' := mX12_inOnes) (a := 0) (ci := 12) (As := [vi 77]) (st := [vi ((bShl 1 (sNp S : Int)) - 1)]) (dt_at dtX12_later 46 rfl) (sX12_inOnes (MG_D7 G) a1.1) (show TT 0 = (0, 12) from rfl) rfl wL_X12_350 vX12_inOnes rfl npX12_inOnes (by decide) (by decide) (Nat.le_of_ble_eq_true rfl) (by decide) (by decide) GK_E (fun v9 h9 hq => ?_) (fun E h9 hq => by cases hq.1)
    obtain ⟨e9, e8⟩ := hq
    cases e9
    rw [e8]
    show K mX12_later _ _ 0 0 81 [(4, vi (k : Int)), (3, vi (emD S f 0 k)), (0, vr 0), (1, vi (k : Int)), (2, vi 0)] [vi (bitN (fun j => decide ((dysF S f k) (1 + (j : Int)) = 0)) (sNp S)), vi ((bShl 1 (sNp S : Int)) - 1)] hh
    refine K_iconst (dt_at dtX12_later 47 rfl) ?_
    refine K_ixor (dt_at dtX12_later 48 rfl) ?_
    refine K_iand (dt_at dtX12_later 49 rfl) ?_
    refine K_goto (tgt := 112) (dt_at dtX12_later 50 rfl) (by decide) ?_
    exact K_iret (dt_at dtX12_later 64 rfl) rfl rfl (by decide) (by decide) ⟨by rw [out_eq hB], G.2.1, G.2.2.2⟩
  | succ dd ih =>
    intro k hh hk G
    have hB := Q0.1.1
    have hNt := hB.1
    have hNp := hB.2.1
    have R := Q0.2.2.2.2
    have hT := R.1
    have hW := hT.1
    obtain ⟨a1, a2, a3, a4, a5⟩ := dys_R hB R (n := k) (by omega)
    obtain ⟨n1, n2, n3, n4, n5⟩ := dys_R hB R (n := k + 1) (by omega)
    refine K_iload (dt_at dtX12_later 22 rfl) rfl ?_
    refine K_iload_n (dt_at dtX12_later 23 rfl) rfl rfl ?_
    refine K_icmp_ge (tgt := 63) (dt_at dtX12_later 24 rfl) (by decide) (by first | assumption | exact ⟨by omega, by omega⟩) (by first | assumption | exact ⟨by omega, by omega⟩) (fun c1 => absurd c1 (by omega)) (fun c1 => ?_)
    refine K_aload_n (dt_at dtX12_later 25 rfl) rfl rfl ?_
    refine K_bipush (dt_at dtX12_later 26 rfl) (by decide) ?_
    refine K_callV (M' := mX12_dayGoes) (a := 0) (ci := 12) (As := [vi 77]) (st := []) (dt_at dtX12_later 27 rfl) (sX12_dayGoes (MG_D7 G) a1 a2 a3 a4 (MG_49 G)) (show TT 0 = (0, 12) from rfl) rfl wL_X12_334 vX12_dayGoes rfl npX12_dayGoes (by decide) (by decide) (Nat.le_of_ble_eq_true rfl) (by decide) (by decide) GK_E (fun v9 hc1 hq => ?_) (fun E h9 hq => by cases hq.1)
    have hqq2 := hq
    obtain ⟨e9q2, dq2, ⟨lq2, mq2⟩, iq2⟩ := hqq2
    have Gq2 : MG h hc1 S f (dysF S f (k + 1)) := MG_day G dq2
    cases e9q2
    show K mX12_later _ _ 0 0 47 [(4, vi (k : Int)), (3, vi (emD S f 0 k)), (0, vr 0), (1, vi (n : Int)), (2, vi 0)] [] hc1
    refine K_iload_n (dt_at dtX12_later 28 rfl) rfl rfl ?_
    refine K_aload_n (dt_at dtX12_later 29 rfl) rfl rfl ?_
    refine K_get (a := 0) (ci := 12) (k := 48) (v := vi (bitN (emA S (dysF S f k)) (sNp S))) (dt_at dtX12_later 30 rfl) (show TT 0 = (0, 12) from rfl) rfl (by decide) wF_X12_316 (by show vi (hI hc1 0 48) = vi (bitN (emA S (dysF S f k)) (sNp S)); rw [mq2]) ?_
    refine K_callS (M' := mX12_bits) (As := [vi (bitN (emA S (dysF S f k)) (sNp S))]) (st := [vi (emD S f 0 k)]) (dt_at dtX12_later 31 rfl) (sX12_bits) wL_X12_340 vX12_bits rfl npX12_bits (by decide) (by decide) (Nat.le_of_ble_eq_true rfl) (by decide) (by decide) GK_E (fun v9 h9 hq => ?_) (fun E h9 hq => by cases hq.1)
    obtain ⟨e9, e8⟩ := hq
    cases e9
    rw [e8]
    show K mX12_later _ _ 0 0 55 [(4, vi (k : Int)), (3, vi (emD S f 0 k)), (0, vr 0), (1, vi (n : Int)), (2, vi 0)] [vi (bitC (bitN (emA S (dysF S f k)) (sNp S))), vi (emD S f 0 k)] hc1
    refine K_iadd (dt_at dtX12_later 32 rfl) ?_
    refine K_istore_n (ls' := [(3, vi ((emD S f 0 k) + (bitC (bitN (emA S (dysF S f k)) (sNp S))))), (4, vi (k : Int)), (0, vr 0), (1, vi (n : Int)), (2, vi 0)]) (dt_at dtX12_later 33 rfl) rfl (by decide) rfl ?_
    refine K_iinc (ls' := [(4, vi ((k : Int) + 1)), (3, vi ((emD S f 0 k) + (bitC (bitN (emA S (dysF S f k)) (sNp S))))), (0, vr 0), (1, vi (n : Int)), (2, vi 0)]) (dt_at dtX12_later 34 rfl) rfl (by decide) rfl ?_
    refine K_goto (tgt := 35) (dt_at dtX12_later 35 rfl) (by decide) ?_
    refine K_pk [0, 1, 2, 3, 4] (ls' := [(4, vi ((k : Int) + 1)), (3, vi ((emD S f 0 k) + (bitC (bitN (emA S (dysF S f k)) (sNp S))))), (0, vr 0), (1, vi (n : Int)), (2, vi 0)]) rfl ?_
    exact K_cg (ls' := [(4, vi ((k + 1 : Nat) : Int)), (3, vi (emD S f 0 (k + 1))), (0, vr 0), (1, vi (n : Int)), (2, vi 0)]) (h' := hc1) (by rw [emD_s hB k]; rfl) rfl (ih (k + 1) hc1 (by omega) Gq2)
set_option maxHeartbeats 4000000 in
set_option maxRecDepth 100000 in
theorem sX12_later_0 {h : HP} {S : HS} {f : Int → Int} {n : Nat} (Q0 : MAsk h S f) (hn : n ≤ 100) : SpecK mX12_later [vr 0, vi (n : Int), vi 0] h (fun o h' => o = .inl (some (vi (bitN (fun j => decide (((dysF S f n) (1 + (j : Int))) ≠ 0)) (sNp S)))) ∧ FQ h h' ∧ hI h' 0 0 = 0) := by
  refine Spec_of (by decide +kernel) (Nat.le_of_ble_eq_true rfl) ?_
  have hB := Q0.1.1
  have hNt := hB.1
  have hNp := hB.2.1
  have R := Q0.2.2.2.2
  have hT := R.1
  have hW := hT.1
  refine K_aload_n (dt_at dtX12_later 0 rfl) rfl rfl ?_
  refine K_iconst (dt_at dtX12_later 1 rfl) ?_
  refine K_putI (a := 0) (ci := 12) (k := 0) (dt_at dtX12_later 2 rfl) (show TT 0 = (0, 12) from rfl) rfl (by decide) wF_X12_105 rfl (Or.inl rfl) rfl rfl ?_
  obtain ⟨hu1, eu1⟩ : ∃ z, z = sI h 0 0 0 := ⟨_, rfl⟩
  rw [← eu1]
  obtain ⟨iu1, fu1, au1, ru1⟩ := sI_fx eu1
  have Gu1 := MG_0 Q0 eu1
  refine K_aload_n (dt_at dtX12_later 3 rfl) rfl rfl ?_
  refine K_iload_n (dt_at dtX12_later 4 rfl) rfl rfl ?_
  refine K_iconst (dt_at dtX12_later 5 rfl) ?_
  refine K_callV (M' := mX12_isWhat) (a := 0) (ci := 12) (As := [vi 0, vi 3]) (st := []) (dt_at dtX12_later 6 rfl) (sX12_isWhat_t Gu1.2.2.2 (by omega) (by omega)) (show TT 0 = (0, 12) from rfl) rfl wL_X12_371 vX12_isWhat rfl npX12_isWhat (by decide) (by decide) (Nat.le_of_ble_eq_true rfl) (by decide) (by decide) GK_E (fun v9 h9 hq => ?_) (fun E h9 hq => by cases hq.1)
  obtain ⟨e9, e8⟩ := hq
  cases e9
  rw [e8]
  show K mX12_later _ _ 0 0 11 [(0, vr 0), (1, vi (n : Int)), (2, vi 0)] [vi 1] hu1
  refine K_if_eq (tgt := 24) (dt_at dtX12_later 7 rfl) (by decide) (by first | assumption | exact ⟨by omega, by omega⟩) (fun c1 => absurd c1 (by omega)) (fun c1 => ?_)
  refine K_aload_n (dt_at dtX12_later 8 rfl) rfl rfl ?_
  refine K_iload_n (dt_at dtX12_later 9 rfl) rfl rfl ?_
  refine K_iconst (dt_at dtX12_later 10 rfl) ?_
  refine K_iconst (dt_at dtX12_later 11 rfl) ?_
  refine K_callV (M' := mX12_isSoon) (a := 0) (ci := 12) (As := [vi (n : Int), vi 0, vi 2]) (st := []) (dt_at dtX12_later 12 rfl) (sX12_isSoon_t Gu1.2.2.2 (by omega) (by omega)) (show TT 0 = (0, 12) from rfl) rfl wL_X12_403 vX12_isSoon rfl npX12_isSoon (by decide) (by decide) (Nat.le_of_ble_eq_true rfl) (by decide) (by decide) GK_E (fun v9 h9 hq => ?_) (fun E h9 hq => by cases hq.1)
  obtain ⟨e9, e8⟩ := hq
  cases e9
  rw [e8]
  show K mX12_later _ _ 0 0 21 [(0, vr 0), (1, vi (n : Int)), (2, vi 0)] [vi 1] hu1
  refine K_if_ne (tgt := 26) (dt_at dtX12_later 13 rfl) (by decide) (by first | assumption | exact ⟨by omega, by omega⟩) (fun c2 => ?_) (fun c2 => absurd c2 (by omega))
  refine K_iconst (dt_at dtX12_later 16 rfl) ?_
  refine K_istore_n (ls' := [(3, vi 0), (0, vr 0), (1, vi (n : Int)), (2, vi 0)]) (dt_at dtX12_later 17 rfl) rfl (by decide) rfl ?_
  refine K_aload_n (dt_at dtX12_later 18 rfl) rfl rfl ?_
  refine K_callV (M' := mX12_tries) (a := 0) (ci := 12) (As := []) (st := []) (dt_at dtX12_later 19 rfl) (sX12_tries) (show TT 0 = (0, 12) from rfl) rfl wL_X12_397 vX12_tries rfl npX12_tries (by decide) (by decide) (Nat.le_of_ble_eq_true rfl) (by decide) (by decide) GK_E (fun v9 hc2 hq => ?_) (fun E h9 hq => by cases hq.1)
  have hqq3 := hq
  obtain ⟨e9q3, t1q3, t2q3, t3q3, t4q3⟩ := hqq3
  have Gq3 := MG_try Gu1 t1q3 t2q3 t3q3 t4q3
  cases e9q3
  show K mX12_later _ _ 0 0 32 [(3, vi 0), (0, vr 0), (1, vi (n : Int)), (2, vi 0)] [] hc2
  refine K_iconst (dt_at dtX12_later 20 rfl) ?_
  refine K_istore (ls' := [(4, vi 0), (3, vi 0), (0, vr 0), (1, vi (n : Int)), (2, vi 0)]) (dt_at dtX12_later 21 rfl) (by decide) rfl ?_
  exact K_pk [0, 1, 2, 3, 4] rfl (lp_X12_later_0 Q0 hn n 0 hc2 (by omega) Gq3)
set_option maxHeartbeats 4000000 in
set_option maxRecDepth 100000 in
theorem lp_X12_later_1 {h : HP} {S : HS} {f : Int → Int} {n : Nat} (Q0 : MAsk h S f) (hn : n ≤ 100) : ∀ (dd k : Nat) (hh : HP), k + dd = n → MG h hh S f (dysF S f k) → K mX12_later GK (ZK (fun o h' => o = .inl (some (vi (selN (fun j v => decide (((dysF S f n) (22 + (j : Int))) ≠ -1) && (decide (v = -1) || decide (((dysF S f n) (15 + (j : Int))) < ((dysF S f n) (15 + v))))) (sNp S)))) ∧ FQ h h' ∧ hI h' 0 0 = 0) 0 0) 0 0 35 [(4, vi (k : Int)), (3, vi (emD S f 0 k)), (0, vr 0), (1, vi (n : Int)), (2, vi 1)] [] hh := by
  intro dd
  induction dd with
  | zero =>
    intro k hh hk G
    have hB := Q0.1.1
    have hNt := hB.1
    have hNp := hB.2.1
    have R := Q0.2.2.2.2
    have hT := R.1
    have hW := hT.1
    obtain ⟨a1, a2, a3, a4, a5⟩ := dys_R hB R (n := k) (by omega)
    have ek : k = n := by omega
    subst ek
    refine K_iload (dt_at dtX12_later 22 rfl) rfl ?_
    refine K_iload_n (dt_at dtX12_later 23 rfl) rfl rfl ?_
    refine K_icmp_ge (tgt := 63) (dt_at dtX12_later 24 rfl) (by decide) (by first | assumption | exact ⟨by omega, by omega⟩) (by first | assumption | exact ⟨by omega, by omega⟩) (fun c1 => ?_) (fun c1 => absurd c1 (by omega))
    refine K_iload_n (dt_at dtX12_later 36 rfl) rfl rfl ?_
    refine K_if_ne (tgt := 87) (dt_at dtX12_later 37 rfl) (by decide) (by first | assumption | exact ⟨by omega, by omega⟩) (fun c2 => ?_) (fun c2 => absurd c2 (by omega))
    refine K_iload_n (dt_at dtX12_later 51 rfl) rfl rfl ?_
    refine K_iconst (dt_at dtX12_later 52 rfl) ?_
    refine K_icmp_ne (tgt := 99) (dt_at dtX12_later 53 rfl) (by decide) (by first | assumption | exact ⟨by omega, by omega⟩) (by first | assumption | exact ⟨by omega, by omega⟩) (fun c3 => absurd c3 (by omega)) (fun c3 => ?_)
    refine K_aload_n (dt_at dtX12_later 54 rfl) rfl rfl ?_
    refine K_callV (M' := mX12_crossest) (a := 0) (ci := 12) (As := []) (st := []) (dt_at dtX12_later 55 rfl) (sX12_crossest (MG_D7 G) a1.1) (show TT 0 = (0, 12) from rfl) rfl wL_X12_409 vX12_crossest rfl npX12_crossest (by decide) (by decide) (Nat.le_of_ble_eq_true rfl) (by decide) (by decide) GK_E (fun v9 h9 hq => ?_) (fun E h9 hq => by cases hq.1)
    obtain ⟨e9, e8⟩ := hq
    cases e9
    rw [e8]
    show K mX12_later _ _ 0 0 96 [(4, vi (k : Int)), (3, vi (emD S f 0 k)), (0, vr 0), (1, vi (k : Int)), (2, vi 1)] [vi (selN (fun j v => decide (((dysF S f k) (22 + (j : Int))) ≠ -1) && (decide (v = -1) || decide (((dysF S f k) (15 + (j : Int))) < ((dysF S f k) (15 + v))))) (sNp S))] hh
    refine K_goto (tgt := 112) (dt_at dtX12_later 56 rfl) (by decide) ?_
    exact K_iret (dt_at dtX12_later 64 rfl) rfl rfl (by decide) (by decide) ⟨rfl, G.2.1, G.2.2.2⟩
  | succ dd ih =>
    intro k hh hk G
    have hB := Q0.1.1
    have hNt := hB.1
    have hNp := hB.2.1
    have R := Q0.2.2.2.2
    have hT := R.1
    have hW := hT.1
    obtain ⟨a1, a2, a3, a4, a5⟩ := dys_R hB R (n := k) (by omega)
    obtain ⟨n1, n2, n3, n4, n5⟩ := dys_R hB R (n := k + 1) (by omega)
    refine K_iload (dt_at dtX12_later 22 rfl) rfl ?_
    refine K_iload_n (dt_at dtX12_later 23 rfl) rfl rfl ?_
    refine K_icmp_ge (tgt := 63) (dt_at dtX12_later 24 rfl) (by decide) (by first | assumption | exact ⟨by omega, by omega⟩) (by first | assumption | exact ⟨by omega, by omega⟩) (fun c1 => absurd c1 (by omega)) (fun c1 => ?_)
    refine K_aload_n (dt_at dtX12_later 25 rfl) rfl rfl ?_
    refine K_bipush (dt_at dtX12_later 26 rfl) (by decide) ?_
    refine K_callV (M' := mX12_dayGoes) (a := 0) (ci := 12) (As := [vi 77]) (st := []) (dt_at dtX12_later 27 rfl) (sX12_dayGoes (MG_D7 G) a1 a2 a3 a4 (MG_49 G)) (show TT 0 = (0, 12) from rfl) rfl wL_X12_334 vX12_dayGoes rfl npX12_dayGoes (by decide) (by decide) (Nat.le_of_ble_eq_true rfl) (by decide) (by decide) GK_E (fun v9 hc1 hq => ?_) (fun E h9 hq => by cases hq.1)
    have hqq2 := hq
    obtain ⟨e9q2, dq2, ⟨lq2, mq2⟩, iq2⟩ := hqq2
    have Gq2 : MG h hc1 S f (dysF S f (k + 1)) := MG_day G dq2
    cases e9q2
    show K mX12_later _ _ 0 0 47 [(4, vi (k : Int)), (3, vi (emD S f 0 k)), (0, vr 0), (1, vi (n : Int)), (2, vi 1)] [] hc1
    refine K_iload_n (dt_at dtX12_later 28 rfl) rfl rfl ?_
    refine K_aload_n (dt_at dtX12_later 29 rfl) rfl rfl ?_
    refine K_get (a := 0) (ci := 12) (k := 48) (v := vi (bitN (emA S (dysF S f k)) (sNp S))) (dt_at dtX12_later 30 rfl) (show TT 0 = (0, 12) from rfl) rfl (by decide) wF_X12_316 (by show vi (hI hc1 0 48) = vi (bitN (emA S (dysF S f k)) (sNp S)); rw [mq2]) ?_
    refine K_callS (M' := mX12_bits) (As := [vi (bitN (emA S (dysF S f k)) (sNp S))]) (st := [vi (emD S f 0 k)]) (dt_at dtX12_later 31 rfl) (sX12_bits) wL_X12_340 vX12_bits rfl npX12_bits (by decide) (by decide) (Nat.le_of_ble_eq_true rfl) (by decide) (by decide) GK_E (fun v9 h9 hq => ?_) (fun E h9 hq => by cases hq.1)
    obtain ⟨e9, e8⟩ := hq
    cases e9
    rw [e8]
    show K mX12_later _ _ 0 0 55 [(4, vi (k : Int)), (3, vi (emD S f 0 k)), (0, vr 0), (1, vi (n : Int)), (2, vi 1)] [vi (bitC (bitN (emA S (dysF S f k)) (sNp S))), vi (emD S f 0 k)] hc1
    refine K_iadd (dt_at dtX12_later 32 rfl) ?_
    refine K_istore_n (ls' := [(3, vi ((emD S f 0 k) + (bitC (bitN (emA S (dysF S f k)) (sNp S))))), (4, vi (k : Int)), (0, vr 0), (1, vi (n : Int)), (2, vi 1)]) (dt_at dtX12_later 33 rfl) rfl (by decide) rfl ?_
    refine K_iinc (ls' := [(4, vi ((k : Int) + 1)), (3, vi ((emD S f 0 k) + (bitC (bitN (emA S (dysF S f k)) (sNp S))))), (0, vr 0), (1, vi (n : Int)), (2, vi 1)]) (dt_at dtX12_later 34 rfl) rfl (by decide) rfl ?_
    refine K_goto (tgt := 35) (dt_at dtX12_later 35 rfl) (by decide) ?_
    refine K_pk [0, 1, 2, 3, 4] (ls' := [(4, vi ((k : Int) + 1)), (3, vi ((emD S f 0 k) + (bitC (bitN (emA S (dysF S f k)) (sNp S))))), (0, vr 0), (1, vi (n : Int)), (2, vi 1)]) rfl ?_
    exact K_cg (ls' := [(4, vi ((k + 1 : Nat) : Int)), (3, vi (emD S f 0 (k + 1))), (0, vr 0), (1, vi (n : Int)), (2, vi 1)]) (h' := hc1) (by rw [emD_s hB k]; rfl) rfl (ih (k + 1) hc1 (by omega) Gq2)
set_option maxHeartbeats 4000000 in
set_option maxRecDepth 100000 in
theorem sX12_later_1 {h : HP} {S : HS} {f : Int → Int} {n : Nat} (Q0 : MAsk h S f) (hn : n ≤ 100) : SpecK mX12_later [vr 0, vi (n : Int), vi 1] h (fun o h' => o = .inl (some (vi (selN (fun j v => decide (((dysF S f n) (22 + (j : Int))) ≠ -1) && (decide (v = -1) || decide (((dysF S f n) (15 + (j : Int))) < ((dysF S f n) (15 + v))))) (sNp S)))) ∧ FQ h h' ∧ hI h' 0 0 = 0) := by
  refine Spec_of (by decide +kernel) (Nat.le_of_ble_eq_true rfl) ?_
  have hB := Q0.1.1
  have hNt := hB.1
  have hNp := hB.2.1
  have R := Q0.2.2.2.2
  have hT := R.1
  have hW := hT.1
  refine K_aload_n (dt_at dtX12_later 0 rfl) rfl rfl ?_
  refine K_iconst (dt_at dtX12_later 1 rfl) ?_
  refine K_putI (a := 0) (ci := 12) (k := 0) (dt_at dtX12_later 2 rfl) (show TT 0 = (0, 12) from rfl) rfl (by decide) wF_X12_105 rfl (Or.inl rfl) rfl rfl ?_
  obtain ⟨hu1, eu1⟩ : ∃ z, z = sI h 0 0 0 := ⟨_, rfl⟩
  rw [← eu1]
  obtain ⟨iu1, fu1, au1, ru1⟩ := sI_fx eu1
  have Gu1 := MG_0 Q0 eu1
  refine K_aload_n (dt_at dtX12_later 3 rfl) rfl rfl ?_
  refine K_iload_n (dt_at dtX12_later 4 rfl) rfl rfl ?_
  refine K_iconst (dt_at dtX12_later 5 rfl) ?_
  refine K_callV (M' := mX12_isWhat) (a := 0) (ci := 12) (As := [vi 1, vi 3]) (st := []) (dt_at dtX12_later 6 rfl) (sX12_isWhat_t Gu1.2.2.2 (by omega) (by omega)) (show TT 0 = (0, 12) from rfl) rfl wL_X12_371 vX12_isWhat rfl npX12_isWhat (by decide) (by decide) (Nat.le_of_ble_eq_true rfl) (by decide) (by decide) GK_E (fun v9 h9 hq => ?_) (fun E h9 hq => by cases hq.1)
  obtain ⟨e9, e8⟩ := hq
  cases e9
  rw [e8]
  show K mX12_later _ _ 0 0 11 [(0, vr 0), (1, vi (n : Int)), (2, vi 1)] [vi 1] hu1
  refine K_if_eq (tgt := 24) (dt_at dtX12_later 7 rfl) (by decide) (by first | assumption | exact ⟨by omega, by omega⟩) (fun c1 => absurd c1 (by omega)) (fun c1 => ?_)
  refine K_aload_n (dt_at dtX12_later 8 rfl) rfl rfl ?_
  refine K_iload_n (dt_at dtX12_later 9 rfl) rfl rfl ?_
  refine K_iconst (dt_at dtX12_later 10 rfl) ?_
  refine K_iconst (dt_at dtX12_later 11 rfl) ?_
  refine K_callV (M' := mX12_isSoon) (a := 0) (ci := 12) (As := [vi (n : Int), vi 0, vi 2]) (st := []) (dt_at dtX12_later 12 rfl) (sX12_isSoon_t Gu1.2.2.2 (by omega) (by omega)) (show TT 0 = (0, 12) from rfl) rfl wL_X12_403 vX12_isSoon rfl npX12_isSoon (by decide) (by decide) (Nat.le_of_ble_eq_true rfl) (by decide) (by decide) GK_E (fun v9 h9 hq => ?_) (fun E h9 hq => by cases hq.1)
  obtain ⟨e9, e8⟩ := hq
  cases e9
  rw [e8]
  show K mX12_later _ _ 0 0 21 [(0, vr 0), (1, vi (n : Int)), (2, vi 1)] [vi 1] hu1
  refine K_if_ne (tgt := 26) (dt_at dtX12_later 13 rfl) (by decide) (by first | assumption | exact ⟨by omega, by omega⟩) (fun c2 => ?_) (fun c2 => absurd c2 (by omega))
  refine K_iconst (dt_at dtX12_later 16 rfl) ?_
  refine K_istore_n (ls' := [(3, vi 0), (0, vr 0), (1, vi (n : Int)), (2, vi 1)]) (dt_at dtX12_later 17 rfl) rfl (by decide) rfl ?_
  refine K_aload_n (dt_at dtX12_later 18 rfl) rfl rfl ?_
  refine K_callV (M' := mX12_tries) (a := 0) (ci := 12) (As := []) (st := []) (dt_at dtX12_later 19 rfl) (sX12_tries) (show TT 0 = (0, 12) from rfl) rfl wL_X12_397 vX12_tries rfl npX12_tries (by decide) (by decide) (Nat.le_of_ble_eq_true rfl) (by decide) (by decide) GK_E (fun v9 hc2 hq => ?_) (fun E h9 hq => by cases hq.1)
  have hqq3 := hq
  obtain ⟨e9q3, t1q3, t2q3, t3q3, t4q3⟩ := hqq3
  have Gq3 := MG_try Gu1 t1q3 t2q3 t3q3 t4q3
  cases e9q3
  show K mX12_later _ _ 0 0 32 [(3, vi 0), (0, vr 0), (1, vi (n : Int)), (2, vi 1)] [] hc2
  refine K_iconst (dt_at dtX12_later 20 rfl) ?_
  refine K_istore (ls' := [(4, vi 0), (3, vi 0), (0, vr 0), (1, vi (n : Int)), (2, vi 1)]) (dt_at dtX12_later 21 rfl) (by decide) rfl ?_
  exact K_pk [0, 1, 2, 3, 4] rfl (lp_X12_later_1 Q0 hn n 0 hc2 (by omega) Gq3)
set_option maxHeartbeats 4000000 in
set_option maxRecDepth 100000 in
theorem lp_X12_later_2 {h : HP} {S : HS} {f : Int → Int} {n : Nat} (Q0 : MAsk h S f) (hn : n ≤ 100) : ∀ (dd k : Nat) (hh : HP), k + dd = n → MG h hh S f (dysF S f k) → K mX12_later GK (ZK (fun o h' => o = .inl (some (vi (emD S f 0 n))) ∧ FQ h h' ∧ hI h' 0 0 = 0) 0 0) 0 0 35 [(4, vi (k : Int)), (3, vi (emD S f 0 k)), (0, vr 0), (1, vi (n : Int)), (2, vi 2)] [] hh := by
  intro dd
  induction dd with
  | zero =>
    intro k hh hk G
    have hB := Q0.1.1
    have hNt := hB.1
    have hNp := hB.2.1
    have R := Q0.2.2.2.2
    have hT := R.1
    have hW := hT.1
    obtain ⟨a1, a2, a3, a4, a5⟩ := dys_R hB R (n := k) (by omega)
    have ek : k = n := by omega
    subst ek
    refine K_iload (dt_at dtX12_later 22 rfl) rfl ?_
    refine K_iload_n (dt_at dtX12_later 23 rfl) rfl rfl ?_
    refine K_icmp_ge (tgt := 63) (dt_at dtX12_later 24 rfl) (by decide) (by first | assumption | exact ⟨by omega, by omega⟩) (by first | assumption | exact ⟨by omega, by omega⟩) (fun c1 => ?_) (fun c1 => absurd c1 (by omega))
    refine K_iload_n (dt_at dtX12_later 36 rfl) rfl rfl ?_
    refine K_if_ne (tgt := 87) (dt_at dtX12_later 37 rfl) (by decide) (by first | assumption | exact ⟨by omega, by omega⟩) (fun c2 => ?_) (fun c2 => absurd c2 (by omega))
    refine K_iload_n (dt_at dtX12_later 51 rfl) rfl rfl ?_
    refine K_iconst (dt_at dtX12_later 52 rfl) ?_
    refine K_icmp_ne (tgt := 99) (dt_at dtX12_later 53 rfl) (by decide) (by first | assumption | exact ⟨by omega, by omega⟩) (by first | assumption | exact ⟨by omega, by omega⟩) (fun c3 => ?_) (fun c3 => absurd c3 (by omega))
    refine K_iload_n (dt_at dtX12_later 57 rfl) rfl rfl ?_
    refine K_iconst (dt_at dtX12_later 58 rfl) ?_
    refine K_icmp_ne (tgt := 108) (dt_at dtX12_later 59 rfl) (by decide) (by first | assumption | exact ⟨by omega, by omega⟩) (by first | assumption | exact ⟨by omega, by omega⟩) (fun c4 => absurd c4 (by omega)) (fun c4 => ?_)
    refine K_iload_n (dt_at dtX12_later 60 rfl) rfl rfl ?_
    refine K_goto (tgt := 112) (dt_at dtX12_later 61 rfl) (by decide) ?_
    exact K_iret (dt_at dtX12_later 64 rfl) rfl rfl (by decide) (by decide) ⟨rfl, G.2.1, G.2.2.2⟩
  | succ dd ih =>
    intro k hh hk G
    have hB := Q0.1.1
    have hNt := hB.1
    have hNp := hB.2.1
    have R := Q0.2.2.2.2
    have hT := R.1
    have hW := hT.1
    obtain ⟨a1, a2, a3, a4, a5⟩ := dys_R hB R (n := k) (by omega)
    obtain ⟨n1, n2, n3, n4, n5⟩ := dys_R hB R (n := k + 1) (by omega)
    refine K_iload (dt_at dtX12_later 22 rfl) rfl ?_
    refine K_iload_n (dt_at dtX12_later 23 rfl) rfl rfl ?_
    refine K_icmp_ge (tgt := 63) (dt_at dtX12_later 24 rfl) (by decide) (by first | assumption | exact ⟨by omega, by omega⟩) (by first | assumption | exact ⟨by omega, by omega⟩) (fun c1 => absurd c1 (by omega)) (fun c1 => ?_)
    refine K_aload_n (dt_at dtX12_later 25 rfl) rfl rfl ?_
    refine K_bipush (dt_at dtX12_later 26 rfl) (by decide) ?_
    refine K_callV (M' := mX12_dayGoes) (a := 0) (ci := 12) (As := [vi 77]) (st := []) (dt_at dtX12_later 27 rfl) (sX12_dayGoes (MG_D7 G) a1 a2 a3 a4 (MG_49 G)) (show TT 0 = (0, 12) from rfl) rfl wL_X12_334 vX12_dayGoes rfl npX12_dayGoes (by decide) (by decide) (Nat.le_of_ble_eq_true rfl) (by decide) (by decide) GK_E (fun v9 hc1 hq => ?_) (fun E h9 hq => by cases hq.1)
    have hqq2 := hq
    obtain ⟨e9q2, dq2, ⟨lq2, mq2⟩, iq2⟩ := hqq2
    have Gq2 : MG h hc1 S f (dysF S f (k + 1)) := MG_day G dq2
    cases e9q2
    show K mX12_later _ _ 0 0 47 [(4, vi (k : Int)), (3, vi (emD S f 0 k)), (0, vr 0), (1, vi (n : Int)), (2, vi 2)] [] hc1
    refine K_iload_n (dt_at dtX12_later 28 rfl) rfl rfl ?_
    refine K_aload_n (dt_at dtX12_later 29 rfl) rfl rfl ?_
    refine K_get (a := 0) (ci := 12) (k := 48) (v := vi (bitN (emA S (dysF S f k)) (sNp S))) (dt_at dtX12_later 30 rfl) (show TT 0 = (0, 12) from rfl) rfl (by decide) wF_X12_316 (by show vi (hI hc1 0 48) = vi (bitN (emA S (dysF S f k)) (sNp S)); rw [mq2]) ?_
    refine K_callS (M' := mX12_bits) (As := [vi (bitN (emA S (dysF S f k)) (sNp S))]) (st := [vi (emD S f 0 k)]) (dt_at dtX12_later 31 rfl) (sX12_bits) wL_X12_340 vX12_bits rfl npX12_bits (by decide) (by decide) (Nat.le_of_ble_eq_true rfl) (by decide) (by decide) GK_E (fun v9 h9 hq => ?_) (fun E h9 hq => by cases hq.1)
    obtain ⟨e9, e8⟩ := hq
    cases e9
    rw [e8]
    show K mX12_later _ _ 0 0 55 [(4, vi (k : Int)), (3, vi (emD S f 0 k)), (0, vr 0), (1, vi (n : Int)), (2, vi 2)] [vi (bitC (bitN (emA S (dysF S f k)) (sNp S))), vi (emD S f 0 k)] hc1
    refine K_iadd (dt_at dtX12_later 32 rfl) ?_
    refine K_istore_n (ls' := [(3, vi ((emD S f 0 k) + (bitC (bitN (emA S (dysF S f k)) (sNp S))))), (4, vi (k : Int)), (0, vr 0), (1, vi (n : Int)), (2, vi 2)]) (dt_at dtX12_later 33 rfl) rfl (by decide) rfl ?_
    refine K_iinc (ls' := [(4, vi ((k : Int) + 1)), (3, vi ((emD S f 0 k) + (bitC (bitN (emA S (dysF S f k)) (sNp S))))), (0, vr 0), (1, vi (n : Int)), (2, vi 2)]) (dt_at dtX12_later 34 rfl) rfl (by decide) rfl ?_
    refine K_goto (tgt := 35) (dt_at dtX12_later 35 rfl) (by decide) ?_
    refine K_pk [0, 1, 2, 3, 4] (ls' := [(4, vi ((k : Int) + 1)), (3, vi ((emD S f 0 k) + (bitC (bitN (emA S (dysF S f k)) (sNp S))))), (0, vr 0), (1, vi (n : Int)), (2, vi 2)]) rfl ?_
    exact K_cg (ls' := [(4, vi ((k + 1 : Nat) : Int)), (3, vi (emD S f 0 (k + 1))), (0, vr 0), (1, vi (n : Int)), (2, vi 2)]) (h' := hc1) (by rw [emD_s hB k]; rfl) rfl (ih (k + 1) hc1 (by omega) Gq2)
set_option maxHeartbeats 4000000 in
set_option maxRecDepth 100000 in
theorem sX12_later_2 {h : HP} {S : HS} {f : Int → Int} {n : Nat} (Q0 : MAsk h S f) (hn : n ≤ 100) : SpecK mX12_later [vr 0, vi (n : Int), vi 2] h (fun o h' => o = .inl (some (vi (emD S f 0 n))) ∧ FQ h h' ∧ hI h' 0 0 = 0) := by
  refine Spec_of (by decide +kernel) (Nat.le_of_ble_eq_true rfl) ?_
  have hB := Q0.1.1
  have hNt := hB.1
  have hNp := hB.2.1
  have R := Q0.2.2.2.2
  have hT := R.1
  have hW := hT.1
  refine K_aload_n (dt_at dtX12_later 0 rfl) rfl rfl ?_
  refine K_iconst (dt_at dtX12_later 1 rfl) ?_
  refine K_putI (a := 0) (ci := 12) (k := 0) (dt_at dtX12_later 2 rfl) (show TT 0 = (0, 12) from rfl) rfl (by decide) wF_X12_105 rfl (Or.inl rfl) rfl rfl ?_
  obtain ⟨hu1, eu1⟩ : ∃ z, z = sI h 0 0 0 := ⟨_, rfl⟩
  rw [← eu1]
  obtain ⟨iu1, fu1, au1, ru1⟩ := sI_fx eu1
  have Gu1 := MG_0 Q0 eu1
  refine K_aload_n (dt_at dtX12_later 3 rfl) rfl rfl ?_
  refine K_iload_n (dt_at dtX12_later 4 rfl) rfl rfl ?_
  refine K_iconst (dt_at dtX12_later 5 rfl) ?_
  refine K_callV (M' := mX12_isWhat) (a := 0) (ci := 12) (As := [vi 2, vi 3]) (st := []) (dt_at dtX12_later 6 rfl) (sX12_isWhat_t Gu1.2.2.2 (by omega) (by omega)) (show TT 0 = (0, 12) from rfl) rfl wL_X12_371 vX12_isWhat rfl npX12_isWhat (by decide) (by decide) (Nat.le_of_ble_eq_true rfl) (by decide) (by decide) GK_E (fun v9 h9 hq => ?_) (fun E h9 hq => by cases hq.1)
  obtain ⟨e9, e8⟩ := hq
  cases e9
  rw [e8]
  show K mX12_later _ _ 0 0 11 [(0, vr 0), (1, vi (n : Int)), (2, vi 2)] [vi 1] hu1
  refine K_if_eq (tgt := 24) (dt_at dtX12_later 7 rfl) (by decide) (by first | assumption | exact ⟨by omega, by omega⟩) (fun c1 => absurd c1 (by omega)) (fun c1 => ?_)
  refine K_aload_n (dt_at dtX12_later 8 rfl) rfl rfl ?_
  refine K_iload_n (dt_at dtX12_later 9 rfl) rfl rfl ?_
  refine K_iconst (dt_at dtX12_later 10 rfl) ?_
  refine K_iconst (dt_at dtX12_later 11 rfl) ?_
  refine K_callV (M' := mX12_isSoon) (a := 0) (ci := 12) (As := [vi (n : Int), vi 0, vi 2]) (st := []) (dt_at dtX12_later 12 rfl) (sX12_isSoon_t Gu1.2.2.2 (by omega) (by omega)) (show TT 0 = (0, 12) from rfl) rfl wL_X12_403 vX12_isSoon rfl npX12_isSoon (by decide) (by decide) (Nat.le_of_ble_eq_true rfl) (by decide) (by decide) GK_E (fun v9 h9 hq => ?_) (fun E h9 hq => by cases hq.1)
  obtain ⟨e9, e8⟩ := hq
  cases e9
  rw [e8]
  show K mX12_later _ _ 0 0 21 [(0, vr 0), (1, vi (n : Int)), (2, vi 2)] [vi 1] hu1
  refine K_if_ne (tgt := 26) (dt_at dtX12_later 13 rfl) (by decide) (by first | assumption | exact ⟨by omega, by omega⟩) (fun c2 => ?_) (fun c2 => absurd c2 (by omega))
  refine K_iconst (dt_at dtX12_later 16 rfl) ?_
  refine K_istore_n (ls' := [(3, vi 0), (0, vr 0), (1, vi (n : Int)), (2, vi 2)]) (dt_at dtX12_later 17 rfl) rfl (by decide) rfl ?_
  refine K_aload_n (dt_at dtX12_later 18 rfl) rfl rfl ?_
  refine K_callV (M' := mX12_tries) (a := 0) (ci := 12) (As := []) (st := []) (dt_at dtX12_later 19 rfl) (sX12_tries) (show TT 0 = (0, 12) from rfl) rfl wL_X12_397 vX12_tries rfl npX12_tries (by decide) (by decide) (Nat.le_of_ble_eq_true rfl) (by decide) (by decide) GK_E (fun v9 hc2 hq => ?_) (fun E h9 hq => by cases hq.1)
  have hqq3 := hq
  obtain ⟨e9q3, t1q3, t2q3, t3q3, t4q3⟩ := hqq3
  have Gq3 := MG_try Gu1 t1q3 t2q3 t3q3 t4q3
  cases e9q3
  show K mX12_later _ _ 0 0 32 [(3, vi 0), (0, vr 0), (1, vi (n : Int)), (2, vi 2)] [] hc2
  refine K_iconst (dt_at dtX12_later 20 rfl) ?_
  refine K_istore (ls' := [(4, vi 0), (3, vi 0), (0, vr 0), (1, vi (n : Int)), (2, vi 2)]) (dt_at dtX12_later 21 rfl) (by decide) rfl ?_
  exact K_pk [0, 1, 2, 3, 4] rfl (lp_X12_later_2 Q0 hn n 0 hc2 (by omega) Gq3)
set_option maxHeartbeats 4000000 in
set_option maxRecDepth 100000 in
theorem lp_X12_later_3 {h : HP} {S : HS} {f : Int → Int} {n : Nat} (Q0 : MAsk h S f) (hn : n ≤ 100) : ∀ (dd k : Nat) (hh : HP), k + dd = n → MG h hh S f (dysF S f k) → K mX12_later GK (ZK (fun o h' => o = .inl (some (vi (fmN 0 0 (-1) (fun j => sumF (sW S) (dysF S f n) (j : Int) (sNt S)) (sNp S)))) ∧ FQ h h' ∧ hI h' 0 0 = 0) 0 0) 0 0 35 [(4, vi (k : Int)), (3, vi (emD S f 0 k)), (0, vr 0), (1, vi (n : Int)), (2, vi 3)] [] hh := by
  intro dd
  induction dd with
  | zero =>
    intro k hh hk G
    have hB := Q0.1.1
    have hNt := hB.1
    have hNp := hB.2.1
    have R := Q0.2.2.2.2
    have hT := R.1
    have hW := hT.1
    obtain ⟨a1, a2, a3, a4, a5⟩ := dys_R hB R (n := k) (by omega)
    have ek : k = n := by omega
    subst ek
    refine K_iload (dt_at dtX12_later 22 rfl) rfl ?_
    refine K_iload_n (dt_at dtX12_later 23 rfl) rfl rfl ?_
    refine K_icmp_ge (tgt := 63) (dt_at dtX12_later 24 rfl) (by decide) (by first | assumption | exact ⟨by omega, by omega⟩) (by first | assumption | exact ⟨by omega, by omega⟩) (fun c1 => ?_) (fun c1 => absurd c1 (by omega))
    refine K_iload_n (dt_at dtX12_later 36 rfl) rfl rfl ?_
    refine K_if_ne (tgt := 87) (dt_at dtX12_later 37 rfl) (by decide) (by first | assumption | exact ⟨by omega, by omega⟩) (fun c2 => ?_) (fun c2 => absurd c2 (by omega))
    refine K_iload_n (dt_at dtX12_later 51 rfl) rfl rfl ?_
    refine K_iconst (dt_at dtX12_later 52 rfl) ?_
    refine K_icmp_ne (tgt := 99) (dt_at dtX12_later 53 rfl) (by decide) (by first | assumption | exact ⟨by omega, by omega⟩) (by first | assumption | exact ⟨by omega, by omega⟩) (fun c3 => ?_) (fun c3 => absurd c3 (by omega))
    refine K_iload_n (dt_at dtX12_later 57 rfl) rfl rfl ?_
    refine K_iconst (dt_at dtX12_later 58 rfl) ?_
    refine K_icmp_ne (tgt := 108) (dt_at dtX12_later 59 rfl) (by decide) (by first | assumption | exact ⟨by omega, by omega⟩) (by first | assumption | exact ⟨by omega, by omega⟩) (fun c4 => ?_) (fun c4 => absurd c4 (by omega))
    refine K_aload_n (dt_at dtX12_later 62 rfl) rfl rfl ?_
    refine K_callV (M' := mX12_heaviest) (a := 0) (ci := 12) (As := []) (st := []) (dt_at dtX12_later 63 rfl) (sX12_heaviest (MG_D7 G) a1.1 a1) (show TT 0 = (0, 12) from rfl) rfl wL_X12_412 vX12_heaviest rfl npX12_heaviest (by decide) (by decide) (Nat.le_of_ble_eq_true rfl) (by decide) (by decide) GK_E (fun v9 h9 hq => ?_) (fun E h9 hq => by cases hq.1)
    obtain ⟨e9, e8⟩ := hq
    cases e9
    rw [e8]
    show K mX12_later _ _ 0 0 112 [(4, vi (k : Int)), (3, vi (emD S f 0 k)), (0, vr 0), (1, vi (k : Int)), (2, vi 3)] [vi (fmN 0 0 (-1) (fun j => sumF (sW S) (dysF S f k) (j : Int) (sNt S)) (sNp S))] hh
    exact K_iret (dt_at dtX12_later 64 rfl) rfl rfl (by decide) (by decide) ⟨rfl, G.2.1, G.2.2.2⟩
  | succ dd ih =>
    intro k hh hk G
    have hB := Q0.1.1
    have hNt := hB.1
    have hNp := hB.2.1
    have R := Q0.2.2.2.2
    have hT := R.1
    have hW := hT.1
    obtain ⟨a1, a2, a3, a4, a5⟩ := dys_R hB R (n := k) (by omega)
    obtain ⟨n1, n2, n3, n4, n5⟩ := dys_R hB R (n := k + 1) (by omega)
    refine K_iload (dt_at dtX12_later 22 rfl) rfl ?_
    refine K_iload_n (dt_at dtX12_later 23 rfl) rfl rfl ?_
    refine K_icmp_ge (tgt := 63) (dt_at dtX12_later 24 rfl) (by decide) (by first | assumption | exact ⟨by omega, by omega⟩) (by first | assumption | exact ⟨by omega, by omega⟩) (fun c1 => absurd c1 (by omega)) (fun c1 => ?_)
    refine K_aload_n (dt_at dtX12_later 25 rfl) rfl rfl ?_
    refine K_bipush (dt_at dtX12_later 26 rfl) (by decide) ?_
    refine K_callV (M' := mX12_dayGoes) (a := 0) (ci := 12) (As := [vi 77]) (st := []) (dt_at dtX12_later 27 rfl) (sX12_dayGoes (MG_D7 G) a1 a2 a3 a4 (MG_49 G)) (show TT 0 = (0, 12) from rfl) rfl wL_X12_334 vX12_dayGoes rfl npX12_dayGoes (by decide) (by decide) (Nat.le_of_ble_eq_true rfl) (by decide) (by decide) GK_E (fun v9 hc1 hq => ?_) (fun E h9 hq => by cases hq.1)
    have hqq2 := hq
    obtain ⟨e9q2, dq2, ⟨lq2, mq2⟩, iq2⟩ := hqq2
    have Gq2 : MG h hc1 S f (dysF S f (k + 1)) := MG_day G dq2
    cases e9q2
    show K mX12_later _ _ 0 0 47 [(4, vi (k : Int)), (3, vi (emD S f 0 k)), (0, vr 0), (1, vi (n : Int)), (2, vi 3)] [] hc1
    refine K_iload_n (dt_at dtX12_later 28 rfl) rfl rfl ?_
    refine K_aload_n (dt_at dtX12_later 29 rfl) rfl rfl ?_
    refine K_get (a := 0) (ci := 12) (k := 48) (v := vi (bitN (emA S (dysF S f k)) (sNp S))) (dt_at dtX12_later 30 rfl) (show TT 0 = (0, 12) from rfl) rfl (by decide) wF_X12_316 (by show vi (hI hc1 0 48) = vi (bitN (emA S (dysF S f k)) (sNp S)); rw [mq2]) ?_
    refine K_callS (M' := mX12_bits) (As := [vi (bitN (emA S (dysF S f k)) (sNp S))]) (st := [vi (emD S f 0 k)]) (dt_at dtX12_later 31 rfl) (sX12_bits) wL_X12_340 vX12_bits rfl npX12_bits (by decide) (by decide) (Nat.le_of_ble_eq_true rfl) (by decide) (by decide) GK_E (fun v9 h9 hq => ?_) (fun E h9 hq => by cases hq.1)
    obtain ⟨e9, e8⟩ := hq
    cases e9
    rw [e8]
    show K mX12_later _ _ 0 0 55 [(4, vi (k : Int)), (3, vi (emD S f 0 k)), (0, vr 0), (1, vi (n : Int)), (2, vi 3)] [vi (bitC (bitN (emA S (dysF S f k)) (sNp S))), vi (emD S f 0 k)] hc1
    refine K_iadd (dt_at dtX12_later 32 rfl) ?_
    refine K_istore_n (ls' := [(3, vi ((emD S f 0 k) + (bitC (bitN (emA S (dysF S f k)) (sNp S))))), (4, vi (k : Int)), (0, vr 0), (1, vi (n : Int)), (2, vi 3)]) (dt_at dtX12_later 33 rfl) rfl (by decide) rfl ?_
    refine K_iinc (ls' := [(4, vi ((k : Int) + 1)), (3, vi ((emD S f 0 k) + (bitC (bitN (emA S (dysF S f k)) (sNp S))))), (0, vr 0), (1, vi (n : Int)), (2, vi 3)]) (dt_at dtX12_later 34 rfl) rfl (by decide) rfl ?_
    refine K_goto (tgt := 35) (dt_at dtX12_later 35 rfl) (by decide) ?_
    refine K_pk [0, 1, 2, 3, 4] (ls' := [(4, vi ((k : Int) + 1)), (3, vi ((emD S f 0 k) + (bitC (bitN (emA S (dysF S f k)) (sNp S))))), (0, vr 0), (1, vi (n : Int)), (2, vi 3)]) rfl ?_
    exact K_cg (ls' := [(4, vi ((k + 1 : Nat) : Int)), (3, vi (emD S f 0 (k + 1))), (0, vr 0), (1, vi (n : Int)), (2, vi 3)]) (h' := hc1) (by rw [emD_s hB k]; rfl) rfl (ih (k + 1) hc1 (by omega) Gq2)
set_option maxHeartbeats 4000000 in
set_option maxRecDepth 100000 in
theorem sX12_later_3 {h : HP} {S : HS} {f : Int → Int} {n : Nat} (Q0 : MAsk h S f) (hn : n ≤ 100) : SpecK mX12_later [vr 0, vi (n : Int), vi 3] h (fun o h' => o = .inl (some (vi (fmN 0 0 (-1) (fun j => sumF (sW S) (dysF S f n) (j : Int) (sNt S)) (sNp S)))) ∧ FQ h h' ∧ hI h' 0 0 = 0) := by
  refine Spec_of (by decide +kernel) (Nat.le_of_ble_eq_true rfl) ?_
  have hB := Q0.1.1
  have hNt := hB.1
  have hNp := hB.2.1
  have R := Q0.2.2.2.2
  have hT := R.1
  have hW := hT.1
  refine K_aload_n (dt_at dtX12_later 0 rfl) rfl rfl ?_
  refine K_iconst (dt_at dtX12_later 1 rfl) ?_
  refine K_putI (a := 0) (ci := 12) (k := 0) (dt_at dtX12_later 2 rfl) (show TT 0 = (0, 12) from rfl) rfl (by decide) wF_X12_105 rfl (Or.inl rfl) rfl rfl ?_
  obtain ⟨hu1, eu1⟩ : ∃ z, z = sI h 0 0 0 := ⟨_, rfl⟩
  rw [← eu1]
  obtain ⟨iu1, fu1, au1, ru1⟩ := sI_fx eu1
  have Gu1 := MG_0 Q0 eu1
  refine K_aload_n (dt_at dtX12_later 3 rfl) rfl rfl ?_
  refine K_iload_n (dt_at dtX12_later 4 rfl) rfl rfl ?_
  refine K_iconst (dt_at dtX12_later 5 rfl) ?_
  refine K_callV (M' := mX12_isWhat) (a := 0) (ci := 12) (As := [vi 3, vi 3]) (st := []) (dt_at dtX12_later 6 rfl) (sX12_isWhat_t Gu1.2.2.2 (by omega) (by omega)) (show TT 0 = (0, 12) from rfl) rfl wL_X12_371 vX12_isWhat rfl npX12_isWhat (by decide) (by decide) (Nat.le_of_ble_eq_true rfl) (by decide) (by decide) GK_E (fun v9 h9 hq => ?_) (fun E h9 hq => by cases hq.1)
  obtain ⟨e9, e8⟩ := hq
  cases e9
  rw [e8]
  show K mX12_later _ _ 0 0 11 [(0, vr 0), (1, vi (n : Int)), (2, vi 3)] [vi 1] hu1
  refine K_if_eq (tgt := 24) (dt_at dtX12_later 7 rfl) (by decide) (by first | assumption | exact ⟨by omega, by omega⟩) (fun c1 => absurd c1 (by omega)) (fun c1 => ?_)
  refine K_aload_n (dt_at dtX12_later 8 rfl) rfl rfl ?_
  refine K_iload_n (dt_at dtX12_later 9 rfl) rfl rfl ?_
  refine K_iconst (dt_at dtX12_later 10 rfl) ?_
  refine K_iconst (dt_at dtX12_later 11 rfl) ?_
  refine K_callV (M' := mX12_isSoon) (a := 0) (ci := 12) (As := [vi (n : Int), vi 0, vi 2]) (st := []) (dt_at dtX12_later 12 rfl) (sX12_isSoon_t Gu1.2.2.2 (by omega) (by omega)) (show TT 0 = (0, 12) from rfl) rfl wL_X12_403 vX12_isSoon rfl npX12_isSoon (by decide) (by decide) (Nat.le_of_ble_eq_true rfl) (by decide) (by decide) GK_E (fun v9 h9 hq => ?_) (fun E h9 hq => by cases hq.1)
  obtain ⟨e9, e8⟩ := hq
  cases e9
  rw [e8]
  show K mX12_later _ _ 0 0 21 [(0, vr 0), (1, vi (n : Int)), (2, vi 3)] [vi 1] hu1
  refine K_if_ne (tgt := 26) (dt_at dtX12_later 13 rfl) (by decide) (by first | assumption | exact ⟨by omega, by omega⟩) (fun c2 => ?_) (fun c2 => absurd c2 (by omega))
  refine K_iconst (dt_at dtX12_later 16 rfl) ?_
  refine K_istore_n (ls' := [(3, vi 0), (0, vr 0), (1, vi (n : Int)), (2, vi 3)]) (dt_at dtX12_later 17 rfl) rfl (by decide) rfl ?_
  refine K_aload_n (dt_at dtX12_later 18 rfl) rfl rfl ?_
  refine K_callV (M' := mX12_tries) (a := 0) (ci := 12) (As := []) (st := []) (dt_at dtX12_later 19 rfl) (sX12_tries) (show TT 0 = (0, 12) from rfl) rfl wL_X12_397 vX12_tries rfl npX12_tries (by decide) (by decide) (Nat.le_of_ble_eq_true rfl) (by decide) (by decide) GK_E (fun v9 hc2 hq => ?_) (fun E h9 hq => by cases hq.1)
  have hqq3 := hq
  obtain ⟨e9q3, t1q3, t2q3, t3q3, t4q3⟩ := hqq3
  have Gq3 := MG_try Gu1 t1q3 t2q3 t3q3 t4q3
  cases e9q3
  show K mX12_later _ _ 0 0 32 [(3, vi 0), (0, vr 0), (1, vi (n : Int)), (2, vi 3)] [] hc2
  refine K_iconst (dt_at dtX12_later 20 rfl) ?_
  refine K_istore (ls' := [(4, vi 0), (3, vi 0), (0, vr 0), (1, vi (n : Int)), (2, vi 3)]) (dt_at dtX12_later 21 rfl) (by decide) rfl ?_
  exact K_pk [0, 1, 2, 3, 4] rfl (lp_X12_later_3 Q0 hn n 0 hc2 (by omega) Gq3)
def mX12_next : MI := (yX12_next, cX12_next, 4, (some .int), rmK 7 0)
def tX12_next : List (Nat × Instr × Nat) := [(0, .aload_n 0, 1), (1, .iconst 0, 1), (2, .putfield 105, 3), (5, .aload_n 0, 1), (6, .iload_n 1, 1), (7, .invokevirtual 375, 3), (10, .ifCond .ne 5, 3), (13, .iconst 0, 1), (14, .ireturn, 1), (15, .aload_n 0, 1), (16, .iconst 0, 1), (17, .invokevirtual 350, 3), (20, .iload_n 1, 1), (21, .ishr, 1), (22, .iconst 1, 1), (23, .iand, 1), (24, .istore_n 2, 1), (25, .aload_n 0, 1), (26, .invokevirtual 397, 3), (29, .iconst 1, 1), (30, .istore_n 3, 1), (31, .iload_n 3, 1), (32, .bipush 100, 2), (34, .if_icmp .gt 31, 3), (37, .aload_n 0, 1), (38, .bipush 77, 2), (40, .invokevirtual 334, 3), (43, .aload_n 0, 1), (44, .bipush 77, 2), (46, .invokevirtual 350, 3), (49, .iload_n 1, 1), (50, .ishr, 1), (51, .iconst 1, 1), (52, .iand, 1), (53, .iload_n 2, 1), (54, .if_icmp .eq 5, 3), (57, .iload_n 3, 1), (58, .ireturn, 1), (59, .iinc 3 1, 3), (62, .goto (-31), 3), (65, .iconst (-1), 1), (66, .ireturn, 1)]
theorem dtX12_next : tX12_next.all (fun q => decide (decode cX12_next q.1 = .ok (q.2.1, q.2.2))) = true := by decide +kernel
theorem npX12_next : (parseMethodDescriptor (mY mX12_next).desc).map (fun d => d.parameters.length) = some 1 := by decide +kernel
theorem vX12_next : mV mX12_next := ⟨wI_X12_next, wS_X12_next, wN_X12, wC_X12_next, by decide +kernel, by decide +kernel⟩
set_option maxHeartbeats 4000000 in
set_option maxRecDepth 100000 in
theorem sX12_next_x1 {h : HP} {S : HS} {f : Int → Int} {p : Int} (Q0 : MAsk h S f) (hp_ : i32 p) (kn : ¬ (0 ≤ p ∧ p < sNp S)) : SpecK mX12_next [vr 0, vi p] h (fun o h' => o = .inl (some (vi 0)) ∧ FQ h h' ∧ hI h' 0 0 = 1) := by
  refine Spec_of (by decide +kernel) (Nat.le_of_ble_eq_true rfl) ?_
  have hB := Q0.1.1
  have hNt := hB.1
  have hNp := hB.2.1
  have R := Q0.2.2.2.2
  have hT := R.1
  have hW := hT.1
  refine K_aload_n (dt_at dtX12_next 0 rfl) rfl rfl ?_
  refine K_iconst (dt_at dtX12_next 1 rfl) ?_
  refine K_putI (a := 0) (ci := 12) (k := 0) (dt_at dtX12_next 2 rfl) (show TT 0 = (0, 12) from rfl) rfl (by decide) wF_X12_105 rfl (Or.inl rfl) rfl rfl ?_
  obtain ⟨hu1, eu1⟩ : ∃ z, z = sI h 0 0 0 := ⟨_, rfl⟩
  rw [← eu1]
  obtain ⟨iu1, fu1, au1, ru1⟩ := sI_fx eu1
  have Gu1 := MG_0 Q0 eu1
  refine K_aload_n (dt_at dtX12_next 3 rfl) rfl rfl ?_
  refine K_iload_n (dt_at dtX12_next 4 rfl) rfl rfl ?_
  refine K_callV (M' := mX12_isPerson) (a := 0) (ci := 12) (As := [vi p]) (st := []) (dt_at dtX12_next 5 rfl) (sX12_isPerson_f (MD_np (MG_D0 Gu1)) hNp Gu1.2.2.2 (by assumption) (by omega)) (show TT 0 = (0, 12) from rfl) rfl wL_X12_375 vX12_isPerson rfl npX12_isPerson (by decide) (by decide) (Nat.le_of_ble_eq_true rfl) (by decide) (by decide) GK_E (fun v9 hc2 hq => ?_) (fun E h9 hq => by cases hq.1)
  have hqq3 := hq
  obtain ⟨e9q3, e8q3⟩ := hqq3
  obtain ⟨iq3, fq3, aq3, rq3⟩ := sI_fx e8q3
  have Bq3 : FQ h hc2 := FQ_tr Gu1.2.1 (FQ_I e8q3 rfl Gu1.2.1.2.2.2.2)
  cases e9q3
  show K mX12_next _ _ 0 0 10 [(0, vr 0), (1, vi p)] [vi 0] hc2
  refine K_if_ne (tgt := 15) (dt_at dtX12_next 6 rfl) (by decide) (by first | assumption | exact ⟨by omega, by omega⟩) (fun c1 => absurd c1 (by omega)) (fun c1 => ?_)
  refine K_iconst (dt_at dtX12_next 7 rfl) ?_
  exact K_iret (dt_at dtX12_next 8 rfl) rfl rfl (by decide) (by decide) ⟨rfl, Bq3, iq3⟩
set_option maxHeartbeats 4000000 in
set_option maxRecDepth 100000 in
theorem lp_X12_next {h : HP} {S : HS} {f : Int → Int} {p : Int} {A : Int} (Q0 : MAsk h S f) (hp : 0 ≤ p ∧ p < sNp S) : ∀ (dd k : Nat) (hh : HP), k + dd = 100 → MG h hh S f (dysF S f k) → A = srN (fun k => if (if dysF S f (k + 1) (1 + p) = 0 then (1 : Int) else 0) = (if f (1 + p) = 0 then 1 else 0) then none else some ((k : Int) + 1)) (-1) k dd → K mX12_next GK (ZK (fun o h' => o = .inl (some (vi A)) ∧ FQ h h' ∧ hI h' 0 0 = 0) 0 0) 0 0 31 [(3, vi ((k : Int) + 1)), (2, vi (bAnd (bShr (bitN (fun j => decide (f (1 + (j : Int)) = 0)) (sNp S)) p) 1)), (0, vr 0), (1, vi p)] [] hh := by
  intro dd
  induction dd with
  | zero =>
    intro k hh hk G ea
    have hB := Q0.1.1
    have hNt := hB.1
    have hNp := hB.2.1
    have R := Q0.2.2.2.2
    have hT := R.1
    have hW := hT.1
    obtain ⟨a1, a2, a3, a4, a5⟩ := dys_R hB R (n := k) (by omega)
    have ek : k = 100 := by omega
    refine K_iload_n (dt_at dtX12_next 21 rfl) rfl rfl ?_
    refine K_bipush (dt_at dtX12_next 22 rfl) (by decide) ?_
    refine K_icmp_gt (tgt := 65) (dt_at dtX12_next 23 rfl) (by decide) (by first | assumption | exact ⟨by omega, by omega⟩) (by first | assumption | exact ⟨by omega, by omega⟩) (fun c1 => ?_) (fun c1 => absurd c1 (by omega))
    refine K_iconst (dt_at dtX12_next 40 rfl) ?_
    exact K_iret (dt_at dtX12_next 41 rfl) rfl rfl (by decide) (by decide) ⟨by rw [ea]; rfl, G.2.1, G.2.2.2⟩
  | succ dd ih =>
    intro k hh hk G ea
    have hB := Q0.1.1
    have hNt := hB.1
    have hNp := hB.2.1
    have R := Q0.2.2.2.2
    have hT := R.1
    have hW := hT.1
    obtain ⟨a1, a2, a3, a4, a5⟩ := dys_R hB R (n := k) (by omega)
    obtain ⟨n1, n2, n3, n4, n5⟩ := dys_R hB R (n := k + 1) (by omega)
    have e1 := in_at (g := dysF S f (k + 1)) hB hp
    have e2 := in_at (g := f) hB hp
    refine K_iload_n (dt_at dtX12_next 21 rfl) rfl rfl ?_
    refine K_bipush (dt_at dtX12_next 22 rfl) (by decide) ?_
    refine K_icmp_gt (tgt := 65) (dt_at dtX12_next 23 rfl) (by decide) (by first | assumption | exact ⟨by omega, by omega⟩) (by first | assumption | exact ⟨by omega, by omega⟩) (fun c1 => absurd c1 (by omega)) (fun c1 => ?_)
    refine K_aload_n (dt_at dtX12_next 24 rfl) rfl rfl ?_
    refine K_bipush (dt_at dtX12_next 25 rfl) (by decide) ?_
    refine K_callV (M' := mX12_dayGoes) (a := 0) (ci := 12) (As := [vi 77]) (st := []) (dt_at dtX12_next 26 rfl) (sX12_dayGoes (MG_D7 G) a1 a2 a3 a4 (MG_49 G)) (show TT 0 = (0, 12) from rfl) rfl wL_X12_334 vX12_dayGoes rfl npX12_dayGoes (by decide) (by decide) (Nat.le_of_ble_eq_true rfl) (by decide) (by decide) GK_E (fun v9 hc1 hq => ?_) (fun E h9 hq => by cases hq.1)
    have hqq2 := hq
    obtain ⟨e9q2, dq2, ⟨lq2, mq2⟩, iq2⟩ := hqq2
    have Gq2 : MG h hc1 S f (dysF S f (k + 1)) := MG_day G dq2
    cases e9q2
    show K mX12_next _ _ 0 0 43 [(3, vi ((k : Int) + 1)), (2, vi (bAnd (bShr (bitN (fun j => decide (f (1 + (j : Int)) = 0)) (sNp S)) p) 1)), (0, vr 0), (1, vi p)] [] hc1
    refine K_aload_n (dt_at dtX12_next 27 rfl) rfl rfl ?_
    refine K_bipush (dt_at dtX12_next 28 rfl) (by decide) ?_
    refine K_callV (M' := mX12_inOnes) (a := 0) (ci := 12) (As := [vi 77]) (st := []) (dt_at dtX12_next 29 rfl) (sX12_inOnes (MG_D7 Gq2) n1.1) (show TT 0 = (0, 12) from rfl) rfl wL_X12_350 vX12_inOnes rfl npX12_inOnes (by decide) (by decide) (Nat.le_of_ble_eq_true rfl) (by decide) (by decide) GK_E (fun v9 h9 hq => ?_) (fun E h9 hq => by cases hq.1)
    obtain ⟨e9, e8⟩ := hq
    cases e9
    rw [e8]
    show K mX12_next _ _ 0 0 49 [(3, vi ((k : Int) + 1)), (2, vi (bAnd (bShr (bitN (fun j => decide (f (1 + (j : Int)) = 0)) (sNp S)) p) 1)), (0, vr 0), (1, vi p)] [vi (bitN (fun j => decide ((dysF S f (k + 1)) (1 + (j : Int)) = 0)) (sNp S))] hc1
    refine K_iload_n (dt_at dtX12_next 30 rfl) rfl rfl ?_
    refine K_ishr (dt_at dtX12_next 31 rfl) ?_
    refine K_iconst (dt_at dtX12_next 32 rfl) ?_
    refine K_iand (dt_at dtX12_next 33 rfl) ?_
    refine K_iload_n (dt_at dtX12_next 34 rfl) rfl rfl ?_
    refine K_icmp_eq (tgt := 59) (dt_at dtX12_next 35 rfl) (by decide) (bAnd32 _ _) (bAnd32 _ _) (fun c2 => ?_) (fun c2 => ?_)
    · refine K_iinc (ls' := [(3, vi (((k : Int) + 1) + 1)), (2, vi (bAnd (bShr (bitN (fun j => decide (f (1 + (j : Int)) = 0)) (sNp S)) p) 1)), (0, vr 0), (1, vi p)]) (dt_at dtX12_next 38 rfl) rfl (by decide) rfl ?_
      refine K_goto (tgt := 31) (dt_at dtX12_next 39 rfl) (by decide) ?_
      refine K_pk [0, 1, 2, 3] (ls' := [(3, vi (((k : Int) + 1) + 1)), (2, vi (bAnd (bShr (bitN (fun j => decide (f (1 + (j : Int)) = 0)) (sNp S)) p) 1)), (0, vr 0), (1, vi p)]) rfl ?_
      exact K_cg (ls' := [(3, vi (((k + 1 : Nat) : Int) + 1)), (2, vi (bAnd (bShr (bitN (fun j => decide (f (1 + (j : Int)) = 0)) (sNp S)) p) 1)), (0, vr 0), (1, vi p)]) (h' := hc1) (by rfl) rfl (ih (k + 1) hc1 (by omega) Gq2 (by rw [ea, srN_n (g := (fun k => if (if dysF S f (k + 1) (1 + p) = 0 then (1 : Int) else 0) = (if f (1 + p) = 0 then 1 else 0) then none else some ((k : Int) + 1))) (if_pos (by rw [← e1, ← e2]; assumption))]))
    · refine K_iload_n (dt_at dtX12_next 36 rfl) rfl rfl ?_
      exact K_iret (dt_at dtX12_next 37 rfl) rfl rfl (by decide) (by decide) ⟨by rw [ea, srN_s (g := (fun k => if (if dysF S f (k + 1) (1 + p) = 0 then (1 : Int) else 0) = (if f (1 + p) = 0 then 1 else 0) then none else some ((k : Int) + 1))) (v := (k : Int) + 1) (if_neg (by rw [← e1, ← e2]; assumption))], Gq2.2.1, Gq2.2.2.2⟩
set_option maxHeartbeats 4000000 in
set_option maxRecDepth 100000 in
theorem sX12_next {h : HP} {S : HS} {f : Int → Int} {p : Int} (Q0 : MAsk h S f) (hp : 0 ≤ p ∧ p < sNp S) : SpecK mX12_next [vr 0, vi p] h (fun o h' => o = .inl (some (vi (srN (fun k => if (if dysF S f (k + 1) (1 + p) = 0 then (1 : Int) else 0) = (if f (1 + p) = 0 then 1 else 0) then none else some ((k : Int) + 1)) (-1) 0 100))) ∧ FQ h h' ∧ hI h' 0 0 = 0) := by
  refine Spec_of (by decide +kernel) (Nat.le_of_ble_eq_true rfl) ?_
  have hB := Q0.1.1
  have hNt := hB.1
  have hNp := hB.2.1
  have R := Q0.2.2.2.2
  have hT := R.1
  have hW := hT.1
  refine K_aload_n (dt_at dtX12_next 0 rfl) rfl rfl ?_
  refine K_iconst (dt_at dtX12_next 1 rfl) ?_
  refine K_putI (a := 0) (ci := 12) (k := 0) (dt_at dtX12_next 2 rfl) (show TT 0 = (0, 12) from rfl) rfl (by decide) wF_X12_105 rfl (Or.inl rfl) rfl rfl ?_
  obtain ⟨hu1, eu1⟩ : ∃ z, z = sI h 0 0 0 := ⟨_, rfl⟩
  rw [← eu1]
  obtain ⟨iu1, fu1, au1, ru1⟩ := sI_fx eu1
  have Gu1 := MG_0 Q0 eu1
  refine K_aload_n (dt_at dtX12_next 3 rfl) rfl rfl ?_
  refine K_iload_n (dt_at dtX12_next 4 rfl) rfl rfl ?_
  refine K_callV (M' := mX12_isPerson) (a := 0) (ci := 12) (As := [vi p]) (st := []) (dt_at dtX12_next 5 rfl) (sX12_isPerson_t (MD_np (MG_D0 Gu1)) hNp Gu1.2.2.2 (by omega)) (show TT 0 = (0, 12) from rfl) rfl wL_X12_375 vX12_isPerson rfl npX12_isPerson (by decide) (by decide) (Nat.le_of_ble_eq_true rfl) (by decide) (by decide) GK_E (fun v9 h9 hq => ?_) (fun E h9 hq => by cases hq.1)
  obtain ⟨e9, e8⟩ := hq
  cases e9
  rw [e8]
  show K mX12_next _ _ 0 0 10 [(0, vr 0), (1, vi p)] [vi 1] hu1
  refine K_if_ne (tgt := 15) (dt_at dtX12_next 6 rfl) (by decide) (by first | assumption | exact ⟨by omega, by omega⟩) (fun c1 => ?_) (fun c1 => absurd c1 (by omega))
  refine K_aload_n (dt_at dtX12_next 9 rfl) rfl rfl ?_
  refine K_iconst (dt_at dtX12_next 10 rfl) ?_
  refine K_callV (M' := mX12_inOnes) (a := 0) (ci := 12) (As := [vi 0]) (st := []) (dt_at dtX12_next 11 rfl) (sX12_inOnes (MG_D0 Gu1) hW) (show TT 0 = (0, 12) from rfl) rfl wL_X12_350 vX12_inOnes rfl npX12_inOnes (by decide) (by decide) (Nat.le_of_ble_eq_true rfl) (by decide) (by decide) GK_E (fun v9 h9 hq => ?_) (fun E h9 hq => by cases hq.1)
  obtain ⟨e9, e8⟩ := hq
  cases e9
  rw [e8]
  show K mX12_next _ _ 0 0 20 [(0, vr 0), (1, vi p)] [vi (bitN (fun j => decide (f (1 + (j : Int)) = 0)) (sNp S))] hu1
  refine K_iload_n (dt_at dtX12_next 12 rfl) rfl rfl ?_
  refine K_ishr (dt_at dtX12_next 13 rfl) ?_
  refine K_iconst (dt_at dtX12_next 14 rfl) ?_
  refine K_iand (dt_at dtX12_next 15 rfl) ?_
  refine K_istore_n (ls' := [(2, vi (bAnd (bShr (bitN (fun j => decide (f (1 + (j : Int)) = 0)) (sNp S)) p) 1)), (0, vr 0), (1, vi p)]) (dt_at dtX12_next 16 rfl) rfl (by decide) rfl ?_
  refine K_aload_n (dt_at dtX12_next 17 rfl) rfl rfl ?_
  refine K_callV (M' := mX12_tries) (a := 0) (ci := 12) (As := []) (st := []) (dt_at dtX12_next 18 rfl) (sX12_tries) (show TT 0 = (0, 12) from rfl) rfl wL_X12_397 vX12_tries rfl npX12_tries (by decide) (by decide) (Nat.le_of_ble_eq_true rfl) (by decide) (by decide) GK_E (fun v9 hc2 hq => ?_) (fun E h9 hq => by cases hq.1)
  have hqq3 := hq
  obtain ⟨e9q3, t1q3, t2q3, t3q3, t4q3⟩ := hqq3
  have Gq3 := MG_try Gu1 t1q3 t2q3 t3q3 t4q3
  cases e9q3
  show K mX12_next _ _ 0 0 29 [(2, vi (bAnd (bShr (bitN (fun j => decide (f (1 + (j : Int)) = 0)) (sNp S)) p) 1)), (0, vr 0), (1, vi p)] [] hc2
  refine K_iconst (dt_at dtX12_next 19 rfl) ?_
  refine K_istore_n (ls' := [(3, vi 1), (2, vi (bAnd (bShr (bitN (fun j => decide (f (1 + (j : Int)) = 0)) (sNp S)) p) 1)), (0, vr 0), (1, vi p)]) (dt_at dtX12_next 20 rfl) rfl (by decide) rfl ?_
  exact K_pk [0, 1, 2, 3] rfl (lp_X12_next Q0 hp 100 0 hc2 (by omega) Gq3 rfl)
def mX12_lacking : MI := (yX12_lacking, cX12_lacking, 3, (some .int), rmK 7 0)
def tX12_lacking : List (Nat × Instr × Nat) := [(0, .aload_n 0, 1), (1, .iconst 0, 1), (2, .putfield 105, 3), (5, .aload_n 0, 1), (6, .iload_n 1, 1), (7, .invokevirtual 368, 3), (10, .ifCond .ne 5, 3), (13, .iconst 0, 1), (14, .ireturn, 1), (15, .aload_n 0, 1), (16, .invokevirtual 397, 3), (19, .iconst 0, 1), (20, .istore_n 2, 1), (21, .iload_n 2, 1), (22, .bipush 100, 2), (24, .if_icmp .gt 30, 3), (27, .aload_n 0, 1), (28, .getfield 72, 3), (31, .sipush 134, 3), (34, .iload_n 1, 1), (35, .iadd, 1), (36, .iaload, 1), (37, .ifCond .ne 5, 3), (40, .iload_n 2, 1), (41, .ireturn, 1), (42, .aload_n 0, 1), (43, .bipush 77, 2), (45, .invokevirtual 334, 3), (48, .iinc 2 1, 3), (51, .goto (-30), 3), (54, .iconst (-1), 1), (55, .ireturn, 1)]
theorem dtX12_lacking : tX12_lacking.all (fun q => decide (decode cX12_lacking q.1 = .ok (q.2.1, q.2.2))) = true := by decide +kernel
theorem npX12_lacking : (parseMethodDescriptor (mY mX12_lacking).desc).map (fun d => d.parameters.length) = some 1 := by decide +kernel
theorem vX12_lacking : mV mX12_lacking := ⟨wI_X12_lacking, wS_X12_lacking, wN_X12, wC_X12_lacking, by decide +kernel, by decide +kernel⟩
set_option maxHeartbeats 4000000 in
set_option maxRecDepth 100000 in
theorem sX12_lacking_x1 {h : HP} {S : HS} {f : Int → Int} {q : Int} (Q0 : MAsk h S f) (hq_ : i32 q) (kn : ¬ (0 ≤ q ∧ q < sNt S)) : SpecK mX12_lacking [vr 0, vi q] h (fun o h' => o = .inl (some (vi 0)) ∧ FQ h h' ∧ hI h' 0 0 = 1) := by
  refine Spec_of (by decide +kernel) (Nat.le_of_ble_eq_true rfl) ?_
  have hB := Q0.1.1
  have hNt := hB.1
  have hNp := hB.2.1
  have R := Q0.2.2.2.2
  have hT := R.1
  have hW := hT.1
  refine K_aload_n (dt_at dtX12_lacking 0 rfl) rfl rfl ?_
  refine K_iconst (dt_at dtX12_lacking 1 rfl) ?_
  refine K_putI (a := 0) (ci := 12) (k := 0) (dt_at dtX12_lacking 2 rfl) (show TT 0 = (0, 12) from rfl) rfl (by decide) wF_X12_105 rfl (Or.inl rfl) rfl rfl ?_
  obtain ⟨hu1, eu1⟩ : ∃ z, z = sI h 0 0 0 := ⟨_, rfl⟩
  rw [← eu1]
  obtain ⟨iu1, fu1, au1, ru1⟩ := sI_fx eu1
  have Gu1 := MG_0 Q0 eu1
  refine K_aload_n (dt_at dtX12_lacking 3 rfl) rfl rfl ?_
  refine K_iload_n (dt_at dtX12_lacking 4 rfl) rfl rfl ?_
  refine K_callV (M' := mX12_isThing) (a := 0) (ci := 12) (As := [vi q]) (st := []) (dt_at dtX12_lacking 5 rfl) (sX12_isThing_f (MD_nt (MG_D0 Gu1)) hNt Gu1.2.2.2 (by assumption) (by omega)) (show TT 0 = (0, 12) from rfl) rfl wL_X12_368 vX12_isThing rfl npX12_isThing (by decide) (by decide) (Nat.le_of_ble_eq_true rfl) (by decide) (by decide) GK_E (fun v9 hc2 hq => ?_) (fun E h9 hq => by cases hq.1)
  have hqq3 := hq
  obtain ⟨e9q3, e8q3⟩ := hqq3
  obtain ⟨iq3, fq3, aq3, rq3⟩ := sI_fx e8q3
  have Bq3 : FQ h hc2 := FQ_tr Gu1.2.1 (FQ_I e8q3 rfl Gu1.2.1.2.2.2.2)
  cases e9q3
  show K mX12_lacking _ _ 0 0 10 [(0, vr 0), (1, vi q)] [vi 0] hc2
  refine K_if_ne (tgt := 15) (dt_at dtX12_lacking 6 rfl) (by decide) (by first | assumption | exact ⟨by omega, by omega⟩) (fun c1 => absurd c1 (by omega)) (fun c1 => ?_)
  refine K_iconst (dt_at dtX12_lacking 7 rfl) ?_
  exact K_iret (dt_at dtX12_lacking 8 rfl) rfl rfl (by decide) (by decide) ⟨rfl, Bq3, iq3⟩
set_option maxHeartbeats 4000000 in
set_option maxRecDepth 100000 in
theorem lp_X12_lacking {h : HP} {S : HS} {f : Int → Int} {q : Int} {A : Int} (Q0 : MAsk h S f) (hqt : 0 ≤ q ∧ q < sNt S) : ∀ (dd k : Nat) (hh : HP), k + dd = 101 → MG h hh S f (dysF S f k) → A = srN (fun k => if dysF S f k (29 + q) = 0 then some (k : Int) else none) (-1) k dd → K mX12_lacking GK (ZK (fun o h' => o = .inl (some (vi A)) ∧ FQ h h' ∧ hI h' 0 0 = 0) 0 0) 0 0 21 [(2, vi (k : Int)), (0, vr 0), (1, vi q)] [] hh := by
  intro dd
  induction dd with
  | zero =>
    intro k hh hk G ea
    have hB := Q0.1.1
    have hNt := hB.1
    have hNp := hB.2.1
    have R := Q0.2.2.2.2
    have hT := R.1
    have hW := hT.1
    obtain ⟨a1, a2, a3, a4, a5⟩ := dys_R hB R (n := k) (by omega)
    have ek : k = 101 := by omega
    refine K_iload_n (dt_at dtX12_lacking 13 rfl) rfl rfl ?_
    refine K_bipush (dt_at dtX12_lacking 14 rfl) (by decide) ?_
    refine K_icmp_gt (tgt := 54) (dt_at dtX12_lacking 15 rfl) (by decide) (by first | assumption | exact ⟨by omega, by omega⟩) (by first | assumption | exact ⟨by omega, by omega⟩) (fun c1 => ?_) (fun c1 => absurd c1 (by omega))
    refine K_iconst (dt_at dtX12_lacking 30 rfl) ?_
    exact K_iret (dt_at dtX12_lacking 31 rfl) rfl rfl (by decide) (by decide) ⟨by rw [ea]; rfl, G.2.1, G.2.2.2⟩
  | succ dd ih =>
    intro k hh hk G ea
    have hB := Q0.1.1
    have hNt := hB.1
    have hNp := hB.2.1
    have R := Q0.2.2.2.2
    have hT := R.1
    have hW := hT.1
    obtain ⟨a1, a2, a3, a4, a5⟩ := dys_R hB R (n := k) (by omega)
    obtain ⟨n1, n2, n3, n4, n5⟩ := dys_R hB R (n := k + 1) (by omega)
    have ws := a1.1.1 (29 + q) (by omega) (by omega)
    refine K_iload_n (dt_at dtX12_lacking 13 rfl) rfl rfl ?_
    refine K_bipush (dt_at dtX12_lacking 14 rfl) (by decide) ?_
    refine K_icmp_gt (tgt := 54) (dt_at dtX12_lacking 15 rfl) (by decide) (by first | assumption | exact ⟨by omega, by omega⟩) (by first | assumption | exact ⟨by omega, by omega⟩) (fun c1 => absurd c1 (by omega)) (fun c1 => ?_)
    refine K_aload_n (dt_at dtX12_lacking 16 rfl) rfl rfl ?_
    refine K_get (a := 0) (ci := 12) (k := 42) (v := vr 18) (dt_at dtX12_lacking 17 rfl) (show TT 0 = (0, 12) from rfl) rfl (by decide) wF_X12_72 rfl ?_
    refine K_sipush (dt_at dtX12_lacking 18 rfl) (by decide) ?_
    refine K_iload_n (dt_at dtX12_lacking 19 rfl) rfl rfl ?_
    refine K_iadd (dt_at dtX12_lacking 20 rfl) ?_
    refine K_iald (dt_at dtX12_lacking 21 rfl) (show TT 18 = (1, 154) from rfl) (by omega) (by omega) ?_
    rw [show hA hh 18 (134 + q) = ((dysF S f k) (29 + q)) from RV_s (MG_D7 G).2.2.2 (p := q) (by omega) (by omega)]
    refine K_if_ne (tgt := 42) (dt_at dtX12_lacking 22 rfl) (by decide) (by first | assumption | exact ⟨by omega, by omega⟩) (fun c2 => ?_) (fun c2 => ?_)
    · refine K_aload_n (dt_at dtX12_lacking 25 rfl) rfl rfl ?_
      refine K_bipush (dt_at dtX12_lacking 26 rfl) (by decide) ?_
      refine K_callV (M' := mX12_dayGoes) (a := 0) (ci := 12) (As := [vi 77]) (st := []) (dt_at dtX12_lacking 27 rfl) (sX12_dayGoes (MG_D7 G) a1 a2 a3 a4 (MG_49 G)) (show TT 0 = (0, 12) from rfl) rfl wL_X12_334 vX12_dayGoes rfl npX12_dayGoes (by decide) (by decide) (Nat.le_of_ble_eq_true rfl) (by decide) (by decide) GK_E (fun v9 hc1 hq => ?_) (fun E h9 hq => by cases hq.1)
      have hqq2 := hq
      obtain ⟨e9q2, dq2, ⟨lq2, mq2⟩, iq2⟩ := hqq2
      have Gq2 : MG h hc1 S f (dysF S f (k + 1)) := MG_day G dq2
      cases e9q2
      show K mX12_lacking _ _ 0 0 48 [(2, vi (k : Int)), (0, vr 0), (1, vi q)] [] hc1
      refine K_iinc (ls' := [(2, vi ((k : Int) + 1)), (0, vr 0), (1, vi q)]) (dt_at dtX12_lacking 28 rfl) rfl (by decide) rfl ?_
      refine K_goto (tgt := 21) (dt_at dtX12_lacking 29 rfl) (by decide) ?_
      refine K_pk [0, 1, 2] (ls' := [(2, vi ((k : Int) + 1)), (0, vr 0), (1, vi q)]) rfl ?_
      exact K_cg (ls' := [(2, vi ((k + 1 : Nat) : Int)), (0, vr 0), (1, vi q)]) (h' := hc1) (by rfl) rfl (ih (k + 1) hc1 (by omega) Gq2 (by rw [ea, srN_n (g := (fun k => if dysF S f k (29 + q) = 0 then some (k : Int) else none)) (if_neg (by assumption))]))
    · refine K_iload_n (dt_at dtX12_lacking 23 rfl) rfl rfl ?_
      exact K_iret (dt_at dtX12_lacking 24 rfl) rfl rfl (by decide) (by decide) ⟨by rw [ea, srN_s (g := (fun k => if dysF S f k (29 + q) = 0 then some (k : Int) else none)) (v := (k : Int)) (if_pos (by assumption))], G.2.1, G.2.2.2⟩
set_option maxHeartbeats 4000000 in
set_option maxRecDepth 100000 in
theorem sX12_lacking {h : HP} {S : HS} {f : Int → Int} {q : Int} (Q0 : MAsk h S f) (hqt : 0 ≤ q ∧ q < sNt S) : SpecK mX12_lacking [vr 0, vi q] h (fun o h' => o = .inl (some (vi (srN (fun k => if dysF S f k (29 + q) = 0 then some (k : Int) else none) (-1) 0 101))) ∧ FQ h h' ∧ hI h' 0 0 = 0) := by
  refine Spec_of (by decide +kernel) (Nat.le_of_ble_eq_true rfl) ?_
  have hB := Q0.1.1
  have hNt := hB.1
  have hNp := hB.2.1
  have R := Q0.2.2.2.2
  have hT := R.1
  have hW := hT.1
  refine K_aload_n (dt_at dtX12_lacking 0 rfl) rfl rfl ?_
  refine K_iconst (dt_at dtX12_lacking 1 rfl) ?_
  refine K_putI (a := 0) (ci := 12) (k := 0) (dt_at dtX12_lacking 2 rfl) (show TT 0 = (0, 12) from rfl) rfl (by decide) wF_X12_105 rfl (Or.inl rfl) rfl rfl ?_
  obtain ⟨hu1, eu1⟩ : ∃ z, z = sI h 0 0 0 := ⟨_, rfl⟩
  rw [← eu1]
  obtain ⟨iu1, fu1, au1, ru1⟩ := sI_fx eu1
  have Gu1 := MG_0 Q0 eu1
  refine K_aload_n (dt_at dtX12_lacking 3 rfl) rfl rfl ?_
  refine K_iload_n (dt_at dtX12_lacking 4 rfl) rfl rfl ?_
  refine K_callV (M' := mX12_isThing) (a := 0) (ci := 12) (As := [vi q]) (st := []) (dt_at dtX12_lacking 5 rfl) (sX12_isThing_t (MD_nt (MG_D0 Gu1)) hNt Gu1.2.2.2 (by omega)) (show TT 0 = (0, 12) from rfl) rfl wL_X12_368 vX12_isThing rfl npX12_isThing (by decide) (by decide) (Nat.le_of_ble_eq_true rfl) (by decide) (by decide) GK_E (fun v9 h9 hq => ?_) (fun E h9 hq => by cases hq.1)
  obtain ⟨e9, e8⟩ := hq
  cases e9
  rw [e8]
  show K mX12_lacking _ _ 0 0 10 [(0, vr 0), (1, vi q)] [vi 1] hu1
  refine K_if_ne (tgt := 15) (dt_at dtX12_lacking 6 rfl) (by decide) (by first | assumption | exact ⟨by omega, by omega⟩) (fun c1 => ?_) (fun c1 => absurd c1 (by omega))
  refine K_aload_n (dt_at dtX12_lacking 9 rfl) rfl rfl ?_
  refine K_callV (M' := mX12_tries) (a := 0) (ci := 12) (As := []) (st := []) (dt_at dtX12_lacking 10 rfl) (sX12_tries) (show TT 0 = (0, 12) from rfl) rfl wL_X12_397 vX12_tries rfl npX12_tries (by decide) (by decide) (Nat.le_of_ble_eq_true rfl) (by decide) (by decide) GK_E (fun v9 hc2 hq => ?_) (fun E h9 hq => by cases hq.1)
  have hqq3 := hq
  obtain ⟨e9q3, t1q3, t2q3, t3q3, t4q3⟩ := hqq3
  have Gq3 := MG_try Gu1 t1q3 t2q3 t3q3 t4q3
  cases e9q3
  show K mX12_lacking _ _ 0 0 19 [(0, vr 0), (1, vi q)] [] hc2
  refine K_iconst (dt_at dtX12_lacking 11 rfl) ?_
  refine K_istore_n (ls' := [(2, vi 0), (0, vr 0), (1, vi q)]) (dt_at dtX12_lacking 12 rfl) rfl (by decide) rfl ?_
  exact K_pk [0, 1, 2] rfl (lp_X12_lacking Q0 hqt 101 0 hc2 (by omega) Gq3 rfl)
def mX12_emptiest : MI := (yX12_emptiest, cX12_emptiest, 5, (some .int), rmK 7 0)
def tX12_emptiest : List (Nat × Instr × Nat) := [(0, .aload_n 0, 1), (1, .iconst 0, 1), (2, .putfield 105, 3), (5, .aload_n 0, 1), (6, .iload_n 1, 1), (7, .iconst 1, 1), (8, .iconst 1, 1), (9, .invokevirtual 403, 3), (12, .ifCond .ne 5, 3), (15, .iconst 0, 1), (16, .ireturn, 1), (17, .iconst 0, 1), (18, .istore_n 2, 1), (19, .ldc_w 415, 3), (22, .istore_n 3, 1), (23, .aload_n 0, 1), (24, .invokevirtual 397, 3), (27, .iconst 1, 1), (28, .istore 4, 2), (30, .iload 4, 2), (32, .iload_n 1, 1), (33, .if_icmp .gt 44, 3), (36, .aload_n 0, 1), (37, .bipush 77, 2), (39, .invokevirtual 334, 3), (42, .aload_n 0, 1), (43, .bipush 77, 2), (45, .invokevirtual 350, 3), (48, .invokestatic 340, 3), (51, .iload_n 3, 1), (52, .if_icmp .lt 6, 3), (55, .goto 16, 3), (58, .iload 4, 2), (60, .istore_n 2, 1), (61, .aload_n 0, 1), (62, .bipush 77, 2), (64, .invokevirtual 350, 3), (67, .invokestatic 340, 3), (70, .istore_n 3, 1), (71, .iinc 4 1, 3), (74, .goto (-44), 3), (77, .iload_n 2, 1), (78, .ireturn, 1)]
theorem dtX12_emptiest : tX12_emptiest.all (fun q => decide (decode cX12_emptiest q.1 = .ok (q.2.1, q.2.2))) = true := by decide +kernel
theorem npX12_emptiest : (parseMethodDescriptor (mY mX12_emptiest).desc).map (fun d => d.parameters.length) = some 1 := by decide +kernel
theorem vX12_emptiest : mV mX12_emptiest := ⟨wI_X12_emptiest, wS_X12_emptiest, wN_X12, wC_X12_emptiest, by decide +kernel, by decide +kernel⟩
set_option maxHeartbeats 4000000 in
set_option maxRecDepth 100000 in
theorem sX12_emptiest_x1 {h : HP} {S : HS} {f : Int → Int} {d : Int} (Q0 : MAsk h S f) (hd_ : i32 d) (kn : ¬ (1 ≤ d ∧ d ≤ 100)) : SpecK mX12_emptiest [vr 0, vi d] h (fun o h' => o = .inl (some (vi 0)) ∧ FQ h h' ∧ hI h' 0 0 = 1) := by
  refine Spec_of (by decide +kernel) (Nat.le_of_ble_eq_true rfl) ?_
  have hB := Q0.1.1
  have hNt := hB.1
  have hNp := hB.2.1
  have R := Q0.2.2.2.2
  have hT := R.1
  have hW := hT.1
  refine K_aload_n (dt_at dtX12_emptiest 0 rfl) rfl rfl ?_
  refine K_iconst (dt_at dtX12_emptiest 1 rfl) ?_
  refine K_putI (a := 0) (ci := 12) (k := 0) (dt_at dtX12_emptiest 2 rfl) (show TT 0 = (0, 12) from rfl) rfl (by decide) wF_X12_105 rfl (Or.inl rfl) rfl rfl ?_
  obtain ⟨hu1, eu1⟩ : ∃ z, z = sI h 0 0 0 := ⟨_, rfl⟩
  rw [← eu1]
  obtain ⟨iu1, fu1, au1, ru1⟩ := sI_fx eu1
  have Gu1 := MG_0 Q0 eu1
  refine K_aload_n (dt_at dtX12_emptiest 3 rfl) rfl rfl ?_
  refine K_iload_n (dt_at dtX12_emptiest 4 rfl) rfl rfl ?_
  refine K_iconst (dt_at dtX12_emptiest 5 rfl) ?_
  refine K_iconst (dt_at dtX12_emptiest 6 rfl) ?_
  refine K_callV (M' := mX12_isSoon) (a := 0) (ci := 12) (As := [vi d, vi 1, vi 1]) (st := []) (dt_at dtX12_emptiest 7 rfl) (sX12_isSoon_f Gu1.2.2.2 (by decide) (by assumption) (by omega) (by decide)) (show TT 0 = (0, 12) from rfl) rfl wL_X12_403 vX12_isSoon rfl npX12_isSoon (by decide) (by decide) (Nat.le_of_ble_eq_true rfl) (by decide) (by decide) GK_E (fun v9 hc2 hq => ?_) (fun E h9 hq => by cases hq.1)
  have hqq3 := hq
  obtain ⟨e9q3, e8q3⟩ := hqq3
  obtain ⟨iq3, fq3, aq3, rq3⟩ := sI_fx e8q3
  have Bq3 : FQ h hc2 := FQ_tr Gu1.2.1 (FQ_I e8q3 rfl Gu1.2.1.2.2.2.2)
  cases e9q3
  show K mX12_emptiest _ _ 0 0 12 [(0, vr 0), (1, vi d)] [vi 0] hc2
  refine K_if_ne (tgt := 17) (dt_at dtX12_emptiest 8 rfl) (by decide) (by first | assumption | exact ⟨by omega, by omega⟩) (fun c1 => absurd c1 (by omega)) (fun c1 => ?_)
  refine K_iconst (dt_at dtX12_emptiest 9 rfl) ?_
  exact K_iret (dt_at dtX12_emptiest 10 rfl) rfl rfl (by decide) (by decide) ⟨rfl, Bq3, iq3⟩
theorem emL_b {S : HS} {f : Int → Int} (hn : sNp S ≤ 7) : ∀ {k : Nat}, -1000 ≤ emL (sNp S : Int) (fun k => bcI (bitN (fun j => decide (((dysF S f (k + 1)) (1 + (j : Int))) ≠ 0)) (sNp S))) k ∧ emL (sNp S : Int) (fun k => bcI (bitN (fun j => decide (((dysF S f (k + 1)) (1 + (j : Int))) ≠ 0)) (sNp S))) k ≤ 99999
  | 0 => ⟨by show (-1000 : Int) ≤ 99999; omega, Int.le_refl _⟩
  | k + 1 => by
    have b := mxN_b (s := -1) (M := (sNp S : Int)) (u := (fun k => bcI (bitN (fun j => decide (((dysF S f (k + 1)) (1 + (j : Int))) ≠ 0)) (sNp S)))) (by omega) (k + 1) (fun j _ => (in_out (g := dysF S f (j + 1)) hn).2.2)
    show -1000 ≤ (sNp S : Int) - mxN (-1) (fun k => bcI (bitN (fun j => decide (((dysF S f (k + 1)) (1 + (j : Int))) ≠ 0)) (sNp S))) (k + 1) ∧ (sNp S : Int) - mxN (-1) (fun k => bcI (bitN (fun j => decide (((dysF S f (k + 1)) (1 + (j : Int))) ≠ 0)) (sNp S))) (k + 1) ≤ 99999
    omega
set_option maxHeartbeats 4000000 in
set_option maxRecDepth 100000 in
theorem lp_X12_emptiest {h : HP} {S : HS} {f : Int → Int} {n : Nat} (Q0 : MAsk h S f) (hn : 1 ≤ n ∧ n ≤ 100) : ∀ (dd k : Nat) (hh : HP), k + dd = n → MG h hh S f (dysF S f k) → K mX12_emptiest GK (ZK (fun o h' => o = .inl (some (vi (fmN (-1) 1 (-1) (fun k => bcI (bitN (fun j => decide (((dysF S f (k + 1)) (1 + (j : Int))) ≠ 0)) (sNp S))) n))) ∧ FQ h h' ∧ hI h' 0 0 = 0) 0 0) 0 0 30 [(4, vi ((k : Int) + 1)), (3, vi (emL (sNp S : Int) (fun k => bcI (bitN (fun j => decide (((dysF S f (k + 1)) (1 + (j : Int))) ≠ 0)) (sNp S))) k)), (2, vi (emW (fun k => bcI (bitN (fun j => decide (((dysF S f (k + 1)) (1 + (j : Int))) ≠ 0)) (sNp S))) k)), (0, vr 0), (1, vi (n : Int))] [] hh := by
  intro dd
  induction dd with
  | zero =>
    intro k hh hk G
    have hB := Q0.1.1
    have hNt := hB.1
    have hNp := hB.2.1
    have R := Q0.2.2.2.2
    have hT := R.1
    have hW := hT.1
    obtain ⟨a1, a2, a3, a4, a5⟩ := dys_R hB R (n := k) (by omega)
    have ek : k = n := by omega
    subst ek
    refine K_iload (dt_at dtX12_emptiest 19 rfl) rfl ?_
    refine K_iload_n (dt_at dtX12_emptiest 20 rfl) rfl rfl ?_
    refine K_icmp_gt (tgt := 77) (dt_at dtX12_emptiest 21 rfl) (by decide) (by first | assumption | exact ⟨by omega, by omega⟩) (by first | assumption | exact ⟨by omega, by omega⟩) (fun c1 => ?_) (fun c1 => absurd c1 (by omega))
    refine K_iload_n (dt_at dtX12_emptiest 41 rfl) rfl rfl ?_
    exact K_iret (dt_at dtX12_emptiest 42 rfl) rfl rfl (by decide) (by decide) ⟨by obtain ⟨j, rfl⟩ : ∃ j, k = j + 1 := ⟨k - 1, by omega⟩; rfl, G.2.1, G.2.2.2⟩
  | succ dd ih =>
    intro k hh hk G
    have hB := Q0.1.1
    have hNt := hB.1
    have hNp := hB.2.1
    have R := Q0.2.2.2.2
    have hT := R.1
    have hW := hT.1
    obtain ⟨a1, a2, a3, a4, a5⟩ := dys_R hB R (n := k) (by omega)
    obtain ⟨n1, n2, n3, n4, n5⟩ := dys_R hB R (n := k + 1) (by omega)
    obtain ⟨e3, u0, u1⟩ := in_out (g := dysF S f (k + 1)) hNp
    have ec := em_c (n := (sNp S : Int)) (u := (fun k => bcI (bitN (fun j => decide (((dysF S f (k + 1)) (1 + (j : Int))) ≠ 0)) (sNp S)))) (k := k) ⟨u0, u1⟩ (by omega)
    have el : -1000 ≤ (emL (sNp S : Int) (fun k => bcI (bitN (fun j => decide (((dysF S f (k + 1)) (1 + (j : Int))) ≠ 0)) (sNp S))) k) ∧ (emL (sNp S : Int) (fun k => bcI (bitN (fun j => decide (((dysF S f (k + 1)) (1 + (j : Int))) ≠ 0)) (sNp S))) k) ≤ 99999 := emL_b hNp (k := k)
    refine K_iload (dt_at dtX12_emptiest 19 rfl) rfl ?_
    refine K_iload_n (dt_at dtX12_emptiest 20 rfl) rfl rfl ?_
    refine K_icmp_gt (tgt := 77) (dt_at dtX12_emptiest 21 rfl) (by decide) (by first | assumption | exact ⟨by omega, by omega⟩) (by first | assumption | exact ⟨by omega, by omega⟩) (fun c1 => absurd c1 (by omega)) (fun c1 => ?_)
    refine K_aload_n (dt_at dtX12_emptiest 22 rfl) rfl rfl ?_
    refine K_bipush (dt_at dtX12_emptiest 23 rfl) (by decide) ?_
    refine K_callV (M' := mX12_dayGoes) (a := 0) (ci := 12) (As := [vi 77]) (st := []) (dt_at dtX12_emptiest 24 rfl) (sX12_dayGoes (MG_D7 G) a1 a2 a3 a4 (MG_49 G)) (show TT 0 = (0, 12) from rfl) rfl wL_X12_334 vX12_dayGoes rfl npX12_dayGoes (by decide) (by decide) (Nat.le_of_ble_eq_true rfl) (by decide) (by decide) GK_E (fun v9 hc1 hq => ?_) (fun E h9 hq => by cases hq.1)
    have hqq2 := hq
    obtain ⟨e9q2, dq2, ⟨lq2, mq2⟩, iq2⟩ := hqq2
    have Gq2 : MG h hc1 S f (dysF S f (k + 1)) := MG_day G dq2
    cases e9q2
    show K mX12_emptiest _ _ 0 0 42 [(4, vi ((k : Int) + 1)), (3, vi (emL (sNp S : Int) (fun k => bcI (bitN (fun j => decide (((dysF S f (k + 1)) (1 + (j : Int))) ≠ 0)) (sNp S))) k)), (2, vi (emW (fun k => bcI (bitN (fun j => decide (((dysF S f (k + 1)) (1 + (j : Int))) ≠ 0)) (sNp S))) k)), (0, vr 0), (1, vi (n : Int))] [] hc1
    refine K_aload_n (dt_at dtX12_emptiest 25 rfl) rfl rfl ?_
    refine K_bipush (dt_at dtX12_emptiest 26 rfl) (by decide) ?_
    refine K_callV (M' := mX12_inOnes) (a := 0) (ci := 12) (As := [vi 77]) (st := []) (dt_at dtX12_emptiest 27 rfl) (sX12_inOnes (MG_D7 Gq2) n1.1) (show TT 0 = (0, 12) from rfl) rfl wL_X12_350 vX12_inOnes rfl npX12_inOnes (by decide) (by decide) (Nat.le_of_ble_eq_true rfl) (by decide) (by decide) GK_E (fun v9 h9 hq => ?_) (fun E h9 hq => by cases hq.1)
    obtain ⟨e9, e8⟩ := hq
    cases e9
    rw [e8]
    show K mX12_emptiest _ _ 0 0 48 [(4, vi ((k : Int) + 1)), (3, vi (emL (sNp S : Int) (fun k => bcI (bitN (fun j => decide (((dysF S f (k + 1)) (1 + (j : Int))) ≠ 0)) (sNp S))) k)), (2, vi (emW (fun k => bcI (bitN (fun j => decide (((dysF S f (k + 1)) (1 + (j : Int))) ≠ 0)) (sNp S))) k)), (0, vr 0), (1, vi (n : Int))] [vi (bitN (fun j => decide ((dysF S f (k + 1)) (1 + (j : Int)) = 0)) (sNp S))] hc1
    refine K_callS (M' := mX12_bits) (As := [vi (bitN (fun j => decide ((dysF S f (k + 1)) (1 + (j : Int)) = 0)) (sNp S))]) (st := []) (dt_at dtX12_emptiest 28 rfl) (sX12_bits) wL_X12_340 vX12_bits rfl npX12_bits (by decide) (by decide) (Nat.le_of_ble_eq_true rfl) (by decide) (by decide) GK_E (fun v9 h9 hq => ?_) (fun E h9 hq => by cases hq.1)
    obtain ⟨e9, e8⟩ := hq
    cases e9
    rw [e8]
    show K mX12_emptiest _ _ 0 0 51 [(4, vi ((k : Int) + 1)), (3, vi (emL (sNp S : Int) (fun k => bcI (bitN (fun j => decide (((dysF S f (k + 1)) (1 + (j : Int))) ≠ 0)) (sNp S))) k)), (2, vi (emW (fun k => bcI (bitN (fun j => decide (((dysF S f (k + 1)) (1 + (j : Int))) ≠ 0)) (sNp S))) k)), (0, vr 0), (1, vi (n : Int))] [vi (bitC (bitN (fun j => decide ((dysF S f (k + 1)) (1 + (j : Int)) = 0)) (sNp S)))] hc1
    rw [(bits_c hNp).1]
    refine K_iload_n (dt_at dtX12_emptiest 29 rfl) rfl rfl ?_
    refine K_icmp_lt (tgt := 58) (dt_at dtX12_emptiest 30 rfl) (by decide) (by first | assumption | exact ⟨by omega, by omega⟩) (by first | assumption | exact ⟨by omega, by omega⟩) (fun c2 => ?_) (fun c2 => ?_)
    · refine K_iload (dt_at dtX12_emptiest 32 rfl) rfl ?_
      refine K_istore_n (ls' := [(2, vi ((k : Int) + 1)), (4, vi ((k : Int) + 1)), (3, vi (emL (sNp S : Int) (fun k => bcI (bitN (fun j => decide (((dysF S f (k + 1)) (1 + (j : Int))) ≠ 0)) (sNp S))) k)), (0, vr 0), (1, vi (n : Int))]) (dt_at dtX12_emptiest 33 rfl) rfl (by decide) rfl ?_
      refine K_aload_n (dt_at dtX12_emptiest 34 rfl) rfl rfl ?_
      refine K_bipush (dt_at dtX12_emptiest 35 rfl) (by decide) ?_
      refine K_callV (M' := mX12_inOnes) (a := 0) (ci := 12) (As := [vi 77]) (st := []) (dt_at dtX12_emptiest 36 rfl) (sX12_inOnes (MG_D7 Gq2) n1.1) (show TT 0 = (0, 12) from rfl) rfl wL_X12_350 vX12_inOnes rfl npX12_inOnes (by decide) (by decide) (Nat.le_of_ble_eq_true rfl) (by decide) (by decide) GK_E (fun v9 h9 hq => ?_) (fun E h9 hq => by cases hq.1)
      obtain ⟨e9, e8⟩ := hq
      cases e9
      rw [e8]
      show K mX12_emptiest _ _ 0 0 67 [(2, vi ((k : Int) + 1)), (4, vi ((k : Int) + 1)), (3, vi (emL (sNp S : Int) (fun k => bcI (bitN (fun j => decide (((dysF S f (k + 1)) (1 + (j : Int))) ≠ 0)) (sNp S))) k)), (0, vr 0), (1, vi (n : Int))] [vi (bitN (fun j => decide ((dysF S f (k + 1)) (1 + (j : Int)) = 0)) (sNp S))] hc1
      refine K_callS (M' := mX12_bits) (As := [vi (bitN (fun j => decide ((dysF S f (k + 1)) (1 + (j : Int)) = 0)) (sNp S))]) (st := []) (dt_at dtX12_emptiest 37 rfl) (sX12_bits) wL_X12_340 vX12_bits rfl npX12_bits (by decide) (by decide) (Nat.le_of_ble_eq_true rfl) (by decide) (by decide) GK_E (fun v9 h9 hq => ?_) (fun E h9 hq => by cases hq.1)
      obtain ⟨e9, e8⟩ := hq
      cases e9
      rw [e8]
      show K mX12_emptiest _ _ 0 0 70 [(2, vi ((k : Int) + 1)), (4, vi ((k : Int) + 1)), (3, vi (emL (sNp S : Int) (fun k => bcI (bitN (fun j => decide (((dysF S f (k + 1)) (1 + (j : Int))) ≠ 0)) (sNp S))) k)), (0, vr 0), (1, vi (n : Int))] [vi (bitC (bitN (fun j => decide ((dysF S f (k + 1)) (1 + (j : Int)) = 0)) (sNp S)))] hc1
      rw [(bits_c hNp).1]
      refine K_istore_n (ls' := [(3, vi (cntN (fun j => decide ((dysF S f (k + 1)) (1 + (j : Int)) = 0)) (sNp S))), (2, vi ((k : Int) + 1)), (4, vi ((k : Int) + 1)), (0, vr 0), (1, vi (n : Int))]) (dt_at dtX12_emptiest 38 rfl) rfl (by decide) rfl ?_
      refine K_iinc (ls' := [(4, vi (((k : Int) + 1) + 1)), (3, vi (cntN (fun j => decide ((dysF S f (k + 1)) (1 + (j : Int)) = 0)) (sNp S))), (2, vi ((k : Int) + 1)), (0, vr 0), (1, vi (n : Int))]) (dt_at dtX12_emptiest 39 rfl) rfl (by decide) rfl ?_
      refine K_goto (tgt := 30) (dt_at dtX12_emptiest 40 rfl) (by decide) ?_
      refine K_pk [0, 1, 2, 3, 4] (ls' := [(4, vi (((k : Int) + 1) + 1)), (3, vi (cntN (fun j => decide ((dysF S f (k + 1)) (1 + (j : Int)) = 0)) (sNp S))), (2, vi ((k : Int) + 1)), (0, vr 0), (1, vi (n : Int))]) rfl ?_
      exact K_cg (ls' := [(4, vi (((k + 1 : Nat) : Int) + 1)), (3, vi (emL (sNp S : Int) (fun k => bcI (bitN (fun j => decide (((dysF S f (k + 1)) (1 + (j : Int))) ≠ 0)) (sNp S))) (k + 1))), (2, vi (emW (fun k => bcI (bitN (fun j => decide (((dysF S f (k + 1)) (1 + (j : Int))) ≠ 0)) (sNp S))) (k + 1))), (0, vr 0), (1, vi (n : Int))]) (h' := hc1) (by rw [(em_t (n := (sNp S : Int)) (u := (fun k => bcI (bitN (fun j => decide (((dysF S f (k + 1)) (1 + (j : Int))) ≠ 0)) (sNp S)))) (k := k) (ec.mp (by rw [← e3]; omega))).1, (em_t (n := (sNp S : Int)) (u := (fun k => bcI (bitN (fun j => decide (((dysF S f (k + 1)) (1 + (j : Int))) ≠ 0)) (sNp S)))) (k := k) (ec.mp (by rw [← e3]; omega))).2, e3]; rfl) rfl (ih (k + 1) hc1 (by omega) Gq2)
    · refine K_goto (tgt := 71) (dt_at dtX12_emptiest 31 rfl) (by decide) ?_
      refine K_iinc (ls' := [(4, vi (((k : Int) + 1) + 1)), (3, vi (emL (sNp S : Int) (fun k => bcI (bitN (fun j => decide (((dysF S f (k + 1)) (1 + (j : Int))) ≠ 0)) (sNp S))) k)), (2, vi (emW (fun k => bcI (bitN (fun j => decide (((dysF S f (k + 1)) (1 + (j : Int))) ≠ 0)) (sNp S))) k)), (0, vr 0), (1, vi (n : Int))]) (dt_at dtX12_emptiest 39 rfl) rfl (by decide) rfl ?_
      refine K_goto (tgt := 30) (dt_at dtX12_emptiest 40 rfl) (by decide) ?_
      refine K_pk [0, 1, 2, 3, 4] (ls' := [(4, vi (((k : Int) + 1) + 1)), (3, vi (emL (sNp S : Int) (fun k => bcI (bitN (fun j => decide (((dysF S f (k + 1)) (1 + (j : Int))) ≠ 0)) (sNp S))) k)), (2, vi (emW (fun k => bcI (bitN (fun j => decide (((dysF S f (k + 1)) (1 + (j : Int))) ≠ 0)) (sNp S))) k)), (0, vr 0), (1, vi (n : Int))]) rfl ?_
      exact K_cg (ls' := [(4, vi (((k + 1 : Nat) : Int) + 1)), (3, vi (emL (sNp S : Int) (fun k => bcI (bitN (fun j => decide (((dysF S f (k + 1)) (1 + (j : Int))) ≠ 0)) (sNp S))) (k + 1))), (2, vi (emW (fun k => bcI (bitN (fun j => decide (((dysF S f (k + 1)) (1 + (j : Int))) ≠ 0)) (sNp S))) (k + 1))), (0, vr 0), (1, vi (n : Int))]) (h' := hc1) (by rw [(em_f (n := (sNp S : Int)) (u := (fun k => bcI (bitN (fun j => decide (((dysF S f (k + 1)) (1 + (j : Int))) ≠ 0)) (sNp S)))) (k := k) u0 (fun z => absurd (ec.mpr z) (by rw [← e3]; omega))).1, (em_f (n := (sNp S : Int)) (u := (fun k => bcI (bitN (fun j => decide (((dysF S f (k + 1)) (1 + (j : Int))) ≠ 0)) (sNp S)))) (k := k) u0 (fun z => absurd (ec.mpr z) (by rw [← e3]; omega))).2]; rfl) rfl (ih (k + 1) hc1 (by omega) Gq2)
set_option maxHeartbeats 4000000 in
set_option maxRecDepth 100000 in
theorem sX12_emptiest {h : HP} {S : HS} {f : Int → Int} {n : Nat} (Q0 : MAsk h S f) (hn : 1 ≤ n ∧ n ≤ 100) : SpecK mX12_emptiest [vr 0, vi (n : Int)] h (fun o h' => o = .inl (some (vi (fmN (-1) 1 (-1) (fun k => bcI (bitN (fun j => decide (((dysF S f (k + 1)) (1 + (j : Int))) ≠ 0)) (sNp S))) n))) ∧ FQ h h' ∧ hI h' 0 0 = 0) := by
  refine Spec_of (by decide +kernel) (Nat.le_of_ble_eq_true rfl) ?_
  have hB := Q0.1.1
  have hNt := hB.1
  have hNp := hB.2.1
  have R := Q0.2.2.2.2
  have hT := R.1
  have hW := hT.1
  refine K_aload_n (dt_at dtX12_emptiest 0 rfl) rfl rfl ?_
  refine K_iconst (dt_at dtX12_emptiest 1 rfl) ?_
  refine K_putI (a := 0) (ci := 12) (k := 0) (dt_at dtX12_emptiest 2 rfl) (show TT 0 = (0, 12) from rfl) rfl (by decide) wF_X12_105 rfl (Or.inl rfl) rfl rfl ?_
  obtain ⟨hu1, eu1⟩ : ∃ z, z = sI h 0 0 0 := ⟨_, rfl⟩
  rw [← eu1]
  obtain ⟨iu1, fu1, au1, ru1⟩ := sI_fx eu1
  have Gu1 := MG_0 Q0 eu1
  refine K_aload_n (dt_at dtX12_emptiest 3 rfl) rfl rfl ?_
  refine K_iload_n (dt_at dtX12_emptiest 4 rfl) rfl rfl ?_
  refine K_iconst (dt_at dtX12_emptiest 5 rfl) ?_
  refine K_iconst (dt_at dtX12_emptiest 6 rfl) ?_
  refine K_callV (M' := mX12_isSoon) (a := 0) (ci := 12) (As := [vi (n : Int), vi 1, vi 1]) (st := []) (dt_at dtX12_emptiest 7 rfl) (sX12_isSoon_t Gu1.2.2.2 (by omega) (by omega)) (show TT 0 = (0, 12) from rfl) rfl wL_X12_403 vX12_isSoon rfl npX12_isSoon (by decide) (by decide) (Nat.le_of_ble_eq_true rfl) (by decide) (by decide) GK_E (fun v9 h9 hq => ?_) (fun E h9 hq => by cases hq.1)
  obtain ⟨e9, e8⟩ := hq
  cases e9
  rw [e8]
  show K mX12_emptiest _ _ 0 0 12 [(0, vr 0), (1, vi (n : Int))] [vi 1] hu1
  refine K_if_ne (tgt := 17) (dt_at dtX12_emptiest 8 rfl) (by decide) (by first | assumption | exact ⟨by omega, by omega⟩) (fun c1 => ?_) (fun c1 => absurd c1 (by omega))
  refine K_iconst (dt_at dtX12_emptiest 11 rfl) ?_
  refine K_istore_n (ls' := [(2, vi 0), (0, vr 0), (1, vi (n : Int))]) (dt_at dtX12_emptiest 12 rfl) rfl (by decide) rfl ?_
  refine K_ldcw (n := 99999) (dt_at dtX12_emptiest 13 rfl) wK_X12_415 (by decide) ?_
  refine K_istore_n (ls' := [(3, vi 99999), (2, vi 0), (0, vr 0), (1, vi (n : Int))]) (dt_at dtX12_emptiest 14 rfl) rfl (by decide) rfl ?_
  refine K_aload_n (dt_at dtX12_emptiest 15 rfl) rfl rfl ?_
  refine K_callV (M' := mX12_tries) (a := 0) (ci := 12) (As := []) (st := []) (dt_at dtX12_emptiest 16 rfl) (sX12_tries) (show TT 0 = (0, 12) from rfl) rfl wL_X12_397 vX12_tries rfl npX12_tries (by decide) (by decide) (Nat.le_of_ble_eq_true rfl) (by decide) (by decide) GK_E (fun v9 hc2 hq => ?_) (fun E h9 hq => by cases hq.1)
  have hqq3 := hq
  obtain ⟨e9q3, t1q3, t2q3, t3q3, t4q3⟩ := hqq3
  have Gq3 := MG_try Gu1 t1q3 t2q3 t3q3 t4q3
  cases e9q3
  show K mX12_emptiest _ _ 0 0 27 [(3, vi 99999), (2, vi 0), (0, vr 0), (1, vi (n : Int))] [] hc2
  refine K_iconst (dt_at dtX12_emptiest 17 rfl) ?_
  refine K_istore (ls' := [(4, vi 1), (3, vi 99999), (2, vi 0), (0, vr 0), (1, vi (n : Int))]) (dt_at dtX12_emptiest 18 rfl) (by decide) rfl ?_
  exact K_pk [0, 1, 2, 3, 4] rfl (lp_X12_emptiest Q0 hn n 0 hc2 (by omega) Gq3)
def mX12_trips : MI := (yX12_trips, cX12_trips, 8, (some .int), rmK 7 0)
def tX12_trips : List (Nat × Instr × Nat) := [(0, .aload_n 0, 1), (1, .iconst 0, 1), (2, .putfield 105, 3), (5, .aload_n 0, 1), (6, .iload_n 1, 1), (7, .invokevirtual 375, 3), (10, .ifCond .eq 22, 3), (13, .aload_n 0, 1), (14, .iload_n 3, 1), (15, .iconst 1, 1), (16, .invokevirtual 371, 3), (19, .ifCond .eq 13, 3), (22, .aload_n 0, 1), (23, .iload_n 2, 1), (24, .iconst 0, 1), (25, .iconst 2, 1), (26, .invokevirtual 403, 3), (29, .ifCond .ne 5, 3), (32, .iconst 0, 1), (33, .ireturn, 1), (34, .iconst 0, 1), (35, .istore 4, 2), (37, .iconst 0, 1), (38, .istore 5, 2), (40, .iconst (-1), 1), (41, .istore 6, 2), (43, .aload_n 0, 1), (44, .invokevirtual 397, 3), (47, .iconst 0, 1), (48, .istore 7, 2), (50, .iload 7, 2), (52, .iload_n 2, 1), (53, .if_icmp .gt 63, 3), (56, .aload_n 0, 1), (57, .bipush 77, 2), (59, .iload_n 1, 1), (60, .invokevirtual 319, 3), (63, .iload 6, 2), (65, .if_icmp .le 16, 3), (68, .aload_n 0, 1), (69, .bipush 77, 2), (71, .iload_n 1, 1), (72, .invokevirtual 319, 3), (75, .istore 6, 2), (77, .iload 7, 2), (79, .istore 5, 2), (81, .aload_n 0, 1), (82, .bipush 77, 2), (84, .invokevirtual 334, 3), (87, .iload 4, 2), (89, .iload 7, 2), (91, .iload_n 2, 1), (92, .if_icmp .ge 14, 3), (95, .aload_n 0, 1), (96, .getfield 313, 3), (99, .iload_n 1, 1), (100, .ishr, 1), (101, .iconst 1, 1), (102, .iand, 1), (103, .goto 4, 3), (106, .iconst 0, 1), (107, .iadd, 1), (108, .istore 4, 2), (110, .iinc 7 1, 3), (113, .goto (-63), 3), (116, .iload_n 3, 1), (117, .ifCond .ne 8, 3), (120, .iload 4, 2), (122, .goto 5, 3), (125, .iload 5, 2), (127, .ireturn, 1)]
theorem dtX12_trips : tX12_trips.all (fun q => decide (decode cX12_trips q.1 = .ok (q.2.1, q.2.2))) = true := by decide +kernel
theorem npX12_trips : (parseMethodDescriptor (mY mX12_trips).desc).map (fun d => d.parameters.length) = some 3 := by decide +kernel
theorem vX12_trips : mV mX12_trips := ⟨wI_X12_trips, wS_X12_trips, wN_X12, wC_X12_trips, by decide +kernel, by decide +kernel⟩
set_option maxHeartbeats 4000000 in
set_option maxRecDepth 100000 in
theorem sX12_trips_x1 {h : HP} {S : HS} {f : Int → Int} {p d w : Int} (Q0 : MAsk h S f) (hp_ : i32 p) (hd_ : i32 d) (hw_ : i32 w) (kn : ¬ (0 ≤ p ∧ p < sNp S)) : SpecK mX12_trips [vr 0, vi p, vi d, vi w] h (fun o h' => o = .inl (some (vi 0)) ∧ FQ h h' ∧ hI h' 0 0 = 1) := by
  refine Spec_of (by decide +kernel) (Nat.le_of_ble_eq_true rfl) ?_
  have hB := Q0.1.1
  have hNt := hB.1
  have hNp := hB.2.1
  have R := Q0.2.2.2.2
  have hT := R.1
  have hW := hT.1
  refine K_aload_n (dt_at dtX12_trips 0 rfl) rfl rfl ?_
  refine K_iconst (dt_at dtX12_trips 1 rfl) ?_
  refine K_putI (a := 0) (ci := 12) (k := 0) (dt_at dtX12_trips 2 rfl) (show TT 0 = (0, 12) from rfl) rfl (by decide) wF_X12_105 rfl (Or.inl rfl) rfl rfl ?_
  obtain ⟨hu1, eu1⟩ : ∃ z, z = sI h 0 0 0 := ⟨_, rfl⟩
  rw [← eu1]
  obtain ⟨iu1, fu1, au1, ru1⟩ := sI_fx eu1
  have Gu1 := MG_0 Q0 eu1
  refine K_aload_n (dt_at dtX12_trips 3 rfl) rfl rfl ?_
  refine K_iload_n (dt_at dtX12_trips 4 rfl) rfl rfl ?_
  refine K_callV (M' := mX12_isPerson) (a := 0) (ci := 12) (As := [vi p]) (st := []) (dt_at dtX12_trips 5 rfl) (sX12_isPerson_f (MD_np (MG_D0 Gu1)) hNp Gu1.2.2.2 (by assumption) (by omega)) (show TT 0 = (0, 12) from rfl) rfl wL_X12_375 vX12_isPerson rfl npX12_isPerson (by decide) (by decide) (Nat.le_of_ble_eq_true rfl) (by decide) (by decide) GK_E (fun v9 hc2 hq => ?_) (fun E h9 hq => by cases hq.1)
  have hqq3 := hq
  obtain ⟨e9q3, e8q3⟩ := hqq3
  obtain ⟨iq3, fq3, aq3, rq3⟩ := sI_fx e8q3
  have Bq3 : FQ h hc2 := FQ_tr Gu1.2.1 (FQ_I e8q3 rfl Gu1.2.1.2.2.2.2)
  cases e9q3
  show K mX12_trips _ _ 0 0 10 [(0, vr 0), (1, vi p), (2, vi d), (3, vi w)] [vi 0] hc2
  refine K_if_eq (tgt := 32) (dt_at dtX12_trips 6 rfl) (by decide) (by first | assumption | exact ⟨by omega, by omega⟩) (fun c1 => ?_) (fun c1 => absurd c1 (by omega))
  refine K_iconst (dt_at dtX12_trips 18 rfl) ?_
  exact K_iret (dt_at dtX12_trips 19 rfl) rfl rfl (by decide) (by decide) ⟨rfl, Bq3, iq3⟩
set_option maxHeartbeats 4000000 in
set_option maxRecDepth 100000 in
theorem sX12_trips_x2 {h : HP} {S : HS} {f : Int → Int} {p d w : Int} (Q0 : MAsk h S f) (hp_ : i32 p) (hd_ : i32 d) (hw_ : i32 w) (k0 : 0 ≤ p ∧ p < sNp S) (kn : ¬ (0 ≤ w ∧ w ≤ 1)) : SpecK mX12_trips [vr 0, vi p, vi d, vi w] h (fun o h' => o = .inl (some (vi 0)) ∧ FQ h h' ∧ hI h' 0 0 = 1) := by
  refine Spec_of (by decide +kernel) (Nat.le_of_ble_eq_true rfl) ?_
  have hB := Q0.1.1
  have hNt := hB.1
  have hNp := hB.2.1
  have R := Q0.2.2.2.2
  have hT := R.1
  have hW := hT.1
  refine K_aload_n (dt_at dtX12_trips 0 rfl) rfl rfl ?_
  refine K_iconst (dt_at dtX12_trips 1 rfl) ?_
  refine K_putI (a := 0) (ci := 12) (k := 0) (dt_at dtX12_trips 2 rfl) (show TT 0 = (0, 12) from rfl) rfl (by decide) wF_X12_105 rfl (Or.inl rfl) rfl rfl ?_
  obtain ⟨hu1, eu1⟩ : ∃ z, z = sI h 0 0 0 := ⟨_, rfl⟩
  rw [← eu1]
  obtain ⟨iu1, fu1, au1, ru1⟩ := sI_fx eu1
  have Gu1 := MG_0 Q0 eu1
  refine K_aload_n (dt_at dtX12_trips 3 rfl) rfl rfl ?_
  refine K_iload_n (dt_at dtX12_trips 4 rfl) rfl rfl ?_
  refine K_callV (M' := mX12_isPerson) (a := 0) (ci := 12) (As := [vi p]) (st := []) (dt_at dtX12_trips 5 rfl) (sX12_isPerson_t (MD_np (MG_D0 Gu1)) hNp Gu1.2.2.2 (by omega)) (show TT 0 = (0, 12) from rfl) rfl wL_X12_375 vX12_isPerson rfl npX12_isPerson (by decide) (by decide) (Nat.le_of_ble_eq_true rfl) (by decide) (by decide) GK_E (fun v9 h9 hq => ?_) (fun E h9 hq => by cases hq.1)
  obtain ⟨e9, e8⟩ := hq
  cases e9
  rw [e8]
  show K mX12_trips _ _ 0 0 10 [(0, vr 0), (1, vi p), (2, vi d), (3, vi w)] [vi 1] hu1
  refine K_if_eq (tgt := 32) (dt_at dtX12_trips 6 rfl) (by decide) (by first | assumption | exact ⟨by omega, by omega⟩) (fun c1 => absurd c1 (by omega)) (fun c1 => ?_)
  refine K_aload_n (dt_at dtX12_trips 7 rfl) rfl rfl ?_
  refine K_iload_n (dt_at dtX12_trips 8 rfl) rfl rfl ?_
  refine K_iconst (dt_at dtX12_trips 9 rfl) ?_
  refine K_callV (M' := mX12_isWhat) (a := 0) (ci := 12) (As := [vi w, vi 1]) (st := []) (dt_at dtX12_trips 10 rfl) (sX12_isWhat_f Gu1.2.2.2 (by decide) (by assumption) (by omega)) (show TT 0 = (0, 12) from rfl) rfl wL_X12_371 vX12_isWhat rfl npX12_isWhat (by decide) (by decide) (Nat.le_of_ble_eq_true rfl) (by decide) (by decide) GK_E (fun v9 hc2 hq => ?_) (fun E h9 hq => by cases hq.1)
  have hqq3 := hq
  obtain ⟨e9q3, e8q3⟩ := hqq3
  obtain ⟨iq3, fq3, aq3, rq3⟩ := sI_fx e8q3
  have Bq3 : FQ h hc2 := FQ_tr Gu1.2.1 (FQ_I e8q3 rfl Gu1.2.1.2.2.2.2)
  cases e9q3
  show K mX12_trips _ _ 0 0 19 [(0, vr 0), (1, vi p), (2, vi d), (3, vi w)] [vi 0] hc2
  refine K_if_eq (tgt := 32) (dt_at dtX12_trips 11 rfl) (by decide) (by first | assumption | exact ⟨by omega, by omega⟩) (fun c2 => ?_) (fun c2 => absurd c2 (by omega))
  refine K_iconst (dt_at dtX12_trips 18 rfl) ?_
  exact K_iret (dt_at dtX12_trips 19 rfl) rfl rfl (by decide) (by decide) ⟨rfl, Bq3, iq3⟩
set_option maxHeartbeats 4000000 in
set_option maxRecDepth 100000 in
theorem sX12_trips_x3 {h : HP} {S : HS} {f : Int → Int} {p d w : Int} (Q0 : MAsk h S f) (hp_ : i32 p) (hd_ : i32 d) (hw_ : i32 w) (k0 : 0 ≤ p ∧ p < sNp S) (k1 : 0 ≤ w ∧ w ≤ 1) (kn : ¬ (0 ≤ d ∧ d ≤ 100)) : SpecK mX12_trips [vr 0, vi p, vi d, vi w] h (fun o h' => o = .inl (some (vi 0)) ∧ FQ h h' ∧ hI h' 0 0 = 2) := by
  refine Spec_of (by decide +kernel) (Nat.le_of_ble_eq_true rfl) ?_
  have hB := Q0.1.1
  have hNt := hB.1
  have hNp := hB.2.1
  have R := Q0.2.2.2.2
  have hT := R.1
  have hW := hT.1
  refine K_aload_n (dt_at dtX12_trips 0 rfl) rfl rfl ?_
  refine K_iconst (dt_at dtX12_trips 1 rfl) ?_
  refine K_putI (a := 0) (ci := 12) (k := 0) (dt_at dtX12_trips 2 rfl) (show TT 0 = (0, 12) from rfl) rfl (by decide) wF_X12_105 rfl (Or.inl rfl) rfl rfl ?_
  obtain ⟨hu1, eu1⟩ : ∃ z, z = sI h 0 0 0 := ⟨_, rfl⟩
  rw [← eu1]
  obtain ⟨iu1, fu1, au1, ru1⟩ := sI_fx eu1
  have Gu1 := MG_0 Q0 eu1
  refine K_aload_n (dt_at dtX12_trips 3 rfl) rfl rfl ?_
  refine K_iload_n (dt_at dtX12_trips 4 rfl) rfl rfl ?_
  refine K_callV (M' := mX12_isPerson) (a := 0) (ci := 12) (As := [vi p]) (st := []) (dt_at dtX12_trips 5 rfl) (sX12_isPerson_t (MD_np (MG_D0 Gu1)) hNp Gu1.2.2.2 (by omega)) (show TT 0 = (0, 12) from rfl) rfl wL_X12_375 vX12_isPerson rfl npX12_isPerson (by decide) (by decide) (Nat.le_of_ble_eq_true rfl) (by decide) (by decide) GK_E (fun v9 h9 hq => ?_) (fun E h9 hq => by cases hq.1)
  obtain ⟨e9, e8⟩ := hq
  cases e9
  rw [e8]
  show K mX12_trips _ _ 0 0 10 [(0, vr 0), (1, vi p), (2, vi d), (3, vi w)] [vi 1] hu1
  refine K_if_eq (tgt := 32) (dt_at dtX12_trips 6 rfl) (by decide) (by first | assumption | exact ⟨by omega, by omega⟩) (fun c1 => absurd c1 (by omega)) (fun c1 => ?_)
  refine K_aload_n (dt_at dtX12_trips 7 rfl) rfl rfl ?_
  refine K_iload_n (dt_at dtX12_trips 8 rfl) rfl rfl ?_
  refine K_iconst (dt_at dtX12_trips 9 rfl) ?_
  refine K_callV (M' := mX12_isWhat) (a := 0) (ci := 12) (As := [vi w, vi 1]) (st := []) (dt_at dtX12_trips 10 rfl) (sX12_isWhat_t Gu1.2.2.2 (by omega) (by omega)) (show TT 0 = (0, 12) from rfl) rfl wL_X12_371 vX12_isWhat rfl npX12_isWhat (by decide) (by decide) (Nat.le_of_ble_eq_true rfl) (by decide) (by decide) GK_E (fun v9 h9 hq => ?_) (fun E h9 hq => by cases hq.1)
  obtain ⟨e9, e8⟩ := hq
  cases e9
  rw [e8]
  show K mX12_trips _ _ 0 0 19 [(0, vr 0), (1, vi p), (2, vi d), (3, vi w)] [vi 1] hu1
  refine K_if_eq (tgt := 32) (dt_at dtX12_trips 11 rfl) (by decide) (by first | assumption | exact ⟨by omega, by omega⟩) (fun c2 => absurd c2 (by omega)) (fun c2 => ?_)
  refine K_aload_n (dt_at dtX12_trips 12 rfl) rfl rfl ?_
  refine K_iload_n (dt_at dtX12_trips 13 rfl) rfl rfl ?_
  refine K_iconst (dt_at dtX12_trips 14 rfl) ?_
  refine K_iconst (dt_at dtX12_trips 15 rfl) ?_
  refine K_callV (M' := mX12_isSoon) (a := 0) (ci := 12) (As := [vi d, vi 0, vi 2]) (st := []) (dt_at dtX12_trips 16 rfl) (sX12_isSoon_f Gu1.2.2.2 (by decide) (by assumption) (by omega) (by decide)) (show TT 0 = (0, 12) from rfl) rfl wL_X12_403 vX12_isSoon rfl npX12_isSoon (by decide) (by decide) (Nat.le_of_ble_eq_true rfl) (by decide) (by decide) GK_E (fun v9 hc2 hq => ?_) (fun E h9 hq => by cases hq.1)
  have hqq3 := hq
  obtain ⟨e9q3, e8q3⟩ := hqq3
  obtain ⟨iq3, fq3, aq3, rq3⟩ := sI_fx e8q3
  have Bq3 : FQ h hc2 := FQ_tr Gu1.2.1 (FQ_I e8q3 rfl Gu1.2.1.2.2.2.2)
  cases e9q3
  show K mX12_trips _ _ 0 0 29 [(0, vr 0), (1, vi p), (2, vi d), (3, vi w)] [vi 0] hc2
  refine K_if_ne (tgt := 34) (dt_at dtX12_trips 17 rfl) (by decide) (by first | assumption | exact ⟨by omega, by omega⟩) (fun c3 => absurd c3 (by omega)) (fun c3 => ?_)
  refine K_iconst (dt_at dtX12_trips 18 rfl) ?_
  exact K_iret (dt_at dtX12_trips 19 rfl) rfl rfl (by decide) (by decide) ⟨rfl, Bq3, iq3⟩
set_option maxHeartbeats 4000000 in
set_option maxRecDepth 100000 in
theorem lp_X12_trips_0 {h : HP} {S : HS} {f : Int → Int} {p : Int} {n : Nat} (Q0 : MAsk h S f) (hp : 0 ≤ p ∧ p < sNp S) (hn : n ≤ 100) : ∀ (dd k : Nat) (hh : HP), k + dd = n + 1 → MG h hh S f (dysF S f k) → K mX12_trips GK (ZK (fun o h' => o = .inl (some (vi (trD S f (fun _ => 0) n p))) ∧ FQ h h' ∧ hI h' 0 0 = 0) 0 0) 0 0 50 [(7, vi (k : Int)), (6, vi (mxN (-1) (fun k => sumF (sU S) (dysF S f k) p (sNt S)) k)), (5, vi (fmN (-1) 0 0 (fun k => sumF (sU S) (dysF S f k) p (sNt S)) k)), (4, vi (trD S f (fun _ => 0) (min k n) p)), (0, vr 0), (1, vi p), (2, vi (n : Int)), (3, vi 0)] [] hh := by
  intro dd
  induction dd with
  | zero =>
    intro k hh hk G
    have hB := Q0.1.1
    have hNt := hB.1
    have hNp := hB.2.1
    have R := Q0.2.2.2.2
    have hT := R.1
    have hW := hT.1
    obtain ⟨a1, a2, a3, a4, a5⟩ := dys_R hB R (n := k) (by omega)
    have ek : k = n + 1 := by omega
    refine K_iload (dt_at dtX12_trips 30 rfl) rfl ?_
    refine K_iload_n (dt_at dtX12_trips 31 rfl) rfl rfl ?_
    refine K_icmp_gt (tgt := 116) (dt_at dtX12_trips 32 rfl) (by decide) (by first | assumption | exact ⟨by omega, by omega⟩) (by first | assumption | exact ⟨by omega, by omega⟩) (fun c1 => ?_) (fun c1 => absurd c1 (by omega))
    refine K_iload_n (dt_at dtX12_trips 65 rfl) rfl rfl ?_
    refine K_if_ne (tgt := 125) (dt_at dtX12_trips 66 rfl) (by decide) (by first | assumption | exact ⟨by omega, by omega⟩) (fun c2 => absurd c2 (by omega)) (fun c2 => ?_)
    refine K_iload (dt_at dtX12_trips 67 rfl) rfl ?_
    refine K_goto (tgt := 127) (dt_at dtX12_trips 68 rfl) (by decide) ?_
    exact K_iret (dt_at dtX12_trips 70 rfl) rfl rfl (by decide) (by decide) ⟨by rw [show min k n = n by omega], G.2.1, G.2.2.2⟩
  | succ dd ih =>
    intro k hh hk G
    have hB := Q0.1.1
    have hNt := hB.1
    have hNp := hB.2.1
    have R := Q0.2.2.2.2
    have hT := R.1
    have hW := hT.1
    obtain ⟨a1, a2, a3, a4, a5⟩ := dys_R hB R (n := k) (by omega)
    obtain ⟨n1, n2, n3, n4, n5⟩ := dys_R hB R (n := k + 1) (by omega)
    have ub := sumD_b (n := k) (us := sU S) (p := p) hB hT R.2.1 (by have := R.2.2.1; omega) (by omega) (Or.inr rfl)
    have mb := mxN_b (s := -1) (M := 1000000000) (u := (fun k => sumF (sU S) (dysF S f k) p (sNt S))) (by omega) k (fun j _ => by have := sumD_b (n := j) (us := sU S) (p := p) hB hT R.2.1 (by have := R.2.2.1; omega) (by omega) (Or.inr rfl); show sumF (sU S) (dysF S f j) p (sNt S) ≤ 1000000000; omega)
    refine K_iload (dt_at dtX12_trips 30 rfl) rfl ?_
    refine K_iload_n (dt_at dtX12_trips 31 rfl) rfl rfl ?_
    refine K_icmp_gt (tgt := 116) (dt_at dtX12_trips 32 rfl) (by decide) (by first | assumption | exact ⟨by omega, by omega⟩) (by first | assumption | exact ⟨by omega, by omega⟩) (fun c1 => absurd c1 (by omega)) (fun c1 => ?_)
    refine K_aload_n (dt_at dtX12_trips 33 rfl) rfl rfl ?_
    refine K_bipush (dt_at dtX12_trips 34 rfl) (by decide) ?_
    refine K_iload_n (dt_at dtX12_trips 35 rfl) rfl rfl ?_
    refine K_callV (M' := mX12_useIn) (a := 0) (ci := 12) (As := [vi 77, vi p]) (st := []) (dt_at dtX12_trips 36 rfl) (sX12_useIn (MG_D7 G) a1.1 (by omega)) (show TT 0 = (0, 12) from rfl) rfl wL_X12_319 vX12_useIn rfl npX12_useIn (by decide) (by decide) (Nat.le_of_ble_eq_true rfl) (by decide) (by decide) GK_E (fun v9 h9 hq => ?_) (fun E h9 hq => by cases hq.1)
    obtain ⟨e9, e8⟩ := hq
    cases e9
    rw [e8]
    show K mX12_trips _ _ 0 0 63 [(7, vi (k : Int)), (6, vi (mxN (-1) (fun k => sumF (sU S) (dysF S f k) p (sNt S)) k)), (5, vi (fmN (-1) 0 0 (fun k => sumF (sU S) (dysF S f k) p (sNt S)) k)), (4, vi (trD S f (fun _ => 0) (min k n) p)), (0, vr 0), (1, vi p), (2, vi (n : Int)), (3, vi 0)] [vi (sumF (sU S) (dysF S f k) p (sNt S))] hh
    refine K_iload (dt_at dtX12_trips 37 rfl) rfl ?_
    refine K_icmp_le (tgt := 81) (dt_at dtX12_trips 38 rfl) (by decide) (by first | assumption | exact ⟨by omega, by omega⟩) (by first | assumption | exact ⟨by omega, by omega⟩) (fun c2 => ?_) (fun c2 => ?_)
    · refine K_aload_n (dt_at dtX12_trips 46 rfl) rfl rfl ?_
      refine K_bipush (dt_at dtX12_trips 47 rfl) (by decide) ?_
      refine K_callV (M' := mX12_dayGoes) (a := 0) (ci := 12) (As := [vi 77]) (st := []) (dt_at dtX12_trips 48 rfl) (sX12_dayGoes (MG_D7 G) a1 a2 a3 a4 (MG_49 G)) (show TT 0 = (0, 12) from rfl) rfl wL_X12_334 vX12_dayGoes rfl npX12_dayGoes (by decide) (by decide) (Nat.le_of_ble_eq_true rfl) (by decide) (by decide) GK_E (fun v9 hc1 hq => ?_) (fun E h9 hq => by cases hq.1)
      have hqq2 := hq
      obtain ⟨e9q2, dq2, ⟨lq2, mq2⟩, iq2⟩ := hqq2
      have Gq2 : MG h hc1 S f (dysF S f (k + 1)) := MG_day G dq2
      cases e9q2
      show K mX12_trips _ _ 0 0 87 [(7, vi (k : Int)), (6, vi (mxN (-1) (fun k => sumF (sU S) (dysF S f k) p (sNt S)) k)), (5, vi (fmN (-1) 0 0 (fun k => sumF (sU S) (dysF S f k) p (sNt S)) k)), (4, vi (trD S f (fun _ => 0) (min k n) p)), (0, vr 0), (1, vi p), (2, vi (n : Int)), (3, vi 0)] [] hc1
      refine K_iload (dt_at dtX12_trips 49 rfl) rfl ?_
      refine K_iload (dt_at dtX12_trips 50 rfl) rfl ?_
      refine K_iload_n (dt_at dtX12_trips 51 rfl) rfl rfl ?_
      refine K_icmp_ge (tgt := 106) (dt_at dtX12_trips 52 rfl) (by decide) (by first | assumption | exact ⟨by omega, by omega⟩) (by first | assumption | exact ⟨by omega, by omega⟩) (fun c3 => ?_) (fun c3 => ?_)
      · refine K_iconst (dt_at dtX12_trips 60 rfl) ?_
        refine K_iadd (dt_at dtX12_trips 61 rfl) ?_
        refine K_istore (ls' := [(4, vi ((trD S f (fun _ => 0) (min k n) p) + 0)), (7, vi (k : Int)), (6, vi (mxN (-1) (fun k => sumF (sU S) (dysF S f k) p (sNt S)) k)), (5, vi (fmN (-1) 0 0 (fun k => sumF (sU S) (dysF S f k) p (sNt S)) k)), (0, vr 0), (1, vi p), (2, vi (n : Int)), (3, vi 0)]) (dt_at dtX12_trips 62 rfl) (by decide) rfl ?_
        refine K_iinc (ls' := [(7, vi ((k : Int) + 1)), (4, vi ((trD S f (fun _ => 0) (min k n) p) + 0)), (6, vi (mxN (-1) (fun k => sumF (sU S) (dysF S f k) p (sNt S)) k)), (5, vi (fmN (-1) 0 0 (fun k => sumF (sU S) (dysF S f k) p (sNt S)) k)), (0, vr 0), (1, vi p), (2, vi (n : Int)), (3, vi 0)]) (dt_at dtX12_trips 63 rfl) rfl (by decide) rfl ?_
        refine K_goto (tgt := 50) (dt_at dtX12_trips 64 rfl) (by decide) ?_
        refine K_pk [0, 2, 3, 1, 4, 5, 6, 7] (ls' := [(7, vi ((k : Int) + 1)), (6, vi (mxN (-1) (fun k => sumF (sU S) (dysF S f k) p (sNt S)) k)), (5, vi (fmN (-1) 0 0 (fun k => sumF (sU S) (dysF S f k) p (sNt S)) k)), (4, vi ((trD S f (fun _ => 0) (min k n) p) + 0)), (0, vr 0), (1, vi p), (2, vi (n : Int)), (3, vi 0)]) rfl ?_
        exact K_cg (ls' := [(7, vi ((k + 1 : Nat) : Int)), (6, vi (mxN (-1) (fun k => sumF (sU S) (dysF S f k) p (sNt S)) (k + 1))), (5, vi (fmN (-1) 0 0 (fun k => sumF (sU S) (dysF S f k) p (sNt S)) (k + 1))), (4, vi (trD S f (fun _ => 0) (min (k + 1) n) p)), (0, vr 0), (1, vi p), (2, vi (n : Int)), (3, vi 0)]) (h' := hc1) (by rw [fmN_f (u := (fun k => sumF (sU S) (dysF S f k) p (sNt S))) (by show ¬ (mxN (-1) (fun k => sumF (sU S) (dysF S f k) p (sNt S)) k) < sumF (sU S) (dysF S f k) p (sNt S); omega), mxN_f (u := (fun k => sumF (sU S) (dysF S f k) p (sNt S))) (by show ¬ (mxN (-1) (fun k => sumF (sU S) (dysF S f k) p (sNt S)) k) < sumF (sU S) (dysF S f k) p (sNt S); omega)]; rw [show min (k + 1) n = min k n by omega, show (trD S f (fun _ => 0) (min k n) p) + 0 = (trD S f (fun _ => 0) (min k n) p) by omega]; rfl) rfl (ih (k + 1) hc1 (by omega) Gq2)
      · refine K_aload_n (dt_at dtX12_trips 53 rfl) rfl rfl ?_
        refine K_get (a := 0) (ci := 12) (k := 47) (v := vi (bitN (lvA S (dysF S f k)) (sNp S))) (dt_at dtX12_trips 54 rfl) (show TT 0 = (0, 12) from rfl) rfl (by decide) wF_X12_313 (by show vi (hI hc1 0 47) = vi (bitN (lvA S (dysF S f k)) (sNp S)); rw [lq2]) ?_
        refine K_iload_n (dt_at dtX12_trips 55 rfl) rfl rfl ?_
        refine K_ishr (dt_at dtX12_trips 56 rfl) ?_
        refine K_iconst (dt_at dtX12_trips 57 rfl) ?_
        refine K_iand (dt_at dtX12_trips 58 rfl) ?_
        refine K_goto (tgt := 107) (dt_at dtX12_trips 59 rfl) (by decide) ?_
        refine K_iadd (dt_at dtX12_trips 61 rfl) ?_
        refine K_istore (ls' := [(4, vi ((trD S f (fun _ => 0) (min k n) p) + (bAnd (bShr (bitN (lvA S (dysF S f k)) (sNp S)) p) 1))), (7, vi (k : Int)), (6, vi (mxN (-1) (fun k => sumF (sU S) (dysF S f k) p (sNt S)) k)), (5, vi (fmN (-1) 0 0 (fun k => sumF (sU S) (dysF S f k) p (sNt S)) k)), (0, vr 0), (1, vi p), (2, vi (n : Int)), (3, vi 0)]) (dt_at dtX12_trips 62 rfl) (by decide) rfl ?_
        refine K_iinc (ls' := [(7, vi ((k : Int) + 1)), (4, vi ((trD S f (fun _ => 0) (min k n) p) + (bAnd (bShr (bitN (lvA S (dysF S f k)) (sNp S)) p) 1))), (6, vi (mxN (-1) (fun k => sumF (sU S) (dysF S f k) p (sNt S)) k)), (5, vi (fmN (-1) 0 0 (fun k => sumF (sU S) (dysF S f k) p (sNt S)) k)), (0, vr 0), (1, vi p), (2, vi (n : Int)), (3, vi 0)]) (dt_at dtX12_trips 63 rfl) rfl (by decide) rfl ?_
        refine K_goto (tgt := 50) (dt_at dtX12_trips 64 rfl) (by decide) ?_
        refine K_pk [0, 2, 3, 1, 4, 5, 6, 7] (ls' := [(7, vi ((k : Int) + 1)), (6, vi (mxN (-1) (fun k => sumF (sU S) (dysF S f k) p (sNt S)) k)), (5, vi (fmN (-1) 0 0 (fun k => sumF (sU S) (dysF S f k) p (sNt S)) k)), (4, vi ((trD S f (fun _ => 0) (min k n) p) + (bAnd (bShr (bitN (lvA S (dysF S f k)) (sNp S)) p) 1))), (0, vr 0), (1, vi p), (2, vi (n : Int)), (3, vi 0)]) rfl ?_
        exact K_cg (ls' := [(7, vi ((k + 1 : Nat) : Int)), (6, vi (mxN (-1) (fun k => sumF (sU S) (dysF S f k) p (sNt S)) (k + 1))), (5, vi (fmN (-1) 0 0 (fun k => sumF (sU S) (dysF S f k) p (sNt S)) (k + 1))), (4, vi (trD S f (fun _ => 0) (min (k + 1) n) p)), (0, vr 0), (1, vi p), (2, vi (n : Int)), (3, vi 0)]) (h' := hc1) (by rw [fmN_f (u := (fun k => sumF (sU S) (dysF S f k) p (sNt S))) (by show ¬ (mxN (-1) (fun k => sumF (sU S) (dysF S f k) p (sNt S)) k) < sumF (sU S) (dysF S f k) p (sNt S); omega), mxN_f (u := (fun k => sumF (sU S) (dysF S f k) p (sNt S))) (by show ¬ (mxN (-1) (fun k => sumF (sU S) (dysF S f k) p (sNt S)) k) < sumF (sU S) (dysF S f k) p (sNt S); omega)]; rw [show min (k + 1) n = min k n + 1 by omega, trD_s hB hp, show dysF S f (min k n) = dysF S f k by rw [show min k n = k by omega]]; rfl) rfl (ih (k + 1) hc1 (by omega) Gq2)
    · refine K_aload_n (dt_at dtX12_trips 39 rfl) rfl rfl ?_
      refine K_bipush (dt_at dtX12_trips 40 rfl) (by decide) ?_
      refine K_iload_n (dt_at dtX12_trips 41 rfl) rfl rfl ?_
      refine K_callV (M' := mX12_useIn) (a := 0) (ci := 12) (As := [vi 77, vi p]) (st := []) (dt_at dtX12_trips 42 rfl) (sX12_useIn (MG_D7 G) a1.1 (by omega)) (show TT 0 = (0, 12) from rfl) rfl wL_X12_319 vX12_useIn rfl npX12_useIn (by decide) (by decide) (Nat.le_of_ble_eq_true rfl) (by decide) (by decide) GK_E (fun v9 h9 hq => ?_) (fun E h9 hq => by cases hq.1)
      obtain ⟨e9, e8⟩ := hq
      cases e9
      rw [e8]
      show K mX12_trips _ _ 0 0 75 [(7, vi (k : Int)), (6, vi (mxN (-1) (fun k => sumF (sU S) (dysF S f k) p (sNt S)) k)), (5, vi (fmN (-1) 0 0 (fun k => sumF (sU S) (dysF S f k) p (sNt S)) k)), (4, vi (trD S f (fun _ => 0) (min k n) p)), (0, vr 0), (1, vi p), (2, vi (n : Int)), (3, vi 0)] [vi (sumF (sU S) (dysF S f k) p (sNt S))] hh
      refine K_istore (ls' := [(6, vi (sumF (sU S) (dysF S f k) p (sNt S))), (7, vi (k : Int)), (5, vi (fmN (-1) 0 0 (fun k => sumF (sU S) (dysF S f k) p (sNt S)) k)), (4, vi (trD S f (fun _ => 0) (min k n) p)), (0, vr 0), (1, vi p), (2, vi (n : Int)), (3, vi 0)]) (dt_at dtX12_trips 43 rfl) (by decide) rfl ?_
      refine K_iload (dt_at dtX12_trips 44 rfl) rfl ?_
      refine K_istore (ls' := [(5, vi (k : Int)), (6, vi (sumF (sU S) (dysF S f k) p (sNt S))), (7, vi (k : Int)), (4, vi (trD S f (fun _ => 0) (min k n) p)), (0, vr 0), (1, vi p), (2, vi (n : Int)), (3, vi 0)]) (dt_at dtX12_trips 45 rfl) (by decide) rfl ?_
      refine K_aload_n (dt_at dtX12_trips 46 rfl) rfl rfl ?_
      refine K_bipush (dt_at dtX12_trips 47 rfl) (by decide) ?_
      refine K_callV (M' := mX12_dayGoes) (a := 0) (ci := 12) (As := [vi 77]) (st := []) (dt_at dtX12_trips 48 rfl) (sX12_dayGoes (MG_D7 G) a1 a2 a3 a4 (MG_49 G)) (show TT 0 = (0, 12) from rfl) rfl wL_X12_334 vX12_dayGoes rfl npX12_dayGoes (by decide) (by decide) (Nat.le_of_ble_eq_true rfl) (by decide) (by decide) GK_E (fun v9 hc3 hq => ?_) (fun E h9 hq => by cases hq.1)
      have hqq4 := hq
      obtain ⟨e9q4, dq4, ⟨lq4, mq4⟩, iq4⟩ := hqq4
      have Gq4 : MG h hc3 S f (dysF S f (k + 1)) := MG_day G dq4
      cases e9q4
      show K mX12_trips _ _ 0 0 87 [(5, vi (k : Int)), (6, vi (sumF (sU S) (dysF S f k) p (sNt S))), (7, vi (k : Int)), (4, vi (trD S f (fun _ => 0) (min k n) p)), (0, vr 0), (1, vi p), (2, vi (n : Int)), (3, vi 0)] [] hc3
      refine K_iload (dt_at dtX12_trips 49 rfl) rfl ?_
      refine K_iload (dt_at dtX12_trips 50 rfl) rfl ?_
      refine K_iload_n (dt_at dtX12_trips 51 rfl) rfl rfl ?_
      refine K_icmp_ge (tgt := 106) (dt_at dtX12_trips 52 rfl) (by decide) (by first | assumption | exact ⟨by omega, by omega⟩) (by first | assumption | exact ⟨by omega, by omega⟩) (fun c4 => ?_) (fun c4 => ?_)
      · refine K_iconst (dt_at dtX12_trips 60 rfl) ?_
        refine K_iadd (dt_at dtX12_trips 61 rfl) ?_
        refine K_istore (ls' := [(4, vi ((trD S f (fun _ => 0) (min k n) p) + 0)), (5, vi (k : Int)), (6, vi (sumF (sU S) (dysF S f k) p (sNt S))), (7, vi (k : Int)), (0, vr 0), (1, vi p), (2, vi (n : Int)), (3, vi 0)]) (dt_at dtX12_trips 62 rfl) (by decide) rfl ?_
        refine K_iinc (ls' := [(7, vi ((k : Int) + 1)), (4, vi ((trD S f (fun _ => 0) (min k n) p) + 0)), (5, vi (k : Int)), (6, vi (sumF (sU S) (dysF S f k) p (sNt S))), (0, vr 0), (1, vi p), (2, vi (n : Int)), (3, vi 0)]) (dt_at dtX12_trips 63 rfl) rfl (by decide) rfl ?_
        refine K_goto (tgt := 50) (dt_at dtX12_trips 64 rfl) (by decide) ?_
        refine K_pk [0, 3, 2, 1, 4, 5, 6, 7] (ls' := [(7, vi ((k : Int) + 1)), (6, vi (sumF (sU S) (dysF S f k) p (sNt S))), (5, vi (k : Int)), (4, vi ((trD S f (fun _ => 0) (min k n) p) + 0)), (0, vr 0), (1, vi p), (2, vi (n : Int)), (3, vi 0)]) rfl ?_
        exact K_cg (ls' := [(7, vi ((k + 1 : Nat) : Int)), (6, vi (mxN (-1) (fun k => sumF (sU S) (dysF S f k) p (sNt S)) (k + 1))), (5, vi (fmN (-1) 0 0 (fun k => sumF (sU S) (dysF S f k) p (sNt S)) (k + 1))), (4, vi (trD S f (fun _ => 0) (min (k + 1) n) p)), (0, vr 0), (1, vi p), (2, vi (n : Int)), (3, vi 0)]) (h' := hc3) (by rw [fmN_t (u := (fun k => sumF (sU S) (dysF S f k) p (sNt S))) (by show (mxN (-1) (fun k => sumF (sU S) (dysF S f k) p (sNt S)) k) < sumF (sU S) (dysF S f k) p (sNt S); omega), mxN_t (u := (fun k => sumF (sU S) (dysF S f k) p (sNt S))) (by show (mxN (-1) (fun k => sumF (sU S) (dysF S f k) p (sNt S)) k) < sumF (sU S) (dysF S f k) p (sNt S); omega), show ((k : Int) + 0) = (k : Int) by omega]; rw [show min (k + 1) n = min k n by omega, show (trD S f (fun _ => 0) (min k n) p) + 0 = (trD S f (fun _ => 0) (min k n) p) by omega]; rfl) rfl (ih (k + 1) hc3 (by omega) Gq4)
      · refine K_aload_n (dt_at dtX12_trips 53 rfl) rfl rfl ?_
        refine K_get (a := 0) (ci := 12) (k := 47) (v := vi (bitN (lvA S (dysF S f k)) (sNp S))) (dt_at dtX12_trips 54 rfl) (show TT 0 = (0, 12) from rfl) rfl (by decide) wF_X12_313 (by show vi (hI hc3 0 47) = vi (bitN (lvA S (dysF S f k)) (sNp S)); rw [lq4]) ?_
        refine K_iload_n (dt_at dtX12_trips 55 rfl) rfl rfl ?_
        refine K_ishr (dt_at dtX12_trips 56 rfl) ?_
        refine K_iconst (dt_at dtX12_trips 57 rfl) ?_
        refine K_iand (dt_at dtX12_trips 58 rfl) ?_
        refine K_goto (tgt := 107) (dt_at dtX12_trips 59 rfl) (by decide) ?_
        refine K_iadd (dt_at dtX12_trips 61 rfl) ?_
        refine K_istore (ls' := [(4, vi ((trD S f (fun _ => 0) (min k n) p) + (bAnd (bShr (bitN (lvA S (dysF S f k)) (sNp S)) p) 1))), (5, vi (k : Int)), (6, vi (sumF (sU S) (dysF S f k) p (sNt S))), (7, vi (k : Int)), (0, vr 0), (1, vi p), (2, vi (n : Int)), (3, vi 0)]) (dt_at dtX12_trips 62 rfl) (by decide) rfl ?_
        refine K_iinc (ls' := [(7, vi ((k : Int) + 1)), (4, vi ((trD S f (fun _ => 0) (min k n) p) + (bAnd (bShr (bitN (lvA S (dysF S f k)) (sNp S)) p) 1))), (5, vi (k : Int)), (6, vi (sumF (sU S) (dysF S f k) p (sNt S))), (0, vr 0), (1, vi p), (2, vi (n : Int)), (3, vi 0)]) (dt_at dtX12_trips 63 rfl) rfl (by decide) rfl ?_
        refine K_goto (tgt := 50) (dt_at dtX12_trips 64 rfl) (by decide) ?_
        refine K_pk [0, 3, 2, 1, 4, 5, 6, 7] (ls' := [(7, vi ((k : Int) + 1)), (6, vi (sumF (sU S) (dysF S f k) p (sNt S))), (5, vi (k : Int)), (4, vi ((trD S f (fun _ => 0) (min k n) p) + (bAnd (bShr (bitN (lvA S (dysF S f k)) (sNp S)) p) 1))), (0, vr 0), (1, vi p), (2, vi (n : Int)), (3, vi 0)]) rfl ?_
        exact K_cg (ls' := [(7, vi ((k + 1 : Nat) : Int)), (6, vi (mxN (-1) (fun k => sumF (sU S) (dysF S f k) p (sNt S)) (k + 1))), (5, vi (fmN (-1) 0 0 (fun k => sumF (sU S) (dysF S f k) p (sNt S)) (k + 1))), (4, vi (trD S f (fun _ => 0) (min (k + 1) n) p)), (0, vr 0), (1, vi p), (2, vi (n : Int)), (3, vi 0)]) (h' := hc3) (by rw [fmN_t (u := (fun k => sumF (sU S) (dysF S f k) p (sNt S))) (by show (mxN (-1) (fun k => sumF (sU S) (dysF S f k) p (sNt S)) k) < sumF (sU S) (dysF S f k) p (sNt S); omega), mxN_t (u := (fun k => sumF (sU S) (dysF S f k) p (sNt S))) (by show (mxN (-1) (fun k => sumF (sU S) (dysF S f k) p (sNt S)) k) < sumF (sU S) (dysF S f k) p (sNt S); omega), show ((k : Int) + 0) = (k : Int) by omega]; rw [show min (k + 1) n = min k n + 1 by omega, trD_s hB hp, show dysF S f (min k n) = dysF S f k by rw [show min k n = k by omega]]; rfl) rfl (ih (k + 1) hc3 (by omega) Gq4)
set_option maxHeartbeats 4000000 in
set_option maxRecDepth 100000 in
theorem sX12_trips_0 {h : HP} {S : HS} {f : Int → Int} {p : Int} {n : Nat} (Q0 : MAsk h S f) (hp : 0 ≤ p ∧ p < sNp S) (hn : n ≤ 100) : SpecK mX12_trips [vr 0, vi p, vi (n : Int), vi 0] h (fun o h' => o = .inl (some (vi (trD S f (fun _ => 0) n p))) ∧ FQ h h' ∧ hI h' 0 0 = 0) := by
  refine Spec_of (by decide +kernel) (Nat.le_of_ble_eq_true rfl) ?_
  have hB := Q0.1.1
  have hNt := hB.1
  have hNp := hB.2.1
  have R := Q0.2.2.2.2
  have hT := R.1
  have hW := hT.1
  refine K_aload_n (dt_at dtX12_trips 0 rfl) rfl rfl ?_
  refine K_iconst (dt_at dtX12_trips 1 rfl) ?_
  refine K_putI (a := 0) (ci := 12) (k := 0) (dt_at dtX12_trips 2 rfl) (show TT 0 = (0, 12) from rfl) rfl (by decide) wF_X12_105 rfl (Or.inl rfl) rfl rfl ?_
  obtain ⟨hu1, eu1⟩ : ∃ z, z = sI h 0 0 0 := ⟨_, rfl⟩
  rw [← eu1]
  obtain ⟨iu1, fu1, au1, ru1⟩ := sI_fx eu1
  have Gu1 := MG_0 Q0 eu1
  refine K_aload_n (dt_at dtX12_trips 3 rfl) rfl rfl ?_
  refine K_iload_n (dt_at dtX12_trips 4 rfl) rfl rfl ?_
  refine K_callV (M' := mX12_isPerson) (a := 0) (ci := 12) (As := [vi p]) (st := []) (dt_at dtX12_trips 5 rfl) (sX12_isPerson_t (MD_np (MG_D0 Gu1)) hNp Gu1.2.2.2 (by omega)) (show TT 0 = (0, 12) from rfl) rfl wL_X12_375 vX12_isPerson rfl npX12_isPerson (by decide) (by decide) (Nat.le_of_ble_eq_true rfl) (by decide) (by decide) GK_E (fun v9 h9 hq => ?_) (fun E h9 hq => by cases hq.1)
  obtain ⟨e9, e8⟩ := hq
  cases e9
  rw [e8]
  show K mX12_trips _ _ 0 0 10 [(0, vr 0), (1, vi p), (2, vi (n : Int)), (3, vi 0)] [vi 1] hu1
  refine K_if_eq (tgt := 32) (dt_at dtX12_trips 6 rfl) (by decide) (by first | assumption | exact ⟨by omega, by omega⟩) (fun c1 => absurd c1 (by omega)) (fun c1 => ?_)
  refine K_aload_n (dt_at dtX12_trips 7 rfl) rfl rfl ?_
  refine K_iload_n (dt_at dtX12_trips 8 rfl) rfl rfl ?_
  refine K_iconst (dt_at dtX12_trips 9 rfl) ?_
  refine K_callV (M' := mX12_isWhat) (a := 0) (ci := 12) (As := [vi 0, vi 1]) (st := []) (dt_at dtX12_trips 10 rfl) (sX12_isWhat_t Gu1.2.2.2 (by omega) (by omega)) (show TT 0 = (0, 12) from rfl) rfl wL_X12_371 vX12_isWhat rfl npX12_isWhat (by decide) (by decide) (Nat.le_of_ble_eq_true rfl) (by decide) (by decide) GK_E (fun v9 h9 hq => ?_) (fun E h9 hq => by cases hq.1)
  obtain ⟨e9, e8⟩ := hq
  cases e9
  rw [e8]
  show K mX12_trips _ _ 0 0 19 [(0, vr 0), (1, vi p), (2, vi (n : Int)), (3, vi 0)] [vi 1] hu1
  refine K_if_eq (tgt := 32) (dt_at dtX12_trips 11 rfl) (by decide) (by first | assumption | exact ⟨by omega, by omega⟩) (fun c2 => absurd c2 (by omega)) (fun c2 => ?_)
  refine K_aload_n (dt_at dtX12_trips 12 rfl) rfl rfl ?_
  refine K_iload_n (dt_at dtX12_trips 13 rfl) rfl rfl ?_
  refine K_iconst (dt_at dtX12_trips 14 rfl) ?_
  refine K_iconst (dt_at dtX12_trips 15 rfl) ?_
  refine K_callV (M' := mX12_isSoon) (a := 0) (ci := 12) (As := [vi (n : Int), vi 0, vi 2]) (st := []) (dt_at dtX12_trips 16 rfl) (sX12_isSoon_t Gu1.2.2.2 (by omega) (by omega)) (show TT 0 = (0, 12) from rfl) rfl wL_X12_403 vX12_isSoon rfl npX12_isSoon (by decide) (by decide) (Nat.le_of_ble_eq_true rfl) (by decide) (by decide) GK_E (fun v9 h9 hq => ?_) (fun E h9 hq => by cases hq.1)
  obtain ⟨e9, e8⟩ := hq
  cases e9
  rw [e8]
  show K mX12_trips _ _ 0 0 29 [(0, vr 0), (1, vi p), (2, vi (n : Int)), (3, vi 0)] [vi 1] hu1
  refine K_if_ne (tgt := 34) (dt_at dtX12_trips 17 rfl) (by decide) (by first | assumption | exact ⟨by omega, by omega⟩) (fun c3 => ?_) (fun c3 => absurd c3 (by omega))
  refine K_iconst (dt_at dtX12_trips 20 rfl) ?_
  refine K_istore (ls' := [(4, vi 0), (0, vr 0), (1, vi p), (2, vi (n : Int)), (3, vi 0)]) (dt_at dtX12_trips 21 rfl) (by decide) rfl ?_
  refine K_iconst (dt_at dtX12_trips 22 rfl) ?_
  refine K_istore (ls' := [(5, vi 0), (4, vi 0), (0, vr 0), (1, vi p), (2, vi (n : Int)), (3, vi 0)]) (dt_at dtX12_trips 23 rfl) (by decide) rfl ?_
  refine K_iconst (dt_at dtX12_trips 24 rfl) ?_
  refine K_istore (ls' := [(6, vi (-1)), (5, vi 0), (4, vi 0), (0, vr 0), (1, vi p), (2, vi (n : Int)), (3, vi 0)]) (dt_at dtX12_trips 25 rfl) (by decide) rfl ?_
  refine K_aload_n (dt_at dtX12_trips 26 rfl) rfl rfl ?_
  refine K_callV (M' := mX12_tries) (a := 0) (ci := 12) (As := []) (st := []) (dt_at dtX12_trips 27 rfl) (sX12_tries) (show TT 0 = (0, 12) from rfl) rfl wL_X12_397 vX12_tries rfl npX12_tries (by decide) (by decide) (Nat.le_of_ble_eq_true rfl) (by decide) (by decide) GK_E (fun v9 hc2 hq => ?_) (fun E h9 hq => by cases hq.1)
  have hqq3 := hq
  obtain ⟨e9q3, t1q3, t2q3, t3q3, t4q3⟩ := hqq3
  have Gq3 := MG_try Gu1 t1q3 t2q3 t3q3 t4q3
  cases e9q3
  show K mX12_trips _ _ 0 0 47 [(6, vi (-1)), (5, vi 0), (4, vi 0), (0, vr 0), (1, vi p), (2, vi (n : Int)), (3, vi 0)] [] hc2
  refine K_iconst (dt_at dtX12_trips 28 rfl) ?_
  refine K_istore (ls' := [(7, vi 0), (6, vi (-1)), (5, vi 0), (4, vi 0), (0, vr 0), (1, vi p), (2, vi (n : Int)), (3, vi 0)]) (dt_at dtX12_trips 29 rfl) (by decide) rfl ?_
  exact K_pk [0, 1, 2, 3, 4, 5, 6, 7] (ls' := [(7, vi ((0 : Nat) : Int)), (6, vi (-1)), (5, vi 0), (4, vi 0), (0, vr 0), (1, vi p), (2, vi (n : Int)), (3, vi 0)]) rfl (K_cg (ls' := [(7, vi ((0 : Nat) : Int)), (6, vi (-1)), (5, vi 0), (4, vi (trD S f (fun _ => 0) (min 0 n) p)), (0, vr 0), (1, vi p), (2, vi (n : Int)), (3, vi 0)]) (h' := hc2) (by rw [show min 0 n = 0 by omega]; rfl) rfl (lp_X12_trips_0 Q0 hp hn (n + 1) 0 hc2 (by omega) Gq3))
set_option maxHeartbeats 4000000 in
set_option maxRecDepth 100000 in
theorem lp_X12_trips_1 {h : HP} {S : HS} {f : Int → Int} {p : Int} {n : Nat} (Q0 : MAsk h S f) (hp : 0 ≤ p ∧ p < sNp S) (hn : n ≤ 100) : ∀ (dd k : Nat) (hh : HP), k + dd = n + 1 → MG h hh S f (dysF S f k) → K mX12_trips GK (ZK (fun o h' => o = .inl (some (vi (fmN (-1) 0 (-1) (fun k => sumF (sU S) (dysF S f k) p (sNt S)) (n + 1)))) ∧ FQ h h' ∧ hI h' 0 0 = 0) 0 0) 0 0 50 [(7, vi (k : Int)), (6, vi (mxN (-1) (fun k => sumF (sU S) (dysF S f k) p (sNt S)) k)), (5, vi (fmN (-1) 0 0 (fun k => sumF (sU S) (dysF S f k) p (sNt S)) k)), (4, vi (trD S f (fun _ => 0) (min k n) p)), (0, vr 0), (1, vi p), (2, vi (n : Int)), (3, vi 1)] [] hh := by
  intro dd
  induction dd with
  | zero =>
    intro k hh hk G
    have hB := Q0.1.1
    have hNt := hB.1
    have hNp := hB.2.1
    have R := Q0.2.2.2.2
    have hT := R.1
    have hW := hT.1
    obtain ⟨a1, a2, a3, a4, a5⟩ := dys_R hB R (n := k) (by omega)
    have ek : k = n + 1 := by omega
    refine K_iload (dt_at dtX12_trips 30 rfl) rfl ?_
    refine K_iload_n (dt_at dtX12_trips 31 rfl) rfl rfl ?_
    refine K_icmp_gt (tgt := 116) (dt_at dtX12_trips 32 rfl) (by decide) (by first | assumption | exact ⟨by omega, by omega⟩) (by first | assumption | exact ⟨by omega, by omega⟩) (fun c1 => ?_) (fun c1 => absurd c1 (by omega))
    refine K_iload_n (dt_at dtX12_trips 65 rfl) rfl rfl ?_
    refine K_if_ne (tgt := 125) (dt_at dtX12_trips 66 rfl) (by decide) (by first | assumption | exact ⟨by omega, by omega⟩) (fun c2 => ?_) (fun c2 => absurd c2 (by omega))
    refine K_iload (dt_at dtX12_trips 69 rfl) rfl ?_
    exact K_iret (dt_at dtX12_trips 70 rfl) rfl rfl (by decide) (by decide) ⟨by rw [ek, fm_z (u := (fun k => sumF (sU S) (dysF S f k) p (sNt S))) (by have ub := sumD_b (n := 0) (us := sU S) (p := p) hB hT R.2.1 (by have := R.2.2.1; omega) (by omega) (Or.inr rfl); show 0 ≤ sumF (sU S) (dysF S f 0) p (sNt S); omega) 0 (-1) n], G.2.1, G.2.2.2⟩
  | succ dd ih =>
    intro k hh hk G
    have hB := Q0.1.1
    have hNt := hB.1
    have hNp := hB.2.1
    have R := Q0.2.2.2.2
    have hT := R.1
    have hW := hT.1
    obtain ⟨a1, a2, a3, a4, a5⟩ := dys_R hB R (n := k) (by omega)
    obtain ⟨n1, n2, n3, n4, n5⟩ := dys_R hB R (n := k + 1) (by omega)
    have ub := sumD_b (n := k) (us := sU S) (p := p) hB hT R.2.1 (by have := R.2.2.1; omega) (by omega) (Or.inr rfl)
    have mb := mxN_b (s := -1) (M := 1000000000) (u := (fun k => sumF (sU S) (dysF S f k) p (sNt S))) (by omega) k (fun j _ => by have := sumD_b (n := j) (us := sU S) (p := p) hB hT R.2.1 (by have := R.2.2.1; omega) (by omega) (Or.inr rfl); show sumF (sU S) (dysF S f j) p (sNt S) ≤ 1000000000; omega)
    refine K_iload (dt_at dtX12_trips 30 rfl) rfl ?_
    refine K_iload_n (dt_at dtX12_trips 31 rfl) rfl rfl ?_
    refine K_icmp_gt (tgt := 116) (dt_at dtX12_trips 32 rfl) (by decide) (by first | assumption | exact ⟨by omega, by omega⟩) (by first | assumption | exact ⟨by omega, by omega⟩) (fun c1 => absurd c1 (by omega)) (fun c1 => ?_)
    refine K_aload_n (dt_at dtX12_trips 33 rfl) rfl rfl ?_
    refine K_bipush (dt_at dtX12_trips 34 rfl) (by decide) ?_
    refine K_iload_n (dt_at dtX12_trips 35 rfl) rfl rfl ?_
    refine K_callV (M' := mX12_useIn) (a := 0) (ci := 12) (As := [vi 77, vi p]) (st := []) (dt_at dtX12_trips 36 rfl) (sX12_useIn (MG_D7 G) a1.1 (by omega)) (show TT 0 = (0, 12) from rfl) rfl wL_X12_319 vX12_useIn rfl npX12_useIn (by decide) (by decide) (Nat.le_of_ble_eq_true rfl) (by decide) (by decide) GK_E (fun v9 h9 hq => ?_) (fun E h9 hq => by cases hq.1)
    obtain ⟨e9, e8⟩ := hq
    cases e9
    rw [e8]
    show K mX12_trips _ _ 0 0 63 [(7, vi (k : Int)), (6, vi (mxN (-1) (fun k => sumF (sU S) (dysF S f k) p (sNt S)) k)), (5, vi (fmN (-1) 0 0 (fun k => sumF (sU S) (dysF S f k) p (sNt S)) k)), (4, vi (trD S f (fun _ => 0) (min k n) p)), (0, vr 0), (1, vi p), (2, vi (n : Int)), (3, vi 1)] [vi (sumF (sU S) (dysF S f k) p (sNt S))] hh
    refine K_iload (dt_at dtX12_trips 37 rfl) rfl ?_
    refine K_icmp_le (tgt := 81) (dt_at dtX12_trips 38 rfl) (by decide) (by first | assumption | exact ⟨by omega, by omega⟩) (by first | assumption | exact ⟨by omega, by omega⟩) (fun c2 => ?_) (fun c2 => ?_)
    · refine K_aload_n (dt_at dtX12_trips 46 rfl) rfl rfl ?_
      refine K_bipush (dt_at dtX12_trips 47 rfl) (by decide) ?_
      refine K_callV (M' := mX12_dayGoes) (a := 0) (ci := 12) (As := [vi 77]) (st := []) (dt_at dtX12_trips 48 rfl) (sX12_dayGoes (MG_D7 G) a1 a2 a3 a4 (MG_49 G)) (show TT 0 = (0, 12) from rfl) rfl wL_X12_334 vX12_dayGoes rfl npX12_dayGoes (by decide) (by decide) (Nat.le_of_ble_eq_true rfl) (by decide) (by decide) GK_E (fun v9 hc1 hq => ?_) (fun E h9 hq => by cases hq.1)
      have hqq2 := hq
      obtain ⟨e9q2, dq2, ⟨lq2, mq2⟩, iq2⟩ := hqq2
      have Gq2 : MG h hc1 S f (dysF S f (k + 1)) := MG_day G dq2
      cases e9q2
      show K mX12_trips _ _ 0 0 87 [(7, vi (k : Int)), (6, vi (mxN (-1) (fun k => sumF (sU S) (dysF S f k) p (sNt S)) k)), (5, vi (fmN (-1) 0 0 (fun k => sumF (sU S) (dysF S f k) p (sNt S)) k)), (4, vi (trD S f (fun _ => 0) (min k n) p)), (0, vr 0), (1, vi p), (2, vi (n : Int)), (3, vi 1)] [] hc1
      refine K_iload (dt_at dtX12_trips 49 rfl) rfl ?_
      refine K_iload (dt_at dtX12_trips 50 rfl) rfl ?_
      refine K_iload_n (dt_at dtX12_trips 51 rfl) rfl rfl ?_
      refine K_icmp_ge (tgt := 106) (dt_at dtX12_trips 52 rfl) (by decide) (by first | assumption | exact ⟨by omega, by omega⟩) (by first | assumption | exact ⟨by omega, by omega⟩) (fun c3 => ?_) (fun c3 => ?_)
      · refine K_iconst (dt_at dtX12_trips 60 rfl) ?_
        refine K_iadd (dt_at dtX12_trips 61 rfl) ?_
        refine K_istore (ls' := [(4, vi ((trD S f (fun _ => 0) (min k n) p) + 0)), (7, vi (k : Int)), (6, vi (mxN (-1) (fun k => sumF (sU S) (dysF S f k) p (sNt S)) k)), (5, vi (fmN (-1) 0 0 (fun k => sumF (sU S) (dysF S f k) p (sNt S)) k)), (0, vr 0), (1, vi p), (2, vi (n : Int)), (3, vi 1)]) (dt_at dtX12_trips 62 rfl) (by decide) rfl ?_
        refine K_iinc (ls' := [(7, vi ((k : Int) + 1)), (4, vi ((trD S f (fun _ => 0) (min k n) p) + 0)), (6, vi (mxN (-1) (fun k => sumF (sU S) (dysF S f k) p (sNt S)) k)), (5, vi (fmN (-1) 0 0 (fun k => sumF (sU S) (dysF S f k) p (sNt S)) k)), (0, vr 0), (1, vi p), (2, vi (n : Int)), (3, vi 1)]) (dt_at dtX12_trips 63 rfl) rfl (by decide) rfl ?_
        refine K_goto (tgt := 50) (dt_at dtX12_trips 64 rfl) (by decide) ?_
        refine K_pk [0, 2, 3, 1, 4, 5, 6, 7] (ls' := [(7, vi ((k : Int) + 1)), (6, vi (mxN (-1) (fun k => sumF (sU S) (dysF S f k) p (sNt S)) k)), (5, vi (fmN (-1) 0 0 (fun k => sumF (sU S) (dysF S f k) p (sNt S)) k)), (4, vi ((trD S f (fun _ => 0) (min k n) p) + 0)), (0, vr 0), (1, vi p), (2, vi (n : Int)), (3, vi 1)]) rfl ?_
        exact K_cg (ls' := [(7, vi ((k + 1 : Nat) : Int)), (6, vi (mxN (-1) (fun k => sumF (sU S) (dysF S f k) p (sNt S)) (k + 1))), (5, vi (fmN (-1) 0 0 (fun k => sumF (sU S) (dysF S f k) p (sNt S)) (k + 1))), (4, vi (trD S f (fun _ => 0) (min (k + 1) n) p)), (0, vr 0), (1, vi p), (2, vi (n : Int)), (3, vi 1)]) (h' := hc1) (by rw [fmN_f (u := (fun k => sumF (sU S) (dysF S f k) p (sNt S))) (by show ¬ (mxN (-1) (fun k => sumF (sU S) (dysF S f k) p (sNt S)) k) < sumF (sU S) (dysF S f k) p (sNt S); omega), mxN_f (u := (fun k => sumF (sU S) (dysF S f k) p (sNt S))) (by show ¬ (mxN (-1) (fun k => sumF (sU S) (dysF S f k) p (sNt S)) k) < sumF (sU S) (dysF S f k) p (sNt S); omega)]; rw [show min (k + 1) n = min k n by omega, show (trD S f (fun _ => 0) (min k n) p) + 0 = (trD S f (fun _ => 0) (min k n) p) by omega]; rfl) rfl (ih (k + 1) hc1 (by omega) Gq2)
      · refine K_aload_n (dt_at dtX12_trips 53 rfl) rfl rfl ?_
        refine K_get (a := 0) (ci := 12) (k := 47) (v := vi (bitN (lvA S (dysF S f k)) (sNp S))) (dt_at dtX12_trips 54 rfl) (show TT 0 = (0, 12) from rfl) rfl (by decide) wF_X12_313 (by show vi (hI hc1 0 47) = vi (bitN (lvA S (dysF S f k)) (sNp S)); rw [lq2]) ?_
        refine K_iload_n (dt_at dtX12_trips 55 rfl) rfl rfl ?_
        refine K_ishr (dt_at dtX12_trips 56 rfl) ?_
        refine K_iconst (dt_at dtX12_trips 57 rfl) ?_
        refine K_iand (dt_at dtX12_trips 58 rfl) ?_
        refine K_goto (tgt := 107) (dt_at dtX12_trips 59 rfl) (by decide) ?_
        refine K_iadd (dt_at dtX12_trips 61 rfl) ?_
        refine K_istore (ls' := [(4, vi ((trD S f (fun _ => 0) (min k n) p) + (bAnd (bShr (bitN (lvA S (dysF S f k)) (sNp S)) p) 1))), (7, vi (k : Int)), (6, vi (mxN (-1) (fun k => sumF (sU S) (dysF S f k) p (sNt S)) k)), (5, vi (fmN (-1) 0 0 (fun k => sumF (sU S) (dysF S f k) p (sNt S)) k)), (0, vr 0), (1, vi p), (2, vi (n : Int)), (3, vi 1)]) (dt_at dtX12_trips 62 rfl) (by decide) rfl ?_
        refine K_iinc (ls' := [(7, vi ((k : Int) + 1)), (4, vi ((trD S f (fun _ => 0) (min k n) p) + (bAnd (bShr (bitN (lvA S (dysF S f k)) (sNp S)) p) 1))), (6, vi (mxN (-1) (fun k => sumF (sU S) (dysF S f k) p (sNt S)) k)), (5, vi (fmN (-1) 0 0 (fun k => sumF (sU S) (dysF S f k) p (sNt S)) k)), (0, vr 0), (1, vi p), (2, vi (n : Int)), (3, vi 1)]) (dt_at dtX12_trips 63 rfl) rfl (by decide) rfl ?_
        refine K_goto (tgt := 50) (dt_at dtX12_trips 64 rfl) (by decide) ?_
        refine K_pk [0, 2, 3, 1, 4, 5, 6, 7] (ls' := [(7, vi ((k : Int) + 1)), (6, vi (mxN (-1) (fun k => sumF (sU S) (dysF S f k) p (sNt S)) k)), (5, vi (fmN (-1) 0 0 (fun k => sumF (sU S) (dysF S f k) p (sNt S)) k)), (4, vi ((trD S f (fun _ => 0) (min k n) p) + (bAnd (bShr (bitN (lvA S (dysF S f k)) (sNp S)) p) 1))), (0, vr 0), (1, vi p), (2, vi (n : Int)), (3, vi 1)]) rfl ?_
        exact K_cg (ls' := [(7, vi ((k + 1 : Nat) : Int)), (6, vi (mxN (-1) (fun k => sumF (sU S) (dysF S f k) p (sNt S)) (k + 1))), (5, vi (fmN (-1) 0 0 (fun k => sumF (sU S) (dysF S f k) p (sNt S)) (k + 1))), (4, vi (trD S f (fun _ => 0) (min (k + 1) n) p)), (0, vr 0), (1, vi p), (2, vi (n : Int)), (3, vi 1)]) (h' := hc1) (by rw [fmN_f (u := (fun k => sumF (sU S) (dysF S f k) p (sNt S))) (by show ¬ (mxN (-1) (fun k => sumF (sU S) (dysF S f k) p (sNt S)) k) < sumF (sU S) (dysF S f k) p (sNt S); omega), mxN_f (u := (fun k => sumF (sU S) (dysF S f k) p (sNt S))) (by show ¬ (mxN (-1) (fun k => sumF (sU S) (dysF S f k) p (sNt S)) k) < sumF (sU S) (dysF S f k) p (sNt S); omega)]; rw [show min (k + 1) n = min k n + 1 by omega, trD_s hB hp, show dysF S f (min k n) = dysF S f k by rw [show min k n = k by omega]]; rfl) rfl (ih (k + 1) hc1 (by omega) Gq2)
    · refine K_aload_n (dt_at dtX12_trips 39 rfl) rfl rfl ?_
      refine K_bipush (dt_at dtX12_trips 40 rfl) (by decide) ?_
      refine K_iload_n (dt_at dtX12_trips 41 rfl) rfl rfl ?_
      refine K_callV (M' := mX12_useIn) (a := 0) (ci := 12) (As := [vi 77, vi p]) (st := []) (dt_at dtX12_trips 42 rfl) (sX12_useIn (MG_D7 G) a1.1 (by omega)) (show TT 0 = (0, 12) from rfl) rfl wL_X12_319 vX12_useIn rfl npX12_useIn (by decide) (by decide) (Nat.le_of_ble_eq_true rfl) (by decide) (by decide) GK_E (fun v9 h9 hq => ?_) (fun E h9 hq => by cases hq.1)
      obtain ⟨e9, e8⟩ := hq
      cases e9
      rw [e8]
      show K mX12_trips _ _ 0 0 75 [(7, vi (k : Int)), (6, vi (mxN (-1) (fun k => sumF (sU S) (dysF S f k) p (sNt S)) k)), (5, vi (fmN (-1) 0 0 (fun k => sumF (sU S) (dysF S f k) p (sNt S)) k)), (4, vi (trD S f (fun _ => 0) (min k n) p)), (0, vr 0), (1, vi p), (2, vi (n : Int)), (3, vi 1)] [vi (sumF (sU S) (dysF S f k) p (sNt S))] hh
      refine K_istore (ls' := [(6, vi (sumF (sU S) (dysF S f k) p (sNt S))), (7, vi (k : Int)), (5, vi (fmN (-1) 0 0 (fun k => sumF (sU S) (dysF S f k) p (sNt S)) k)), (4, vi (trD S f (fun _ => 0) (min k n) p)), (0, vr 0), (1, vi p), (2, vi (n : Int)), (3, vi 1)]) (dt_at dtX12_trips 43 rfl) (by decide) rfl ?_
      refine K_iload (dt_at dtX12_trips 44 rfl) rfl ?_
      refine K_istore (ls' := [(5, vi (k : Int)), (6, vi (sumF (sU S) (dysF S f k) p (sNt S))), (7, vi (k : Int)), (4, vi (trD S f (fun _ => 0) (min k n) p)), (0, vr 0), (1, vi p), (2, vi (n : Int)), (3, vi 1)]) (dt_at dtX12_trips 45 rfl) (by decide) rfl ?_
      refine K_aload_n (dt_at dtX12_trips 46 rfl) rfl rfl ?_
      refine K_bipush (dt_at dtX12_trips 47 rfl) (by decide) ?_
      refine K_callV (M' := mX12_dayGoes) (a := 0) (ci := 12) (As := [vi 77]) (st := []) (dt_at dtX12_trips 48 rfl) (sX12_dayGoes (MG_D7 G) a1 a2 a3 a4 (MG_49 G)) (show TT 0 = (0, 12) from rfl) rfl wL_X12_334 vX12_dayGoes rfl npX12_dayGoes (by decide) (by decide) (Nat.le_of_ble_eq_true rfl) (by decide) (by decide) GK_E (fun v9 hc3 hq => ?_) (fun E h9 hq => by cases hq.1)
      have hqq4 := hq
      obtain ⟨e9q4, dq4, ⟨lq4, mq4⟩, iq4⟩ := hqq4
      have Gq4 : MG h hc3 S f (dysF S f (k + 1)) := MG_day G dq4
      cases e9q4
      show K mX12_trips _ _ 0 0 87 [(5, vi (k : Int)), (6, vi (sumF (sU S) (dysF S f k) p (sNt S))), (7, vi (k : Int)), (4, vi (trD S f (fun _ => 0) (min k n) p)), (0, vr 0), (1, vi p), (2, vi (n : Int)), (3, vi 1)] [] hc3
      refine K_iload (dt_at dtX12_trips 49 rfl) rfl ?_
      refine K_iload (dt_at dtX12_trips 50 rfl) rfl ?_
      refine K_iload_n (dt_at dtX12_trips 51 rfl) rfl rfl ?_
      refine K_icmp_ge (tgt := 106) (dt_at dtX12_trips 52 rfl) (by decide) (by first | assumption | exact ⟨by omega, by omega⟩) (by first | assumption | exact ⟨by omega, by omega⟩) (fun c4 => ?_) (fun c4 => ?_)
      · refine K_iconst (dt_at dtX12_trips 60 rfl) ?_
        refine K_iadd (dt_at dtX12_trips 61 rfl) ?_
        refine K_istore (ls' := [(4, vi ((trD S f (fun _ => 0) (min k n) p) + 0)), (5, vi (k : Int)), (6, vi (sumF (sU S) (dysF S f k) p (sNt S))), (7, vi (k : Int)), (0, vr 0), (1, vi p), (2, vi (n : Int)), (3, vi 1)]) (dt_at dtX12_trips 62 rfl) (by decide) rfl ?_
        refine K_iinc (ls' := [(7, vi ((k : Int) + 1)), (4, vi ((trD S f (fun _ => 0) (min k n) p) + 0)), (5, vi (k : Int)), (6, vi (sumF (sU S) (dysF S f k) p (sNt S))), (0, vr 0), (1, vi p), (2, vi (n : Int)), (3, vi 1)]) (dt_at dtX12_trips 63 rfl) rfl (by decide) rfl ?_
        refine K_goto (tgt := 50) (dt_at dtX12_trips 64 rfl) (by decide) ?_
        refine K_pk [0, 3, 2, 1, 4, 5, 6, 7] (ls' := [(7, vi ((k : Int) + 1)), (6, vi (sumF (sU S) (dysF S f k) p (sNt S))), (5, vi (k : Int)), (4, vi ((trD S f (fun _ => 0) (min k n) p) + 0)), (0, vr 0), (1, vi p), (2, vi (n : Int)), (3, vi 1)]) rfl ?_
        exact K_cg (ls' := [(7, vi ((k + 1 : Nat) : Int)), (6, vi (mxN (-1) (fun k => sumF (sU S) (dysF S f k) p (sNt S)) (k + 1))), (5, vi (fmN (-1) 0 0 (fun k => sumF (sU S) (dysF S f k) p (sNt S)) (k + 1))), (4, vi (trD S f (fun _ => 0) (min (k + 1) n) p)), (0, vr 0), (1, vi p), (2, vi (n : Int)), (3, vi 1)]) (h' := hc3) (by rw [fmN_t (u := (fun k => sumF (sU S) (dysF S f k) p (sNt S))) (by show (mxN (-1) (fun k => sumF (sU S) (dysF S f k) p (sNt S)) k) < sumF (sU S) (dysF S f k) p (sNt S); omega), mxN_t (u := (fun k => sumF (sU S) (dysF S f k) p (sNt S))) (by show (mxN (-1) (fun k => sumF (sU S) (dysF S f k) p (sNt S)) k) < sumF (sU S) (dysF S f k) p (sNt S); omega), show ((k : Int) + 0) = (k : Int) by omega]; rw [show min (k + 1) n = min k n by omega, show (trD S f (fun _ => 0) (min k n) p) + 0 = (trD S f (fun _ => 0) (min k n) p) by omega]; rfl) rfl (ih (k + 1) hc3 (by omega) Gq4)
      · refine K_aload_n (dt_at dtX12_trips 53 rfl) rfl rfl ?_
        refine K_get (a := 0) (ci := 12) (k := 47) (v := vi (bitN (lvA S (dysF S f k)) (sNp S))) (dt_at dtX12_trips 54 rfl) (show TT 0 = (0, 12) from rfl) rfl (by decide) wF_X12_313 (by show vi (hI hc3 0 47) = vi (bitN (lvA S (dysF S f k)) (sNp S)); rw [lq4]) ?_
        refine K_iload_n (dt_at dtX12_trips 55 rfl) rfl rfl ?_
        refine K_ishr (dt_at dtX12_trips 56 rfl) ?_
        refine K_iconst (dt_at dtX12_trips 57 rfl) ?_
        refine K_iand (dt_at dtX12_trips 58 rfl) ?_
        refine K_goto (tgt := 107) (dt_at dtX12_trips 59 rfl) (by decide) ?_
        refine K_iadd (dt_at dtX12_trips 61 rfl) ?_
        refine K_istore (ls' := [(4, vi ((trD S f (fun _ => 0) (min k n) p) + (bAnd (bShr (bitN (lvA S (dysF S f k)) (sNp S)) p) 1))), (5, vi (k : Int)), (6, vi (sumF (sU S) (dysF S f k) p (sNt S))), (7, vi (k : Int)), (0, vr 0), (1, vi p), (2, vi (n : Int)), (3, vi 1)]) (dt_at dtX12_trips 62 rfl) (by decide) rfl ?_
        refine K_iinc (ls' := [(7, vi ((k : Int) + 1)), (4, vi ((trD S f (fun _ => 0) (min k n) p) + (bAnd (bShr (bitN (lvA S (dysF S f k)) (sNp S)) p) 1))), (5, vi (k : Int)), (6, vi (sumF (sU S) (dysF S f k) p (sNt S))), (0, vr 0), (1, vi p), (2, vi (n : Int)), (3, vi 1)]) (dt_at dtX12_trips 63 rfl) rfl (by decide) rfl ?_
        refine K_goto (tgt := 50) (dt_at dtX12_trips 64 rfl) (by decide) ?_
        refine K_pk [0, 3, 2, 1, 4, 5, 6, 7] (ls' := [(7, vi ((k : Int) + 1)), (6, vi (sumF (sU S) (dysF S f k) p (sNt S))), (5, vi (k : Int)), (4, vi ((trD S f (fun _ => 0) (min k n) p) + (bAnd (bShr (bitN (lvA S (dysF S f k)) (sNp S)) p) 1))), (0, vr 0), (1, vi p), (2, vi (n : Int)), (3, vi 1)]) rfl ?_
        exact K_cg (ls' := [(7, vi ((k + 1 : Nat) : Int)), (6, vi (mxN (-1) (fun k => sumF (sU S) (dysF S f k) p (sNt S)) (k + 1))), (5, vi (fmN (-1) 0 0 (fun k => sumF (sU S) (dysF S f k) p (sNt S)) (k + 1))), (4, vi (trD S f (fun _ => 0) (min (k + 1) n) p)), (0, vr 0), (1, vi p), (2, vi (n : Int)), (3, vi 1)]) (h' := hc3) (by rw [fmN_t (u := (fun k => sumF (sU S) (dysF S f k) p (sNt S))) (by show (mxN (-1) (fun k => sumF (sU S) (dysF S f k) p (sNt S)) k) < sumF (sU S) (dysF S f k) p (sNt S); omega), mxN_t (u := (fun k => sumF (sU S) (dysF S f k) p (sNt S))) (by show (mxN (-1) (fun k => sumF (sU S) (dysF S f k) p (sNt S)) k) < sumF (sU S) (dysF S f k) p (sNt S); omega), show ((k : Int) + 0) = (k : Int) by omega]; rw [show min (k + 1) n = min k n + 1 by omega, trD_s hB hp, show dysF S f (min k n) = dysF S f k by rw [show min k n = k by omega]]; rfl) rfl (ih (k + 1) hc3 (by omega) Gq4)
set_option maxHeartbeats 4000000 in
set_option maxRecDepth 100000 in
theorem sX12_trips_1 {h : HP} {S : HS} {f : Int → Int} {p : Int} {n : Nat} (Q0 : MAsk h S f) (hp : 0 ≤ p ∧ p < sNp S) (hn : n ≤ 100) : SpecK mX12_trips [vr 0, vi p, vi (n : Int), vi 1] h (fun o h' => o = .inl (some (vi (fmN (-1) 0 (-1) (fun k => sumF (sU S) (dysF S f k) p (sNt S)) (n + 1)))) ∧ FQ h h' ∧ hI h' 0 0 = 0) := by
  refine Spec_of (by decide +kernel) (Nat.le_of_ble_eq_true rfl) ?_
  have hB := Q0.1.1
  have hNt := hB.1
  have hNp := hB.2.1
  have R := Q0.2.2.2.2
  have hT := R.1
  have hW := hT.1
  refine K_aload_n (dt_at dtX12_trips 0 rfl) rfl rfl ?_
  refine K_iconst (dt_at dtX12_trips 1 rfl) ?_
  refine K_putI (a := 0) (ci := 12) (k := 0) (dt_at dtX12_trips 2 rfl) (show TT 0 = (0, 12) from rfl) rfl (by decide) wF_X12_105 rfl (Or.inl rfl) rfl rfl ?_
  obtain ⟨hu1, eu1⟩ : ∃ z, z = sI h 0 0 0 := ⟨_, rfl⟩
  rw [← eu1]
  obtain ⟨iu1, fu1, au1, ru1⟩ := sI_fx eu1
  have Gu1 := MG_0 Q0 eu1
  refine K_aload_n (dt_at dtX12_trips 3 rfl) rfl rfl ?_
  refine K_iload_n (dt_at dtX12_trips 4 rfl) rfl rfl ?_
  refine K_callV (M' := mX12_isPerson) (a := 0) (ci := 12) (As := [vi p]) (st := []) (dt_at dtX12_trips 5 rfl) (sX12_isPerson_t (MD_np (MG_D0 Gu1)) hNp Gu1.2.2.2 (by omega)) (show TT 0 = (0, 12) from rfl) rfl wL_X12_375 vX12_isPerson rfl npX12_isPerson (by decide) (by decide) (Nat.le_of_ble_eq_true rfl) (by decide) (by decide) GK_E (fun v9 h9 hq => ?_) (fun E h9 hq => by cases hq.1)
  obtain ⟨e9, e8⟩ := hq
  cases e9
  rw [e8]
  show K mX12_trips _ _ 0 0 10 [(0, vr 0), (1, vi p), (2, vi (n : Int)), (3, vi 1)] [vi 1] hu1
  refine K_if_eq (tgt := 32) (dt_at dtX12_trips 6 rfl) (by decide) (by first | assumption | exact ⟨by omega, by omega⟩) (fun c1 => absurd c1 (by omega)) (fun c1 => ?_)
  refine K_aload_n (dt_at dtX12_trips 7 rfl) rfl rfl ?_
  refine K_iload_n (dt_at dtX12_trips 8 rfl) rfl rfl ?_
  refine K_iconst (dt_at dtX12_trips 9 rfl) ?_
  refine K_callV (M' := mX12_isWhat) (a := 0) (ci := 12) (As := [vi 1, vi 1]) (st := []) (dt_at dtX12_trips 10 rfl) (sX12_isWhat_t Gu1.2.2.2 (by omega) (by omega)) (show TT 0 = (0, 12) from rfl) rfl wL_X12_371 vX12_isWhat rfl npX12_isWhat (by decide) (by decide) (Nat.le_of_ble_eq_true rfl) (by decide) (by decide) GK_E (fun v9 h9 hq => ?_) (fun E h9 hq => by cases hq.1)
  obtain ⟨e9, e8⟩ := hq
  cases e9
  rw [e8]
  show K mX12_trips _ _ 0 0 19 [(0, vr 0), (1, vi p), (2, vi (n : Int)), (3, vi 1)] [vi 1] hu1
  refine K_if_eq (tgt := 32) (dt_at dtX12_trips 11 rfl) (by decide) (by first | assumption | exact ⟨by omega, by omega⟩) (fun c2 => absurd c2 (by omega)) (fun c2 => ?_)
  refine K_aload_n (dt_at dtX12_trips 12 rfl) rfl rfl ?_
  refine K_iload_n (dt_at dtX12_trips 13 rfl) rfl rfl ?_
  refine K_iconst (dt_at dtX12_trips 14 rfl) ?_
  refine K_iconst (dt_at dtX12_trips 15 rfl) ?_
  refine K_callV (M' := mX12_isSoon) (a := 0) (ci := 12) (As := [vi (n : Int), vi 0, vi 2]) (st := []) (dt_at dtX12_trips 16 rfl) (sX12_isSoon_t Gu1.2.2.2 (by omega) (by omega)) (show TT 0 = (0, 12) from rfl) rfl wL_X12_403 vX12_isSoon rfl npX12_isSoon (by decide) (by decide) (Nat.le_of_ble_eq_true rfl) (by decide) (by decide) GK_E (fun v9 h9 hq => ?_) (fun E h9 hq => by cases hq.1)
  obtain ⟨e9, e8⟩ := hq
  cases e9
  rw [e8]
  show K mX12_trips _ _ 0 0 29 [(0, vr 0), (1, vi p), (2, vi (n : Int)), (3, vi 1)] [vi 1] hu1
  refine K_if_ne (tgt := 34) (dt_at dtX12_trips 17 rfl) (by decide) (by first | assumption | exact ⟨by omega, by omega⟩) (fun c3 => ?_) (fun c3 => absurd c3 (by omega))
  refine K_iconst (dt_at dtX12_trips 20 rfl) ?_
  refine K_istore (ls' := [(4, vi 0), (0, vr 0), (1, vi p), (2, vi (n : Int)), (3, vi 1)]) (dt_at dtX12_trips 21 rfl) (by decide) rfl ?_
  refine K_iconst (dt_at dtX12_trips 22 rfl) ?_
  refine K_istore (ls' := [(5, vi 0), (4, vi 0), (0, vr 0), (1, vi p), (2, vi (n : Int)), (3, vi 1)]) (dt_at dtX12_trips 23 rfl) (by decide) rfl ?_
  refine K_iconst (dt_at dtX12_trips 24 rfl) ?_
  refine K_istore (ls' := [(6, vi (-1)), (5, vi 0), (4, vi 0), (0, vr 0), (1, vi p), (2, vi (n : Int)), (3, vi 1)]) (dt_at dtX12_trips 25 rfl) (by decide) rfl ?_
  refine K_aload_n (dt_at dtX12_trips 26 rfl) rfl rfl ?_
  refine K_callV (M' := mX12_tries) (a := 0) (ci := 12) (As := []) (st := []) (dt_at dtX12_trips 27 rfl) (sX12_tries) (show TT 0 = (0, 12) from rfl) rfl wL_X12_397 vX12_tries rfl npX12_tries (by decide) (by decide) (Nat.le_of_ble_eq_true rfl) (by decide) (by decide) GK_E (fun v9 hc2 hq => ?_) (fun E h9 hq => by cases hq.1)
  have hqq3 := hq
  obtain ⟨e9q3, t1q3, t2q3, t3q3, t4q3⟩ := hqq3
  have Gq3 := MG_try Gu1 t1q3 t2q3 t3q3 t4q3
  cases e9q3
  show K mX12_trips _ _ 0 0 47 [(6, vi (-1)), (5, vi 0), (4, vi 0), (0, vr 0), (1, vi p), (2, vi (n : Int)), (3, vi 1)] [] hc2
  refine K_iconst (dt_at dtX12_trips 28 rfl) ?_
  refine K_istore (ls' := [(7, vi 0), (6, vi (-1)), (5, vi 0), (4, vi 0), (0, vr 0), (1, vi p), (2, vi (n : Int)), (3, vi 1)]) (dt_at dtX12_trips 29 rfl) (by decide) rfl ?_
  exact K_pk [0, 1, 2, 3, 4, 5, 6, 7] (ls' := [(7, vi ((0 : Nat) : Int)), (6, vi (-1)), (5, vi 0), (4, vi 0), (0, vr 0), (1, vi p), (2, vi (n : Int)), (3, vi 1)]) rfl (K_cg (ls' := [(7, vi ((0 : Nat) : Int)), (6, vi (-1)), (5, vi 0), (4, vi (trD S f (fun _ => 0) (min 0 n) p)), (0, vr 0), (1, vi p), (2, vi (n : Int)), (3, vi 1)]) (h' := hc2) (by rw [show min 0 n = 0 by omega]; rfl) rfl (lp_X12_trips_1 Q0 hp hn (n + 1) 0 hc2 (by omega) Gq3))
def mX12_allSo : MI := (yX12_allSo, cX12_allSo, 7, (some .int), rmK 7 0)
def tX12_allSo : List (Nat × Instr × Nat) := [(0, .iconst 0, 1), (1, .istore 4, 2), (3, .aload_n 0, 1), (4, .invokevirtual 397, 3), (7, .iconst 0, 1), (8, .istore 5, 2), (10, .iload 5, 2), (12, .iload_n 2, 1), (13, .if_icmp .ge 56, 3), (16, .aload_n 0, 1), (17, .bipush 77, 2), (19, .invokevirtual 334, 3), (22, .iload_n 3, 1), (23, .ifCond .eq 12, 3), (26, .aload_n 0, 1), (27, .bipush 77, 2), (29, .invokevirtual 350, 3), (32, .goto 11, 3), (35, .aload_n 0, 1), (36, .bipush 77, 2), (38, .invokevirtual 350, 3), (41, .iconst (-1), 1), (42, .ixor, 1), (43, .istore 6, 2), (45, .iload 4, 2), (47, .iload 6, 2), (49, .iload_n 1, 1), (50, .iand, 1), (51, .iload_n 1, 1), (52, .if_icmp .ne 7, 3), (55, .iconst 1, 1), (56, .goto 4, 3), (59, .iconst 0, 1), (60, .iadd, 1), (61, .istore 4, 2), (63, .iinc 5 1, 3), (66, .goto (-56), 3), (69, .iload 4, 2), (71, .ireturn, 1)]
theorem dtX12_allSo : tX12_allSo.all (fun q => decide (decode cX12_allSo q.1 = .ok (q.2.1, q.2.2))) = true := by decide +kernel
theorem npX12_allSo : (parseMethodDescriptor (mY mX12_allSo).desc).map (fun d => d.parameters.length) = some 3 := by decide +kernel
theorem vX12_allSo : mV mX12_allSo := ⟨wI_X12_allSo, wS_X12_allSo, wN_X12, wC_X12_allSo, by decide +kernel, by decide +kernel⟩
set_option maxHeartbeats 4000000 in
set_option maxRecDepth 100000 in
theorem lp_X12_allSo_1 {h : HP} {S : HS} {f : Int → Int} {x : Int} {n : Nat} (Q0 : MAsk h S f) (hx : i32 x) (hn : n ≤ 100) : ∀ (dd k : Nat) (hh : HP), k + dd = n → MG h hh S f (dysF S f k) → K mX12_allSo GK (ZK (fun o h' => o = .inl (some (vi (cntN (fun k => decide (bAnd (bitN (fun j => decide ((dysF S f (k + 1)) (1 + (j : Int)) = 0)) (sNp S)) x = x)) n))) ∧ FQ h h' ∧ hI h' 0 0 = 0) 0 0) 0 0 10 [(5, vi (k : Int)), (4, vi (cntN (fun k => decide (bAnd (bitN (fun j => decide ((dysF S f (k + 1)) (1 + (j : Int)) = 0)) (sNp S)) x = x)) k)), (0, vr 0), (1, vi x), (2, vi (n : Int)), (3, vi 1)] [] hh := by
  intro dd
  induction dd with
  | zero =>
    intro k hh hk G
    have hB := Q0.1.1
    have hNt := hB.1
    have hNp := hB.2.1
    have R := Q0.2.2.2.2
    have hT := R.1
    have hW := hT.1
    obtain ⟨a1, a2, a3, a4, a5⟩ := dys_R hB R (n := k) (by omega)
    have ek : k = n := by omega
    subst ek
    refine K_iload (dt_at dtX12_allSo 6 rfl) rfl ?_
    refine K_iload_n (dt_at dtX12_allSo 7 rfl) rfl rfl ?_
    refine K_icmp_ge (tgt := 69) (dt_at dtX12_allSo 8 rfl) (by decide) (by first | assumption | exact ⟨by omega, by omega⟩) (by first | assumption | exact ⟨by omega, by omega⟩) (fun c1 => ?_) (fun c1 => absurd c1 (by omega))
    refine K_iload (dt_at dtX12_allSo 37 rfl) rfl ?_
    exact K_iret (dt_at dtX12_allSo 38 rfl) rfl rfl (by decide) (by decide) ⟨rfl, G.2.1, G.2.2.2⟩
  | succ dd ih =>
    intro k hh hk G
    have hB := Q0.1.1
    have hNt := hB.1
    have hNp := hB.2.1
    have R := Q0.2.2.2.2
    have hT := R.1
    have hW := hT.1
    obtain ⟨a1, a2, a3, a4, a5⟩ := dys_R hB R (n := k) (by omega)
    obtain ⟨n1, n2, n3, n4, n5⟩ := dys_R hB R (n := k + 1) (by omega)
    refine K_iload (dt_at dtX12_allSo 6 rfl) rfl ?_
    refine K_iload_n (dt_at dtX12_allSo 7 rfl) rfl rfl ?_
    refine K_icmp_ge (tgt := 69) (dt_at dtX12_allSo 8 rfl) (by decide) (by first | assumption | exact ⟨by omega, by omega⟩) (by first | assumption | exact ⟨by omega, by omega⟩) (fun c1 => absurd c1 (by omega)) (fun c1 => ?_)
    refine K_aload_n (dt_at dtX12_allSo 9 rfl) rfl rfl ?_
    refine K_bipush (dt_at dtX12_allSo 10 rfl) (by decide) ?_
    refine K_callV (M' := mX12_dayGoes) (a := 0) (ci := 12) (As := [vi 77]) (st := []) (dt_at dtX12_allSo 11 rfl) (sX12_dayGoes (MG_D7 G) a1 a2 a3 a4 (MG_49 G)) (show TT 0 = (0, 12) from rfl) rfl wL_X12_334 vX12_dayGoes rfl npX12_dayGoes (by decide) (by decide) (Nat.le_of_ble_eq_true rfl) (by decide) (by decide) GK_E (fun v9 hc1 hq => ?_) (fun E h9 hq => by cases hq.1)
    have hqq2 := hq
    obtain ⟨e9q2, dq2, ⟨lq2, mq2⟩, iq2⟩ := hqq2
    have Gq2 : MG h hc1 S f (dysF S f (k + 1)) := MG_day G dq2
    cases e9q2
    show K mX12_allSo _ _ 0 0 22 [(5, vi (k : Int)), (4, vi (cntN (fun k => decide (bAnd (bitN (fun j => decide ((dysF S f (k + 1)) (1 + (j : Int)) = 0)) (sNp S)) x = x)) k)), (0, vr 0), (1, vi x), (2, vi (n : Int)), (3, vi 1)] [] hc1
    refine K_iload_n (dt_at dtX12_allSo 12 rfl) rfl rfl ?_
    refine K_if_eq (tgt := 35) (dt_at dtX12_allSo 13 rfl) (by decide) (by first | assumption | exact ⟨by omega, by omega⟩) (fun c2 => absurd c2 (by omega)) (fun c2 => ?_)
    refine K_aload_n (dt_at dtX12_allSo 14 rfl) rfl rfl ?_
    refine K_bipush (dt_at dtX12_allSo 15 rfl) (by decide) ?_
    refine K_callV (M' := mX12_inOnes) (a := 0) (ci := 12) (As := [vi 77]) (st := []) (dt_at dtX12_allSo 16 rfl) (sX12_inOnes (MG_D7 Gq2) n1.1) (show TT 0 = (0, 12) from rfl) rfl wL_X12_350 vX12_inOnes rfl npX12_inOnes (by decide) (by decide) (Nat.le_of_ble_eq_true rfl) (by decide) (by decide) GK_E (fun v9 h9 hq => ?_) (fun E h9 hq => by cases hq.1)
    obtain ⟨e9, e8⟩ := hq
    cases e9
    rw [e8]
    show K mX12_allSo _ _ 0 0 32 [(5, vi (k : Int)), (4, vi (cntN (fun k => decide (bAnd (bitN (fun j => decide ((dysF S f (k + 1)) (1 + (j : Int)) = 0)) (sNp S)) x = x)) k)), (0, vr 0), (1, vi x), (2, vi (n : Int)), (3, vi 1)] [vi (bitN (fun j => decide ((dysF S f (k + 1)) (1 + (j : Int)) = 0)) (sNp S))] hc1
    refine K_goto (tgt := 43) (dt_at dtX12_allSo 17 rfl) (by decide) ?_
    refine K_istore (ls' := [(6, vi (bitN (fun j => decide ((dysF S f (k + 1)) (1 + (j : Int)) = 0)) (sNp S))), (5, vi (k : Int)), (4, vi (cntN (fun k => decide (bAnd (bitN (fun j => decide ((dysF S f (k + 1)) (1 + (j : Int)) = 0)) (sNp S)) x = x)) k)), (0, vr 0), (1, vi x), (2, vi (n : Int)), (3, vi 1)]) (dt_at dtX12_allSo 23 rfl) (by decide) rfl ?_
    refine K_iload (dt_at dtX12_allSo 24 rfl) rfl ?_
    refine K_iload (dt_at dtX12_allSo 25 rfl) rfl ?_
    refine K_iload_n (dt_at dtX12_allSo 26 rfl) rfl rfl ?_
    refine K_iand (dt_at dtX12_allSo 27 rfl) ?_
    refine K_iload_n (dt_at dtX12_allSo 28 rfl) rfl rfl ?_
    refine K_icmp_ne (tgt := 59) (dt_at dtX12_allSo 29 rfl) (by decide) (bAnd32 _ _) (by first | assumption | exact ⟨by omega, by omega⟩) (fun c3 => ?_) (fun c3 => ?_)
    · refine K_iconst (dt_at dtX12_allSo 32 rfl) ?_
      refine K_iadd (dt_at dtX12_allSo 33 rfl) ?_
      refine K_istore (ls' := [(4, vi ((cntN (fun k => decide (bAnd (bitN (fun j => decide ((dysF S f (k + 1)) (1 + (j : Int)) = 0)) (sNp S)) x = x)) k) + 0)), (6, vi (bitN (fun j => decide ((dysF S f (k + 1)) (1 + (j : Int)) = 0)) (sNp S))), (5, vi (k : Int)), (0, vr 0), (1, vi x), (2, vi (n : Int)), (3, vi 1)]) (dt_at dtX12_allSo 34 rfl) (by decide) rfl ?_
      refine K_iinc (ls' := [(5, vi ((k : Int) + 1)), (4, vi ((cntN (fun k => decide (bAnd (bitN (fun j => decide ((dysF S f (k + 1)) (1 + (j : Int)) = 0)) (sNp S)) x = x)) k) + 0)), (6, vi (bitN (fun j => decide ((dysF S f (k + 1)) (1 + (j : Int)) = 0)) (sNp S))), (0, vr 0), (1, vi x), (2, vi (n : Int)), (3, vi 1)]) (dt_at dtX12_allSo 35 rfl) rfl (by decide) rfl ?_
      refine K_goto (tgt := 10) (dt_at dtX12_allSo 36 rfl) (by decide) ?_
      refine K_pk [0, 1, 3, 4, 5, 6] (ls' := [(5, vi ((k : Int) + 1)), (4, vi ((cntN (fun k => decide (bAnd (bitN (fun j => decide ((dysF S f (k + 1)) (1 + (j : Int)) = 0)) (sNp S)) x = x)) k) + 0)), (0, vr 0), (1, vi x), (2, vi (n : Int)), (3, vi 1)]) rfl ?_
      exact K_cg (ls' := [(5, vi ((k + 1 : Nat) : Int)), (4, vi (cntN (fun k => decide (bAnd (bitN (fun j => decide ((dysF S f (k + 1)) (1 + (j : Int)) = 0)) (sNp S)) x = x)) (k + 1))), (0, vr 0), (1, vi x), (2, vi (n : Int)), (3, vi 1)]) (h' := hc1) (by rw [cntN_f (p := (fun k => decide (bAnd (bitN (fun j => decide ((dysF S f (k + 1)) (1 + (j : Int)) = 0)) (sNp S)) x = x))) (decide_eq_false (by assumption)), show (cntN (fun k => decide (bAnd (bitN (fun j => decide ((dysF S f (k + 1)) (1 + (j : Int)) = 0)) (sNp S)) x = x)) k + 0) = cntN (fun k => decide (bAnd (bitN (fun j => decide ((dysF S f (k + 1)) (1 + (j : Int)) = 0)) (sNp S)) x = x)) k by omega]; rfl) rfl (ih (k + 1) hc1 (by omega) Gq2)
    · refine K_iconst (dt_at dtX12_allSo 30 rfl) ?_
      refine K_goto (tgt := 60) (dt_at dtX12_allSo 31 rfl) (by decide) ?_
      refine K_iadd (dt_at dtX12_allSo 33 rfl) ?_
      refine K_istore (ls' := [(4, vi ((cntN (fun k => decide (bAnd (bitN (fun j => decide ((dysF S f (k + 1)) (1 + (j : Int)) = 0)) (sNp S)) x = x)) k) + 1)), (6, vi (bitN (fun j => decide ((dysF S f (k + 1)) (1 + (j : Int)) = 0)) (sNp S))), (5, vi (k : Int)), (0, vr 0), (1, vi x), (2, vi (n : Int)), (3, vi 1)]) (dt_at dtX12_allSo 34 rfl) (by decide) rfl ?_
      refine K_iinc (ls' := [(5, vi ((k : Int) + 1)), (4, vi ((cntN (fun k => decide (bAnd (bitN (fun j => decide ((dysF S f (k + 1)) (1 + (j : Int)) = 0)) (sNp S)) x = x)) k) + 1)), (6, vi (bitN (fun j => decide ((dysF S f (k + 1)) (1 + (j : Int)) = 0)) (sNp S))), (0, vr 0), (1, vi x), (2, vi (n : Int)), (3, vi 1)]) (dt_at dtX12_allSo 35 rfl) rfl (by decide) rfl ?_
      refine K_goto (tgt := 10) (dt_at dtX12_allSo 36 rfl) (by decide) ?_
      refine K_pk [0, 1, 3, 4, 5, 6] (ls' := [(5, vi ((k : Int) + 1)), (4, vi ((cntN (fun k => decide (bAnd (bitN (fun j => decide ((dysF S f (k + 1)) (1 + (j : Int)) = 0)) (sNp S)) x = x)) k) + 1)), (0, vr 0), (1, vi x), (2, vi (n : Int)), (3, vi 1)]) rfl ?_
      exact K_cg (ls' := [(5, vi ((k + 1 : Nat) : Int)), (4, vi (cntN (fun k => decide (bAnd (bitN (fun j => decide ((dysF S f (k + 1)) (1 + (j : Int)) = 0)) (sNp S)) x = x)) (k + 1))), (0, vr 0), (1, vi x), (2, vi (n : Int)), (3, vi 1)]) (h' := hc1) (by rw [cntN_t (p := (fun k => decide (bAnd (bitN (fun j => decide ((dysF S f (k + 1)) (1 + (j : Int)) = 0)) (sNp S)) x = x))) (decide_eq_true (by assumption))]; rfl) rfl (ih (k + 1) hc1 (by omega) Gq2)
set_option maxHeartbeats 4000000 in
set_option maxRecDepth 100000 in
theorem sX12_allSo_1 {h hh : HP} {S : HS} {f g : Int → Int} {x : Int} {n : Nat} (Q0 : MAsk h S f) (G : MG h hh S f g) (hx : i32 x) (hn : n ≤ 100) : SpecK mX12_allSo [vr 0, vi x, vi (n : Int), vi 1] hh (fun o h' => o = .inl (some (vi (cntN (fun k => decide (bAnd (bitN (fun j => decide ((dysF S f (k + 1)) (1 + (j : Int)) = 0)) (sNp S)) x = x)) n))) ∧ FQ h h' ∧ hI h' 0 0 = 0) := by
  refine Spec_of (by decide +kernel) (Nat.le_of_ble_eq_true rfl) ?_
  have hB := Q0.1.1
  have hNt := hB.1
  have hNp := hB.2.1
  have R := Q0.2.2.2.2
  have hT := R.1
  have hW := hT.1
  refine K_iconst (dt_at dtX12_allSo 0 rfl) ?_
  refine K_istore (ls' := [(4, vi 0), (0, vr 0), (1, vi x), (2, vi (n : Int)), (3, vi 1)]) (dt_at dtX12_allSo 1 rfl) (by decide) rfl ?_
  refine K_aload_n (dt_at dtX12_allSo 2 rfl) rfl rfl ?_
  refine K_callV (M' := mX12_tries) (a := 0) (ci := 12) (As := []) (st := []) (dt_at dtX12_allSo 3 rfl) (sX12_tries) (show TT 0 = (0, 12) from rfl) rfl wL_X12_397 vX12_tries rfl npX12_tries (by decide) (by decide) (Nat.le_of_ble_eq_true rfl) (by decide) (by decide) GK_E (fun v9 hc1 hq => ?_) (fun E h9 hq => by cases hq.1)
  have hqq2 := hq
  obtain ⟨e9q2, t1q2, t2q2, t3q2, t4q2⟩ := hqq2
  have Gq2 := MG_try G t1q2 t2q2 t3q2 t4q2
  cases e9q2
  show K mX12_allSo _ _ 0 0 7 [(4, vi 0), (0, vr 0), (1, vi x), (2, vi (n : Int)), (3, vi 1)] [] hc1
  refine K_iconst (dt_at dtX12_allSo 4 rfl) ?_
  refine K_istore (ls' := [(5, vi 0), (4, vi 0), (0, vr 0), (1, vi x), (2, vi (n : Int)), (3, vi 1)]) (dt_at dtX12_allSo 5 rfl) (by decide) rfl ?_
  exact K_pk [0, 1, 2, 3, 4, 5] rfl (lp_X12_allSo_1 Q0 hx hn n 0 hc1 (by omega) Gq2)
set_option maxHeartbeats 4000000 in
set_option maxRecDepth 100000 in
theorem lp_X12_allSo_0 {h : HP} {S : HS} {f : Int → Int} {x : Int} {n : Nat} (Q0 : MAsk h S f) (hx : i32 x) (hn : n ≤ 100) : ∀ (dd k : Nat) (hh : HP), k + dd = n → MG h hh S f (dysF S f k) → K mX12_allSo GK (ZK (fun o h' => o = .inl (some (vi (cntN (fun k => decide (bAnd (bXor (bitN (fun j => decide ((dysF S f (k + 1)) (1 + (j : Int)) = 0)) (sNp S)) (-1)) x = x)) n))) ∧ FQ h h' ∧ hI h' 0 0 = 0) 0 0) 0 0 10 [(5, vi (k : Int)), (4, vi (cntN (fun k => decide (bAnd (bXor (bitN (fun j => decide ((dysF S f (k + 1)) (1 + (j : Int)) = 0)) (sNp S)) (-1)) x = x)) k)), (0, vr 0), (1, vi x), (2, vi (n : Int)), (3, vi 0)] [] hh := by
  intro dd
  induction dd with
  | zero =>
    intro k hh hk G
    have hB := Q0.1.1
    have hNt := hB.1
    have hNp := hB.2.1
    have R := Q0.2.2.2.2
    have hT := R.1
    have hW := hT.1
    obtain ⟨a1, a2, a3, a4, a5⟩ := dys_R hB R (n := k) (by omega)
    have ek : k = n := by omega
    subst ek
    refine K_iload (dt_at dtX12_allSo 6 rfl) rfl ?_
    refine K_iload_n (dt_at dtX12_allSo 7 rfl) rfl rfl ?_
    refine K_icmp_ge (tgt := 69) (dt_at dtX12_allSo 8 rfl) (by decide) (by first | assumption | exact ⟨by omega, by omega⟩) (by first | assumption | exact ⟨by omega, by omega⟩) (fun c1 => ?_) (fun c1 => absurd c1 (by omega))
    refine K_iload (dt_at dtX12_allSo 37 rfl) rfl ?_
    exact K_iret (dt_at dtX12_allSo 38 rfl) rfl rfl (by decide) (by decide) ⟨rfl, G.2.1, G.2.2.2⟩
  | succ dd ih =>
    intro k hh hk G
    have hB := Q0.1.1
    have hNt := hB.1
    have hNp := hB.2.1
    have R := Q0.2.2.2.2
    have hT := R.1
    have hW := hT.1
    obtain ⟨a1, a2, a3, a4, a5⟩ := dys_R hB R (n := k) (by omega)
    obtain ⟨n1, n2, n3, n4, n5⟩ := dys_R hB R (n := k + 1) (by omega)
    refine K_iload (dt_at dtX12_allSo 6 rfl) rfl ?_
    refine K_iload_n (dt_at dtX12_allSo 7 rfl) rfl rfl ?_
    refine K_icmp_ge (tgt := 69) (dt_at dtX12_allSo 8 rfl) (by decide) (by first | assumption | exact ⟨by omega, by omega⟩) (by first | assumption | exact ⟨by omega, by omega⟩) (fun c1 => absurd c1 (by omega)) (fun c1 => ?_)
    refine K_aload_n (dt_at dtX12_allSo 9 rfl) rfl rfl ?_
    refine K_bipush (dt_at dtX12_allSo 10 rfl) (by decide) ?_
    refine K_callV (M' := mX12_dayGoes) (a := 0) (ci := 12) (As := [vi 77]) (st := []) (dt_at dtX12_allSo 11 rfl) (sX12_dayGoes (MG_D7 G) a1 a2 a3 a4 (MG_49 G)) (show TT 0 = (0, 12) from rfl) rfl wL_X12_334 vX12_dayGoes rfl npX12_dayGoes (by decide) (by decide) (Nat.le_of_ble_eq_true rfl) (by decide) (by decide) GK_E (fun v9 hc1 hq => ?_) (fun E h9 hq => by cases hq.1)
    have hqq2 := hq
    obtain ⟨e9q2, dq2, ⟨lq2, mq2⟩, iq2⟩ := hqq2
    have Gq2 : MG h hc1 S f (dysF S f (k + 1)) := MG_day G dq2
    cases e9q2
    show K mX12_allSo _ _ 0 0 22 [(5, vi (k : Int)), (4, vi (cntN (fun k => decide (bAnd (bXor (bitN (fun j => decide ((dysF S f (k + 1)) (1 + (j : Int)) = 0)) (sNp S)) (-1)) x = x)) k)), (0, vr 0), (1, vi x), (2, vi (n : Int)), (3, vi 0)] [] hc1
    refine K_iload_n (dt_at dtX12_allSo 12 rfl) rfl rfl ?_
    refine K_if_eq (tgt := 35) (dt_at dtX12_allSo 13 rfl) (by decide) (by first | assumption | exact ⟨by omega, by omega⟩) (fun c2 => ?_) (fun c2 => absurd c2 (by omega))
    refine K_aload_n (dt_at dtX12_allSo 18 rfl) rfl rfl ?_
    refine K_bipush (dt_at dtX12_allSo 19 rfl) (by decide) ?_
    refine K_callV (M' := mX12_inOnes) (a := 0) (ci := 12) (As := [vi 77]) (st := []) (dt_at dtX12_allSo 20 rfl) (sX12_inOnes (MG_D7 Gq2) n1.1) (show TT 0 = (0, 12) from rfl) rfl wL_X12_350 vX12_inOnes rfl npX12_inOnes (by decide) (by decide) (Nat.le_of_ble_eq_true rfl) (by decide) (by decide) GK_E (fun v9 h9 hq => ?_) (fun E h9 hq => by cases hq.1)
    obtain ⟨e9, e8⟩ := hq
    cases e9
    rw [e8]
    show K mX12_allSo _ _ 0 0 41 [(5, vi (k : Int)), (4, vi (cntN (fun k => decide (bAnd (bXor (bitN (fun j => decide ((dysF S f (k + 1)) (1 + (j : Int)) = 0)) (sNp S)) (-1)) x = x)) k)), (0, vr 0), (1, vi x), (2, vi (n : Int)), (3, vi 0)] [vi (bitN (fun j => decide ((dysF S f (k + 1)) (1 + (j : Int)) = 0)) (sNp S))] hc1
    refine K_iconst (dt_at dtX12_allSo 21 rfl) ?_
    refine K_ixor (dt_at dtX12_allSo 22 rfl) ?_
    refine K_istore (ls' := [(6, vi (bXor (bitN (fun j => decide ((dysF S f (k + 1)) (1 + (j : Int)) = 0)) (sNp S)) (-1))), (5, vi (k : Int)), (4, vi (cntN (fun k => decide (bAnd (bXor (bitN (fun j => decide ((dysF S f (k + 1)) (1 + (j : Int)) = 0)) (sNp S)) (-1)) x = x)) k)), (0, vr 0), (1, vi x), (2, vi (n : Int)), (3, vi 0)]) (dt_at dtX12_allSo 23 rfl) (by decide) rfl ?_
    refine K_iload (dt_at dtX12_allSo 24 rfl) rfl ?_
    refine K_iload (dt_at dtX12_allSo 25 rfl) rfl ?_
    refine K_iload_n (dt_at dtX12_allSo 26 rfl) rfl rfl ?_
    refine K_iand (dt_at dtX12_allSo 27 rfl) ?_
    refine K_iload_n (dt_at dtX12_allSo 28 rfl) rfl rfl ?_
    refine K_icmp_ne (tgt := 59) (dt_at dtX12_allSo 29 rfl) (by decide) (bAnd32 _ _) (by first | assumption | exact ⟨by omega, by omega⟩) (fun c3 => ?_) (fun c3 => ?_)
    · refine K_iconst (dt_at dtX12_allSo 32 rfl) ?_
      refine K_iadd (dt_at dtX12_allSo 33 rfl) ?_
      refine K_istore (ls' := [(4, vi ((cntN (fun k => decide (bAnd (bXor (bitN (fun j => decide ((dysF S f (k + 1)) (1 + (j : Int)) = 0)) (sNp S)) (-1)) x = x)) k) + 0)), (6, vi (bXor (bitN (fun j => decide ((dysF S f (k + 1)) (1 + (j : Int)) = 0)) (sNp S)) (-1))), (5, vi (k : Int)), (0, vr 0), (1, vi x), (2, vi (n : Int)), (3, vi 0)]) (dt_at dtX12_allSo 34 rfl) (by decide) rfl ?_
      refine K_iinc (ls' := [(5, vi ((k : Int) + 1)), (4, vi ((cntN (fun k => decide (bAnd (bXor (bitN (fun j => decide ((dysF S f (k + 1)) (1 + (j : Int)) = 0)) (sNp S)) (-1)) x = x)) k) + 0)), (6, vi (bXor (bitN (fun j => decide ((dysF S f (k + 1)) (1 + (j : Int)) = 0)) (sNp S)) (-1))), (0, vr 0), (1, vi x), (2, vi (n : Int)), (3, vi 0)]) (dt_at dtX12_allSo 35 rfl) rfl (by decide) rfl ?_
      refine K_goto (tgt := 10) (dt_at dtX12_allSo 36 rfl) (by decide) ?_
      refine K_pk [0, 1, 3, 4, 5, 6] (ls' := [(5, vi ((k : Int) + 1)), (4, vi ((cntN (fun k => decide (bAnd (bXor (bitN (fun j => decide ((dysF S f (k + 1)) (1 + (j : Int)) = 0)) (sNp S)) (-1)) x = x)) k) + 0)), (0, vr 0), (1, vi x), (2, vi (n : Int)), (3, vi 0)]) rfl ?_
      exact K_cg (ls' := [(5, vi ((k + 1 : Nat) : Int)), (4, vi (cntN (fun k => decide (bAnd (bXor (bitN (fun j => decide ((dysF S f (k + 1)) (1 + (j : Int)) = 0)) (sNp S)) (-1)) x = x)) (k + 1))), (0, vr 0), (1, vi x), (2, vi (n : Int)), (3, vi 0)]) (h' := hc1) (by rw [cntN_f (p := (fun k => decide (bAnd (bXor (bitN (fun j => decide ((dysF S f (k + 1)) (1 + (j : Int)) = 0)) (sNp S)) (-1)) x = x))) (decide_eq_false (by assumption)), show (cntN (fun k => decide (bAnd (bXor (bitN (fun j => decide ((dysF S f (k + 1)) (1 + (j : Int)) = 0)) (sNp S)) (-1)) x = x)) k + 0) = cntN (fun k => decide (bAnd (bXor (bitN (fun j => decide ((dysF S f (k + 1)) (1 + (j : Int)) = 0)) (sNp S)) (-1)) x = x)) k by omega]; rfl) rfl (ih (k + 1) hc1 (by omega) Gq2)
    · refine K_iconst (dt_at dtX12_allSo 30 rfl) ?_
      refine K_goto (tgt := 60) (dt_at dtX12_allSo 31 rfl) (by decide) ?_
      refine K_iadd (dt_at dtX12_allSo 33 rfl) ?_
      refine K_istore (ls' := [(4, vi ((cntN (fun k => decide (bAnd (bXor (bitN (fun j => decide ((dysF S f (k + 1)) (1 + (j : Int)) = 0)) (sNp S)) (-1)) x = x)) k) + 1)), (6, vi (bXor (bitN (fun j => decide ((dysF S f (k + 1)) (1 + (j : Int)) = 0)) (sNp S)) (-1))), (5, vi (k : Int)), (0, vr 0), (1, vi x), (2, vi (n : Int)), (3, vi 0)]) (dt_at dtX12_allSo 34 rfl) (by decide) rfl ?_
      refine K_iinc (ls' := [(5, vi ((k : Int) + 1)), (4, vi ((cntN (fun k => decide (bAnd (bXor (bitN (fun j => decide ((dysF S f (k + 1)) (1 + (j : Int)) = 0)) (sNp S)) (-1)) x = x)) k) + 1)), (6, vi (bXor (bitN (fun j => decide ((dysF S f (k + 1)) (1 + (j : Int)) = 0)) (sNp S)) (-1))), (0, vr 0), (1, vi x), (2, vi (n : Int)), (3, vi 0)]) (dt_at dtX12_allSo 35 rfl) rfl (by decide) rfl ?_
      refine K_goto (tgt := 10) (dt_at dtX12_allSo 36 rfl) (by decide) ?_
      refine K_pk [0, 1, 3, 4, 5, 6] (ls' := [(5, vi ((k : Int) + 1)), (4, vi ((cntN (fun k => decide (bAnd (bXor (bitN (fun j => decide ((dysF S f (k + 1)) (1 + (j : Int)) = 0)) (sNp S)) (-1)) x = x)) k) + 1)), (0, vr 0), (1, vi x), (2, vi (n : Int)), (3, vi 0)]) rfl ?_
      exact K_cg (ls' := [(5, vi ((k + 1 : Nat) : Int)), (4, vi (cntN (fun k => decide (bAnd (bXor (bitN (fun j => decide ((dysF S f (k + 1)) (1 + (j : Int)) = 0)) (sNp S)) (-1)) x = x)) (k + 1))), (0, vr 0), (1, vi x), (2, vi (n : Int)), (3, vi 0)]) (h' := hc1) (by rw [cntN_t (p := (fun k => decide (bAnd (bXor (bitN (fun j => decide ((dysF S f (k + 1)) (1 + (j : Int)) = 0)) (sNp S)) (-1)) x = x))) (decide_eq_true (by assumption))]; rfl) rfl (ih (k + 1) hc1 (by omega) Gq2)
set_option maxHeartbeats 4000000 in
set_option maxRecDepth 100000 in
theorem sX12_allSo_0 {h hh : HP} {S : HS} {f g : Int → Int} {x : Int} {n : Nat} (Q0 : MAsk h S f) (G : MG h hh S f g) (hx : i32 x) (hn : n ≤ 100) : SpecK mX12_allSo [vr 0, vi x, vi (n : Int), vi 0] hh (fun o h' => o = .inl (some (vi (cntN (fun k => decide (bAnd (bXor (bitN (fun j => decide ((dysF S f (k + 1)) (1 + (j : Int)) = 0)) (sNp S)) (-1)) x = x)) n))) ∧ FQ h h' ∧ hI h' 0 0 = 0) := by
  refine Spec_of (by decide +kernel) (Nat.le_of_ble_eq_true rfl) ?_
  have hB := Q0.1.1
  have hNt := hB.1
  have hNp := hB.2.1
  have R := Q0.2.2.2.2
  have hT := R.1
  have hW := hT.1
  refine K_iconst (dt_at dtX12_allSo 0 rfl) ?_
  refine K_istore (ls' := [(4, vi 0), (0, vr 0), (1, vi x), (2, vi (n : Int)), (3, vi 0)]) (dt_at dtX12_allSo 1 rfl) (by decide) rfl ?_
  refine K_aload_n (dt_at dtX12_allSo 2 rfl) rfl rfl ?_
  refine K_callV (M' := mX12_tries) (a := 0) (ci := 12) (As := []) (st := []) (dt_at dtX12_allSo 3 rfl) (sX12_tries) (show TT 0 = (0, 12) from rfl) rfl wL_X12_397 vX12_tries rfl npX12_tries (by decide) (by decide) (Nat.le_of_ble_eq_true rfl) (by decide) (by decide) GK_E (fun v9 hc1 hq => ?_) (fun E h9 hq => by cases hq.1)
  have hqq2 := hq
  obtain ⟨e9q2, t1q2, t2q2, t3q2, t4q2⟩ := hqq2
  have Gq2 := MG_try G t1q2 t2q2 t3q2 t4q2
  cases e9q2
  show K mX12_allSo _ _ 0 0 7 [(4, vi 0), (0, vr 0), (1, vi x), (2, vi (n : Int)), (3, vi 0)] [] hc1
  refine K_iconst (dt_at dtX12_allSo 4 rfl) ?_
  refine K_istore (ls' := [(5, vi 0), (4, vi 0), (0, vr 0), (1, vi x), (2, vi (n : Int)), (3, vi 0)]) (dt_at dtX12_allSo 5 rfl) (by decide) rfl ?_
  exact K_pk [0, 1, 2, 3, 4, 5] rfl (lp_X12_allSo_0 Q0 hx hn n 0 hc1 (by omega) Gq2)
theorem tog_eq {S : HS} {g : Int → Int} {p q : Int} (hB : hsW S) (hp : 0 ≤ p ∧ p < sNp S) (hq : 0 ≤ q ∧ q < sNp S) : decide (bAnd (bitN (fun j => decide (g (1 + (j : Int)) = 0)) (sNp S)) (bOr (bShl 1 p) (bShl 1 q)) = (bOr (bShl 1 p) (bShl 1 q))) = decide (bAnd (bitN (fun j => decide (g (1 + (j : Int)) ≠ 0)) (sNp S)) (bOr (bShl 1 p) (bShl 1 q)) = 0) := by
  rw [(bit_pq hB.2.1 hp hq).2.1, (bit_pq hB.2.1 hp hq).1]
  simp
theorem awb_eq {S : HS} {g : Int → Int} {p q : Int} (hB : hsW S) (hp : 0 ≤ p ∧ p < sNp S) (hq : 0 ≤ q ∧ q < sNp S) : decide (bAnd (bXor (bitN (fun j => decide (g (1 + (j : Int)) = 0)) (sNp S)) (-1)) (bOr (bShl 1 p) (bShl 1 q)) = (bOr (bShl 1 p) (bShl 1 q))) = decide (bAnd (bAnd (bXor (bitN (fun j => decide (g (1 + (j : Int)) ≠ 0)) (sNp S)) (-1)) (bShl 1 (sNp S : Int) - 1)) (bOr (bShl 1 p) (bShl 1 q)) = 0) := by
  rw [in_eq hB, (bit_pq hB.2.1 hp hq).2.2, (bit_pq hB.2.1 hp hq).1]
theorem alo_eq {S : HS} {g : Int → Int} (hB : hsW S) : decide (bAnd (bXor (bitN (fun j => decide (g (1 + (j : Int)) = 0)) (sNp S)) (-1)) (bShl 1 (sNp S : Int) - 1) = bShl 1 (sNp S : Int) - 1) = decide (bAnd (bAnd (bXor (bitN (fun j => decide (g (1 + (j : Int)) ≠ 0)) (sNp S)) (-1)) (bShl 1 (sNp S : Int) - 1)) (bShl 1 (sNp S : Int) - 1) = 0) := by
  rw [in_eq hB, bit_al hB.2.1]
def mX12_together : MI := (yX12_together, cX12_together, 4, (some .int), rmK 8 0)
def tX12_together : List (Nat × Instr × Nat) := [(0, .aload_n 0, 1), (1, .iconst 0, 1), (2, .putfield 105, 3), (5, .aload_n 0, 1), (6, .iload_n 1, 1), (7, .invokevirtual 375, 3), (10, .ifCond .eq 37, 3), (13, .aload_n 0, 1), (14, .iload_n 2, 1), (15, .invokevirtual 375, 3), (18, .ifCond .eq 29, 3), (21, .aload_n 0, 1), (22, .iload_n 3, 1), (23, .iconst 1, 1), (24, .iconst 2, 1), (25, .invokevirtual 403, 3), (28, .ifCond .eq 19, 3), (31, .aload_n 0, 1), (32, .iconst 1, 1), (33, .iload_n 1, 1), (34, .ishl, 1), (35, .iconst 1, 1), (36, .iload_n 2, 1), (37, .ishl, 1), (38, .ior, 1), (39, .iload_n 3, 1), (40, .iconst 1, 1), (41, .invokevirtual 416, 3), (44, .goto 4, 3), (47, .iconst 0, 1), (48, .ireturn, 1)]
theorem dtX12_together : tX12_together.all (fun q => decide (decode cX12_together q.1 = .ok (q.2.1, q.2.2))) = true := by decide +kernel
theorem npX12_together : (parseMethodDescriptor (mY mX12_together).desc).map (fun d => d.parameters.length) = some 3 := by decide +kernel
theorem vX12_together : mV mX12_together := ⟨wI_X12_together, wS_X12_together, wN_X12, wC_X12_together, by decide +kernel, by decide +kernel⟩
set_option maxHeartbeats 4000000 in
set_option maxRecDepth 100000 in
theorem sX12_together_x1 {h : HP} {S : HS} {f : Int → Int} {p q d : Int} (Q0 : MAsk h S f) (hp_ : i32 p) (hq_ : i32 q) (hd_ : i32 d) (kn : ¬ (0 ≤ p ∧ p < sNp S)) : SpecK mX12_together [vr 0, vi p, vi q, vi d] h (fun o h' => o = .inl (some (vi 0)) ∧ FQ h h' ∧ hI h' 0 0 = 1) := by
  refine Spec_of (by decide +kernel) (Nat.le_of_ble_eq_true rfl) ?_
  have hB := Q0.1.1
  have hNt := hB.1
  have hNp := hB.2.1
  have R := Q0.2.2.2.2
  have hT := R.1
  have hW := hT.1
  refine K_aload_n (dt_at dtX12_together 0 rfl) rfl rfl ?_
  refine K_iconst (dt_at dtX12_together 1 rfl) ?_
  refine K_putI (a := 0) (ci := 12) (k := 0) (dt_at dtX12_together 2 rfl) (show TT 0 = (0, 12) from rfl) rfl (by decide) wF_X12_105 rfl (Or.inl rfl) rfl rfl ?_
  obtain ⟨hu1, eu1⟩ : ∃ z, z = sI h 0 0 0 := ⟨_, rfl⟩
  rw [← eu1]
  obtain ⟨iu1, fu1, au1, ru1⟩ := sI_fx eu1
  have Gu1 := MG_0 Q0 eu1
  refine K_aload_n (dt_at dtX12_together 3 rfl) rfl rfl ?_
  refine K_iload_n (dt_at dtX12_together 4 rfl) rfl rfl ?_
  refine K_callV (M' := mX12_isPerson) (a := 0) (ci := 12) (As := [vi p]) (st := []) (dt_at dtX12_together 5 rfl) (sX12_isPerson_f (MD_np (MG_D0 Gu1)) hNp Gu1.2.2.2 (by assumption) (by omega)) (show TT 0 = (0, 12) from rfl) rfl wL_X12_375 vX12_isPerson rfl npX12_isPerson (by decide) (by decide) (Nat.le_of_ble_eq_true rfl) (by decide) (by decide) GK_E (fun v9 hc2 hq => ?_) (fun E h9 hq => by cases hq.1)
  have hqq3 := hq
  obtain ⟨e9q3, e8q3⟩ := hqq3
  obtain ⟨iq3, fq3, aq3, rq3⟩ := sI_fx e8q3
  have Bq3 : FQ h hc2 := FQ_tr Gu1.2.1 (FQ_I e8q3 rfl Gu1.2.1.2.2.2.2)
  cases e9q3
  show K mX12_together _ _ 0 0 10 [(0, vr 0), (1, vi p), (2, vi q), (3, vi d)] [vi 0] hc2
  refine K_if_eq (tgt := 47) (dt_at dtX12_together 6 rfl) (by decide) (by first | assumption | exact ⟨by omega, by omega⟩) (fun c1 => ?_) (fun c1 => absurd c1 (by omega))
  refine K_iconst (dt_at dtX12_together 29 rfl) ?_
  exact K_iret (dt_at dtX12_together 30 rfl) rfl rfl (by decide) (by decide) ⟨rfl, Bq3, iq3⟩
set_option maxHeartbeats 4000000 in
set_option maxRecDepth 100000 in
theorem sX12_together_x2 {h : HP} {S : HS} {f : Int → Int} {p q d : Int} (Q0 : MAsk h S f) (hp_ : i32 p) (hq_ : i32 q) (hd_ : i32 d) (k0 : 0 ≤ p ∧ p < sNp S) (kn : ¬ (0 ≤ q ∧ q < sNp S)) : SpecK mX12_together [vr 0, vi p, vi q, vi d] h (fun o h' => o = .inl (some (vi 0)) ∧ FQ h h' ∧ hI h' 0 0 = 1) := by
  refine Spec_of (by decide +kernel) (Nat.le_of_ble_eq_true rfl) ?_
  have hB := Q0.1.1
  have hNt := hB.1
  have hNp := hB.2.1
  have R := Q0.2.2.2.2
  have hT := R.1
  have hW := hT.1
  refine K_aload_n (dt_at dtX12_together 0 rfl) rfl rfl ?_
  refine K_iconst (dt_at dtX12_together 1 rfl) ?_
  refine K_putI (a := 0) (ci := 12) (k := 0) (dt_at dtX12_together 2 rfl) (show TT 0 = (0, 12) from rfl) rfl (by decide) wF_X12_105 rfl (Or.inl rfl) rfl rfl ?_
  obtain ⟨hu1, eu1⟩ : ∃ z, z = sI h 0 0 0 := ⟨_, rfl⟩
  rw [← eu1]
  obtain ⟨iu1, fu1, au1, ru1⟩ := sI_fx eu1
  have Gu1 := MG_0 Q0 eu1
  refine K_aload_n (dt_at dtX12_together 3 rfl) rfl rfl ?_
  refine K_iload_n (dt_at dtX12_together 4 rfl) rfl rfl ?_
  refine K_callV (M' := mX12_isPerson) (a := 0) (ci := 12) (As := [vi p]) (st := []) (dt_at dtX12_together 5 rfl) (sX12_isPerson_t (MD_np (MG_D0 Gu1)) hNp Gu1.2.2.2 (by omega)) (show TT 0 = (0, 12) from rfl) rfl wL_X12_375 vX12_isPerson rfl npX12_isPerson (by decide) (by decide) (Nat.le_of_ble_eq_true rfl) (by decide) (by decide) GK_E (fun v9 h9 hq => ?_) (fun E h9 hq => by cases hq.1)
  obtain ⟨e9, e8⟩ := hq
  cases e9
  rw [e8]
  show K mX12_together _ _ 0 0 10 [(0, vr 0), (1, vi p), (2, vi q), (3, vi d)] [vi 1] hu1
  refine K_if_eq (tgt := 47) (dt_at dtX12_together 6 rfl) (by decide) (by first | assumption | exact ⟨by omega, by omega⟩) (fun c1 => absurd c1 (by omega)) (fun c1 => ?_)
  refine K_aload_n (dt_at dtX12_together 7 rfl) rfl rfl ?_
  refine K_iload_n (dt_at dtX12_together 8 rfl) rfl rfl ?_
  refine K_callV (M' := mX12_isPerson) (a := 0) (ci := 12) (As := [vi q]) (st := []) (dt_at dtX12_together 9 rfl) (sX12_isPerson_f (MD_np (MG_D0 Gu1)) hNp Gu1.2.2.2 (by assumption) (by omega)) (show TT 0 = (0, 12) from rfl) rfl wL_X12_375 vX12_isPerson rfl npX12_isPerson (by decide) (by decide) (Nat.le_of_ble_eq_true rfl) (by decide) (by decide) GK_E (fun v9 hc2 hq => ?_) (fun E h9 hq => by cases hq.1)
  have hqq3 := hq
  obtain ⟨e9q3, e8q3⟩ := hqq3
  obtain ⟨iq3, fq3, aq3, rq3⟩ := sI_fx e8q3
  have Bq3 : FQ h hc2 := FQ_tr Gu1.2.1 (FQ_I e8q3 rfl Gu1.2.1.2.2.2.2)
  cases e9q3
  show K mX12_together _ _ 0 0 18 [(0, vr 0), (1, vi p), (2, vi q), (3, vi d)] [vi 0] hc2
  refine K_if_eq (tgt := 47) (dt_at dtX12_together 10 rfl) (by decide) (by first | assumption | exact ⟨by omega, by omega⟩) (fun c2 => ?_) (fun c2 => absurd c2 (by omega))
  refine K_iconst (dt_at dtX12_together 29 rfl) ?_
  exact K_iret (dt_at dtX12_together 30 rfl) rfl rfl (by decide) (by decide) ⟨rfl, Bq3, iq3⟩
set_option maxHeartbeats 4000000 in
set_option maxRecDepth 100000 in
theorem sX12_together_x3 {h : HP} {S : HS} {f : Int → Int} {p q d : Int} (Q0 : MAsk h S f) (hp_ : i32 p) (hq_ : i32 q) (hd_ : i32 d) (k0 : 0 ≤ p ∧ p < sNp S) (k1 : 0 ≤ q ∧ q < sNp S) (kn : ¬ (1 ≤ d ∧ d ≤ 100)) : SpecK mX12_together [vr 0, vi p, vi q, vi d] h (fun o h' => o = .inl (some (vi 0)) ∧ FQ h h' ∧ hI h' 0 0 = 2) := by
  refine Spec_of (by decide +kernel) (Nat.le_of_ble_eq_true rfl) ?_
  have hB := Q0.1.1
  have hNt := hB.1
  have hNp := hB.2.1
  have R := Q0.2.2.2.2
  have hT := R.1
  have hW := hT.1
  refine K_aload_n (dt_at dtX12_together 0 rfl) rfl rfl ?_
  refine K_iconst (dt_at dtX12_together 1 rfl) ?_
  refine K_putI (a := 0) (ci := 12) (k := 0) (dt_at dtX12_together 2 rfl) (show TT 0 = (0, 12) from rfl) rfl (by decide) wF_X12_105 rfl (Or.inl rfl) rfl rfl ?_
  obtain ⟨hu1, eu1⟩ : ∃ z, z = sI h 0 0 0 := ⟨_, rfl⟩
  rw [← eu1]
  obtain ⟨iu1, fu1, au1, ru1⟩ := sI_fx eu1
  have Gu1 := MG_0 Q0 eu1
  refine K_aload_n (dt_at dtX12_together 3 rfl) rfl rfl ?_
  refine K_iload_n (dt_at dtX12_together 4 rfl) rfl rfl ?_
  refine K_callV (M' := mX12_isPerson) (a := 0) (ci := 12) (As := [vi p]) (st := []) (dt_at dtX12_together 5 rfl) (sX12_isPerson_t (MD_np (MG_D0 Gu1)) hNp Gu1.2.2.2 (by omega)) (show TT 0 = (0, 12) from rfl) rfl wL_X12_375 vX12_isPerson rfl npX12_isPerson (by decide) (by decide) (Nat.le_of_ble_eq_true rfl) (by decide) (by decide) GK_E (fun v9 h9 hq => ?_) (fun E h9 hq => by cases hq.1)
  obtain ⟨e9, e8⟩ := hq
  cases e9
  rw [e8]
  show K mX12_together _ _ 0 0 10 [(0, vr 0), (1, vi p), (2, vi q), (3, vi d)] [vi 1] hu1
  refine K_if_eq (tgt := 47) (dt_at dtX12_together 6 rfl) (by decide) (by first | assumption | exact ⟨by omega, by omega⟩) (fun c1 => absurd c1 (by omega)) (fun c1 => ?_)
  refine K_aload_n (dt_at dtX12_together 7 rfl) rfl rfl ?_
  refine K_iload_n (dt_at dtX12_together 8 rfl) rfl rfl ?_
  refine K_callV (M' := mX12_isPerson) (a := 0) (ci := 12) (As := [vi q]) (st := []) (dt_at dtX12_together 9 rfl) (sX12_isPerson_t (MD_np (MG_D0 Gu1)) hNp Gu1.2.2.2 (by omega)) (show TT 0 = (0, 12) from rfl) rfl wL_X12_375 vX12_isPerson rfl npX12_isPerson (by decide) (by decide) (Nat.le_of_ble_eq_true rfl) (by decide) (by decide) GK_E (fun v9 h9 hq => ?_) (fun E h9 hq => by cases hq.1)
  obtain ⟨e9, e8⟩ := hq
  cases e9
  rw [e8]
  show K mX12_together _ _ 0 0 18 [(0, vr 0), (1, vi p), (2, vi q), (3, vi d)] [vi 1] hu1
  refine K_if_eq (tgt := 47) (dt_at dtX12_together 10 rfl) (by decide) (by first | assumption | exact ⟨by omega, by omega⟩) (fun c2 => absurd c2 (by omega)) (fun c2 => ?_)
  refine K_aload_n (dt_at dtX12_together 11 rfl) rfl rfl ?_
  refine K_iload_n (dt_at dtX12_together 12 rfl) rfl rfl ?_
  refine K_iconst (dt_at dtX12_together 13 rfl) ?_
  refine K_iconst (dt_at dtX12_together 14 rfl) ?_
  refine K_callV (M' := mX12_isSoon) (a := 0) (ci := 12) (As := [vi d, vi 1, vi 2]) (st := []) (dt_at dtX12_together 15 rfl) (sX12_isSoon_f Gu1.2.2.2 (by decide) (by assumption) (by omega) (by decide)) (show TT 0 = (0, 12) from rfl) rfl wL_X12_403 vX12_isSoon rfl npX12_isSoon (by decide) (by decide) (Nat.le_of_ble_eq_true rfl) (by decide) (by decide) GK_E (fun v9 hc2 hq => ?_) (fun E h9 hq => by cases hq.1)
  have hqq3 := hq
  obtain ⟨e9q3, e8q3⟩ := hqq3
  obtain ⟨iq3, fq3, aq3, rq3⟩ := sI_fx e8q3
  have Bq3 : FQ h hc2 := FQ_tr Gu1.2.1 (FQ_I e8q3 rfl Gu1.2.1.2.2.2.2)
  cases e9q3
  show K mX12_together _ _ 0 0 28 [(0, vr 0), (1, vi p), (2, vi q), (3, vi d)] [vi 0] hc2
  refine K_if_eq (tgt := 47) (dt_at dtX12_together 16 rfl) (by decide) (by first | assumption | exact ⟨by omega, by omega⟩) (fun c3 => ?_) (fun c3 => absurd c3 (by omega))
  refine K_iconst (dt_at dtX12_together 29 rfl) ?_
  exact K_iret (dt_at dtX12_together 30 rfl) rfl rfl (by decide) (by decide) ⟨rfl, Bq3, iq3⟩
set_option maxHeartbeats 4000000 in
set_option maxRecDepth 100000 in
theorem sX12_together {h : HP} {S : HS} {f : Int → Int} {p q : Int} {n : Nat} (Q0 : MAsk h S f) (hp : 0 ≤ p ∧ p < sNp S) (hqt : 0 ≤ q ∧ q < sNp S) (hn : 1 ≤ n ∧ n ≤ 100) : SpecK mX12_together [vr 0, vi p, vi q, vi (n : Int)] h (fun o h' => o = .inl (some (vi (cntN (fun k => decide (bAnd (bitN (fun j => decide (((dysF S f (k + 1)) (1 + (j : Int))) ≠ 0)) (sNp S)) (bOr (bShl 1 p) (bShl 1 q)) = 0)) n))) ∧ FQ h h' ∧ hI h' 0 0 = 0) := by
  refine Spec_of (by decide +kernel) (Nat.le_of_ble_eq_true rfl) ?_
  have hB := Q0.1.1
  have hNt := hB.1
  have hNp := hB.2.1
  have R := Q0.2.2.2.2
  have hT := R.1
  have hW := hT.1
  refine K_aload_n (dt_at dtX12_together 0 rfl) rfl rfl ?_
  refine K_iconst (dt_at dtX12_together 1 rfl) ?_
  refine K_putI (a := 0) (ci := 12) (k := 0) (dt_at dtX12_together 2 rfl) (show TT 0 = (0, 12) from rfl) rfl (by decide) wF_X12_105 rfl (Or.inl rfl) rfl rfl ?_
  obtain ⟨hu1, eu1⟩ : ∃ z, z = sI h 0 0 0 := ⟨_, rfl⟩
  rw [← eu1]
  obtain ⟨iu1, fu1, au1, ru1⟩ := sI_fx eu1
  have Gu1 := MG_0 Q0 eu1
  refine K_aload_n (dt_at dtX12_together 3 rfl) rfl rfl ?_
  refine K_iload_n (dt_at dtX12_together 4 rfl) rfl rfl ?_
  refine K_callV (M' := mX12_isPerson) (a := 0) (ci := 12) (As := [vi p]) (st := []) (dt_at dtX12_together 5 rfl) (sX12_isPerson_t (MD_np (MG_D0 Gu1)) hNp Gu1.2.2.2 (by omega)) (show TT 0 = (0, 12) from rfl) rfl wL_X12_375 vX12_isPerson rfl npX12_isPerson (by decide) (by decide) (Nat.le_of_ble_eq_true rfl) (by decide) (by decide) GK_E (fun v9 h9 hq => ?_) (fun E h9 hq => by cases hq.1)
  obtain ⟨e9, e8⟩ := hq
  cases e9
  rw [e8]
  show K mX12_together _ _ 0 0 10 [(0, vr 0), (1, vi p), (2, vi q), (3, vi (n : Int))] [vi 1] hu1
  refine K_if_eq (tgt := 47) (dt_at dtX12_together 6 rfl) (by decide) (by first | assumption | exact ⟨by omega, by omega⟩) (fun c1 => absurd c1 (by omega)) (fun c1 => ?_)
  refine K_aload_n (dt_at dtX12_together 7 rfl) rfl rfl ?_
  refine K_iload_n (dt_at dtX12_together 8 rfl) rfl rfl ?_
  refine K_callV (M' := mX12_isPerson) (a := 0) (ci := 12) (As := [vi q]) (st := []) (dt_at dtX12_together 9 rfl) (sX12_isPerson_t (MD_np (MG_D0 Gu1)) hNp Gu1.2.2.2 (by omega)) (show TT 0 = (0, 12) from rfl) rfl wL_X12_375 vX12_isPerson rfl npX12_isPerson (by decide) (by decide) (Nat.le_of_ble_eq_true rfl) (by decide) (by decide) GK_E (fun v9 h9 hq => ?_) (fun E h9 hq => by cases hq.1)
  obtain ⟨e9, e8⟩ := hq
  cases e9
  rw [e8]
  show K mX12_together _ _ 0 0 18 [(0, vr 0), (1, vi p), (2, vi q), (3, vi (n : Int))] [vi 1] hu1
  refine K_if_eq (tgt := 47) (dt_at dtX12_together 10 rfl) (by decide) (by first | assumption | exact ⟨by omega, by omega⟩) (fun c2 => absurd c2 (by omega)) (fun c2 => ?_)
  refine K_aload_n (dt_at dtX12_together 11 rfl) rfl rfl ?_
  refine K_iload_n (dt_at dtX12_together 12 rfl) rfl rfl ?_
  refine K_iconst (dt_at dtX12_together 13 rfl) ?_
  refine K_iconst (dt_at dtX12_together 14 rfl) ?_
  refine K_callV (M' := mX12_isSoon) (a := 0) (ci := 12) (As := [vi (n : Int), vi 1, vi 2]) (st := []) (dt_at dtX12_together 15 rfl) (sX12_isSoon_t Gu1.2.2.2 (by omega) (by omega)) (show TT 0 = (0, 12) from rfl) rfl wL_X12_403 vX12_isSoon rfl npX12_isSoon (by decide) (by decide) (Nat.le_of_ble_eq_true rfl) (by decide) (by decide) GK_E (fun v9 h9 hq => ?_) (fun E h9 hq => by cases hq.1)
  obtain ⟨e9, e8⟩ := hq
  cases e9
  rw [e8]
  show K mX12_together _ _ 0 0 28 [(0, vr 0), (1, vi p), (2, vi q), (3, vi (n : Int))] [vi 1] hu1
  refine K_if_eq (tgt := 47) (dt_at dtX12_together 16 rfl) (by decide) (by first | assumption | exact ⟨by omega, by omega⟩) (fun c3 => absurd c3 (by omega)) (fun c3 => ?_)
  refine K_aload_n (dt_at dtX12_together 17 rfl) rfl rfl ?_
  refine K_iconst (dt_at dtX12_together 18 rfl) ?_
  refine K_iload_n (dt_at dtX12_together 19 rfl) rfl rfl ?_
  refine K_ishl (dt_at dtX12_together 20 rfl) ?_
  refine K_iconst (dt_at dtX12_together 21 rfl) ?_
  refine K_iload_n (dt_at dtX12_together 22 rfl) rfl rfl ?_
  refine K_ishl (dt_at dtX12_together 23 rfl) ?_
  refine K_ior (dt_at dtX12_together 24 rfl) ?_
  refine K_iload_n (dt_at dtX12_together 25 rfl) rfl rfl ?_
  refine K_iconst (dt_at dtX12_together 26 rfl) ?_
  refine K_callV (M' := mX12_allSo) (a := 0) (ci := 12) (As := [vi (bOr (bShl 1 p) (bShl 1 q)), vi (n : Int), vi 1]) (st := []) (dt_at dtX12_together 27 rfl) (sX12_allSo_1 (n := n) Q0 Gu1 (by first | exact bOr32 _ _ | exact i32x) (by omega)) (show TT 0 = (0, 12) from rfl) rfl wL_X12_416 vX12_allSo rfl npX12_allSo (by decide) (by decide) (Nat.le_of_ble_eq_true rfl) (by decide) (by decide) GK_E (fun v9 hc2 hq => ?_) (fun E h9 hq => by cases hq.1)
  have hqq3 := hq
  obtain ⟨e9q3, Fq3, tq3⟩ := hqq3
  have F2q3 : FQ h hc2 := Fq3
  cases e9q3
  show K mX12_together _ _ 0 0 44 [(0, vr 0), (1, vi p), (2, vi q), (3, vi (n : Int))] [vi (cntN (fun k => decide (bAnd (bitN (fun j => decide ((dysF S f (k + 1)) (1 + (j : Int)) = 0)) (sNp S)) (bOr (bShl 1 p) (bShl 1 q)) = (bOr (bShl 1 p) (bShl 1 q)))) n)] hc2
  refine K_goto (tgt := 48) (dt_at dtX12_together 28 rfl) (by decide) ?_
  exact K_iret (dt_at dtX12_together 30 rfl) rfl rfl (by decide) (by decide) ⟨by rw [cntN_cg n (fun k _ => (tog_eq hB hp hqt : _ = decide (bAnd (bitN (fun j => decide (((dysF S f (k + 1)) (1 + (j : Int))) ≠ 0)) (sNp S)) (bOr (bShl 1 p) (bShl 1 q)) = 0)))], F2q3, tq3⟩
def mX12_awayBoth : MI := (yX12_awayBoth, cX12_awayBoth, 4, (some .int), rmK 8 0)
def tX12_awayBoth : List (Nat × Instr × Nat) := [(0, .aload_n 0, 1), (1, .iconst 0, 1), (2, .putfield 105, 3), (5, .aload_n 0, 1), (6, .iload_n 1, 1), (7, .invokevirtual 375, 3), (10, .ifCond .eq 37, 3), (13, .aload_n 0, 1), (14, .iload_n 2, 1), (15, .invokevirtual 375, 3), (18, .ifCond .eq 29, 3), (21, .aload_n 0, 1), (22, .iload_n 3, 1), (23, .iconst 1, 1), (24, .iconst 2, 1), (25, .invokevirtual 403, 3), (28, .ifCond .eq 19, 3), (31, .aload_n 0, 1), (32, .iconst 1, 1), (33, .iload_n 1, 1), (34, .ishl, 1), (35, .iconst 1, 1), (36, .iload_n 2, 1), (37, .ishl, 1), (38, .ior, 1), (39, .iload_n 3, 1), (40, .iconst 0, 1), (41, .invokevirtual 416, 3), (44, .goto 4, 3), (47, .iconst 0, 1), (48, .ireturn, 1)]
theorem dtX12_awayBoth : tX12_awayBoth.all (fun q => decide (decode cX12_awayBoth q.1 = .ok (q.2.1, q.2.2))) = true := by decide +kernel
theorem npX12_awayBoth : (parseMethodDescriptor (mY mX12_awayBoth).desc).map (fun d => d.parameters.length) = some 3 := by decide +kernel
theorem vX12_awayBoth : mV mX12_awayBoth := ⟨wI_X12_awayBoth, wS_X12_awayBoth, wN_X12, wC_X12_awayBoth, by decide +kernel, by decide +kernel⟩
set_option maxHeartbeats 4000000 in
set_option maxRecDepth 100000 in
theorem sX12_awayBoth_x1 {h : HP} {S : HS} {f : Int → Int} {p q d : Int} (Q0 : MAsk h S f) (hp_ : i32 p) (hq_ : i32 q) (hd_ : i32 d) (kn : ¬ (0 ≤ p ∧ p < sNp S)) : SpecK mX12_awayBoth [vr 0, vi p, vi q, vi d] h (fun o h' => o = .inl (some (vi 0)) ∧ FQ h h' ∧ hI h' 0 0 = 1) := by
  refine Spec_of (by decide +kernel) (Nat.le_of_ble_eq_true rfl) ?_
  have hB := Q0.1.1
  have hNt := hB.1
  have hNp := hB.2.1
  have R := Q0.2.2.2.2
  have hT := R.1
  have hW := hT.1
  refine K_aload_n (dt_at dtX12_awayBoth 0 rfl) rfl rfl ?_
  refine K_iconst (dt_at dtX12_awayBoth 1 rfl) ?_
  refine K_putI (a := 0) (ci := 12) (k := 0) (dt_at dtX12_awayBoth 2 rfl) (show TT 0 = (0, 12) from rfl) rfl (by decide) wF_X12_105 rfl (Or.inl rfl) rfl rfl ?_
  obtain ⟨hu1, eu1⟩ : ∃ z, z = sI h 0 0 0 := ⟨_, rfl⟩
  rw [← eu1]
  obtain ⟨iu1, fu1, au1, ru1⟩ := sI_fx eu1
  have Gu1 := MG_0 Q0 eu1
  refine K_aload_n (dt_at dtX12_awayBoth 3 rfl) rfl rfl ?_
  refine K_iload_n (dt_at dtX12_awayBoth 4 rfl) rfl rfl ?_
  refine K_callV (M' := mX12_isPerson) (a := 0) (ci := 12) (As := [vi p]) (st := []) (dt_at dtX12_awayBoth 5 rfl) (sX12_isPerson_f (MD_np (MG_D0 Gu1)) hNp Gu1.2.2.2 (by assumption) (by omega)) (show TT 0 = (0, 12) from rfl) rfl wL_X12_375 vX12_isPerson rfl npX12_isPerson (by decide) (by decide) (Nat.le_of_ble_eq_true rfl) (by decide) (by decide) GK_E (fun v9 hc2 hq => ?_) (fun E h9 hq => by cases hq.1)
  have hqq3 := hq
  obtain ⟨e9q3, e8q3⟩ := hqq3
  obtain ⟨iq3, fq3, aq3, rq3⟩ := sI_fx e8q3
  have Bq3 : FQ h hc2 := FQ_tr Gu1.2.1 (FQ_I e8q3 rfl Gu1.2.1.2.2.2.2)
  cases e9q3
  show K mX12_awayBoth _ _ 0 0 10 [(0, vr 0), (1, vi p), (2, vi q), (3, vi d)] [vi 0] hc2
  refine K_if_eq (tgt := 47) (dt_at dtX12_awayBoth 6 rfl) (by decide) (by first | assumption | exact ⟨by omega, by omega⟩) (fun c1 => ?_) (fun c1 => absurd c1 (by omega))
  refine K_iconst (dt_at dtX12_awayBoth 29 rfl) ?_
  exact K_iret (dt_at dtX12_awayBoth 30 rfl) rfl rfl (by decide) (by decide) ⟨rfl, Bq3, iq3⟩
set_option maxHeartbeats 4000000 in
set_option maxRecDepth 100000 in
theorem sX12_awayBoth_x2 {h : HP} {S : HS} {f : Int → Int} {p q d : Int} (Q0 : MAsk h S f) (hp_ : i32 p) (hq_ : i32 q) (hd_ : i32 d) (k0 : 0 ≤ p ∧ p < sNp S) (kn : ¬ (0 ≤ q ∧ q < sNp S)) : SpecK mX12_awayBoth [vr 0, vi p, vi q, vi d] h (fun o h' => o = .inl (some (vi 0)) ∧ FQ h h' ∧ hI h' 0 0 = 1) := by
  refine Spec_of (by decide +kernel) (Nat.le_of_ble_eq_true rfl) ?_
  have hB := Q0.1.1
  have hNt := hB.1
  have hNp := hB.2.1
  have R := Q0.2.2.2.2
  have hT := R.1
  have hW := hT.1
  refine K_aload_n (dt_at dtX12_awayBoth 0 rfl) rfl rfl ?_
  refine K_iconst (dt_at dtX12_awayBoth 1 rfl) ?_
  refine K_putI (a := 0) (ci := 12) (k := 0) (dt_at dtX12_awayBoth 2 rfl) (show TT 0 = (0, 12) from rfl) rfl (by decide) wF_X12_105 rfl (Or.inl rfl) rfl rfl ?_
  obtain ⟨hu1, eu1⟩ : ∃ z, z = sI h 0 0 0 := ⟨_, rfl⟩
  rw [← eu1]
  obtain ⟨iu1, fu1, au1, ru1⟩ := sI_fx eu1
  have Gu1 := MG_0 Q0 eu1
  refine K_aload_n (dt_at dtX12_awayBoth 3 rfl) rfl rfl ?_
  refine K_iload_n (dt_at dtX12_awayBoth 4 rfl) rfl rfl ?_
  refine K_callV (M' := mX12_isPerson) (a := 0) (ci := 12) (As := [vi p]) (st := []) (dt_at dtX12_awayBoth 5 rfl) (sX12_isPerson_t (MD_np (MG_D0 Gu1)) hNp Gu1.2.2.2 (by omega)) (show TT 0 = (0, 12) from rfl) rfl wL_X12_375 vX12_isPerson rfl npX12_isPerson (by decide) (by decide) (Nat.le_of_ble_eq_true rfl) (by decide) (by decide) GK_E (fun v9 h9 hq => ?_) (fun E h9 hq => by cases hq.1)
  obtain ⟨e9, e8⟩ := hq
  cases e9
  rw [e8]
  show K mX12_awayBoth _ _ 0 0 10 [(0, vr 0), (1, vi p), (2, vi q), (3, vi d)] [vi 1] hu1
  refine K_if_eq (tgt := 47) (dt_at dtX12_awayBoth 6 rfl) (by decide) (by first | assumption | exact ⟨by omega, by omega⟩) (fun c1 => absurd c1 (by omega)) (fun c1 => ?_)
  refine K_aload_n (dt_at dtX12_awayBoth 7 rfl) rfl rfl ?_
  refine K_iload_n (dt_at dtX12_awayBoth 8 rfl) rfl rfl ?_
  refine K_callV (M' := mX12_isPerson) (a := 0) (ci := 12) (As := [vi q]) (st := []) (dt_at dtX12_awayBoth 9 rfl) (sX12_isPerson_f (MD_np (MG_D0 Gu1)) hNp Gu1.2.2.2 (by assumption) (by omega)) (show TT 0 = (0, 12) from rfl) rfl wL_X12_375 vX12_isPerson rfl npX12_isPerson (by decide) (by decide) (Nat.le_of_ble_eq_true rfl) (by decide) (by decide) GK_E (fun v9 hc2 hq => ?_) (fun E h9 hq => by cases hq.1)
  have hqq3 := hq
  obtain ⟨e9q3, e8q3⟩ := hqq3
  obtain ⟨iq3, fq3, aq3, rq3⟩ := sI_fx e8q3
  have Bq3 : FQ h hc2 := FQ_tr Gu1.2.1 (FQ_I e8q3 rfl Gu1.2.1.2.2.2.2)
  cases e9q3
  show K mX12_awayBoth _ _ 0 0 18 [(0, vr 0), (1, vi p), (2, vi q), (3, vi d)] [vi 0] hc2
  refine K_if_eq (tgt := 47) (dt_at dtX12_awayBoth 10 rfl) (by decide) (by first | assumption | exact ⟨by omega, by omega⟩) (fun c2 => ?_) (fun c2 => absurd c2 (by omega))
  refine K_iconst (dt_at dtX12_awayBoth 29 rfl) ?_
  exact K_iret (dt_at dtX12_awayBoth 30 rfl) rfl rfl (by decide) (by decide) ⟨rfl, Bq3, iq3⟩
set_option maxHeartbeats 4000000 in
set_option maxRecDepth 100000 in
theorem sX12_awayBoth_x3 {h : HP} {S : HS} {f : Int → Int} {p q d : Int} (Q0 : MAsk h S f) (hp_ : i32 p) (hq_ : i32 q) (hd_ : i32 d) (k0 : 0 ≤ p ∧ p < sNp S) (k1 : 0 ≤ q ∧ q < sNp S) (kn : ¬ (1 ≤ d ∧ d ≤ 100)) : SpecK mX12_awayBoth [vr 0, vi p, vi q, vi d] h (fun o h' => o = .inl (some (vi 0)) ∧ FQ h h' ∧ hI h' 0 0 = 2) := by
  refine Spec_of (by decide +kernel) (Nat.le_of_ble_eq_true rfl) ?_
  have hB := Q0.1.1
  have hNt := hB.1
  have hNp := hB.2.1
  have R := Q0.2.2.2.2
  have hT := R.1
  have hW := hT.1
  refine K_aload_n (dt_at dtX12_awayBoth 0 rfl) rfl rfl ?_
  refine K_iconst (dt_at dtX12_awayBoth 1 rfl) ?_
  refine K_putI (a := 0) (ci := 12) (k := 0) (dt_at dtX12_awayBoth 2 rfl) (show TT 0 = (0, 12) from rfl) rfl (by decide) wF_X12_105 rfl (Or.inl rfl) rfl rfl ?_
  obtain ⟨hu1, eu1⟩ : ∃ z, z = sI h 0 0 0 := ⟨_, rfl⟩
  rw [← eu1]
  obtain ⟨iu1, fu1, au1, ru1⟩ := sI_fx eu1
  have Gu1 := MG_0 Q0 eu1
  refine K_aload_n (dt_at dtX12_awayBoth 3 rfl) rfl rfl ?_
  refine K_iload_n (dt_at dtX12_awayBoth 4 rfl) rfl rfl ?_
  refine K_callV (M' := mX12_isPerson) (a := 0) (ci := 12) (As := [vi p]) (st := []) (dt_at dtX12_awayBoth 5 rfl) (sX12_isPerson_t (MD_np (MG_D0 Gu1)) hNp Gu1.2.2.2 (by omega)) (show TT 0 = (0, 12) from rfl) rfl wL_X12_375 vX12_isPerson rfl npX12_isPerson (by decide) (by decide) (Nat.le_of_ble_eq_true rfl) (by decide) (by decide) GK_E (fun v9 h9 hq => ?_) (fun E h9 hq => by cases hq.1)
  obtain ⟨e9, e8⟩ := hq
  cases e9
  rw [e8]
  show K mX12_awayBoth _ _ 0 0 10 [(0, vr 0), (1, vi p), (2, vi q), (3, vi d)] [vi 1] hu1
  refine K_if_eq (tgt := 47) (dt_at dtX12_awayBoth 6 rfl) (by decide) (by first | assumption | exact ⟨by omega, by omega⟩) (fun c1 => absurd c1 (by omega)) (fun c1 => ?_)
  refine K_aload_n (dt_at dtX12_awayBoth 7 rfl) rfl rfl ?_
  refine K_iload_n (dt_at dtX12_awayBoth 8 rfl) rfl rfl ?_
  refine K_callV (M' := mX12_isPerson) (a := 0) (ci := 12) (As := [vi q]) (st := []) (dt_at dtX12_awayBoth 9 rfl) (sX12_isPerson_t (MD_np (MG_D0 Gu1)) hNp Gu1.2.2.2 (by omega)) (show TT 0 = (0, 12) from rfl) rfl wL_X12_375 vX12_isPerson rfl npX12_isPerson (by decide) (by decide) (Nat.le_of_ble_eq_true rfl) (by decide) (by decide) GK_E (fun v9 h9 hq => ?_) (fun E h9 hq => by cases hq.1)
  obtain ⟨e9, e8⟩ := hq
  cases e9
  rw [e8]
  show K mX12_awayBoth _ _ 0 0 18 [(0, vr 0), (1, vi p), (2, vi q), (3, vi d)] [vi 1] hu1
  refine K_if_eq (tgt := 47) (dt_at dtX12_awayBoth 10 rfl) (by decide) (by first | assumption | exact ⟨by omega, by omega⟩) (fun c2 => absurd c2 (by omega)) (fun c2 => ?_)
  refine K_aload_n (dt_at dtX12_awayBoth 11 rfl) rfl rfl ?_
  refine K_iload_n (dt_at dtX12_awayBoth 12 rfl) rfl rfl ?_
  refine K_iconst (dt_at dtX12_awayBoth 13 rfl) ?_
  refine K_iconst (dt_at dtX12_awayBoth 14 rfl) ?_
  refine K_callV (M' := mX12_isSoon) (a := 0) (ci := 12) (As := [vi d, vi 1, vi 2]) (st := []) (dt_at dtX12_awayBoth 15 rfl) (sX12_isSoon_f Gu1.2.2.2 (by decide) (by assumption) (by omega) (by decide)) (show TT 0 = (0, 12) from rfl) rfl wL_X12_403 vX12_isSoon rfl npX12_isSoon (by decide) (by decide) (Nat.le_of_ble_eq_true rfl) (by decide) (by decide) GK_E (fun v9 hc2 hq => ?_) (fun E h9 hq => by cases hq.1)
  have hqq3 := hq
  obtain ⟨e9q3, e8q3⟩ := hqq3
  obtain ⟨iq3, fq3, aq3, rq3⟩ := sI_fx e8q3
  have Bq3 : FQ h hc2 := FQ_tr Gu1.2.1 (FQ_I e8q3 rfl Gu1.2.1.2.2.2.2)
  cases e9q3
  show K mX12_awayBoth _ _ 0 0 28 [(0, vr 0), (1, vi p), (2, vi q), (3, vi d)] [vi 0] hc2
  refine K_if_eq (tgt := 47) (dt_at dtX12_awayBoth 16 rfl) (by decide) (by first | assumption | exact ⟨by omega, by omega⟩) (fun c3 => ?_) (fun c3 => absurd c3 (by omega))
  refine K_iconst (dt_at dtX12_awayBoth 29 rfl) ?_
  exact K_iret (dt_at dtX12_awayBoth 30 rfl) rfl rfl (by decide) (by decide) ⟨rfl, Bq3, iq3⟩
set_option maxHeartbeats 4000000 in
set_option maxRecDepth 100000 in
theorem sX12_awayBoth {h : HP} {S : HS} {f : Int → Int} {p q : Int} {n : Nat} (Q0 : MAsk h S f) (hp : 0 ≤ p ∧ p < sNp S) (hqt : 0 ≤ q ∧ q < sNp S) (hn : 1 ≤ n ∧ n ≤ 100) : SpecK mX12_awayBoth [vr 0, vi p, vi q, vi (n : Int)] h (fun o h' => o = .inl (some (vi (cntN (fun k => decide (bAnd (bAnd (bXor (bitN (fun j => decide (((dysF S f (k + 1)) (1 + (j : Int))) ≠ 0)) (sNp S)) (-1)) (bShl 1 (sNp S : Int) - 1)) (bOr (bShl 1 p) (bShl 1 q)) = 0)) n))) ∧ FQ h h' ∧ hI h' 0 0 = 0) := by
  refine Spec_of (by decide +kernel) (Nat.le_of_ble_eq_true rfl) ?_
  have hB := Q0.1.1
  have hNt := hB.1
  have hNp := hB.2.1
  have R := Q0.2.2.2.2
  have hT := R.1
  have hW := hT.1
  refine K_aload_n (dt_at dtX12_awayBoth 0 rfl) rfl rfl ?_
  refine K_iconst (dt_at dtX12_awayBoth 1 rfl) ?_
  refine K_putI (a := 0) (ci := 12) (k := 0) (dt_at dtX12_awayBoth 2 rfl) (show TT 0 = (0, 12) from rfl) rfl (by decide) wF_X12_105 rfl (Or.inl rfl) rfl rfl ?_
  obtain ⟨hu1, eu1⟩ : ∃ z, z = sI h 0 0 0 := ⟨_, rfl⟩
  rw [← eu1]
  obtain ⟨iu1, fu1, au1, ru1⟩ := sI_fx eu1
  have Gu1 := MG_0 Q0 eu1
  refine K_aload_n (dt_at dtX12_awayBoth 3 rfl) rfl rfl ?_
  refine K_iload_n (dt_at dtX12_awayBoth 4 rfl) rfl rfl ?_
  refine K_callV (M' := mX12_isPerson) (a := 0) (ci := 12) (As := [vi p]) (st := []) (dt_at dtX12_awayBoth 5 rfl) (sX12_isPerson_t (MD_np (MG_D0 Gu1)) hNp Gu1.2.2.2 (by omega)) (show TT 0 = (0, 12) from rfl) rfl wL_X12_375 vX12_isPerson rfl npX12_isPerson (by decide) (by decide) (Nat.le_of_ble_eq_true rfl) (by decide) (by decide) GK_E (fun v9 h9 hq => ?_) (fun E h9 hq => by cases hq.1)
  obtain ⟨e9, e8⟩ := hq
  cases e9
  rw [e8]
  show K mX12_awayBoth _ _ 0 0 10 [(0, vr 0), (1, vi p), (2, vi q), (3, vi (n : Int))] [vi 1] hu1
  refine K_if_eq (tgt := 47) (dt_at dtX12_awayBoth 6 rfl) (by decide) (by first | assumption | exact ⟨by omega, by omega⟩) (fun c1 => absurd c1 (by omega)) (fun c1 => ?_)
  refine K_aload_n (dt_at dtX12_awayBoth 7 rfl) rfl rfl ?_
  refine K_iload_n (dt_at dtX12_awayBoth 8 rfl) rfl rfl ?_
  refine K_callV (M' := mX12_isPerson) (a := 0) (ci := 12) (As := [vi q]) (st := []) (dt_at dtX12_awayBoth 9 rfl) (sX12_isPerson_t (MD_np (MG_D0 Gu1)) hNp Gu1.2.2.2 (by omega)) (show TT 0 = (0, 12) from rfl) rfl wL_X12_375 vX12_isPerson rfl npX12_isPerson (by decide) (by decide) (Nat.le_of_ble_eq_true rfl) (by decide) (by decide) GK_E (fun v9 h9 hq => ?_) (fun E h9 hq => by cases hq.1)
  obtain ⟨e9, e8⟩ := hq
  cases e9
  rw [e8]
  show K mX12_awayBoth _ _ 0 0 18 [(0, vr 0), (1, vi p), (2, vi q), (3, vi (n : Int))] [vi 1] hu1
  refine K_if_eq (tgt := 47) (dt_at dtX12_awayBoth 10 rfl) (by decide) (by first | assumption | exact ⟨by omega, by omega⟩) (fun c2 => absurd c2 (by omega)) (fun c2 => ?_)
  refine K_aload_n (dt_at dtX12_awayBoth 11 rfl) rfl rfl ?_
  refine K_iload_n (dt_at dtX12_awayBoth 12 rfl) rfl rfl ?_
  refine K_iconst (dt_at dtX12_awayBoth 13 rfl) ?_
  refine K_iconst (dt_at dtX12_awayBoth 14 rfl) ?_
  refine K_callV (M' := mX12_isSoon) (a := 0) (ci := 12) (As := [vi (n : Int), vi 1, vi 2]) (st := []) (dt_at dtX12_awayBoth 15 rfl) (sX12_isSoon_t Gu1.2.2.2 (by omega) (by omega)) (show TT 0 = (0, 12) from rfl) rfl wL_X12_403 vX12_isSoon rfl npX12_isSoon (by decide) (by decide) (Nat.le_of_ble_eq_true rfl) (by decide) (by decide) GK_E (fun v9 h9 hq => ?_) (fun E h9 hq => by cases hq.1)
  obtain ⟨e9, e8⟩ := hq
  cases e9
  rw [e8]
  show K mX12_awayBoth _ _ 0 0 28 [(0, vr 0), (1, vi p), (2, vi q), (3, vi (n : Int))] [vi 1] hu1
  refine K_if_eq (tgt := 47) (dt_at dtX12_awayBoth 16 rfl) (by decide) (by first | assumption | exact ⟨by omega, by omega⟩) (fun c3 => absurd c3 (by omega)) (fun c3 => ?_)
  refine K_aload_n (dt_at dtX12_awayBoth 17 rfl) rfl rfl ?_
  refine K_iconst (dt_at dtX12_awayBoth 18 rfl) ?_
  refine K_iload_n (dt_at dtX12_awayBoth 19 rfl) rfl rfl ?_
  refine K_ishl (dt_at dtX12_awayBoth 20 rfl) ?_
  refine K_iconst (dt_at dtX12_awayBoth 21 rfl) ?_
  refine K_iload_n (dt_at dtX12_awayBoth 22 rfl) rfl rfl ?_
  refine K_ishl (dt_at dtX12_awayBoth 23 rfl) ?_
  refine K_ior (dt_at dtX12_awayBoth 24 rfl) ?_
  refine K_iload_n (dt_at dtX12_awayBoth 25 rfl) rfl rfl ?_
  refine K_iconst (dt_at dtX12_awayBoth 26 rfl) ?_
  refine K_callV (M' := mX12_allSo) (a := 0) (ci := 12) (As := [vi (bOr (bShl 1 p) (bShl 1 q)), vi (n : Int), vi 0]) (st := []) (dt_at dtX12_awayBoth 27 rfl) (sX12_allSo_0 (n := n) Q0 Gu1 (by first | exact bOr32 _ _ | exact i32x) (by omega)) (show TT 0 = (0, 12) from rfl) rfl wL_X12_416 vX12_allSo rfl npX12_allSo (by decide) (by decide) (Nat.le_of_ble_eq_true rfl) (by decide) (by decide) GK_E (fun v9 hc2 hq => ?_) (fun E h9 hq => by cases hq.1)
  have hqq3 := hq
  obtain ⟨e9q3, Fq3, tq3⟩ := hqq3
  have F2q3 : FQ h hc2 := Fq3
  cases e9q3
  show K mX12_awayBoth _ _ 0 0 44 [(0, vr 0), (1, vi p), (2, vi q), (3, vi (n : Int))] [vi (cntN (fun k => decide (bAnd (bXor (bitN (fun j => decide ((dysF S f (k + 1)) (1 + (j : Int)) = 0)) (sNp S)) (-1)) (bOr (bShl 1 p) (bShl 1 q)) = (bOr (bShl 1 p) (bShl 1 q)))) n)] hc2
  refine K_goto (tgt := 48) (dt_at dtX12_awayBoth 28 rfl) (by decide) ?_
  exact K_iret (dt_at dtX12_awayBoth 30 rfl) rfl rfl (by decide) (by decide) ⟨by rw [cntN_cg n (fun k _ => (awb_eq hB hp hqt : _ = decide (bAnd (bAnd (bXor (bitN (fun j => decide (((dysF S f (k + 1)) (1 + (j : Int))) ≠ 0)) (sNp S)) (-1)) (bShl 1 (sNp S : Int) - 1)) (bOr (bShl 1 p) (bShl 1 q)) = 0)))], F2q3, tq3⟩
def mX12_alone : MI := (yX12_alone, cX12_alone, 2, (some .int), rmK 8 0)
def tX12_alone : List (Nat × Instr × Nat) := [(0, .aload_n 0, 1), (1, .iconst 0, 1), (2, .putfield 105, 3), (5, .aload_n 0, 1), (6, .iload_n 1, 1), (7, .iconst 1, 1), (8, .iconst 1, 1), (9, .invokevirtual 403, 3), (12, .ifCond .eq 20, 3), (15, .aload_n 0, 1), (16, .iconst 1, 1), (17, .aload_n 0, 1), (18, .getfield 270, 3), (21, .ishl, 1), (22, .iconst 1, 1), (23, .isub, 1), (24, .iload_n 1, 1), (25, .iconst 0, 1), (26, .invokevirtual 416, 3), (29, .goto 4, 3), (32, .iconst 0, 1), (33, .ireturn, 1)]
theorem dtX12_alone : tX12_alone.all (fun q => decide (decode cX12_alone q.1 = .ok (q.2.1, q.2.2))) = true := by decide +kernel
theorem npX12_alone : (parseMethodDescriptor (mY mX12_alone).desc).map (fun d => d.parameters.length) = some 1 := by decide +kernel
theorem vX12_alone : mV mX12_alone := ⟨wI_X12_alone, wS_X12_alone, wN_X12, wC_X12_alone, by decide +kernel, by decide +kernel⟩
set_option maxHeartbeats 4000000 in
set_option maxRecDepth 100000 in
theorem sX12_alone_x1 {h : HP} {S : HS} {f : Int → Int} {d : Int} (Q0 : MAsk h S f) (hd_ : i32 d) (kn : ¬ (1 ≤ d ∧ d ≤ 100)) : SpecK mX12_alone [vr 0, vi d] h (fun o h' => o = .inl (some (vi 0)) ∧ FQ h h' ∧ hI h' 0 0 = 1) := by
  refine Spec_of (by decide +kernel) (Nat.le_of_ble_eq_true rfl) ?_
  have hB := Q0.1.1
  have hNt := hB.1
  have hNp := hB.2.1
  have R := Q0.2.2.2.2
  have hT := R.1
  have hW := hT.1
  refine K_aload_n (dt_at dtX12_alone 0 rfl) rfl rfl ?_
  refine K_iconst (dt_at dtX12_alone 1 rfl) ?_
  refine K_putI (a := 0) (ci := 12) (k := 0) (dt_at dtX12_alone 2 rfl) (show TT 0 = (0, 12) from rfl) rfl (by decide) wF_X12_105 rfl (Or.inl rfl) rfl rfl ?_
  obtain ⟨hu1, eu1⟩ : ∃ z, z = sI h 0 0 0 := ⟨_, rfl⟩
  rw [← eu1]
  obtain ⟨iu1, fu1, au1, ru1⟩ := sI_fx eu1
  have Gu1 := MG_0 Q0 eu1
  refine K_aload_n (dt_at dtX12_alone 3 rfl) rfl rfl ?_
  refine K_iload_n (dt_at dtX12_alone 4 rfl) rfl rfl ?_
  refine K_iconst (dt_at dtX12_alone 5 rfl) ?_
  refine K_iconst (dt_at dtX12_alone 6 rfl) ?_
  refine K_callV (M' := mX12_isSoon) (a := 0) (ci := 12) (As := [vi d, vi 1, vi 1]) (st := []) (dt_at dtX12_alone 7 rfl) (sX12_isSoon_f Gu1.2.2.2 (by decide) (by assumption) (by omega) (by decide)) (show TT 0 = (0, 12) from rfl) rfl wL_X12_403 vX12_isSoon rfl npX12_isSoon (by decide) (by decide) (Nat.le_of_ble_eq_true rfl) (by decide) (by decide) GK_E (fun v9 hc2 hq => ?_) (fun E h9 hq => by cases hq.1)
  have hqq3 := hq
  obtain ⟨e9q3, e8q3⟩ := hqq3
  obtain ⟨iq3, fq3, aq3, rq3⟩ := sI_fx e8q3
  have Bq3 : FQ h hc2 := FQ_tr Gu1.2.1 (FQ_I e8q3 rfl Gu1.2.1.2.2.2.2)
  cases e9q3
  show K mX12_alone _ _ 0 0 12 [(0, vr 0), (1, vi d)] [vi 0] hc2
  refine K_if_eq (tgt := 32) (dt_at dtX12_alone 8 rfl) (by decide) (by first | assumption | exact ⟨by omega, by omega⟩) (fun c1 => ?_) (fun c1 => absurd c1 (by omega))
  refine K_iconst (dt_at dtX12_alone 20 rfl) ?_
  exact K_iret (dt_at dtX12_alone 21 rfl) rfl rfl (by decide) (by decide) ⟨rfl, Bq3, iq3⟩
set_option maxHeartbeats 4000000 in
set_option maxRecDepth 100000 in
theorem sX12_alone {h : HP} {S : HS} {f : Int → Int} {n : Nat} (Q0 : MAsk h S f) (hn : 1 ≤ n ∧ n ≤ 100) : SpecK mX12_alone [vr 0, vi (n : Int)] h (fun o h' => o = .inl (some (vi (cntN (fun k => decide (bAnd (bAnd (bXor (bitN (fun j => decide (((dysF S f (k + 1)) (1 + (j : Int))) ≠ 0)) (sNp S)) (-1)) (bShl 1 (sNp S : Int) - 1)) (bShl 1 (sNp S : Int) - 1) = 0)) n))) ∧ FQ h h' ∧ hI h' 0 0 = 0) := by
  refine Spec_of (by decide +kernel) (Nat.le_of_ble_eq_true rfl) ?_
  have hB := Q0.1.1
  have hNt := hB.1
  have hNp := hB.2.1
  have R := Q0.2.2.2.2
  have hT := R.1
  have hW := hT.1
  have i32x : i32 (bShl 1 (sNp S : Int) - 1) := by rw [shl_b hNp]; exact bitN32 _ _
  refine K_aload_n (dt_at dtX12_alone 0 rfl) rfl rfl ?_
  refine K_iconst (dt_at dtX12_alone 1 rfl) ?_
  refine K_putI (a := 0) (ci := 12) (k := 0) (dt_at dtX12_alone 2 rfl) (show TT 0 = (0, 12) from rfl) rfl (by decide) wF_X12_105 rfl (Or.inl rfl) rfl rfl ?_
  obtain ⟨hu1, eu1⟩ : ∃ z, z = sI h 0 0 0 := ⟨_, rfl⟩
  rw [← eu1]
  obtain ⟨iu1, fu1, au1, ru1⟩ := sI_fx eu1
  have Gu1 := MG_0 Q0 eu1
  refine K_aload_n (dt_at dtX12_alone 3 rfl) rfl rfl ?_
  refine K_iload_n (dt_at dtX12_alone 4 rfl) rfl rfl ?_
  refine K_iconst (dt_at dtX12_alone 5 rfl) ?_
  refine K_iconst (dt_at dtX12_alone 6 rfl) ?_
  refine K_callV (M' := mX12_isSoon) (a := 0) (ci := 12) (As := [vi (n : Int), vi 1, vi 1]) (st := []) (dt_at dtX12_alone 7 rfl) (sX12_isSoon_t Gu1.2.2.2 (by omega) (by omega)) (show TT 0 = (0, 12) from rfl) rfl wL_X12_403 vX12_isSoon rfl npX12_isSoon (by decide) (by decide) (Nat.le_of_ble_eq_true rfl) (by decide) (by decide) GK_E (fun v9 h9 hq => ?_) (fun E h9 hq => by cases hq.1)
  obtain ⟨e9, e8⟩ := hq
  cases e9
  rw [e8]
  show K mX12_alone _ _ 0 0 12 [(0, vr 0), (1, vi (n : Int))] [vi 1] hu1
  refine K_if_eq (tgt := 32) (dt_at dtX12_alone 8 rfl) (by decide) (by first | assumption | exact ⟨by omega, by omega⟩) (fun c1 => absurd c1 (by omega)) (fun c1 => ?_)
  refine K_aload_n (dt_at dtX12_alone 9 rfl) rfl rfl ?_
  refine K_iconst (dt_at dtX12_alone 10 rfl) ?_
  refine K_aload_n (dt_at dtX12_alone 11 rfl) rfl rfl ?_
  refine K_get (a := 0) (ci := 12) (k := 2) (v := vi (sNp S : Int)) (dt_at dtX12_alone 12 rfl) (show TT 0 = (0, 12) from rfl) rfl (by decide) wF_X12_270 (by show vi (hI hu1 0 2) = vi (sNp S : Int); rw [(MD_np (MG_D0 Gu1))]) ?_
  refine K_ishl (dt_at dtX12_alone 13 rfl) ?_
  refine K_iconst (dt_at dtX12_alone 14 rfl) ?_
  refine K_isub (dt_at dtX12_alone 15 rfl) ?_
  refine K_iload_n (dt_at dtX12_alone 16 rfl) rfl rfl ?_
  refine K_iconst (dt_at dtX12_alone 17 rfl) ?_
  refine K_callV (M' := mX12_allSo) (a := 0) (ci := 12) (As := [vi ((bShl 1 (sNp S : Int)) - 1), vi (n : Int), vi 0]) (st := []) (dt_at dtX12_alone 18 rfl) (sX12_allSo_0 (n := n) Q0 Gu1 (by first | exact bOr32 _ _ | exact i32x) (by omega)) (show TT 0 = (0, 12) from rfl) rfl wL_X12_416 vX12_allSo rfl npX12_allSo (by decide) (by decide) (Nat.le_of_ble_eq_true rfl) (by decide) (by decide) GK_E (fun v9 hc2 hq => ?_) (fun E h9 hq => by cases hq.1)
  have hqq3 := hq
  obtain ⟨e9q3, Fq3, tq3⟩ := hqq3
  have F2q3 : FQ h hc2 := Fq3
  cases e9q3
  show K mX12_alone _ _ 0 0 29 [(0, vr 0), (1, vi (n : Int))] [vi (cntN (fun k => decide (bAnd (bXor (bitN (fun j => decide ((dysF S f (k + 1)) (1 + (j : Int)) = 0)) (sNp S)) (-1)) ((bShl 1 (sNp S : Int)) - 1) = ((bShl 1 (sNp S : Int)) - 1))) n)] hc2
  refine K_goto (tgt := 33) (dt_at dtX12_alone 19 rfl) (by decide) ?_
  exact K_iret (dt_at dtX12_alone 21 rfl) rfl rfl (by decide) (by decide) ⟨by rw [cntN_cg n (fun k _ => (alo_eq hB : _ = decide (bAnd (bAnd (bXor (bitN (fun j => decide (((dysF S f (k + 1)) (1 + (j : Int))) ≠ 0)) (sNp S)) (-1)) (bShl 1 (sNp S : Int) - 1)) (bShl 1 (sNp S : Int) - 1) = 0)))], F2q3, tq3⟩
def mX12_least : MI := (yX12_least, cX12_least, 5, (some .int), rmK 7 0)
def tX12_least : List (Nat × Instr × Nat) := [(0, .aload_n 0, 1), (1, .iconst 0, 1), (2, .putfield 105, 3), (5, .aload_n 0, 1), (6, .iload_n 1, 1), (7, .invokevirtual 368, 3), (10, .ifCond .eq 13, 3), (13, .aload_n 0, 1), (14, .iload_n 2, 1), (15, .iconst 0, 1), (16, .iconst 2, 1), (17, .invokevirtual 403, 3), (20, .ifCond .ne 5, 3), (23, .iconst 0, 1), (24, .ireturn, 1), (25, .aload_n 0, 1), (26, .getfield 72, 3), (29, .bipush 57, 2), (31, .iload_n 1, 1), (32, .iadd, 1), (33, .iaload, 1), (34, .istore_n 3, 1), (35, .aload_n 0, 1), (36, .invokevirtual 397, 3), (39, .iconst 0, 1), (40, .istore 4, 2), (42, .iload 4, 2), (44, .iload_n 2, 1), (45, .if_icmp .ge 30, 3), (48, .aload_n 0, 1), (49, .bipush 77, 2), (51, .invokevirtual 334, 3), (54, .iload_n 3, 1), (55, .aload_n 0, 1), (56, .getfield 72, 3), (59, .sipush 134, 3), (62, .iload_n 1, 1), (63, .iadd, 1), (64, .iaload, 1), (65, .invokestatic 307, 3), (68, .istore_n 3, 1), (69, .iinc 4 1, 3), (72, .goto (-30), 3), (75, .iload_n 3, 1), (76, .ireturn, 1)]
theorem dtX12_least : tX12_least.all (fun q => decide (decode cX12_least q.1 = .ok (q.2.1, q.2.2))) = true := by decide +kernel
theorem npX12_least : (parseMethodDescriptor (mY mX12_least).desc).map (fun d => d.parameters.length) = some 2 := by decide +kernel
theorem vX12_least : mV mX12_least := ⟨wI_X12_least, wS_X12_least, wN_X12, wC_X12_least, by decide +kernel, by decide +kernel⟩
set_option maxHeartbeats 4000000 in
set_option maxRecDepth 100000 in
theorem sX12_least_x1 {h : HP} {S : HS} {f : Int → Int} {q d : Int} (Q0 : MAsk h S f) (hq_ : i32 q) (hd_ : i32 d) (kn : ¬ (0 ≤ q ∧ q < sNt S)) : SpecK mX12_least [vr 0, vi q, vi d] h (fun o h' => o = .inl (some (vi 0)) ∧ FQ h h' ∧ hI h' 0 0 = 1) := by
  refine Spec_of (by decide +kernel) (Nat.le_of_ble_eq_true rfl) ?_
  have hB := Q0.1.1
  have hNt := hB.1
  have hNp := hB.2.1
  have R := Q0.2.2.2.2
  have hT := R.1
  have hW := hT.1
  refine K_aload_n (dt_at dtX12_least 0 rfl) rfl rfl ?_
  refine K_iconst (dt_at dtX12_least 1 rfl) ?_
  refine K_putI (a := 0) (ci := 12) (k := 0) (dt_at dtX12_least 2 rfl) (show TT 0 = (0, 12) from rfl) rfl (by decide) wF_X12_105 rfl (Or.inl rfl) rfl rfl ?_
  obtain ⟨hu1, eu1⟩ : ∃ z, z = sI h 0 0 0 := ⟨_, rfl⟩
  rw [← eu1]
  obtain ⟨iu1, fu1, au1, ru1⟩ := sI_fx eu1
  have Gu1 := MG_0 Q0 eu1
  refine K_aload_n (dt_at dtX12_least 3 rfl) rfl rfl ?_
  refine K_iload_n (dt_at dtX12_least 4 rfl) rfl rfl ?_
  refine K_callV (M' := mX12_isThing) (a := 0) (ci := 12) (As := [vi q]) (st := []) (dt_at dtX12_least 5 rfl) (sX12_isThing_f (MD_nt (MG_D0 Gu1)) hNt Gu1.2.2.2 (by assumption) (by omega)) (show TT 0 = (0, 12) from rfl) rfl wL_X12_368 vX12_isThing rfl npX12_isThing (by decide) (by decide) (Nat.le_of_ble_eq_true rfl) (by decide) (by decide) GK_E (fun v9 hc2 hq => ?_) (fun E h9 hq => by cases hq.1)
  have hqq3 := hq
  obtain ⟨e9q3, e8q3⟩ := hqq3
  obtain ⟨iq3, fq3, aq3, rq3⟩ := sI_fx e8q3
  have Bq3 : FQ h hc2 := FQ_tr Gu1.2.1 (FQ_I e8q3 rfl Gu1.2.1.2.2.2.2)
  cases e9q3
  show K mX12_least _ _ 0 0 10 [(0, vr 0), (1, vi q), (2, vi d)] [vi 0] hc2
  refine K_if_eq (tgt := 23) (dt_at dtX12_least 6 rfl) (by decide) (by first | assumption | exact ⟨by omega, by omega⟩) (fun c1 => ?_) (fun c1 => absurd c1 (by omega))
  refine K_iconst (dt_at dtX12_least 13 rfl) ?_
  exact K_iret (dt_at dtX12_least 14 rfl) rfl rfl (by decide) (by decide) ⟨rfl, Bq3, iq3⟩
set_option maxHeartbeats 4000000 in
set_option maxRecDepth 100000 in
theorem sX12_least_x2 {h : HP} {S : HS} {f : Int → Int} {q d : Int} (Q0 : MAsk h S f) (hq_ : i32 q) (hd_ : i32 d) (k0 : 0 ≤ q ∧ q < sNt S) (kn : ¬ (0 ≤ d ∧ d ≤ 100)) : SpecK mX12_least [vr 0, vi q, vi d] h (fun o h' => o = .inl (some (vi 0)) ∧ FQ h h' ∧ hI h' 0 0 = 2) := by
  refine Spec_of (by decide +kernel) (Nat.le_of_ble_eq_true rfl) ?_
  have hB := Q0.1.1
  have hNt := hB.1
  have hNp := hB.2.1
  have R := Q0.2.2.2.2
  have hT := R.1
  have hW := hT.1
  refine K_aload_n (dt_at dtX12_least 0 rfl) rfl rfl ?_
  refine K_iconst (dt_at dtX12_least 1 rfl) ?_
  refine K_putI (a := 0) (ci := 12) (k := 0) (dt_at dtX12_least 2 rfl) (show TT 0 = (0, 12) from rfl) rfl (by decide) wF_X12_105 rfl (Or.inl rfl) rfl rfl ?_
  obtain ⟨hu1, eu1⟩ : ∃ z, z = sI h 0 0 0 := ⟨_, rfl⟩
  rw [← eu1]
  obtain ⟨iu1, fu1, au1, ru1⟩ := sI_fx eu1
  have Gu1 := MG_0 Q0 eu1
  refine K_aload_n (dt_at dtX12_least 3 rfl) rfl rfl ?_
  refine K_iload_n (dt_at dtX12_least 4 rfl) rfl rfl ?_
  refine K_callV (M' := mX12_isThing) (a := 0) (ci := 12) (As := [vi q]) (st := []) (dt_at dtX12_least 5 rfl) (sX12_isThing_t (MD_nt (MG_D0 Gu1)) hNt Gu1.2.2.2 (by omega)) (show TT 0 = (0, 12) from rfl) rfl wL_X12_368 vX12_isThing rfl npX12_isThing (by decide) (by decide) (Nat.le_of_ble_eq_true rfl) (by decide) (by decide) GK_E (fun v9 h9 hq => ?_) (fun E h9 hq => by cases hq.1)
  obtain ⟨e9, e8⟩ := hq
  cases e9
  rw [e8]
  show K mX12_least _ _ 0 0 10 [(0, vr 0), (1, vi q), (2, vi d)] [vi 1] hu1
  refine K_if_eq (tgt := 23) (dt_at dtX12_least 6 rfl) (by decide) (by first | assumption | exact ⟨by omega, by omega⟩) (fun c1 => absurd c1 (by omega)) (fun c1 => ?_)
  refine K_aload_n (dt_at dtX12_least 7 rfl) rfl rfl ?_
  refine K_iload_n (dt_at dtX12_least 8 rfl) rfl rfl ?_
  refine K_iconst (dt_at dtX12_least 9 rfl) ?_
  refine K_iconst (dt_at dtX12_least 10 rfl) ?_
  refine K_callV (M' := mX12_isSoon) (a := 0) (ci := 12) (As := [vi d, vi 0, vi 2]) (st := []) (dt_at dtX12_least 11 rfl) (sX12_isSoon_f Gu1.2.2.2 (by decide) (by assumption) (by omega) (by decide)) (show TT 0 = (0, 12) from rfl) rfl wL_X12_403 vX12_isSoon rfl npX12_isSoon (by decide) (by decide) (Nat.le_of_ble_eq_true rfl) (by decide) (by decide) GK_E (fun v9 hc2 hq => ?_) (fun E h9 hq => by cases hq.1)
  have hqq3 := hq
  obtain ⟨e9q3, e8q3⟩ := hqq3
  obtain ⟨iq3, fq3, aq3, rq3⟩ := sI_fx e8q3
  have Bq3 : FQ h hc2 := FQ_tr Gu1.2.1 (FQ_I e8q3 rfl Gu1.2.1.2.2.2.2)
  cases e9q3
  show K mX12_least _ _ 0 0 20 [(0, vr 0), (1, vi q), (2, vi d)] [vi 0] hc2
  refine K_if_ne (tgt := 25) (dt_at dtX12_least 12 rfl) (by decide) (by first | assumption | exact ⟨by omega, by omega⟩) (fun c2 => absurd c2 (by omega)) (fun c2 => ?_)
  refine K_iconst (dt_at dtX12_least 13 rfl) ?_
  exact K_iret (dt_at dtX12_least 14 rfl) rfl rfl (by decide) (by decide) ⟨rfl, Bq3, iq3⟩
set_option maxHeartbeats 4000000 in
set_option maxRecDepth 100000 in
theorem lp_X12_least {h : HP} {S : HS} {f : Int → Int} {q : Int} {n : Nat} (Q0 : MAsk h S f) (hqt : 0 ≤ q ∧ q < sNt S) (hn : n ≤ 100) : ∀ (dd k : Nat) (hh : HP), k + dd = n → MG h hh S f (dysF S f k) → K mX12_least GK (ZK (fun o h' => o = .inl (some (vi (itN (fun k v => min v (dysF S f (k + 1) (29 + q))) (f (29 + q)) n))) ∧ FQ h h' ∧ hI h' 0 0 = 0) 0 0) 0 0 42 [(4, vi (k : Int)), (3, vi (itN (fun k v => min v (dysF S f (k + 1) (29 + q))) (f (29 + q)) k)), (0, vr 0), (1, vi q), (2, vi (n : Int))] [] hh := by
  intro dd
  induction dd with
  | zero =>
    intro k hh hk G
    have hB := Q0.1.1
    have hNt := hB.1
    have hNp := hB.2.1
    have R := Q0.2.2.2.2
    have hT := R.1
    have hW := hT.1
    obtain ⟨a1, a2, a3, a4, a5⟩ := dys_R hB R (n := k) (by omega)
    have ek : k = n := by omega
    subst ek
    refine K_iload (dt_at dtX12_least 26 rfl) rfl ?_
    refine K_iload_n (dt_at dtX12_least 27 rfl) rfl rfl ?_
    refine K_icmp_ge (tgt := 75) (dt_at dtX12_least 28 rfl) (by decide) (by first | assumption | exact ⟨by omega, by omega⟩) (by first | assumption | exact ⟨by omega, by omega⟩) (fun c1 => ?_) (fun c1 => absurd c1 (by omega))
    refine K_iload_n (dt_at dtX12_least 43 rfl) rfl rfl ?_
    exact K_iret (dt_at dtX12_least 44 rfl) rfl rfl (by decide) (by decide) ⟨rfl, G.2.1, G.2.2.2⟩
  | succ dd ih =>
    intro k hh hk G
    have hB := Q0.1.1
    have hNt := hB.1
    have hNp := hB.2.1
    have R := Q0.2.2.2.2
    have hT := R.1
    have hW := hT.1
    obtain ⟨a1, a2, a3, a4, a5⟩ := dys_R hB R (n := k) (by omega)
    obtain ⟨n1, n2, n3, n4, n5⟩ := dys_R hB R (n := k + 1) (by omega)
    have lb := lsF_b (n := n) (q := q) hB hT R.2.1 (by have := R.2.2.1; omega) (by omega) k (by omega)
    have ws := n1.1.1 (29 + q) (by omega) (by omega)
    refine K_iload (dt_at dtX12_least 26 rfl) rfl ?_
    refine K_iload_n (dt_at dtX12_least 27 rfl) rfl rfl ?_
    refine K_icmp_ge (tgt := 75) (dt_at dtX12_least 28 rfl) (by decide) (by first | assumption | exact ⟨by omega, by omega⟩) (by first | assumption | exact ⟨by omega, by omega⟩) (fun c1 => absurd c1 (by omega)) (fun c1 => ?_)
    refine K_aload_n (dt_at dtX12_least 29 rfl) rfl rfl ?_
    refine K_bipush (dt_at dtX12_least 30 rfl) (by decide) ?_
    refine K_callV (M' := mX12_dayGoes) (a := 0) (ci := 12) (As := [vi 77]) (st := []) (dt_at dtX12_least 31 rfl) (sX12_dayGoes (MG_D7 G) a1 a2 a3 a4 (MG_49 G)) (show TT 0 = (0, 12) from rfl) rfl wL_X12_334 vX12_dayGoes rfl npX12_dayGoes (by decide) (by decide) (Nat.le_of_ble_eq_true rfl) (by decide) (by decide) GK_E (fun v9 hc1 hq => ?_) (fun E h9 hq => by cases hq.1)
    have hqq2 := hq
    obtain ⟨e9q2, dq2, ⟨lq2, mq2⟩, iq2⟩ := hqq2
    have Gq2 : MG h hc1 S f (dysF S f (k + 1)) := MG_day G dq2
    cases e9q2
    show K mX12_least _ _ 0 0 54 [(4, vi (k : Int)), (3, vi (itN (fun k v => min v (dysF S f (k + 1) (29 + q))) (f (29 + q)) k)), (0, vr 0), (1, vi q), (2, vi (n : Int))] [] hc1
    refine K_iload_n (dt_at dtX12_least 32 rfl) rfl rfl ?_
    refine K_aload_n (dt_at dtX12_least 33 rfl) rfl rfl ?_
    refine K_get (a := 0) (ci := 12) (k := 42) (v := vr 18) (dt_at dtX12_least 34 rfl) (show TT 0 = (0, 12) from rfl) rfl (by decide) wF_X12_72 rfl ?_
    refine K_sipush (dt_at dtX12_least 35 rfl) (by decide) ?_
    refine K_iload_n (dt_at dtX12_least 36 rfl) rfl rfl ?_
    refine K_iadd (dt_at dtX12_least 37 rfl) ?_
    refine K_iald (dt_at dtX12_least 38 rfl) (show TT 18 = (1, 154) from rfl) (by omega) (by omega) ?_
    rw [show hA hc1 18 (134 + q) = ((dysF S f (k + 1)) (29 + q)) from RV_s (MG_D7 Gq2).2.2.2 (p := q) (by omega) (by omega)]
    refine K_callS (M' := mX12_lesser) (As := [vi (itN (fun k v => min v (dysF S f (k + 1) (29 + q))) (f (29 + q)) k), vi ((dysF S f (k + 1)) (29 + q))]) (st := []) (dt_at dtX12_least 39 rfl) (sX12_lesser ⟨by omega, by omega⟩ ⟨by omega, by omega⟩) wL_X12_307 vX12_lesser rfl npX12_lesser (by decide) (by decide) (Nat.le_of_ble_eq_true rfl) (by decide) (by decide) GK_E (fun v9 h9 hq => ?_) (fun E h9 hq => by cases hq.1)
    obtain ⟨e9, e8⟩ := hq
    cases e9
    rw [e8]
    show K mX12_least _ _ 0 0 68 [(4, vi (k : Int)), (3, vi (itN (fun k v => min v (dysF S f (k + 1) (29 + q))) (f (29 + q)) k)), (0, vr 0), (1, vi q), (2, vi (n : Int))] [vi (min (itN (fun k v => min v (dysF S f (k + 1) (29 + q))) (f (29 + q)) k) ((dysF S f (k + 1)) (29 + q)))] hc1
    refine K_istore_n (ls' := [(3, vi (min (itN (fun k v => min v (dysF S f (k + 1) (29 + q))) (f (29 + q)) k) ((dysF S f (k + 1)) (29 + q)))), (4, vi (k : Int)), (0, vr 0), (1, vi q), (2, vi (n : Int))]) (dt_at dtX12_least 40 rfl) rfl (by decide) rfl ?_
    refine K_iinc (ls' := [(4, vi ((k : Int) + 1)), (3, vi (min (itN (fun k v => min v (dysF S f (k + 1) (29 + q))) (f (29 + q)) k) ((dysF S f (k + 1)) (29 + q)))), (0, vr 0), (1, vi q), (2, vi (n : Int))]) (dt_at dtX12_least 41 rfl) rfl (by decide) rfl ?_
    refine K_goto (tgt := 42) (dt_at dtX12_least 42 rfl) (by decide) ?_
    refine K_pk [0, 1, 2, 3, 4] (ls' := [(4, vi ((k : Int) + 1)), (3, vi (min (itN (fun k v => min v (dysF S f (k + 1) (29 + q))) (f (29 + q)) k) ((dysF S f (k + 1)) (29 + q)))), (0, vr 0), (1, vi q), (2, vi (n : Int))]) rfl ?_
    exact K_cg (ls' := [(4, vi ((k + 1 : Nat) : Int)), (3, vi (itN (fun k v => min v (dysF S f (k + 1) (29 + q))) (f (29 + q)) (k + 1))), (0, vr 0), (1, vi q), (2, vi (n : Int))]) (h' := hc1) (by rfl) rfl (ih (k + 1) hc1 (by omega) Gq2)
set_option maxHeartbeats 4000000 in
set_option maxRecDepth 100000 in
theorem sX12_least {h : HP} {S : HS} {f : Int → Int} {q : Int} {n : Nat} (Q0 : MAsk h S f) (hqt : 0 ≤ q ∧ q < sNt S) (hn : n ≤ 100) : SpecK mX12_least [vr 0, vi q, vi (n : Int)] h (fun o h' => o = .inl (some (vi (itN (fun k v => min v (dysF S f (k + 1) (29 + q))) (f (29 + q)) n))) ∧ FQ h h' ∧ hI h' 0 0 = 0) := by
  refine Spec_of (by decide +kernel) (Nat.le_of_ble_eq_true rfl) ?_
  have hB := Q0.1.1
  have hNt := hB.1
  have hNp := hB.2.1
  have R := Q0.2.2.2.2
  have hT := R.1
  have hW := hT.1
  refine K_aload_n (dt_at dtX12_least 0 rfl) rfl rfl ?_
  refine K_iconst (dt_at dtX12_least 1 rfl) ?_
  refine K_putI (a := 0) (ci := 12) (k := 0) (dt_at dtX12_least 2 rfl) (show TT 0 = (0, 12) from rfl) rfl (by decide) wF_X12_105 rfl (Or.inl rfl) rfl rfl ?_
  obtain ⟨hu1, eu1⟩ : ∃ z, z = sI h 0 0 0 := ⟨_, rfl⟩
  rw [← eu1]
  obtain ⟨iu1, fu1, au1, ru1⟩ := sI_fx eu1
  have Gu1 := MG_0 Q0 eu1
  refine K_aload_n (dt_at dtX12_least 3 rfl) rfl rfl ?_
  refine K_iload_n (dt_at dtX12_least 4 rfl) rfl rfl ?_
  refine K_callV (M' := mX12_isThing) (a := 0) (ci := 12) (As := [vi q]) (st := []) (dt_at dtX12_least 5 rfl) (sX12_isThing_t (MD_nt (MG_D0 Gu1)) hNt Gu1.2.2.2 (by omega)) (show TT 0 = (0, 12) from rfl) rfl wL_X12_368 vX12_isThing rfl npX12_isThing (by decide) (by decide) (Nat.le_of_ble_eq_true rfl) (by decide) (by decide) GK_E (fun v9 h9 hq => ?_) (fun E h9 hq => by cases hq.1)
  obtain ⟨e9, e8⟩ := hq
  cases e9
  rw [e8]
  show K mX12_least _ _ 0 0 10 [(0, vr 0), (1, vi q), (2, vi (n : Int))] [vi 1] hu1
  refine K_if_eq (tgt := 23) (dt_at dtX12_least 6 rfl) (by decide) (by first | assumption | exact ⟨by omega, by omega⟩) (fun c1 => absurd c1 (by omega)) (fun c1 => ?_)
  refine K_aload_n (dt_at dtX12_least 7 rfl) rfl rfl ?_
  refine K_iload_n (dt_at dtX12_least 8 rfl) rfl rfl ?_
  refine K_iconst (dt_at dtX12_least 9 rfl) ?_
  refine K_iconst (dt_at dtX12_least 10 rfl) ?_
  refine K_callV (M' := mX12_isSoon) (a := 0) (ci := 12) (As := [vi (n : Int), vi 0, vi 2]) (st := []) (dt_at dtX12_least 11 rfl) (sX12_isSoon_t Gu1.2.2.2 (by omega) (by omega)) (show TT 0 = (0, 12) from rfl) rfl wL_X12_403 vX12_isSoon rfl npX12_isSoon (by decide) (by decide) (Nat.le_of_ble_eq_true rfl) (by decide) (by decide) GK_E (fun v9 h9 hq => ?_) (fun E h9 hq => by cases hq.1)
  obtain ⟨e9, e8⟩ := hq
  cases e9
  rw [e8]
  show K mX12_least _ _ 0 0 20 [(0, vr 0), (1, vi q), (2, vi (n : Int))] [vi 1] hu1
  refine K_if_ne (tgt := 25) (dt_at dtX12_least 12 rfl) (by decide) (by first | assumption | exact ⟨by omega, by omega⟩) (fun c2 => ?_) (fun c2 => absurd c2 (by omega))
  refine K_aload_n (dt_at dtX12_least 15 rfl) rfl rfl ?_
  refine K_get (a := 0) (ci := 12) (k := 42) (v := vr 18) (dt_at dtX12_least 16 rfl) (show TT 0 = (0, 12) from rfl) rfl (by decide) wF_X12_72 rfl ?_
  refine K_bipush (dt_at dtX12_least 17 rfl) (by decide) ?_
  refine K_iload_n (dt_at dtX12_least 18 rfl) rfl rfl ?_
  refine K_iadd (dt_at dtX12_least 19 rfl) ?_
  refine K_iald (dt_at dtX12_least 20 rfl) (show TT 18 = (1, 154) from rfl) (by omega) (by omega) ?_
  rw [show hA hu1 18 (57 + q) = (f (29 + q)) from RV_s (MG_D0 Gu1).2.2.2 (p := q) (by omega) (by omega)]
  refine K_istore_n (ls' := [(3, vi (f (29 + q))), (0, vr 0), (1, vi q), (2, vi (n : Int))]) (dt_at dtX12_least 21 rfl) rfl (by decide) rfl ?_
  refine K_aload_n (dt_at dtX12_least 22 rfl) rfl rfl ?_
  refine K_callV (M' := mX12_tries) (a := 0) (ci := 12) (As := []) (st := []) (dt_at dtX12_least 23 rfl) (sX12_tries) (show TT 0 = (0, 12) from rfl) rfl wL_X12_397 vX12_tries rfl npX12_tries (by decide) (by decide) (Nat.le_of_ble_eq_true rfl) (by decide) (by decide) GK_E (fun v9 hc2 hq => ?_) (fun E h9 hq => by cases hq.1)
  have hqq3 := hq
  obtain ⟨e9q3, t1q3, t2q3, t3q3, t4q3⟩ := hqq3
  have Gq3 := MG_try Gu1 t1q3 t2q3 t3q3 t4q3
  cases e9q3
  show K mX12_least _ _ 0 0 39 [(3, vi (f (29 + q))), (0, vr 0), (1, vi q), (2, vi (n : Int))] [] hc2
  refine K_iconst (dt_at dtX12_least 24 rfl) ?_
  refine K_istore (ls' := [(4, vi 0), (3, vi (f (29 + q))), (0, vr 0), (1, vi q), (2, vi (n : Int))]) (dt_at dtX12_least 25 rfl) (by decide) rfl ?_
  exact K_pk [0, 1, 2, 3, 4] rfl (lp_X12_least Q0 hqt hn n 0 hc2 (by omega) Gq3)
def mX12_load : MI := (yX12_load, cX12_load, 5, (some .int), rmK 7 0)
def tX12_load : List (Nat × Instr × Nat) := [(0, .aload_n 0, 1), (1, .iconst 0, 1), (2, .putfield 105, 3), (5, .aload_n 0, 1), (6, .iload_n 1, 1), (7, .invokevirtual 375, 3), (10, .ifCond .eq 13, 3), (13, .aload_n 0, 1), (14, .iload_n 2, 1), (15, .iconst 0, 1), (16, .iconst 2, 1), (17, .invokevirtual 403, 3), (20, .ifCond .ne 5, 3), (23, .iconst 0, 1), (24, .ireturn, 1), (25, .aload_n 0, 1), (26, .iconst 0, 1), (27, .iload_n 1, 1), (28, .invokevirtual 300, 3), (31, .istore_n 3, 1), (32, .aload_n 0, 1), (33, .invokevirtual 397, 3), (36, .iconst 0, 1), (37, .istore 4, 2), (39, .iload 4, 2), (41, .iload_n 2, 1), (42, .if_icmp .ge 27, 3), (45, .aload_n 0, 1), (46, .bipush 77, 2), (48, .invokevirtual 334, 3), (51, .iload_n 3, 1), (52, .aload_n 0, 1), (53, .bipush 77, 2), (55, .iload_n 1, 1), (56, .invokevirtual 300, 3), (59, .invokestatic 420, 3), (62, .istore_n 3, 1), (63, .iinc 4 1, 3), (66, .goto (-27), 3), (69, .iload_n 3, 1), (70, .ireturn, 1)]
theorem dtX12_load : tX12_load.all (fun q => decide (decode cX12_load q.1 = .ok (q.2.1, q.2.2))) = true := by decide +kernel
theorem npX12_load : (parseMethodDescriptor (mY mX12_load).desc).map (fun d => d.parameters.length) = some 2 := by decide +kernel
theorem vX12_load : mV mX12_load := ⟨wI_X12_load, wS_X12_load, wN_X12, wC_X12_load, by decide +kernel, by decide +kernel⟩
set_option maxHeartbeats 4000000 in
set_option maxRecDepth 100000 in
theorem sX12_load_x1 {h : HP} {S : HS} {f : Int → Int} {p d : Int} (Q0 : MAsk h S f) (hp_ : i32 p) (hd_ : i32 d) (kn : ¬ (0 ≤ p ∧ p < sNp S)) : SpecK mX12_load [vr 0, vi p, vi d] h (fun o h' => o = .inl (some (vi 0)) ∧ FQ h h' ∧ hI h' 0 0 = 1) := by
  refine Spec_of (by decide +kernel) (Nat.le_of_ble_eq_true rfl) ?_
  have hB := Q0.1.1
  have hNt := hB.1
  have hNp := hB.2.1
  have R := Q0.2.2.2.2
  have hT := R.1
  have hW := hT.1
  refine K_aload_n (dt_at dtX12_load 0 rfl) rfl rfl ?_
  refine K_iconst (dt_at dtX12_load 1 rfl) ?_
  refine K_putI (a := 0) (ci := 12) (k := 0) (dt_at dtX12_load 2 rfl) (show TT 0 = (0, 12) from rfl) rfl (by decide) wF_X12_105 rfl (Or.inl rfl) rfl rfl ?_
  obtain ⟨hu1, eu1⟩ : ∃ z, z = sI h 0 0 0 := ⟨_, rfl⟩
  rw [← eu1]
  obtain ⟨iu1, fu1, au1, ru1⟩ := sI_fx eu1
  have Gu1 := MG_0 Q0 eu1
  refine K_aload_n (dt_at dtX12_load 3 rfl) rfl rfl ?_
  refine K_iload_n (dt_at dtX12_load 4 rfl) rfl rfl ?_
  refine K_callV (M' := mX12_isPerson) (a := 0) (ci := 12) (As := [vi p]) (st := []) (dt_at dtX12_load 5 rfl) (sX12_isPerson_f (MD_np (MG_D0 Gu1)) hNp Gu1.2.2.2 (by assumption) (by omega)) (show TT 0 = (0, 12) from rfl) rfl wL_X12_375 vX12_isPerson rfl npX12_isPerson (by decide) (by decide) (Nat.le_of_ble_eq_true rfl) (by decide) (by decide) GK_E (fun v9 hc2 hq => ?_) (fun E h9 hq => by cases hq.1)
  have hqq3 := hq
  obtain ⟨e9q3, e8q3⟩ := hqq3
  obtain ⟨iq3, fq3, aq3, rq3⟩ := sI_fx e8q3
  have Bq3 : FQ h hc2 := FQ_tr Gu1.2.1 (FQ_I e8q3 rfl Gu1.2.1.2.2.2.2)
  cases e9q3
  show K mX12_load _ _ 0 0 10 [(0, vr 0), (1, vi p), (2, vi d)] [vi 0] hc2
  refine K_if_eq (tgt := 23) (dt_at dtX12_load 6 rfl) (by decide) (by first | assumption | exact ⟨by omega, by omega⟩) (fun c1 => ?_) (fun c1 => absurd c1 (by omega))
  refine K_iconst (dt_at dtX12_load 13 rfl) ?_
  exact K_iret (dt_at dtX12_load 14 rfl) rfl rfl (by decide) (by decide) ⟨rfl, Bq3, iq3⟩
set_option maxHeartbeats 4000000 in
set_option maxRecDepth 100000 in
theorem sX12_load_x2 {h : HP} {S : HS} {f : Int → Int} {p d : Int} (Q0 : MAsk h S f) (hp_ : i32 p) (hd_ : i32 d) (k0 : 0 ≤ p ∧ p < sNp S) (kn : ¬ (0 ≤ d ∧ d ≤ 100)) : SpecK mX12_load [vr 0, vi p, vi d] h (fun o h' => o = .inl (some (vi 0)) ∧ FQ h h' ∧ hI h' 0 0 = 2) := by
  refine Spec_of (by decide +kernel) (Nat.le_of_ble_eq_true rfl) ?_
  have hB := Q0.1.1
  have hNt := hB.1
  have hNp := hB.2.1
  have R := Q0.2.2.2.2
  have hT := R.1
  have hW := hT.1
  refine K_aload_n (dt_at dtX12_load 0 rfl) rfl rfl ?_
  refine K_iconst (dt_at dtX12_load 1 rfl) ?_
  refine K_putI (a := 0) (ci := 12) (k := 0) (dt_at dtX12_load 2 rfl) (show TT 0 = (0, 12) from rfl) rfl (by decide) wF_X12_105 rfl (Or.inl rfl) rfl rfl ?_
  obtain ⟨hu1, eu1⟩ : ∃ z, z = sI h 0 0 0 := ⟨_, rfl⟩
  rw [← eu1]
  obtain ⟨iu1, fu1, au1, ru1⟩ := sI_fx eu1
  have Gu1 := MG_0 Q0 eu1
  refine K_aload_n (dt_at dtX12_load 3 rfl) rfl rfl ?_
  refine K_iload_n (dt_at dtX12_load 4 rfl) rfl rfl ?_
  refine K_callV (M' := mX12_isPerson) (a := 0) (ci := 12) (As := [vi p]) (st := []) (dt_at dtX12_load 5 rfl) (sX12_isPerson_t (MD_np (MG_D0 Gu1)) hNp Gu1.2.2.2 (by omega)) (show TT 0 = (0, 12) from rfl) rfl wL_X12_375 vX12_isPerson rfl npX12_isPerson (by decide) (by decide) (Nat.le_of_ble_eq_true rfl) (by decide) (by decide) GK_E (fun v9 h9 hq => ?_) (fun E h9 hq => by cases hq.1)
  obtain ⟨e9, e8⟩ := hq
  cases e9
  rw [e8]
  show K mX12_load _ _ 0 0 10 [(0, vr 0), (1, vi p), (2, vi d)] [vi 1] hu1
  refine K_if_eq (tgt := 23) (dt_at dtX12_load 6 rfl) (by decide) (by first | assumption | exact ⟨by omega, by omega⟩) (fun c1 => absurd c1 (by omega)) (fun c1 => ?_)
  refine K_aload_n (dt_at dtX12_load 7 rfl) rfl rfl ?_
  refine K_iload_n (dt_at dtX12_load 8 rfl) rfl rfl ?_
  refine K_iconst (dt_at dtX12_load 9 rfl) ?_
  refine K_iconst (dt_at dtX12_load 10 rfl) ?_
  refine K_callV (M' := mX12_isSoon) (a := 0) (ci := 12) (As := [vi d, vi 0, vi 2]) (st := []) (dt_at dtX12_load 11 rfl) (sX12_isSoon_f Gu1.2.2.2 (by decide) (by assumption) (by omega) (by decide)) (show TT 0 = (0, 12) from rfl) rfl wL_X12_403 vX12_isSoon rfl npX12_isSoon (by decide) (by decide) (Nat.le_of_ble_eq_true rfl) (by decide) (by decide) GK_E (fun v9 hc2 hq => ?_) (fun E h9 hq => by cases hq.1)
  have hqq3 := hq
  obtain ⟨e9q3, e8q3⟩ := hqq3
  obtain ⟨iq3, fq3, aq3, rq3⟩ := sI_fx e8q3
  have Bq3 : FQ h hc2 := FQ_tr Gu1.2.1 (FQ_I e8q3 rfl Gu1.2.1.2.2.2.2)
  cases e9q3
  show K mX12_load _ _ 0 0 20 [(0, vr 0), (1, vi p), (2, vi d)] [vi 0] hc2
  refine K_if_ne (tgt := 25) (dt_at dtX12_load 12 rfl) (by decide) (by first | assumption | exact ⟨by omega, by omega⟩) (fun c2 => absurd c2 (by omega)) (fun c2 => ?_)
  refine K_iconst (dt_at dtX12_load 13 rfl) ?_
  exact K_iret (dt_at dtX12_load 14 rfl) rfl rfl (by decide) (by decide) ⟨rfl, Bq3, iq3⟩
theorem ldM_b {S : HS} {f : Int → Int} {p : Int} (hB : hsW S) (R : rowOK S f) (hp : 0 ≤ p ∧ p < 7) : ∀ k : Nat, k ≤ 100 → 0 ≤ (itN (fun k v => max v (sumF (sW S) (dysF S f (k + 1)) p (sNt S))) (sumF (sW S) f p (sNt S)) k) ∧ (itN (fun k v => max v (sumF (sW S) (dysF S f (k + 1)) p (sNt S))) (sumF (sW S) f p (sNt S)) k) ≤ 120000000
  | 0, _ => sumF_rT R.1 hp hB.1 (fun i a b => by have := (hB.2.2.1 i a b).1; constructor <;> omega)
  | k + 1, hk => by
    have ih := ldM_b hB R hp k (by omega)
    have s := sumF_rT (us := sW S) (p := p) (n := sNt S) (dys_R hB R (n := k + 1) (by omega)).1 hp hB.1 (fun i a b => by have := (hB.2.2.1 i a b).1; constructor <;> omega)
    show 0 ≤ max (itN (fun k v => max v (sumF (sW S) (dysF S f (k + 1)) p (sNt S))) (sumF (sW S) f p (sNt S)) k) (sumF (sW S) (dysF S f (k + 1)) p (sNt S)) ∧ max (itN (fun k v => max v (sumF (sW S) (dysF S f (k + 1)) p (sNt S))) (sumF (sW S) f p (sNt S)) k) (sumF (sW S) (dysF S f (k + 1)) p (sNt S)) ≤ 120000000
    omega
set_option maxHeartbeats 4000000 in
set_option maxRecDepth 100000 in
theorem lp_X12_load {h : HP} {S : HS} {f : Int → Int} {p : Int} {n : Nat} (Q0 : MAsk h S f) (hp : 0 ≤ p ∧ p < sNp S) (hn : n ≤ 100) : ∀ (dd k : Nat) (hh : HP), k + dd = n → MG h hh S f (dysF S f k) → K mX12_load GK (ZK (fun o h' => o = .inl (some (vi (itN (fun k v => max v (sumF (sW S) (dysF S f (k + 1)) p (sNt S))) (sumF (sW S) f p (sNt S)) n))) ∧ FQ h h' ∧ hI h' 0 0 = 0) 0 0) 0 0 39 [(4, vi (k : Int)), (3, vi (itN (fun k v => max v (sumF (sW S) (dysF S f (k + 1)) p (sNt S))) (sumF (sW S) f p (sNt S)) k)), (0, vr 0), (1, vi p), (2, vi (n : Int))] [] hh := by
  intro dd
  induction dd with
  | zero =>
    intro k hh hk G
    have hB := Q0.1.1
    have hNt := hB.1
    have hNp := hB.2.1
    have R := Q0.2.2.2.2
    have hT := R.1
    have hW := hT.1
    obtain ⟨a1, a2, a3, a4, a5⟩ := dys_R hB R (n := k) (by omega)
    have ek : k = n := by omega
    subst ek
    refine K_iload (dt_at dtX12_load 24 rfl) rfl ?_
    refine K_iload_n (dt_at dtX12_load 25 rfl) rfl rfl ?_
    refine K_icmp_ge (tgt := 69) (dt_at dtX12_load 26 rfl) (by decide) (by first | assumption | exact ⟨by omega, by omega⟩) (by first | assumption | exact ⟨by omega, by omega⟩) (fun c1 => ?_) (fun c1 => absurd c1 (by omega))
    refine K_iload_n (dt_at dtX12_load 39 rfl) rfl rfl ?_
    exact K_iret (dt_at dtX12_load 40 rfl) rfl rfl (by decide) (by decide) ⟨rfl, G.2.1, G.2.2.2⟩
  | succ dd ih =>
    intro k hh hk G
    have hB := Q0.1.1
    have hNt := hB.1
    have hNp := hB.2.1
    have R := Q0.2.2.2.2
    have hT := R.1
    have hW := hT.1
    obtain ⟨a1, a2, a3, a4, a5⟩ := dys_R hB R (n := k) (by omega)
    obtain ⟨n1, n2, n3, n4, n5⟩ := dys_R hB R (n := k + 1) (by omega)
    have lb := ldM_b hB R (p := p) (by omega) k (by omega)
    have ws := sumF_rT (us := sW S) (p := p) (n := sNt S) n1 (by omega) hB.1 (fun i a b => by have := (hB.2.2.1 i a b).1; constructor <;> omega)
    refine K_iload (dt_at dtX12_load 24 rfl) rfl ?_
    refine K_iload_n (dt_at dtX12_load 25 rfl) rfl rfl ?_
    refine K_icmp_ge (tgt := 69) (dt_at dtX12_load 26 rfl) (by decide) (by first | assumption | exact ⟨by omega, by omega⟩) (by first | assumption | exact ⟨by omega, by omega⟩) (fun c1 => absurd c1 (by omega)) (fun c1 => ?_)
    refine K_aload_n (dt_at dtX12_load 27 rfl) rfl rfl ?_
    refine K_bipush (dt_at dtX12_load 28 rfl) (by decide) ?_
    refine K_callV (M' := mX12_dayGoes) (a := 0) (ci := 12) (As := [vi 77]) (st := []) (dt_at dtX12_load 29 rfl) (sX12_dayGoes (MG_D7 G) a1 a2 a3 a4 (MG_49 G)) (show TT 0 = (0, 12) from rfl) rfl wL_X12_334 vX12_dayGoes rfl npX12_dayGoes (by decide) (by decide) (Nat.le_of_ble_eq_true rfl) (by decide) (by decide) GK_E (fun v9 hc1 hq => ?_) (fun E h9 hq => by cases hq.1)
    have hqq2 := hq
    obtain ⟨e9q2, dq2, ⟨lq2, mq2⟩, iq2⟩ := hqq2
    have Gq2 : MG h hc1 S f (dysF S f (k + 1)) := MG_day G dq2
    cases e9q2
    show K mX12_load _ _ 0 0 51 [(4, vi (k : Int)), (3, vi (itN (fun k v => max v (sumF (sW S) (dysF S f (k + 1)) p (sNt S))) (sumF (sW S) f p (sNt S)) k)), (0, vr 0), (1, vi p), (2, vi (n : Int))] [] hc1
    refine K_iload_n (dt_at dtX12_load 30 rfl) rfl rfl ?_
    refine K_aload_n (dt_at dtX12_load 31 rfl) rfl rfl ?_
    refine K_bipush (dt_at dtX12_load 32 rfl) (by decide) ?_
    refine K_iload_n (dt_at dtX12_load 33 rfl) rfl rfl ?_
    refine K_callV (M' := mX12_weightIn) (a := 0) (ci := 12) (As := [vi 77, vi p]) (st := [vi (itN (fun k v => max v (sumF (sW S) (dysF S f (k + 1)) p (sNt S))) (sumF (sW S) f p (sNt S)) k)]) (dt_at dtX12_load 34 rfl) (sX12_weightIn (MG_D7 Gq2) n1.1 (by omega)) (show TT 0 = (0, 12) from rfl) rfl wL_X12_300 vX12_weightIn rfl npX12_weightIn (by decide) (by decide) (Nat.le_of_ble_eq_true rfl) (by decide) (by decide) GK_E (fun v9 h9 hq => ?_) (fun E h9 hq => by cases hq.1)
    obtain ⟨e9, e8⟩ := hq
    cases e9
    rw [e8]
    show K mX12_load _ _ 0 0 59 [(4, vi (k : Int)), (3, vi (itN (fun k v => max v (sumF (sW S) (dysF S f (k + 1)) p (sNt S))) (sumF (sW S) f p (sNt S)) k)), (0, vr 0), (1, vi p), (2, vi (n : Int))] [vi (sumF (sW S) (dysF S f (k + 1)) p (sNt S)), vi (itN (fun k v => max v (sumF (sW S) (dysF S f (k + 1)) p (sNt S))) (sumF (sW S) f p (sNt S)) k)] hc1
    refine K_callS (M' := mX12_greater) (As := [vi (itN (fun k v => max v (sumF (sW S) (dysF S f (k + 1)) p (sNt S))) (sumF (sW S) f p (sNt S)) k), vi (sumF (sW S) (dysF S f (k + 1)) p (sNt S))]) (st := []) (dt_at dtX12_load 35 rfl) (sX12_greater ⟨by omega, by omega⟩ ⟨by omega, by omega⟩) wL_X12_420 vX12_greater rfl npX12_greater (by decide) (by decide) (Nat.le_of_ble_eq_true rfl) (by decide) (by decide) GK_E (fun v9 h9 hq => ?_) (fun E h9 hq => by cases hq.1)
    obtain ⟨e9, e8⟩ := hq
    cases e9
    rw [e8]
    show K mX12_load _ _ 0 0 62 [(4, vi (k : Int)), (3, vi (itN (fun k v => max v (sumF (sW S) (dysF S f (k + 1)) p (sNt S))) (sumF (sW S) f p (sNt S)) k)), (0, vr 0), (1, vi p), (2, vi (n : Int))] [vi (max (itN (fun k v => max v (sumF (sW S) (dysF S f (k + 1)) p (sNt S))) (sumF (sW S) f p (sNt S)) k) (sumF (sW S) (dysF S f (k + 1)) p (sNt S)))] hc1
    refine K_istore_n (ls' := [(3, vi (max (itN (fun k v => max v (sumF (sW S) (dysF S f (k + 1)) p (sNt S))) (sumF (sW S) f p (sNt S)) k) (sumF (sW S) (dysF S f (k + 1)) p (sNt S)))), (4, vi (k : Int)), (0, vr 0), (1, vi p), (2, vi (n : Int))]) (dt_at dtX12_load 36 rfl) rfl (by decide) rfl ?_
    refine K_iinc (ls' := [(4, vi ((k : Int) + 1)), (3, vi (max (itN (fun k v => max v (sumF (sW S) (dysF S f (k + 1)) p (sNt S))) (sumF (sW S) f p (sNt S)) k) (sumF (sW S) (dysF S f (k + 1)) p (sNt S)))), (0, vr 0), (1, vi p), (2, vi (n : Int))]) (dt_at dtX12_load 37 rfl) rfl (by decide) rfl ?_
    refine K_goto (tgt := 39) (dt_at dtX12_load 38 rfl) (by decide) ?_
    refine K_pk [0, 1, 2, 3, 4] (ls' := [(4, vi ((k : Int) + 1)), (3, vi (max (itN (fun k v => max v (sumF (sW S) (dysF S f (k + 1)) p (sNt S))) (sumF (sW S) f p (sNt S)) k) (sumF (sW S) (dysF S f (k + 1)) p (sNt S)))), (0, vr 0), (1, vi p), (2, vi (n : Int))]) rfl ?_
    exact K_cg (ls' := [(4, vi ((k + 1 : Nat) : Int)), (3, vi (itN (fun k v => max v (sumF (sW S) (dysF S f (k + 1)) p (sNt S))) (sumF (sW S) f p (sNt S)) (k + 1))), (0, vr 0), (1, vi p), (2, vi (n : Int))]) (h' := hc1) (by rfl) rfl (ih (k + 1) hc1 (by omega) Gq2)
set_option maxHeartbeats 4000000 in
set_option maxRecDepth 100000 in
theorem sX12_load {h : HP} {S : HS} {f : Int → Int} {p : Int} {n : Nat} (Q0 : MAsk h S f) (hp : 0 ≤ p ∧ p < sNp S) (hn : n ≤ 100) : SpecK mX12_load [vr 0, vi p, vi (n : Int)] h (fun o h' => o = .inl (some (vi (itN (fun k v => max v (sumF (sW S) (dysF S f (k + 1)) p (sNt S))) (sumF (sW S) f p (sNt S)) n))) ∧ FQ h h' ∧ hI h' 0 0 = 0) := by
  refine Spec_of (by decide +kernel) (Nat.le_of_ble_eq_true rfl) ?_
  have hB := Q0.1.1
  have hNt := hB.1
  have hNp := hB.2.1
  have R := Q0.2.2.2.2
  have hT := R.1
  have hW := hT.1
  refine K_aload_n (dt_at dtX12_load 0 rfl) rfl rfl ?_
  refine K_iconst (dt_at dtX12_load 1 rfl) ?_
  refine K_putI (a := 0) (ci := 12) (k := 0) (dt_at dtX12_load 2 rfl) (show TT 0 = (0, 12) from rfl) rfl (by decide) wF_X12_105 rfl (Or.inl rfl) rfl rfl ?_
  obtain ⟨hu1, eu1⟩ : ∃ z, z = sI h 0 0 0 := ⟨_, rfl⟩
  rw [← eu1]
  obtain ⟨iu1, fu1, au1, ru1⟩ := sI_fx eu1
  have Gu1 := MG_0 Q0 eu1
  refine K_aload_n (dt_at dtX12_load 3 rfl) rfl rfl ?_
  refine K_iload_n (dt_at dtX12_load 4 rfl) rfl rfl ?_
  refine K_callV (M' := mX12_isPerson) (a := 0) (ci := 12) (As := [vi p]) (st := []) (dt_at dtX12_load 5 rfl) (sX12_isPerson_t (MD_np (MG_D0 Gu1)) hNp Gu1.2.2.2 (by omega)) (show TT 0 = (0, 12) from rfl) rfl wL_X12_375 vX12_isPerson rfl npX12_isPerson (by decide) (by decide) (Nat.le_of_ble_eq_true rfl) (by decide) (by decide) GK_E (fun v9 h9 hq => ?_) (fun E h9 hq => by cases hq.1)
  obtain ⟨e9, e8⟩ := hq
  cases e9
  rw [e8]
  show K mX12_load _ _ 0 0 10 [(0, vr 0), (1, vi p), (2, vi (n : Int))] [vi 1] hu1
  refine K_if_eq (tgt := 23) (dt_at dtX12_load 6 rfl) (by decide) (by first | assumption | exact ⟨by omega, by omega⟩) (fun c1 => absurd c1 (by omega)) (fun c1 => ?_)
  refine K_aload_n (dt_at dtX12_load 7 rfl) rfl rfl ?_
  refine K_iload_n (dt_at dtX12_load 8 rfl) rfl rfl ?_
  refine K_iconst (dt_at dtX12_load 9 rfl) ?_
  refine K_iconst (dt_at dtX12_load 10 rfl) ?_
  refine K_callV (M' := mX12_isSoon) (a := 0) (ci := 12) (As := [vi (n : Int), vi 0, vi 2]) (st := []) (dt_at dtX12_load 11 rfl) (sX12_isSoon_t Gu1.2.2.2 (by omega) (by omega)) (show TT 0 = (0, 12) from rfl) rfl wL_X12_403 vX12_isSoon rfl npX12_isSoon (by decide) (by decide) (Nat.le_of_ble_eq_true rfl) (by decide) (by decide) GK_E (fun v9 h9 hq => ?_) (fun E h9 hq => by cases hq.1)
  obtain ⟨e9, e8⟩ := hq
  cases e9
  rw [e8]
  show K mX12_load _ _ 0 0 20 [(0, vr 0), (1, vi p), (2, vi (n : Int))] [vi 1] hu1
  refine K_if_ne (tgt := 25) (dt_at dtX12_load 12 rfl) (by decide) (by first | assumption | exact ⟨by omega, by omega⟩) (fun c2 => ?_) (fun c2 => absurd c2 (by omega))
  refine K_aload_n (dt_at dtX12_load 15 rfl) rfl rfl ?_
  refine K_iconst (dt_at dtX12_load 16 rfl) ?_
  refine K_iload_n (dt_at dtX12_load 17 rfl) rfl rfl ?_
  refine K_callV (M' := mX12_weightIn) (a := 0) (ci := 12) (As := [vi 0, vi p]) (st := []) (dt_at dtX12_load 18 rfl) (sX12_weightIn (MG_D0 Gu1) hW (by omega)) (show TT 0 = (0, 12) from rfl) rfl wL_X12_300 vX12_weightIn rfl npX12_weightIn (by decide) (by decide) (Nat.le_of_ble_eq_true rfl) (by decide) (by decide) GK_E (fun v9 h9 hq => ?_) (fun E h9 hq => by cases hq.1)
  obtain ⟨e9, e8⟩ := hq
  cases e9
  rw [e8]
  show K mX12_load _ _ 0 0 31 [(0, vr 0), (1, vi p), (2, vi (n : Int))] [vi (sumF (sW S) f p (sNt S))] hu1
  refine K_istore_n (ls' := [(3, vi (sumF (sW S) f p (sNt S))), (0, vr 0), (1, vi p), (2, vi (n : Int))]) (dt_at dtX12_load 19 rfl) rfl (by decide) rfl ?_
  refine K_aload_n (dt_at dtX12_load 20 rfl) rfl rfl ?_
  refine K_callV (M' := mX12_tries) (a := 0) (ci := 12) (As := []) (st := []) (dt_at dtX12_load 21 rfl) (sX12_tries) (show TT 0 = (0, 12) from rfl) rfl wL_X12_397 vX12_tries rfl npX12_tries (by decide) (by decide) (Nat.le_of_ble_eq_true rfl) (by decide) (by decide) GK_E (fun v9 hc2 hq => ?_) (fun E h9 hq => by cases hq.1)
  have hqq3 := hq
  obtain ⟨e9q3, t1q3, t2q3, t3q3, t4q3⟩ := hqq3
  have Gq3 := MG_try Gu1 t1q3 t2q3 t3q3 t4q3
  cases e9q3
  show K mX12_load _ _ 0 0 36 [(3, vi (sumF (sW S) f p (sNt S))), (0, vr 0), (1, vi p), (2, vi (n : Int))] [] hc2
  refine K_iconst (dt_at dtX12_load 22 rfl) ?_
  refine K_istore (ls' := [(4, vi 0), (3, vi (sumF (sW S) f p (sNt S))), (0, vr 0), (1, vi p), (2, vi (n : Int))]) (dt_at dtX12_load 23 rfl) (by decide) rfl ?_
  exact K_pk [0, 1, 2, 3, 4] rfl (lp_X12_load Q0 hp hn n 0 hc2 (by omega) Gq3)
def mX12_without : MI := (yX12_without, cX12_without, 6, (some .int), rmK 9 0)
def tX12_without : List (Nat × Instr × Nat) := [(0, .aload_n 0, 1), (1, .iconst 0, 1), (2, .putfield 105, 3), (5, .aload_n 0, 1), (6, .iload_n 1, 1), (7, .invokevirtual 375, 3), (10, .ifCond .eq 21, 3), (13, .aload_n 0, 1), (14, .iload_n 2, 1), (15, .invokevirtual 368, 3), (18, .ifCond .eq 13, 3), (21, .aload_n 0, 1), (22, .iload_n 3, 1), (23, .iconst 0, 1), (24, .iconst 2, 1), (25, .invokevirtual 403, 3), (28, .ifCond .ne 5, 3), (31, .iconst 0, 1), (32, .ireturn, 1), (33, .aload_n 0, 1), (34, .iload_n 3, 1), (35, .invokevirtual 406, 3), (38, .aload_n 0, 1), (39, .getfield 72, 3), (42, .sipush 134, 3), (45, .iload_n 2, 1), (46, .iadd, 1), (47, .iaload, 1), (48, .istore 4, 2), (50, .aload_n 0, 1), (51, .invokevirtual 397, 3), (54, .iconst 0, 1), (55, .istore 5, 2), (57, .iload 5, 2), (59, .aload_n 0, 1), (60, .getfield 270, 3), (63, .if_icmp .ge 35, 3), (66, .aload_n 0, 1), (67, .getfield 72, 3), (70, .bipush 70, 2), (72, .iload 5, 2), (74, .iadd, 1), (75, .iaload, 1), (76, .iload_n 1, 1), (77, .if_icmp .ne 15, 3), (80, .aload_n 0, 1), (81, .getfield 72, 3), (84, .sipush 147, 3), (87, .iload 5, 2), (89, .iadd, 1), (90, .iconst (-1), 1), (91, .iastore, 1), (92, .iinc 5 1, 3), (95, .goto (-38), 3), (98, .aload_n 0, 1), (99, .iload_n 3, 1), (100, .invokevirtual 400, 3), (103, .aload_n 0, 1), (104, .getfield 72, 3), (107, .sipush 134, 3), (110, .iload_n 2, 1), (111, .iadd, 1), (112, .iaload, 1), (113, .iload 4, 2), (115, .isub, 1), (116, .ireturn, 1)]
theorem dtX12_without : tX12_without.all (fun q => decide (decode cX12_without q.1 = .ok (q.2.1, q.2.2))) = true := by decide +kernel
theorem npX12_without : (parseMethodDescriptor (mY mX12_without).desc).map (fun d => d.parameters.length) = some 3 := by decide +kernel
theorem vX12_without : mV mX12_without := ⟨wI_X12_without, wS_X12_without, wN_X12, wC_X12_without, by decide +kernel, by decide +kernel⟩
set_option maxHeartbeats 4000000 in
set_option maxRecDepth 100000 in
theorem sX12_without_x1 {h : HP} {S : HS} {f : Int → Int} {p q d : Int} (Q0 : MAsk h S f) (hp_ : i32 p) (hq_ : i32 q) (hd_ : i32 d) (kn : ¬ (0 ≤ p ∧ p < sNp S)) : SpecK mX12_without [vr 0, vi p, vi q, vi d] h (fun o h' => o = .inl (some (vi 0)) ∧ FQ h h' ∧ hI h' 0 0 = 1) := by
  refine Spec_of (by decide +kernel) (Nat.le_of_ble_eq_true rfl) ?_
  have hB := Q0.1.1
  have hNt := hB.1
  have hNp := hB.2.1
  have R := Q0.2.2.2.2
  have hT := R.1
  have hW := hT.1
  refine K_aload_n (dt_at dtX12_without 0 rfl) rfl rfl ?_
  refine K_iconst (dt_at dtX12_without 1 rfl) ?_
  refine K_putI (a := 0) (ci := 12) (k := 0) (dt_at dtX12_without 2 rfl) (show TT 0 = (0, 12) from rfl) rfl (by decide) wF_X12_105 rfl (Or.inl rfl) rfl rfl ?_
  obtain ⟨hu1, eu1⟩ : ∃ z, z = sI h 0 0 0 := ⟨_, rfl⟩
  rw [← eu1]
  obtain ⟨iu1, fu1, au1, ru1⟩ := sI_fx eu1
  have Gu1 := MG_0 Q0 eu1
  refine K_aload_n (dt_at dtX12_without 3 rfl) rfl rfl ?_
  refine K_iload_n (dt_at dtX12_without 4 rfl) rfl rfl ?_
  refine K_callV (M' := mX12_isPerson) (a := 0) (ci := 12) (As := [vi p]) (st := []) (dt_at dtX12_without 5 rfl) (sX12_isPerson_f (MD_np (MG_D0 Gu1)) hNp Gu1.2.2.2 (by assumption) (by omega)) (show TT 0 = (0, 12) from rfl) rfl wL_X12_375 vX12_isPerson rfl npX12_isPerson (by decide) (by decide) (Nat.le_of_ble_eq_true rfl) (by decide) (by decide) GK_E (fun v9 hc2 hq => ?_) (fun E h9 hq => by cases hq.1)
  have hqq3 := hq
  obtain ⟨e9q3, e8q3⟩ := hqq3
  obtain ⟨iq3, fq3, aq3, rq3⟩ := sI_fx e8q3
  have Bq3 : FQ h hc2 := FQ_tr Gu1.2.1 (FQ_I e8q3 rfl Gu1.2.1.2.2.2.2)
  cases e9q3
  show K mX12_without _ _ 0 0 10 [(0, vr 0), (1, vi p), (2, vi q), (3, vi d)] [vi 0] hc2
  refine K_if_eq (tgt := 31) (dt_at dtX12_without 6 rfl) (by decide) (by first | assumption | exact ⟨by omega, by omega⟩) (fun c1 => ?_) (fun c1 => absurd c1 (by omega))
  refine K_iconst (dt_at dtX12_without 17 rfl) ?_
  exact K_iret (dt_at dtX12_without 18 rfl) rfl rfl (by decide) (by decide) ⟨rfl, Bq3, iq3⟩
set_option maxHeartbeats 4000000 in
set_option maxRecDepth 100000 in
theorem sX12_without_x2 {h : HP} {S : HS} {f : Int → Int} {p q d : Int} (Q0 : MAsk h S f) (hp_ : i32 p) (hq_ : i32 q) (hd_ : i32 d) (k0 : 0 ≤ p ∧ p < sNp S) (kn : ¬ (0 ≤ q ∧ q < sNt S)) : SpecK mX12_without [vr 0, vi p, vi q, vi d] h (fun o h' => o = .inl (some (vi 0)) ∧ FQ h h' ∧ hI h' 0 0 = 1) := by
  refine Spec_of (by decide +kernel) (Nat.le_of_ble_eq_true rfl) ?_
  have hB := Q0.1.1
  have hNt := hB.1
  have hNp := hB.2.1
  have R := Q0.2.2.2.2
  have hT := R.1
  have hW := hT.1
  refine K_aload_n (dt_at dtX12_without 0 rfl) rfl rfl ?_
  refine K_iconst (dt_at dtX12_without 1 rfl) ?_
  refine K_putI (a := 0) (ci := 12) (k := 0) (dt_at dtX12_without 2 rfl) (show TT 0 = (0, 12) from rfl) rfl (by decide) wF_X12_105 rfl (Or.inl rfl) rfl rfl ?_
  obtain ⟨hu1, eu1⟩ : ∃ z, z = sI h 0 0 0 := ⟨_, rfl⟩
  rw [← eu1]
  obtain ⟨iu1, fu1, au1, ru1⟩ := sI_fx eu1
  have Gu1 := MG_0 Q0 eu1
  refine K_aload_n (dt_at dtX12_without 3 rfl) rfl rfl ?_
  refine K_iload_n (dt_at dtX12_without 4 rfl) rfl rfl ?_
  refine K_callV (M' := mX12_isPerson) (a := 0) (ci := 12) (As := [vi p]) (st := []) (dt_at dtX12_without 5 rfl) (sX12_isPerson_t (MD_np (MG_D0 Gu1)) hNp Gu1.2.2.2 (by omega)) (show TT 0 = (0, 12) from rfl) rfl wL_X12_375 vX12_isPerson rfl npX12_isPerson (by decide) (by decide) (Nat.le_of_ble_eq_true rfl) (by decide) (by decide) GK_E (fun v9 h9 hq => ?_) (fun E h9 hq => by cases hq.1)
  obtain ⟨e9, e8⟩ := hq
  cases e9
  rw [e8]
  show K mX12_without _ _ 0 0 10 [(0, vr 0), (1, vi p), (2, vi q), (3, vi d)] [vi 1] hu1
  refine K_if_eq (tgt := 31) (dt_at dtX12_without 6 rfl) (by decide) (by first | assumption | exact ⟨by omega, by omega⟩) (fun c1 => absurd c1 (by omega)) (fun c1 => ?_)
  refine K_aload_n (dt_at dtX12_without 7 rfl) rfl rfl ?_
  refine K_iload_n (dt_at dtX12_without 8 rfl) rfl rfl ?_
  refine K_callV (M' := mX12_isThing) (a := 0) (ci := 12) (As := [vi q]) (st := []) (dt_at dtX12_without 9 rfl) (sX12_isThing_f (MD_nt (MG_D0 Gu1)) hNt Gu1.2.2.2 (by assumption) (by omega)) (show TT 0 = (0, 12) from rfl) rfl wL_X12_368 vX12_isThing rfl npX12_isThing (by decide) (by decide) (Nat.le_of_ble_eq_true rfl) (by decide) (by decide) GK_E (fun v9 hc2 hq => ?_) (fun E h9 hq => by cases hq.1)
  have hqq3 := hq
  obtain ⟨e9q3, e8q3⟩ := hqq3
  obtain ⟨iq3, fq3, aq3, rq3⟩ := sI_fx e8q3
  have Bq3 : FQ h hc2 := FQ_tr Gu1.2.1 (FQ_I e8q3 rfl Gu1.2.1.2.2.2.2)
  cases e9q3
  show K mX12_without _ _ 0 0 18 [(0, vr 0), (1, vi p), (2, vi q), (3, vi d)] [vi 0] hc2
  refine K_if_eq (tgt := 31) (dt_at dtX12_without 10 rfl) (by decide) (by first | assumption | exact ⟨by omega, by omega⟩) (fun c2 => ?_) (fun c2 => absurd c2 (by omega))
  refine K_iconst (dt_at dtX12_without 17 rfl) ?_
  exact K_iret (dt_at dtX12_without 18 rfl) rfl rfl (by decide) (by decide) ⟨rfl, Bq3, iq3⟩
set_option maxHeartbeats 4000000 in
set_option maxRecDepth 100000 in
theorem sX12_without_x3 {h : HP} {S : HS} {f : Int → Int} {p q d : Int} (Q0 : MAsk h S f) (hp_ : i32 p) (hq_ : i32 q) (hd_ : i32 d) (k0 : 0 ≤ p ∧ p < sNp S) (k1 : 0 ≤ q ∧ q < sNt S) (kn : ¬ (0 ≤ d ∧ d ≤ 100)) : SpecK mX12_without [vr 0, vi p, vi q, vi d] h (fun o h' => o = .inl (some (vi 0)) ∧ FQ h h' ∧ hI h' 0 0 = 2) := by
  refine Spec_of (by decide +kernel) (Nat.le_of_ble_eq_true rfl) ?_
  have hB := Q0.1.1
  have hNt := hB.1
  have hNp := hB.2.1
  have R := Q0.2.2.2.2
  have hT := R.1
  have hW := hT.1
  refine K_aload_n (dt_at dtX12_without 0 rfl) rfl rfl ?_
  refine K_iconst (dt_at dtX12_without 1 rfl) ?_
  refine K_putI (a := 0) (ci := 12) (k := 0) (dt_at dtX12_without 2 rfl) (show TT 0 = (0, 12) from rfl) rfl (by decide) wF_X12_105 rfl (Or.inl rfl) rfl rfl ?_
  obtain ⟨hu1, eu1⟩ : ∃ z, z = sI h 0 0 0 := ⟨_, rfl⟩
  rw [← eu1]
  obtain ⟨iu1, fu1, au1, ru1⟩ := sI_fx eu1
  have Gu1 := MG_0 Q0 eu1
  refine K_aload_n (dt_at dtX12_without 3 rfl) rfl rfl ?_
  refine K_iload_n (dt_at dtX12_without 4 rfl) rfl rfl ?_
  refine K_callV (M' := mX12_isPerson) (a := 0) (ci := 12) (As := [vi p]) (st := []) (dt_at dtX12_without 5 rfl) (sX12_isPerson_t (MD_np (MG_D0 Gu1)) hNp Gu1.2.2.2 (by omega)) (show TT 0 = (0, 12) from rfl) rfl wL_X12_375 vX12_isPerson rfl npX12_isPerson (by decide) (by decide) (Nat.le_of_ble_eq_true rfl) (by decide) (by decide) GK_E (fun v9 h9 hq => ?_) (fun E h9 hq => by cases hq.1)
  obtain ⟨e9, e8⟩ := hq
  cases e9
  rw [e8]
  show K mX12_without _ _ 0 0 10 [(0, vr 0), (1, vi p), (2, vi q), (3, vi d)] [vi 1] hu1
  refine K_if_eq (tgt := 31) (dt_at dtX12_without 6 rfl) (by decide) (by first | assumption | exact ⟨by omega, by omega⟩) (fun c1 => absurd c1 (by omega)) (fun c1 => ?_)
  refine K_aload_n (dt_at dtX12_without 7 rfl) rfl rfl ?_
  refine K_iload_n (dt_at dtX12_without 8 rfl) rfl rfl ?_
  refine K_callV (M' := mX12_isThing) (a := 0) (ci := 12) (As := [vi q]) (st := []) (dt_at dtX12_without 9 rfl) (sX12_isThing_t (MD_nt (MG_D0 Gu1)) hNt Gu1.2.2.2 (by omega)) (show TT 0 = (0, 12) from rfl) rfl wL_X12_368 vX12_isThing rfl npX12_isThing (by decide) (by decide) (Nat.le_of_ble_eq_true rfl) (by decide) (by decide) GK_E (fun v9 h9 hq => ?_) (fun E h9 hq => by cases hq.1)
  obtain ⟨e9, e8⟩ := hq
  cases e9
  rw [e8]
  show K mX12_without _ _ 0 0 18 [(0, vr 0), (1, vi p), (2, vi q), (3, vi d)] [vi 1] hu1
  refine K_if_eq (tgt := 31) (dt_at dtX12_without 10 rfl) (by decide) (by first | assumption | exact ⟨by omega, by omega⟩) (fun c2 => absurd c2 (by omega)) (fun c2 => ?_)
  refine K_aload_n (dt_at dtX12_without 11 rfl) rfl rfl ?_
  refine K_iload_n (dt_at dtX12_without 12 rfl) rfl rfl ?_
  refine K_iconst (dt_at dtX12_without 13 rfl) ?_
  refine K_iconst (dt_at dtX12_without 14 rfl) ?_
  refine K_callV (M' := mX12_isSoon) (a := 0) (ci := 12) (As := [vi d, vi 0, vi 2]) (st := []) (dt_at dtX12_without 15 rfl) (sX12_isSoon_f Gu1.2.2.2 (by decide) (by assumption) (by omega) (by decide)) (show TT 0 = (0, 12) from rfl) rfl wL_X12_403 vX12_isSoon rfl npX12_isSoon (by decide) (by decide) (Nat.le_of_ble_eq_true rfl) (by decide) (by decide) GK_E (fun v9 hc2 hq => ?_) (fun E h9 hq => by cases hq.1)
  have hqq3 := hq
  obtain ⟨e9q3, e8q3⟩ := hqq3
  obtain ⟨iq3, fq3, aq3, rq3⟩ := sI_fx e8q3
  have Bq3 : FQ h hc2 := FQ_tr Gu1.2.1 (FQ_I e8q3 rfl Gu1.2.1.2.2.2.2)
  cases e9q3
  show K mX12_without _ _ 0 0 28 [(0, vr 0), (1, vi p), (2, vi q), (3, vi d)] [vi 0] hc2
  refine K_if_ne (tgt := 33) (dt_at dtX12_without 16 rfl) (by decide) (by first | assumption | exact ⟨by omega, by omega⟩) (fun c3 => absurd c3 (by omega)) (fun c3 => ?_)
  refine K_iconst (dt_at dtX12_without 17 rfl) ?_
  exact K_iret (dt_at dtX12_without 18 rfl) rfl rfl (by decide) (by decide) ⟨rfl, Bq3, iq3⟩
theorem dis_R {S : HS} {f : Int → Int} {q : Int} {n : Nat} (R : rowOK S f) (hB : hsW S) (hn : n ≤ 7) : wH S (disF f q n) ∧ pkP S (disF f q n) := by
  have lo : ∀ i, 29 ≤ i → disF f q n i = f i := fun i hi => if_neg (by omega)
  refine ⟨⟨fun c a b => ?_, fun c t a b d e z => ?_⟩, fun p a b => ?_⟩
  · rw [wgF_cg (g := f) (sNt S) (fun t t0 t1 => lo _ (by omega))]; exact R.2.2.2.1.1 c a b
  · rw [lo _ (by omega)]; exact R.2.2.2.1.2 c t a b d e z
  · unfold disF
    have := R.2.2.2.2.2 p a b
    by_cases z : 22 ≤ 22 + p ∧ 22 + p < 22 + (n : Int) ∧ f (22 + p) = q
    · rw [if_pos z]; omega
    · rw [if_neg z]; exact this
set_option maxHeartbeats 4000000 in
set_option maxRecDepth 100000 in
theorem lp_X12_without {h : HP} {S : HS} {f : Int → Int} {p q : Int} {n : Nat} (Q0 : MAsk h S f) (hp : 0 ≤ p ∧ p < sNp S) (hqt : 0 ≤ q ∧ q < sNt S) (hn : n ≤ 100) : ∀ (dd k : Nat) (hh : HP), k + dd = sNp S → MG h hh S f (disF f p k) → K mX12_without GK (ZK (fun o h' => o = .inl (some (vi (dysF S (disF f p (sNp S)) n (29 + q) - dysF S f n (29 + q)))) ∧ FQ h h' ∧ hI h' 0 0 = 0) 0 0) 0 0 57 [(5, vi (k : Int)), (4, vi (dysF S f n (29 + q))), (0, vr 0), (1, vi p), (2, vi q), (3, vi (n : Int))] [] hh := by
  intro dd
  induction dd with
  | zero =>
    intro k hh hk G
    have hB := Q0.1.1
    have hNt := hB.1
    have hNp := hB.2.1
    have R := Q0.2.2.2.2
    have hT := R.1
    have hW := hT.1
    have ek : k = sNp S := by omega
    subst ek
    obtain ⟨d1, d2, d3⟩ := disF_ok (q := p) hT R.2.1 hNp
    obtain ⟨d4, d5⟩ := dis_R (q := p) R hB hNp
    have d6 := R.2.2.1
    refine K_iload (dt_at dtX12_without 33 rfl) rfl ?_
    refine K_aload_n (dt_at dtX12_without 34 rfl) rfl rfl ?_
    refine K_get (a := 0) (ci := 12) (k := 2) (v := vi (sNp S : Int)) (dt_at dtX12_without 35 rfl) (show TT 0 = (0, 12) from rfl) rfl (by decide) wF_X12_270 (by show vi (hI hh 0 2) = vi (sNp S : Int); rw [(MD_np (MG_D0 G))]) ?_
    refine K_icmp_ge (tgt := 98) (dt_at dtX12_without 36 rfl) (by decide) (by first | assumption | exact ⟨by omega, by omega⟩) (by first | assumption | exact ⟨by omega, by omega⟩) (fun c1 => ?_) (fun c1 => absurd c1 (by omega))
    refine K_aload_n (dt_at dtX12_without 54 rfl) rfl rfl ?_
    refine K_iload_n (dt_at dtX12_without 55 rfl) rfl rfl ?_
    refine K_callV (M' := mX12_daysGo) (a := 0) (ci := 12) (As := [vi (n : Int)]) (st := []) (dt_at dtX12_without 56 rfl) (sX12_daysGo (n := n) (MG_D7 G) d1 d2 d4 d5 (MG_49 G) (by omega) (by omega)) (show TT 0 = (0, 12) from rfl) rfl wL_X12_400 vX12_daysGo rfl npX12_daysGo (by decide) (by decide) (Nat.le_of_ble_eq_true rfl) (by decide) (by decide) GK_E (fun v9 hc1 hq => ?_) (fun E h9 hq => by cases hq.1)
    have hqq2 := hq
    obtain ⟨e9q2, dq2, iq2⟩ := hqq2
    have Gq2 : MG h hc1 S f (dysF S (disF f p (sNp S)) n) := MG_day G dq2
    cases e9q2
    show K mX12_without _ _ 0 0 103 [(5, vi (sNp S : Int)), (4, vi (dysF S f n (29 + q))), (0, vr 0), (1, vi p), (2, vi q), (3, vi (n : Int))] [] hc1
    refine K_aload_n (dt_at dtX12_without 57 rfl) rfl rfl ?_
    refine K_get (a := 0) (ci := 12) (k := 42) (v := vr 18) (dt_at dtX12_without 58 rfl) (show TT 0 = (0, 12) from rfl) rfl (by decide) wF_X12_72 rfl ?_
    refine K_sipush (dt_at dtX12_without 59 rfl) (by decide) ?_
    refine K_iload_n (dt_at dtX12_without 60 rfl) rfl rfl ?_
    refine K_iadd (dt_at dtX12_without 61 rfl) ?_
    refine K_iald (dt_at dtX12_without 62 rfl) (show TT 18 = (1, 154) from rfl) (by omega) (by omega) ?_
    rw [show hA hc1 18 (134 + q) = ((dysF S (disF f p (sNp S)) n) (29 + q)) from RV_s (MG_D7 Gq2).2.2.2 (p := q) (by omega) (by omega)]
    refine K_iload (dt_at dtX12_without 63 rfl) rfl ?_
    refine K_isub (dt_at dtX12_without 64 rfl) ?_
    exact K_iret (dt_at dtX12_without 65 rfl) rfl rfl (by decide) (by decide) ⟨rfl, Gq2.2.1, Gq2.2.2.2⟩
  | succ dd ih =>
    intro k hh hk G
    have hB := Q0.1.1
    have hNt := hB.1
    have hNp := hB.2.1
    have R := Q0.2.2.2.2
    have hT := R.1
    have hW := hT.1
    have wk := (hW.2 (k : Int) (by omega) (by omega)).2.2.2
    refine K_iload (dt_at dtX12_without 33 rfl) rfl ?_
    refine K_aload_n (dt_at dtX12_without 34 rfl) rfl rfl ?_
    refine K_get (a := 0) (ci := 12) (k := 2) (v := vi (sNp S : Int)) (dt_at dtX12_without 35 rfl) (show TT 0 = (0, 12) from rfl) rfl (by decide) wF_X12_270 (by show vi (hI hh 0 2) = vi (sNp S : Int); rw [(MD_np (MG_D0 G))]) ?_
    refine K_icmp_ge (tgt := 98) (dt_at dtX12_without 36 rfl) (by decide) (by first | assumption | exact ⟨by omega, by omega⟩) (by first | assumption | exact ⟨by omega, by omega⟩) (fun c1 => absurd c1 (by omega)) (fun c1 => ?_)
    refine K_aload_n (dt_at dtX12_without 37 rfl) rfl rfl ?_
    refine K_get (a := 0) (ci := 12) (k := 42) (v := vr 18) (dt_at dtX12_without 38 rfl) (show TT 0 = (0, 12) from rfl) rfl (by decide) wF_X12_72 rfl ?_
    refine K_bipush (dt_at dtX12_without 39 rfl) (by decide) ?_
    refine K_iload (dt_at dtX12_without 40 rfl) rfl ?_
    refine K_iadd (dt_at dtX12_without 41 rfl) ?_
    refine K_iald (dt_at dtX12_without 42 rfl) (show TT 18 = (1, 154) from rfl) (by omega) (by omega) ?_
    rw [show hA hh 18 (70 + (k : Int)) = (f (22 + (k : Int))) from RV_k (MG_D0 G).2.2.2 (p := (k : Int)) (by omega) (by omega)]
    refine K_iload_n (dt_at dtX12_without 43 rfl) rfl rfl ?_
    refine K_icmp_ne (tgt := 92) (dt_at dtX12_without 44 rfl) (by decide) (by first | assumption | exact ⟨by omega, by omega⟩) (by first | assumption | exact ⟨by omega, by omega⟩) (fun c2 => ?_) (fun c2 => ?_)
    · refine K_iinc (ls' := [(5, vi ((k : Int) + 1)), (4, vi (dysF S f n (29 + q))), (0, vr 0), (1, vi p), (2, vi q), (3, vi (n : Int))]) (dt_at dtX12_without 52 rfl) rfl (by decide) rfl ?_
      refine K_goto (tgt := 57) (dt_at dtX12_without 53 rfl) (by decide) ?_
      exact K_pk [0, 1, 2, 3, 4, 5] rfl (ih (k + 1) hh (by omega) (by rw [← disF_f (by assumption)]; exact G))
    · refine K_aload_n (dt_at dtX12_without 45 rfl) rfl rfl ?_
      refine K_get (a := 0) (ci := 12) (k := 42) (v := vr 18) (dt_at dtX12_without 46 rfl) (show TT 0 = (0, 12) from rfl) rfl (by decide) wF_X12_72 rfl ?_
      refine K_sipush (dt_at dtX12_without 47 rfl) (by decide) ?_
      refine K_iload (dt_at dtX12_without 48 rfl) rfl ?_
      refine K_iadd (dt_at dtX12_without 49 rfl) ?_
      refine K_iconst (dt_at dtX12_without 50 rfl) ?_
      refine K_iast (dt_at dtX12_without 51 rfl) (show TT 18 = (1, 154) from rfl) (by omega) (by omega) ?_
      obtain ⟨hu1, eu1⟩ : ∃ z, z = sA hh 18 (147 + (k : Int)) (-1) := ⟨_, rfl⟩
      rw [← eu1]
      obtain ⟨au1, fu1, iu1, ru1⟩ := sA_fx eu1
      have Gu1 : MG h hu1 S f (upI (disF f p k) (22 + (k : Int)) (-1)) := MG_up G (j := 22 + (k : Int)) (by omega) (by omega) (by rw [pm_k (by omega)]; omega) eu1
      refine K_iinc (ls' := [(5, vi ((k : Int) + 1)), (4, vi (dysF S f n (29 + q))), (0, vr 0), (1, vi p), (2, vi q), (3, vi (n : Int))]) (dt_at dtX12_without 52 rfl) rfl (by decide) rfl ?_
      refine K_goto (tgt := 57) (dt_at dtX12_without 53 rfl) (by decide) ?_
      exact K_pk [0, 1, 2, 3, 4, 5] rfl (ih (k + 1) hu1 (by omega) (by rw [← disF_t (by assumption)]; exact Gu1))
set_option maxHeartbeats 4000000 in
set_option maxRecDepth 100000 in
theorem sX12_without {h : HP} {S : HS} {f : Int → Int} {p q : Int} {n : Nat} (Q0 : MAsk h S f) (hp : 0 ≤ p ∧ p < sNp S) (hqt : 0 ≤ q ∧ q < sNt S) (hn : n ≤ 100) : SpecK mX12_without [vr 0, vi p, vi q, vi (n : Int)] h (fun o h' => o = .inl (some (vi (dysF S (disF f p (sNp S)) n (29 + q) - dysF S f n (29 + q)))) ∧ FQ h h' ∧ hI h' 0 0 = 0) := by
  refine Spec_of (by decide +kernel) (Nat.le_of_ble_eq_true rfl) ?_
  have hB := Q0.1.1
  have hNt := hB.1
  have hNp := hB.2.1
  have R := Q0.2.2.2.2
  have hT := R.1
  have hW := hT.1
  obtain ⟨n1, n2, n3, n4, n5⟩ := dys_R hB R (n := n) (by omega)
  refine K_aload_n (dt_at dtX12_without 0 rfl) rfl rfl ?_
  refine K_iconst (dt_at dtX12_without 1 rfl) ?_
  refine K_putI (a := 0) (ci := 12) (k := 0) (dt_at dtX12_without 2 rfl) (show TT 0 = (0, 12) from rfl) rfl (by decide) wF_X12_105 rfl (Or.inl rfl) rfl rfl ?_
  obtain ⟨hu1, eu1⟩ : ∃ z, z = sI h 0 0 0 := ⟨_, rfl⟩
  rw [← eu1]
  obtain ⟨iu1, fu1, au1, ru1⟩ := sI_fx eu1
  have Gu1 := MG_0 Q0 eu1
  refine K_aload_n (dt_at dtX12_without 3 rfl) rfl rfl ?_
  refine K_iload_n (dt_at dtX12_without 4 rfl) rfl rfl ?_
  refine K_callV (M' := mX12_isPerson) (a := 0) (ci := 12) (As := [vi p]) (st := []) (dt_at dtX12_without 5 rfl) (sX12_isPerson_t (MD_np (MG_D0 Gu1)) hNp Gu1.2.2.2 (by omega)) (show TT 0 = (0, 12) from rfl) rfl wL_X12_375 vX12_isPerson rfl npX12_isPerson (by decide) (by decide) (Nat.le_of_ble_eq_true rfl) (by decide) (by decide) GK_E (fun v9 h9 hq => ?_) (fun E h9 hq => by cases hq.1)
  obtain ⟨e9, e8⟩ := hq
  cases e9
  rw [e8]
  show K mX12_without _ _ 0 0 10 [(0, vr 0), (1, vi p), (2, vi q), (3, vi (n : Int))] [vi 1] hu1
  refine K_if_eq (tgt := 31) (dt_at dtX12_without 6 rfl) (by decide) (by first | assumption | exact ⟨by omega, by omega⟩) (fun c1 => absurd c1 (by omega)) (fun c1 => ?_)
  refine K_aload_n (dt_at dtX12_without 7 rfl) rfl rfl ?_
  refine K_iload_n (dt_at dtX12_without 8 rfl) rfl rfl ?_
  refine K_callV (M' := mX12_isThing) (a := 0) (ci := 12) (As := [vi q]) (st := []) (dt_at dtX12_without 9 rfl) (sX12_isThing_t (MD_nt (MG_D0 Gu1)) hNt Gu1.2.2.2 (by omega)) (show TT 0 = (0, 12) from rfl) rfl wL_X12_368 vX12_isThing rfl npX12_isThing (by decide) (by decide) (Nat.le_of_ble_eq_true rfl) (by decide) (by decide) GK_E (fun v9 h9 hq => ?_) (fun E h9 hq => by cases hq.1)
  obtain ⟨e9, e8⟩ := hq
  cases e9
  rw [e8]
  show K mX12_without _ _ 0 0 18 [(0, vr 0), (1, vi p), (2, vi q), (3, vi (n : Int))] [vi 1] hu1
  refine K_if_eq (tgt := 31) (dt_at dtX12_without 10 rfl) (by decide) (by first | assumption | exact ⟨by omega, by omega⟩) (fun c2 => absurd c2 (by omega)) (fun c2 => ?_)
  refine K_aload_n (dt_at dtX12_without 11 rfl) rfl rfl ?_
  refine K_iload_n (dt_at dtX12_without 12 rfl) rfl rfl ?_
  refine K_iconst (dt_at dtX12_without 13 rfl) ?_
  refine K_iconst (dt_at dtX12_without 14 rfl) ?_
  refine K_callV (M' := mX12_isSoon) (a := 0) (ci := 12) (As := [vi (n : Int), vi 0, vi 2]) (st := []) (dt_at dtX12_without 15 rfl) (sX12_isSoon_t Gu1.2.2.2 (by omega) (by omega)) (show TT 0 = (0, 12) from rfl) rfl wL_X12_403 vX12_isSoon rfl npX12_isSoon (by decide) (by decide) (Nat.le_of_ble_eq_true rfl) (by decide) (by decide) GK_E (fun v9 h9 hq => ?_) (fun E h9 hq => by cases hq.1)
  obtain ⟨e9, e8⟩ := hq
  cases e9
  rw [e8]
  show K mX12_without _ _ 0 0 28 [(0, vr 0), (1, vi p), (2, vi q), (3, vi (n : Int))] [vi 1] hu1
  refine K_if_ne (tgt := 33) (dt_at dtX12_without 16 rfl) (by decide) (by first | assumption | exact ⟨by omega, by omega⟩) (fun c3 => ?_) (fun c3 => absurd c3 (by omega))
  refine K_aload_n (dt_at dtX12_without 19 rfl) rfl rfl ?_
  refine K_iload_n (dt_at dtX12_without 20 rfl) rfl rfl ?_
  refine K_callV (M' := mX12_goesTo) (a := 0) (ci := 12) (As := [vi (n : Int)]) (st := []) (dt_at dtX12_without 21 rfl) (sX12_goesTo Gu1 (by omega)) (show TT 0 = (0, 12) from rfl) rfl wL_X12_406 vX12_goesTo rfl npX12_goesTo (by decide) (by decide) (Nat.le_of_ble_eq_true rfl) (by decide) (by decide) GK_E (fun v9 hc2 hq => ?_) (fun E h9 hq => by cases hq.1)
  have hqq3 := hq
  obtain ⟨e9q3, Gq3, kq3⟩ := hqq3
  cases e9q3
  show K mX12_without _ _ 0 0 38 [(0, vr 0), (1, vi p), (2, vi q), (3, vi (n : Int))] [] hc2
  refine K_aload_n (dt_at dtX12_without 22 rfl) rfl rfl ?_
  refine K_get (a := 0) (ci := 12) (k := 42) (v := vr 18) (dt_at dtX12_without 23 rfl) (show TT 0 = (0, 12) from rfl) rfl (by decide) wF_X12_72 rfl ?_
  refine K_sipush (dt_at dtX12_without 24 rfl) (by decide) ?_
  refine K_iload_n (dt_at dtX12_without 25 rfl) rfl rfl ?_
  refine K_iadd (dt_at dtX12_without 26 rfl) ?_
  refine K_iald (dt_at dtX12_without 27 rfl) (show TT 18 = (1, 154) from rfl) (by omega) (by omega) ?_
  rw [show hA hc2 18 (134 + q) = ((dysF S f n) (29 + q)) from RV_s (MG_D7 Gq3).2.2.2 (p := q) (by omega) (by omega)]
  refine K_istore (ls' := [(4, vi ((dysF S f n) (29 + q))), (0, vr 0), (1, vi p), (2, vi q), (3, vi (n : Int))]) (dt_at dtX12_without 28 rfl) (by decide) rfl ?_
  refine K_aload_n (dt_at dtX12_without 29 rfl) rfl rfl ?_
  refine K_callV (M' := mX12_tries) (a := 0) (ci := 12) (As := []) (st := []) (dt_at dtX12_without 30 rfl) (sX12_tries) (show TT 0 = (0, 12) from rfl) rfl wL_X12_397 vX12_tries rfl npX12_tries (by decide) (by decide) (Nat.le_of_ble_eq_true rfl) (by decide) (by decide) GK_E (fun v9 hc4 hq => ?_) (fun E h9 hq => by cases hq.1)
  have hqq5 := hq
  obtain ⟨e9q5, t1q5, t2q5, t3q5, t4q5⟩ := hqq5
  have Gq5 := MG_try Gq3 t1q5 t2q5 t3q5 t4q5
  cases e9q5
  show K mX12_without _ _ 0 0 54 [(4, vi ((dysF S f n) (29 + q))), (0, vr 0), (1, vi p), (2, vi q), (3, vi (n : Int))] [] hc4
  refine K_iconst (dt_at dtX12_without 31 rfl) ?_
  refine K_istore (ls' := [(5, vi 0), (4, vi ((dysF S f n) (29 + q))), (0, vr 0), (1, vi p), (2, vi q), (3, vi (n : Int))]) (dt_at dtX12_without 32 rfl) (by decide) rfl ?_
  exact K_pk [0, 1, 2, 3, 4, 5] rfl (lp_X12_without Q0 hp hqt hn (sNp S) 0 hc4 (by omega) (by rw [disF_0]; exact Gq5))
