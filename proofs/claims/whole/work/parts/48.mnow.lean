def mX12_packsFor : MI := (yX12_packsFor, cX12_packsFor, 4, (some .int), rmK 1 0)
def tX12_packsFor : List (Nat × Instr × Nat) := [(0, .iconst 0, 1), (1, .istore_n 2, 1), (2, .iconst 0, 1), (3, .istore_n 3, 1), (4, .iload_n 3, 1), (5, .aload_n 0, 1), (6, .getfield 270, 3), (9, .if_icmp .ge 32, 3), (12, .iload_n 2, 1), (13, .aload_n 0, 1), (14, .getfield 72, 3), (17, .bipush 70, 2), (19, .iload_n 3, 1), (20, .iadd, 1), (21, .iaload, 1), (22, .iload_n 1, 1), (23, .if_icmp .ne 9, 3), (26, .iconst 1, 1), (27, .iload_n 3, 1), (28, .ishl, 1), (29, .goto 4, 3), (32, .iconst 0, 1), (33, .ior, 1), (34, .istore_n 2, 1), (35, .iinc 3 1, 3), (38, .goto (-34), 3), (41, .iload_n 2, 1), (42, .ireturn, 1)]
theorem dtX12_packsFor : tX12_packsFor.all (fun q => decide (decode cX12_packsFor q.1 = .ok (q.2.1, q.2.2))) = true := by decide +kernel
theorem npX12_packsFor : (parseMethodDescriptor (mY mX12_packsFor).desc).map (fun d => d.parameters.length) = some 1 := by decide +kernel
theorem vX12_packsFor : mV mX12_packsFor := ⟨wI_X12_packsFor, wS_X12_packsFor, wN_X12, wC_X12_packsFor, by decide +kernel, by decide +kernel⟩
set_option maxHeartbeats 4000000 in
set_option maxRecDepth 100000 in
theorem lp_X12_packsFor {Z : CT → State → Prop} {h0 h : HP} {S : HS} {f : Int → Int} {p : Int} (d : MD h0 h 0 S f) (hW : rW f) (hp : i32 p) (kx : K mX12_packsFor GK Z 0 0 41 [(3, vi (sNp S : Int)), (2, vi (bitN (fun j => decide (f (22 + (j : Int)) = p)) (sNp S))), (0, vr 0), (1, vi p)] [] h) : ∀ (dd k : Nat), k + dd = (sNp S) → K mX12_packsFor GK Z 0 0 4 [(3, vi (k : Int)), (2, vi (bitN (fun j => decide (f (22 + (j : Int)) = p)) k)), (0, vr 0), (1, vi p)] [] h := by
  intro dd
  induction dd with
  | zero =>
    intro k hk
    have hB := d.1.1
    have hNt := hB.1
    have hNp := hB.2.1
    have ek : k = (sNp S) := by omega
    subst ek
    refine K_iload_n (dt_at dtX12_packsFor 4 rfl) rfl rfl ?_
    refine K_aload_n (dt_at dtX12_packsFor 5 rfl) rfl rfl ?_
    refine K_get (a := 0) (ci := 12) (k := 2) (v := vi (sNp S : Int)) (dt_at dtX12_packsFor 6 rfl) (show TT 0 = (0, 12) from rfl) rfl (by decide) wF_X12_270 (by show vi (hI h 0 2) = vi (sNp S : Int); rw [(MD_np d)]) ?_
    refine K_icmp_ge (tgt := 41) (dt_at dtX12_packsFor 7 rfl) (by decide) (by first | assumption | exact ⟨by omega, by omega⟩) (by first | assumption | exact ⟨by omega, by omega⟩) (fun c1 => ?_) (fun c1 => absurd c1 (by omega))
    exact K_pk [0, 1, 2, 3] rfl kx
  | succ dd ih =>
    intro k hk
    have hB := d.1.1
    have hNt := hB.1
    have hNp := hB.2.1
    have wk := hW.2 (k : Int) (by omega) (by omega)
    refine K_iload_n (dt_at dtX12_packsFor 4 rfl) rfl rfl ?_
    refine K_aload_n (dt_at dtX12_packsFor 5 rfl) rfl rfl ?_
    refine K_get (a := 0) (ci := 12) (k := 2) (v := vi (sNp S : Int)) (dt_at dtX12_packsFor 6 rfl) (show TT 0 = (0, 12) from rfl) rfl (by decide) wF_X12_270 (by show vi (hI h 0 2) = vi (sNp S : Int); rw [(MD_np d)]) ?_
    refine K_icmp_ge (tgt := 41) (dt_at dtX12_packsFor 7 rfl) (by decide) (by first | assumption | exact ⟨by omega, by omega⟩) (by first | assumption | exact ⟨by omega, by omega⟩) (fun c1 => absurd c1 (by omega)) (fun c1 => ?_)
    refine K_iload_n (dt_at dtX12_packsFor 8 rfl) rfl rfl ?_
    refine K_aload_n (dt_at dtX12_packsFor 9 rfl) rfl rfl ?_
    refine K_get (a := 0) (ci := 12) (k := 42) (v := vr 18) (dt_at dtX12_packsFor 10 rfl) (show TT 0 = (0, 12) from rfl) rfl (by decide) wF_X12_72 rfl ?_
    refine K_bipush (dt_at dtX12_packsFor 11 rfl) (by decide) ?_
    refine K_iload_n (dt_at dtX12_packsFor 12 rfl) rfl rfl ?_
    refine K_iadd (dt_at dtX12_packsFor 13 rfl) ?_
    refine K_iald (dt_at dtX12_packsFor 14 rfl) (show TT 18 = (1, 154) from rfl) (by omega) (by omega) ?_
    rw [show hA h 18 (70 + (k : Int)) = (f (22 + (k : Int))) from RV_k d.2.2.2 (p := (k : Int)) (by omega) (by omega)]
    refine K_iload_n (dt_at dtX12_packsFor 15 rfl) rfl rfl ?_
    refine K_icmp_ne (tgt := 32) (dt_at dtX12_packsFor 16 rfl) (by decide) (by first | assumption | exact ⟨by omega, by omega⟩) (by first | assumption | exact ⟨by omega, by omega⟩) (fun c2 => ?_) (fun c2 => ?_)
    · refine K_iconst (dt_at dtX12_packsFor 21 rfl) ?_
      refine K_ior (dt_at dtX12_packsFor 22 rfl) ?_
      refine K_istore_n (ls' := [(2, vi (bOr (bitN (fun j => decide (f (22 + (j : Int)) = p)) k) 0)), (3, vi (k : Int)), (0, vr 0), (1, vi p)]) (dt_at dtX12_packsFor 23 rfl) rfl (by decide) rfl ?_
      refine K_iinc (ls' := [(3, vi ((k : Int) + 1)), (2, vi (bOr (bitN (fun j => decide (f (22 + (j : Int)) = p)) k) 0)), (0, vr 0), (1, vi p)]) (dt_at dtX12_packsFor 24 rfl) rfl (by decide) rfl ?_
      refine K_goto (tgt := 4) (dt_at dtX12_packsFor 25 rfl) (by decide) ?_
      refine K_pk [0, 1, 2, 3] (ls' := [(3, vi ((k : Int) + 1)), (2, vi (bOr (bitN (fun j => decide (f (22 + (j : Int)) = p)) k) 0)), (0, vr 0), (1, vi p)]) rfl ?_
      exact K_cg (ls' := [(3, vi ((k + 1 : Nat) : Int)), (2, vi (bitN (fun j => decide (f (22 + (j : Int)) = p)) (k + 1))), (0, vr 0), (1, vi p)]) (h' := h) (by rw [bOr_0 (bitN32 _ _), bitN_f (p := (fun j => decide (f (22 + (j : Int)) = p))) (by simpa using by assumption)]; rfl) (by rfl) (ih (k + 1) (by omega))
    · refine K_iconst (dt_at dtX12_packsFor 17 rfl) ?_
      refine K_iload_n (dt_at dtX12_packsFor 18 rfl) rfl rfl ?_
      refine K_ishl (dt_at dtX12_packsFor 19 rfl) ?_
      refine K_goto (tgt := 33) (dt_at dtX12_packsFor 20 rfl) (by decide) ?_
      refine K_ior (dt_at dtX12_packsFor 22 rfl) ?_
      refine K_istore_n (ls' := [(2, vi (bOr (bitN (fun j => decide (f (22 + (j : Int)) = p)) k) (bShl 1 (k : Int)))), (3, vi (k : Int)), (0, vr 0), (1, vi p)]) (dt_at dtX12_packsFor 23 rfl) rfl (by decide) rfl ?_
      refine K_iinc (ls' := [(3, vi ((k : Int) + 1)), (2, vi (bOr (bitN (fun j => decide (f (22 + (j : Int)) = p)) k) (bShl 1 (k : Int)))), (0, vr 0), (1, vi p)]) (dt_at dtX12_packsFor 24 rfl) rfl (by decide) rfl ?_
      refine K_goto (tgt := 4) (dt_at dtX12_packsFor 25 rfl) (by decide) ?_
      refine K_pk [0, 1, 2, 3] (ls' := [(3, vi ((k : Int) + 1)), (2, vi (bOr (bitN (fun j => decide (f (22 + (j : Int)) = p)) k) (bShl 1 (k : Int)))), (0, vr 0), (1, vi p)]) rfl ?_
      exact K_cg (ls' := [(3, vi ((k + 1 : Nat) : Int)), (2, vi (bitN (fun j => decide (f (22 + (j : Int)) = p)) (k + 1))), (0, vr 0), (1, vi p)]) (h' := h) (by rw [bitN_t (p := (fun j => decide (f (22 + (j : Int)) = p))) (by simpa using by assumption)]; rfl) (by rfl) (ih (k + 1) (by omega))
set_option maxHeartbeats 4000000 in
set_option maxRecDepth 100000 in
theorem sX12_packsFor {h0 h : HP} {S : HS} {f : Int → Int} {p : Int} (d : MD h0 h 0 S f) (hW : rW f) (hp : i32 p) : SpecK mX12_packsFor [vr 0, vi p] h (fun o h' => o = .inl (some (vi (bitN (fun j => decide (f (22 + (j : Int)) = p)) (sNp S)))) ∧ h' = h) := by
  refine Spec_of (by decide +kernel) (Nat.le_of_ble_eq_true rfl) ?_
  have hB := d.1.1
  have hNt := hB.1
  have hNp := hB.2.1
  refine K_iconst (dt_at dtX12_packsFor 0 rfl) ?_
  refine K_istore_n (ls' := [(2, vi 0), (0, vr 0), (1, vi p)]) (dt_at dtX12_packsFor 1 rfl) rfl (by decide) rfl ?_
  refine K_iconst (dt_at dtX12_packsFor 2 rfl) ?_
  refine K_istore_n (ls' := [(3, vi 0), (2, vi 0), (0, vr 0), (1, vi p)]) (dt_at dtX12_packsFor 3 rfl) rfl (by decide) rfl ?_
  refine K_pk [0, 1, 2, 3] rfl (lp_X12_packsFor d hW hp ?_ (sNp S) 0 (by omega))
  refine K_iload_n (dt_at dtX12_packsFor 26 rfl) rfl rfl ?_
  exact K_iret (dt_at dtX12_packsFor 27 rfl) rfl rfl (by decide) (by decide) ⟨rfl, rfl⟩
def mX12_piecesOf : MI := (yX12_piecesOf, cX12_piecesOf, 4, (some .int), rmK 1 0)
def tX12_piecesOf : List (Nat × Instr × Nat) := [(0, .iconst 0, 1), (1, .istore_n 2, 1), (2, .iconst 0, 1), (3, .istore_n 3, 1), (4, .iload_n 3, 1), (5, .aload_n 0, 1), (6, .getfield 270, 3), (9, .if_icmp .ge 26, 3), (12, .iload_n 2, 1), (13, .aload_n 0, 1), (14, .getfield 72, 3), (17, .bipush 15, 2), (19, .bipush 6, 2), (21, .iload_n 3, 1), (22, .imul, 1), (23, .iadd, 1), (24, .iload_n 1, 1), (25, .iadd, 1), (26, .iaload, 1), (27, .iadd, 1), (28, .istore_n 2, 1), (29, .iinc 3 1, 3), (32, .goto (-28), 3), (35, .iload_n 2, 1), (36, .ireturn, 1)]
theorem dtX12_piecesOf : tX12_piecesOf.all (fun q => decide (decode cX12_piecesOf q.1 = .ok (q.2.1, q.2.2))) = true := by decide +kernel
theorem npX12_piecesOf : (parseMethodDescriptor (mY mX12_piecesOf).desc).map (fun d => d.parameters.length) = some 1 := by decide +kernel
theorem vX12_piecesOf : mV mX12_piecesOf := ⟨wI_X12_piecesOf, wS_X12_piecesOf, wN_X12, wC_X12_piecesOf, by decide +kernel, by decide +kernel⟩
set_option maxHeartbeats 4000000 in
set_option maxRecDepth 100000 in
theorem lp_X12_piecesOf {Z : CT → State → Prop} {h0 h : HP} {S : HS} {f : Int → Int} {t : Int} (d : MD h0 h 0 S f) (hW : rW f) (ht : 0 ≤ t ∧ t < 6) (kx : K mX12_piecesOf GK Z 0 0 35 [(3, vi (sNp S : Int)), (2, vi (poF f t (sNp S))), (0, vr 0), (1, vi t)] [] h) : ∀ (dd k : Nat), k + dd = (sNp S) → K mX12_piecesOf GK Z 0 0 4 [(3, vi (k : Int)), (2, vi (poF f t k)), (0, vr 0), (1, vi t)] [] h := by
  intro dd
  induction dd with
  | zero =>
    intro k hk
    have hB := d.1.1
    have hNt := hB.1
    have hNp := hB.2.1
    have ek : k = (sNp S) := by omega
    subst ek
    refine K_iload_n (dt_at dtX12_piecesOf 4 rfl) rfl rfl ?_
    refine K_aload_n (dt_at dtX12_piecesOf 5 rfl) rfl rfl ?_
    refine K_get (a := 0) (ci := 12) (k := 2) (v := vi (sNp S : Int)) (dt_at dtX12_piecesOf 6 rfl) (show TT 0 = (0, 12) from rfl) rfl (by decide) wF_X12_270 (by show vi (hI h 0 2) = vi (sNp S : Int); rw [(MD_np d)]) ?_
    refine K_icmp_ge (tgt := 35) (dt_at dtX12_piecesOf 7 rfl) (by decide) (by first | assumption | exact ⟨by omega, by omega⟩) (by first | assumption | exact ⟨by omega, by omega⟩) (fun c1 => ?_) (fun c1 => absurd c1 (by omega))
    exact K_pk [0, 1, 2, 3] rfl kx
  | succ dd ih =>
    intro k hk
    have hB := d.1.1
    have hNt := hB.1
    have hNp := hB.2.1
    have wk := hW.2 (k : Int) (by omega) (by omega)
    refine K_iload_n (dt_at dtX12_piecesOf 4 rfl) rfl rfl ?_
    refine K_aload_n (dt_at dtX12_piecesOf 5 rfl) rfl rfl ?_
    refine K_get (a := 0) (ci := 12) (k := 2) (v := vi (sNp S : Int)) (dt_at dtX12_piecesOf 6 rfl) (show TT 0 = (0, 12) from rfl) rfl (by decide) wF_X12_270 (by show vi (hI h 0 2) = vi (sNp S : Int); rw [(MD_np d)]) ?_
    refine K_icmp_ge (tgt := 35) (dt_at dtX12_piecesOf 7 rfl) (by decide) (by first | assumption | exact ⟨by omega, by omega⟩) (by first | assumption | exact ⟨by omega, by omega⟩) (fun c1 => absurd c1 (by omega)) (fun c1 => ?_)
    refine K_iload_n (dt_at dtX12_piecesOf 8 rfl) rfl rfl ?_
    refine K_aload_n (dt_at dtX12_piecesOf 9 rfl) rfl rfl ?_
    refine K_get (a := 0) (ci := 12) (k := 42) (v := vr 18) (dt_at dtX12_piecesOf 10 rfl) (show TT 0 = (0, 12) from rfl) rfl (by decide) wF_X12_72 rfl ?_
    refine K_bipush (dt_at dtX12_piecesOf 11 rfl) (by decide) ?_
    refine K_bipush (dt_at dtX12_piecesOf 12 rfl) (by decide) ?_
    refine K_iload_n (dt_at dtX12_piecesOf 13 rfl) rfl rfl ?_
    refine K_imul (dt_at dtX12_piecesOf 14 rfl) ?_
    refine K_iadd (dt_at dtX12_piecesOf 15 rfl) ?_
    refine K_iload_n (dt_at dtX12_piecesOf 16 rfl) rfl rfl ?_
    refine K_iadd (dt_at dtX12_piecesOf 17 rfl) ?_
    refine K_iald (dt_at dtX12_piecesOf 18 rfl) (show TT 18 = (1, 154) from rfl) (by omega) (by omega) ?_
    rw [show hA h 18 ((15 + (6 * (k : Int))) + t) = (f (35 + (k : Int) * 6 + t)) from RV_i d.2.2.2 (c := (k : Int)) (t := t) (by omega) (by omega) (by omega)]
    refine K_iadd (dt_at dtX12_piecesOf 19 rfl) ?_
    refine K_istore_n (ls' := [(2, vi ((poF f t k) + (f (35 + (k : Int) * 6 + t)))), (3, vi (k : Int)), (0, vr 0), (1, vi t)]) (dt_at dtX12_piecesOf 20 rfl) rfl (by decide) rfl ?_
    refine K_iinc (ls' := [(3, vi ((k : Int) + 1)), (2, vi ((poF f t k) + (f (35 + (k : Int) * 6 + t)))), (0, vr 0), (1, vi t)]) (dt_at dtX12_piecesOf 21 rfl) rfl (by decide) rfl ?_
    refine K_goto (tgt := 4) (dt_at dtX12_piecesOf 22 rfl) (by decide) ?_
    refine K_pk [0, 1, 2, 3] (ls' := [(3, vi ((k : Int) + 1)), (2, vi ((poF f t k) + (f (35 + (k : Int) * 6 + t)))), (0, vr 0), (1, vi t)]) rfl ?_
    exact K_cg (ls' := [(3, vi ((k + 1 : Nat) : Int)), (2, vi (poF f t (k + 1))), (0, vr 0), (1, vi t)]) (h' := h) (by rfl) (by rfl) (ih (k + 1) (by omega))
set_option maxHeartbeats 4000000 in
set_option maxRecDepth 100000 in
theorem sX12_piecesOf {h0 h : HP} {S : HS} {f : Int → Int} {t : Int} (d : MD h0 h 0 S f) (hW : rW f) (ht : 0 ≤ t ∧ t < 6) : SpecK mX12_piecesOf [vr 0, vi t] h (fun o h' => o = .inl (some (vi (poF f t (sNp S)))) ∧ h' = h) := by
  refine Spec_of (by decide +kernel) (Nat.le_of_ble_eq_true rfl) ?_
  have hB := d.1.1
  have hNt := hB.1
  have hNp := hB.2.1
  refine K_iconst (dt_at dtX12_piecesOf 0 rfl) ?_
  refine K_istore_n (ls' := [(2, vi 0), (0, vr 0), (1, vi t)]) (dt_at dtX12_piecesOf 1 rfl) rfl (by decide) rfl ?_
  refine K_iconst (dt_at dtX12_piecesOf 2 rfl) ?_
  refine K_istore_n (ls' := [(3, vi 0), (2, vi 0), (0, vr 0), (1, vi t)]) (dt_at dtX12_piecesOf 3 rfl) rfl (by decide) rfl ?_
  refine K_pk [0, 1, 2, 3] rfl (lp_X12_piecesOf d hW ht ?_ (sNp S) 0 (by omega))
  refine K_iload_n (dt_at dtX12_piecesOf 23 rfl) rfl rfl ?_
  exact K_iret (dt_at dtX12_piecesOf 24 rfl) rfl rfl (by decide) (by decide) ⟨rfl, rfl⟩
def mX12_inAll : MI := (yX12_inAll, cX12_inAll, 3, (some .int), rmK 2 0)
def tX12_inAll : List (Nat × Instr × Nat) := [(0, .iconst 0, 1), (1, .istore_n 1, 1), (2, .iconst 0, 1), (3, .istore_n 2, 1), (4, .iload_n 2, 1), (5, .aload_n 0, 1), (6, .getfield 267, 3), (9, .if_icmp .ge 34, 3), (12, .iload_n 1, 1), (13, .aload_n 0, 1), (14, .getfield 16, 3), (17, .iload_n 2, 1), (18, .iaload, 1), (19, .aload_n 0, 1), (20, .getfield 72, 3), (23, .bipush 57, 2), (25, .iload_n 2, 1), (26, .iadd, 1), (27, .iaload, 1), (28, .aload_n 0, 1), (29, .iload_n 2, 1), (30, .invokevirtual 343, 3), (33, .iadd, 1), (34, .imul, 1), (35, .iadd, 1), (36, .istore_n 1, 1), (37, .iinc 2 1, 3), (40, .goto (-36), 3), (43, .iload_n 1, 1), (44, .ireturn, 1)]
theorem dtX12_inAll : tX12_inAll.all (fun q => decide (decode cX12_inAll q.1 = .ok (q.2.1, q.2.2))) = true := by decide +kernel
theorem npX12_inAll : (parseMethodDescriptor (mY mX12_inAll).desc).map (fun d => d.parameters.length) = some 0 := by decide +kernel
theorem vX12_inAll : mV mX12_inAll := ⟨wI_X12_inAll, wS_X12_inAll, wN_X12, wC_X12_inAll, by decide +kernel, by decide +kernel⟩
set_option maxHeartbeats 4000000 in
set_option maxRecDepth 100000 in
theorem lp_X12_inAll {Z : CT → State → Prop} {h0 h : HP} {S : HS} {f : Int → Int} (d : MD h0 h 0 S f) (hW : rW f) (kx : K mX12_inAll GK Z 0 0 43 [(2, vi (sNt S : Int)), (1, vi (itN (fun j v => v + sW S (j : Int) * (f (29 + (j : Int)) + poF f (j : Int) (sNp S))) 0 (sNt S))), (0, vr 0)] [] h) : ∀ (dd k : Nat), k + dd = (sNt S) → K mX12_inAll GK Z 0 0 4 [(2, vi (k : Int)), (1, vi (itN (fun j v => v + sW S (j : Int) * (f (29 + (j : Int)) + poF f (j : Int) (sNp S))) 0 k)), (0, vr 0)] [] h := by
  intro dd
  induction dd with
  | zero =>
    intro k hk
    have hB := d.1.1
    have hNt := hB.1
    have hNp := hB.2.1
    have ek : k = (sNt S) := by omega
    subst ek
    refine K_iload_n (dt_at dtX12_inAll 4 rfl) rfl rfl ?_
    refine K_aload_n (dt_at dtX12_inAll 5 rfl) rfl rfl ?_
    refine K_get (a := 0) (ci := 12) (k := 1) (v := vi (sNt S : Int)) (dt_at dtX12_inAll 6 rfl) (show TT 0 = (0, 12) from rfl) rfl (by decide) wF_X12_267 (by show vi (hI h 0 1) = vi (sNt S : Int); rw [(MD_nt d)]) ?_
    refine K_icmp_ge (tgt := 43) (dt_at dtX12_inAll 7 rfl) (by decide) (by first | assumption | exact ⟨by omega, by omega⟩) (by first | assumption | exact ⟨by omega, by omega⟩) (fun c1 => ?_) (fun c1 => absurd c1 (by omega))
    exact K_pk [0, 1, 2] rfl kx
  | succ dd ih =>
    intro k hk
    have hB := d.1.1
    have hNt := hB.1
    have hNp := hB.2.1
    refine K_iload_n (dt_at dtX12_inAll 4 rfl) rfl rfl ?_
    refine K_aload_n (dt_at dtX12_inAll 5 rfl) rfl rfl ?_
    refine K_get (a := 0) (ci := 12) (k := 1) (v := vi (sNt S : Int)) (dt_at dtX12_inAll 6 rfl) (show TT 0 = (0, 12) from rfl) rfl (by decide) wF_X12_267 (by show vi (hI h 0 1) = vi (sNt S : Int); rw [(MD_nt d)]) ?_
    refine K_icmp_ge (tgt := 43) (dt_at dtX12_inAll 7 rfl) (by decide) (by first | assumption | exact ⟨by omega, by omega⟩) (by first | assumption | exact ⟨by omega, by omega⟩) (fun c1 => absurd c1 (by omega)) (fun c1 => ?_)
    refine K_iload_n (dt_at dtX12_inAll 8 rfl) rfl rfl ?_
    refine K_aload_n (dt_at dtX12_inAll 9 rfl) rfl rfl ?_
    refine K_get (a := 0) (ci := 12) (k := 5) (v := vr 1) (dt_at dtX12_inAll 10 rfl) (show TT 0 = (0, 12) from rfl) rfl (by decide) wF_X12_16 rfl ?_
    refine K_iload_n (dt_at dtX12_inAll 11 rfl) rfl rfl ?_
    refine K_iald (dt_at dtX12_inAll 12 rfl) (show TT 1 = (1, 6) from rfl) (by omega) (by omega) ?_
    rw [show hA h 1 (k : Int) = sW S (k : Int) from MD_w d (by omega)]
    refine K_aload_n (dt_at dtX12_inAll 13 rfl) rfl rfl ?_
    refine K_get (a := 0) (ci := 12) (k := 42) (v := vr 18) (dt_at dtX12_inAll 14 rfl) (show TT 0 = (0, 12) from rfl) rfl (by decide) wF_X12_72 rfl ?_
    refine K_bipush (dt_at dtX12_inAll 15 rfl) (by decide) ?_
    refine K_iload_n (dt_at dtX12_inAll 16 rfl) rfl rfl ?_
    refine K_iadd (dt_at dtX12_inAll 17 rfl) ?_
    refine K_iald (dt_at dtX12_inAll 18 rfl) (show TT 18 = (1, 154) from rfl) (by omega) (by omega) ?_
    rw [show hA h 18 (57 + (k : Int)) = (f (29 + (k : Int))) from RV_s d.2.2.2 (p := (k : Int)) (by omega) (by omega)]
    refine K_aload_n (dt_at dtX12_inAll 19 rfl) rfl rfl ?_
    refine K_iload_n (dt_at dtX12_inAll 20 rfl) rfl rfl ?_
    refine K_callV (M' := mX12_piecesOf) (a := 0) (ci := 12) (As := [vi (k : Int)]) (st := [vi (f (29 + (k : Int))), vi (sW S (k : Int)), vi (itN (fun j v => v + sW S (j : Int) * (f (29 + (j : Int)) + poF f (j : Int) (sNp S))) 0 k)]) (dt_at dtX12_inAll 21 rfl) (sX12_piecesOf d hW (by omega)) (show TT 0 = (0, 12) from rfl) rfl wL_X12_343 vX12_piecesOf rfl npX12_piecesOf (by decide) (by decide) (Nat.le_of_ble_eq_true rfl) (by decide) (by decide) GK_E (fun v9 h9 hq => ?_) (fun E h9 hq => by cases hq.1)
    obtain ⟨e9, e8⟩ := hq
    cases e9
    rw [e8]
    show K mX12_inAll _ _ 0 0 33 [(2, vi (k : Int)), (1, vi (itN (fun j v => v + sW S (j : Int) * (f (29 + (j : Int)) + poF f (j : Int) (sNp S))) 0 k)), (0, vr 0)] [vi (poF f (k : Int) (sNp S)), vi (f (29 + (k : Int))), vi (sW S (k : Int)), vi (itN (fun j v => v + sW S (j : Int) * (f (29 + (j : Int)) + poF f (j : Int) (sNp S))) 0 k)] h
    refine K_iadd (dt_at dtX12_inAll 22 rfl) ?_
    refine K_imul (dt_at dtX12_inAll 23 rfl) ?_
    refine K_iadd (dt_at dtX12_inAll 24 rfl) ?_
    refine K_istore_n (ls' := [(1, vi ((itN (fun j v => v + sW S (j : Int) * (f (29 + (j : Int)) + poF f (j : Int) (sNp S))) 0 k) + ((sW S (k : Int)) * ((f (29 + (k : Int))) + (poF f (k : Int) (sNp S)))))), (2, vi (k : Int)), (0, vr 0)]) (dt_at dtX12_inAll 25 rfl) rfl (by decide) rfl ?_
    refine K_iinc (ls' := [(2, vi ((k : Int) + 1)), (1, vi ((itN (fun j v => v + sW S (j : Int) * (f (29 + (j : Int)) + poF f (j : Int) (sNp S))) 0 k) + ((sW S (k : Int)) * ((f (29 + (k : Int))) + (poF f (k : Int) (sNp S)))))), (0, vr 0)]) (dt_at dtX12_inAll 26 rfl) rfl (by decide) rfl ?_
    refine K_goto (tgt := 4) (dt_at dtX12_inAll 27 rfl) (by decide) ?_
    refine K_pk [0, 1, 2] (ls' := [(2, vi ((k : Int) + 1)), (1, vi ((itN (fun j v => v + sW S (j : Int) * (f (29 + (j : Int)) + poF f (j : Int) (sNp S))) 0 k) + ((sW S (k : Int)) * ((f (29 + (k : Int))) + (poF f (k : Int) (sNp S)))))), (0, vr 0)]) rfl ?_
    exact K_cg (ls' := [(2, vi ((k + 1 : Nat) : Int)), (1, vi (itN (fun j v => v + sW S (j : Int) * (f (29 + (j : Int)) + poF f (j : Int) (sNp S))) 0 (k + 1))), (0, vr 0)]) (h' := h) (by rfl) (by rfl) (ih (k + 1) (by omega))
set_option maxHeartbeats 4000000 in
set_option maxRecDepth 100000 in
theorem sX12_inAll {h0 h : HP} {S : HS} {f : Int → Int} (d : MD h0 h 0 S f) (hW : rW f) : SpecK mX12_inAll [vr 0] h (fun o h' => o = .inl (some (vi (itN (fun j v => v + sW S (j : Int) * (f (29 + (j : Int)) + poF f (j : Int) (sNp S))) 0 (sNt S)))) ∧ h' = h) := by
  refine Spec_of (by decide +kernel) (Nat.le_of_ble_eq_true rfl) ?_
  have hB := d.1.1
  have hNt := hB.1
  have hNp := hB.2.1
  refine K_iconst (dt_at dtX12_inAll 0 rfl) ?_
  refine K_istore_n (ls' := [(1, vi 0), (0, vr 0)]) (dt_at dtX12_inAll 1 rfl) rfl (by decide) rfl ?_
  refine K_iconst (dt_at dtX12_inAll 2 rfl) ?_
  refine K_istore_n (ls' := [(2, vi 0), (1, vi 0), (0, vr 0)]) (dt_at dtX12_inAll 3 rfl) rfl (by decide) rfl ?_
  refine K_pk [0, 1, 2] rfl (lp_X12_inAll d hW ?_ (sNt S) 0 (by omega))
  refine K_iload_n (dt_at dtX12_inAll 28 rfl) rfl rfl ?_
  exact K_iret (dt_at dtX12_inAll 29 rfl) rfl rfl (by decide) (by decide) ⟨rfl, rfl⟩
theorem pcM_b {S : HS} {B : Int} {f : Int → Int} {t : Int} (hB : hsW S) (hT : rT B f) (ht : 0 ≤ t ∧ t < 6) : ∀ n : Nat, n ≤ 7 → 0 ≤ pcF f t n ∧ pcF f t n ≤ n * 1000000
  | 0, _ => ⟨Int.le_refl 0, Int.le_refl 0⟩
  | n + 1, hn => by
    have ih := pcM_b hB hT ht n (by omega)
    have hc := (hT.1.2 (n : Int) (by omega) (by omega)).2.1
    have hi := rT_in hT hc ht
    have b := hT.2.2.2.2.2
    show 0 ≤ pcF f t n + f (35 + f (8 + (n : Int)) * 6 + t) ∧ pcF f t n + f (35 + f (8 + (n : Int)) * 6 + t) ≤ _
    omega
def mX12_mostWanted : MI := (yX12_mostWanted, cX12_mostWanted, 3, (some .int), rmK 2 0)
def tX12_mostWanted : List (Nat × Instr × Nat) := [(0, .iconst (-1), 1), (1, .istore_n 1, 1), (2, .iconst 0, 1), (3, .istore_n 2, 1), (4, .iload_n 2, 1), (5, .aload_n 0, 1), (6, .getfield 267, 3), (9, .if_icmp .ge 33, 3), (12, .aload_n 0, 1), (13, .iload_n 2, 1), (14, .invokevirtual 343, 3), (17, .iload_n 1, 1), (18, .iconst (-1), 1), (19, .if_icmp .ne 7, 3), (22, .iconst 0, 1), (23, .goto 8, 3), (26, .aload_n 0, 1), (27, .iload_n 1, 1), (28, .invokevirtual 343, 3), (31, .if_icmp .le 5, 3), (34, .iload_n 2, 1), (35, .istore_n 1, 1), (36, .iinc 2 1, 3), (39, .goto (-35), 3), (42, .iload_n 1, 1), (43, .ireturn, 1)]
theorem dtX12_mostWanted : tX12_mostWanted.all (fun q => decide (decode cX12_mostWanted q.1 = .ok (q.2.1, q.2.2))) = true := by decide +kernel
theorem npX12_mostWanted : (parseMethodDescriptor (mY mX12_mostWanted).desc).map (fun d => d.parameters.length) = some 0 := by decide +kernel
theorem vX12_mostWanted : mV mX12_mostWanted := ⟨wI_X12_mostWanted, wS_X12_mostWanted, wN_X12, wC_X12_mostWanted, by decide +kernel, by decide +kernel⟩
set_option maxHeartbeats 4000000 in
set_option maxRecDepth 100000 in
theorem lp_X12_mostWanted {Z : CT → State → Prop} {h0 h : HP} {S : HS} {f : Int → Int} {B : Int} (d : MD h0 h 0 S f) (hW : rW f) (hT : rT B f) (hC : rC S f) (hc : cP S f) (kx : K mX12_mostWanted GK Z 0 0 42 [(2, vi (sNt S : Int)), (1, vi (fmN 0 0 (-1) (fun j => pcF f (j : Int) (sNp S)) (sNt S))), (0, vr 0)] [] h) : ∀ (dd k : Nat), k + dd = (sNt S) → K mX12_mostWanted GK Z 0 0 4 [(2, vi (k : Int)), (1, vi (fmN 0 0 (-1) (fun j => pcF f (j : Int) (sNp S)) k)), (0, vr 0)] [] h := by
  intro dd
  induction dd with
  | zero =>
    intro k hk
    have hB := d.1.1
    have hNt := hB.1
    have hNp := hB.2.1
    have ek : k = (sNt S) := by omega
    subst ek
    refine K_iload_n (dt_at dtX12_mostWanted 4 rfl) rfl rfl ?_
    refine K_aload_n (dt_at dtX12_mostWanted 5 rfl) rfl rfl ?_
    refine K_get (a := 0) (ci := 12) (k := 1) (v := vi (sNt S : Int)) (dt_at dtX12_mostWanted 6 rfl) (show TT 0 = (0, 12) from rfl) rfl (by decide) wF_X12_267 (by show vi (hI h 0 1) = vi (sNt S : Int); rw [(MD_nt d)]) ?_
    refine K_icmp_ge (tgt := 42) (dt_at dtX12_mostWanted 7 rfl) (by decide) (by first | assumption | exact ⟨by omega, by omega⟩) (by first | assumption | exact ⟨by omega, by omega⟩) (fun c1 => ?_) (fun c1 => absurd c1 (by omega))
    exact K_pk [0, 1, 2] rfl kx
  | succ dd ih =>
    intro k hk
    have hB := d.1.1
    have hNt := hB.1
    have hNp := hB.2.1
    have pk := pcM_b hB hT (t := (k : Int)) (by omega) (sNp S) hNp
    have fm := fm_mx (u := (fun j => pcF f (j : Int) (sNp S))) k
    have pj : (fmN 0 0 (-1) (fun j => pcF f (j : Int) (sNp S)) k) ≠ -1 → (0 ≤ (fmN 0 0 (-1) (fun j => pcF f (j : Int) (sNp S)) k) ∧ (fmN 0 0 (-1) (fun j => pcF f (j : Int) (sNp S)) k) < sNt S) ∧ (0 ≤ pcF f (fmN 0 0 (-1) (fun j => pcF f (j : Int) (sNp S)) k) (sNp S) ∧ pcF f (fmN 0 0 (-1) (fun j => pcF f (j : Int) (sNp S)) k) (sNp S) ≤ 7000000) ∧ mxN 0 (fun j => pcF f (j : Int) (sNp S)) k = pcF f (fmN 0 0 (-1) (fun j => pcF f (j : Int) (sNp S)) k) (sNp S) := fun z => by
      rcases fm with ⟨e, -⟩ | ⟨j, e1, e2, e3⟩
      · exact absurd e z
      · have := pcM_b hB hT (t := (j : Int)) (by omega) (sNp S) hNp
        rw [e2]
        exact ⟨by omega, by omega, e3⟩
    have pz : (fmN 0 0 (-1) (fun j => pcF f (j : Int) (sNp S)) k) = -1 → mxN 0 (fun j => pcF f (j : Int) (sNp S)) k = 0 := fun z => by
      rcases fm with ⟨e, e4⟩ | ⟨j, e1, e2, e3⟩
      · exact e4
      · omega
    have pb : -1 ≤ (fmN 0 0 (-1) (fun j => pcF f (j : Int) (sNp S)) k) ∧ (fmN 0 0 (-1) (fun j => pcF f (j : Int) (sNp S)) k) < 7 := by rcases fm with ⟨e, -⟩ | ⟨j, e1, e2, -⟩ <;> omega
    refine K_iload_n (dt_at dtX12_mostWanted 4 rfl) rfl rfl ?_
    refine K_aload_n (dt_at dtX12_mostWanted 5 rfl) rfl rfl ?_
    refine K_get (a := 0) (ci := 12) (k := 1) (v := vi (sNt S : Int)) (dt_at dtX12_mostWanted 6 rfl) (show TT 0 = (0, 12) from rfl) rfl (by decide) wF_X12_267 (by show vi (hI h 0 1) = vi (sNt S : Int); rw [(MD_nt d)]) ?_
    refine K_icmp_ge (tgt := 42) (dt_at dtX12_mostWanted 7 rfl) (by decide) (by first | assumption | exact ⟨by omega, by omega⟩) (by first | assumption | exact ⟨by omega, by omega⟩) (fun c1 => absurd c1 (by omega)) (fun c1 => ?_)
    refine K_aload_n (dt_at dtX12_mostWanted 8 rfl) rfl rfl ?_
    refine K_iload_n (dt_at dtX12_mostWanted 9 rfl) rfl rfl ?_
    refine K_callV (M' := mX12_piecesOf) (a := 0) (ci := 12) (As := [vi (k : Int)]) (st := []) (dt_at dtX12_mostWanted 10 rfl) (sX12_piecesOf d hW (by omega)) (show TT 0 = (0, 12) from rfl) rfl wL_X12_343 vX12_piecesOf rfl npX12_piecesOf (by decide) (by decide) (Nat.le_of_ble_eq_true rfl) (by decide) (by decide) GK_E (fun v9 h9 hq => ?_) (fun E h9 hq => by cases hq.1)
    obtain ⟨e9, e8⟩ := hq
    cases e9
    rw [e8]
    show K mX12_mostWanted _ _ 0 0 17 [(2, vi (k : Int)), (1, vi (fmN 0 0 (-1) (fun j => pcF f (j : Int) (sNp S)) k)), (0, vr 0)] [vi (poF f (k : Int) (sNp S))] h
    rw [po_pc hB hW hC hc]
    refine K_iload_n (dt_at dtX12_mostWanted 11 rfl) rfl rfl ?_
    refine K_iconst (dt_at dtX12_mostWanted 12 rfl) ?_
    refine K_icmp_ne (tgt := 26) (dt_at dtX12_mostWanted 13 rfl) (by decide) (by first | assumption | exact ⟨by omega, by omega⟩) (by first | assumption | exact ⟨by omega, by omega⟩) (fun c2 => ?_) (fun c2 => ?_)
    · refine K_aload_n (dt_at dtX12_mostWanted 16 rfl) rfl rfl ?_
      refine K_iload_n (dt_at dtX12_mostWanted 17 rfl) rfl rfl ?_
      refine K_callV (M' := mX12_piecesOf) (a := 0) (ci := 12) (As := [vi (fmN 0 0 (-1) (fun j => pcF f (j : Int) (sNp S)) k)]) (st := [vi (pcF f (k : Int) (sNp S))]) (dt_at dtX12_mostWanted 18 rfl) (sX12_piecesOf d hW (by omega)) (show TT 0 = (0, 12) from rfl) rfl wL_X12_343 vX12_piecesOf rfl npX12_piecesOf (by decide) (by decide) (Nat.le_of_ble_eq_true rfl) (by decide) (by decide) GK_E (fun v9 h9 hq => ?_) (fun E h9 hq => by cases hq.1)
      obtain ⟨e9, e8⟩ := hq
      cases e9
      rw [e8]
      show K mX12_mostWanted _ _ 0 0 31 [(2, vi (k : Int)), (1, vi (fmN 0 0 (-1) (fun j => pcF f (j : Int) (sNp S)) k)), (0, vr 0)] [vi (poF f (fmN 0 0 (-1) (fun j => pcF f (j : Int) (sNp S)) k) (sNp S)), vi (pcF f (k : Int) (sNp S))] h
      rw [po_pc hB hW hC hc]
      refine K_icmp_le (tgt := 36) (dt_at dtX12_mostWanted 19 rfl) (by decide) (by first | assumption | exact ⟨by omega, by omega⟩) (by first | assumption | exact ⟨by omega, by omega⟩) (fun c3 => ?_) (fun c3 => ?_)
      · refine K_iinc (ls' := [(2, vi ((k : Int) + 1)), (1, vi (fmN 0 0 (-1) (fun j => pcF f (j : Int) (sNp S)) k)), (0, vr 0)]) (dt_at dtX12_mostWanted 22 rfl) rfl (by decide) rfl ?_
        refine K_goto (tgt := 4) (dt_at dtX12_mostWanted 23 rfl) (by decide) ?_
        refine K_pk [0, 1, 2] (ls' := [(2, vi ((k : Int) + 1)), (1, vi (fmN 0 0 (-1) (fun j => pcF f (j : Int) (sNp S)) k)), (0, vr 0)]) rfl ?_
        exact K_cg (ls' := [(2, vi ((k + 1 : Nat) : Int)), (1, vi (fmN 0 0 (-1) (fun j => pcF f (j : Int) (sNp S)) (k + 1))), (0, vr 0)]) (h' := h) (by rw [fmN_f (u := (fun j => pcF f (j : Int) (sNp S))) (by show ¬ mxN 0 (fun j => pcF f (j : Int) (sNp S)) k < pcF f (k : Int) (sNp S); omega)]; rfl) (by rfl) (ih (k + 1) (by omega))
      · refine K_iload_n (dt_at dtX12_mostWanted 20 rfl) rfl rfl ?_
        refine K_istore_n (ls' := [(1, vi (k : Int)), (2, vi (k : Int)), (0, vr 0)]) (dt_at dtX12_mostWanted 21 rfl) rfl (by decide) rfl ?_
        refine K_iinc (ls' := [(2, vi ((k : Int) + 1)), (1, vi (k : Int)), (0, vr 0)]) (dt_at dtX12_mostWanted 22 rfl) rfl (by decide) rfl ?_
        refine K_goto (tgt := 4) (dt_at dtX12_mostWanted 23 rfl) (by decide) ?_
        refine K_pk [0, 1, 2] (ls' := [(2, vi ((k : Int) + 1)), (1, vi (k : Int)), (0, vr 0)]) rfl ?_
        exact K_cg (ls' := [(2, vi ((k + 1 : Nat) : Int)), (1, vi (fmN 0 0 (-1) (fun j => pcF f (j : Int) (sNp S)) (k + 1))), (0, vr 0)]) (h' := h) (by rw [fmN_t (u := (fun j => pcF f (j : Int) (sNp S))) (by show mxN 0 (fun j => pcF f (j : Int) (sNp S)) k < pcF f (k : Int) (sNp S); omega)]; rw [show ((k : Int) + 0) = (k : Int) by omega]; rfl) (by rfl) (ih (k + 1) (by omega))
    · refine K_iconst (dt_at dtX12_mostWanted 14 rfl) ?_
      refine K_goto (tgt := 31) (dt_at dtX12_mostWanted 15 rfl) (by decide) ?_
      refine K_icmp_le (tgt := 36) (dt_at dtX12_mostWanted 19 rfl) (by decide) (by first | assumption | exact ⟨by omega, by omega⟩) (by first | assumption | exact ⟨by omega, by omega⟩) (fun c4 => ?_) (fun c4 => ?_)
      · refine K_iinc (ls' := [(2, vi ((k : Int) + 1)), (1, vi (fmN 0 0 (-1) (fun j => pcF f (j : Int) (sNp S)) k)), (0, vr 0)]) (dt_at dtX12_mostWanted 22 rfl) rfl (by decide) rfl ?_
        refine K_goto (tgt := 4) (dt_at dtX12_mostWanted 23 rfl) (by decide) ?_
        refine K_pk [0, 1, 2] (ls' := [(2, vi ((k : Int) + 1)), (1, vi (fmN 0 0 (-1) (fun j => pcF f (j : Int) (sNp S)) k)), (0, vr 0)]) rfl ?_
        exact K_cg (ls' := [(2, vi ((k + 1 : Nat) : Int)), (1, vi (fmN 0 0 (-1) (fun j => pcF f (j : Int) (sNp S)) (k + 1))), (0, vr 0)]) (h' := h) (by rw [fmN_f (u := (fun j => pcF f (j : Int) (sNp S))) (by show ¬ mxN 0 (fun j => pcF f (j : Int) (sNp S)) k < pcF f (k : Int) (sNp S); omega)]; rfl) (by rfl) (ih (k + 1) (by omega))
      · refine K_iload_n (dt_at dtX12_mostWanted 20 rfl) rfl rfl ?_
        refine K_istore_n (ls' := [(1, vi (k : Int)), (2, vi (k : Int)), (0, vr 0)]) (dt_at dtX12_mostWanted 21 rfl) rfl (by decide) rfl ?_
        refine K_iinc (ls' := [(2, vi ((k : Int) + 1)), (1, vi (k : Int)), (0, vr 0)]) (dt_at dtX12_mostWanted 22 rfl) rfl (by decide) rfl ?_
        refine K_goto (tgt := 4) (dt_at dtX12_mostWanted 23 rfl) (by decide) ?_
        refine K_pk [0, 1, 2] (ls' := [(2, vi ((k : Int) + 1)), (1, vi (k : Int)), (0, vr 0)]) rfl ?_
        exact K_cg (ls' := [(2, vi ((k + 1 : Nat) : Int)), (1, vi (fmN 0 0 (-1) (fun j => pcF f (j : Int) (sNp S)) (k + 1))), (0, vr 0)]) (h' := h) (by rw [fmN_t (u := (fun j => pcF f (j : Int) (sNp S))) (by show mxN 0 (fun j => pcF f (j : Int) (sNp S)) k < pcF f (k : Int) (sNp S); omega)]; rw [show ((k : Int) + 0) = (k : Int) by omega]; rfl) (by rfl) (ih (k + 1) (by omega))
set_option maxHeartbeats 4000000 in
set_option maxRecDepth 100000 in
theorem sX12_mostWanted {h0 h : HP} {S : HS} {f : Int → Int} {B : Int} (d : MD h0 h 0 S f) (hW : rW f) (hT : rT B f) (hC : rC S f) (hc : cP S f) : SpecK mX12_mostWanted [vr 0] h (fun o h' => o = .inl (some (vi (fmN 0 0 (-1) (fun j => pcF f (j : Int) (sNp S)) (sNt S)))) ∧ h' = h) := by
  refine Spec_of (by decide +kernel) (Nat.le_of_ble_eq_true rfl) ?_
  have hB := d.1.1
  have hNt := hB.1
  have hNp := hB.2.1
  refine K_iconst (dt_at dtX12_mostWanted 0 rfl) ?_
  refine K_istore_n (ls' := [(1, vi (-1)), (0, vr 0)]) (dt_at dtX12_mostWanted 1 rfl) rfl (by decide) rfl ?_
  refine K_iconst (dt_at dtX12_mostWanted 2 rfl) ?_
  refine K_istore_n (ls' := [(2, vi 0), (1, vi (-1)), (0, vr 0)]) (dt_at dtX12_mostWanted 3 rfl) rfl (by decide) rfl ?_
  refine K_pk [0, 1, 2] rfl (lp_X12_mostWanted d hW hT hC hc ?_ (sNt S) 0 (by omega))
  refine K_iload_n (dt_at dtX12_mostWanted 24 rfl) rfl rfl ?_
  exact K_iret (dt_at dtX12_mostWanted 25 rfl) rfl rfl (by decide) (by decide) ⟨rfl, rfl⟩
def mX12_chain : MI := (yX12_chain, cX12_chain, 4, (some .int), rmK 1 0)
def tX12_chain : List (Nat × Instr × Nat) := [(0, .iload_n 1, 1), (1, .istore_n 2, 1), (2, .iconst 0, 1), (3, .istore_n 3, 1), (4, .iload_n 3, 1), (5, .aload_n 0, 1), (6, .getfield 270, 3), (9, .if_icmp .ge 26, 3), (12, .aload_n 0, 1), (13, .getfield 72, 3), (16, .bipush 70, 2), (18, .iload_n 2, 1), (19, .iadd, 1), (20, .iaload, 1), (21, .istore_n 2, 1), (22, .iload_n 2, 1), (23, .iconst (-1), 1), (24, .if_icmp .ne 5, 3), (27, .iload_n 3, 1), (28, .ireturn, 1), (29, .iinc 3 1, 3), (32, .goto (-28), 3), (35, .iconst (-1), 1), (36, .ireturn, 1)]
theorem dtX12_chain : tX12_chain.all (fun q => decide (decode cX12_chain q.1 = .ok (q.2.1, q.2.2))) = true := by decide +kernel
theorem npX12_chain : (parseMethodDescriptor (mY mX12_chain).desc).map (fun d => d.parameters.length) = some 1 := by decide +kernel
theorem vX12_chain : mV mX12_chain := ⟨wI_X12_chain, wS_X12_chain, wN_X12, wC_X12_chain, by decide +kernel, by decide +kernel⟩
set_option maxHeartbeats 4000000 in
set_option maxRecDepth 100000 in
theorem lp_X12_chain {h0 h : HP} {S : HS} {f : Int → Int} {p A : Int} (d : MD h0 h 0 S f) (hW : rW f) : ∀ (dd k : Nat) (u : Int), k + dd = sNp S → 0 ≤ u ∧ u < 7 → A = (chainF f dd (f (22 + u)) (k : Int)) → K mX12_chain GK (ZK (fun o h' => o = .inl (some (vi A)) ∧ h' = h) 0 0) 0 0 4 [(3, vi (k : Int)), (2, vi u), (0, vr 0), (1, vi p)] [] h := by
  intro dd
  induction dd with
  | zero =>
    intro k u hk hu ea
    have hB := d.1.1
    have hNt := hB.1
    have hNp := hB.2.1
    refine K_iload_n (dt_at dtX12_chain 4 rfl) rfl rfl ?_
    refine K_aload_n (dt_at dtX12_chain 5 rfl) rfl rfl ?_
    refine K_get (a := 0) (ci := 12) (k := 2) (v := vi (sNp S : Int)) (dt_at dtX12_chain 6 rfl) (show TT 0 = (0, 12) from rfl) rfl (by decide) wF_X12_270 (by show vi (hI h 0 2) = vi (sNp S : Int); rw [(MD_np d)]) ?_
    refine K_icmp_ge (tgt := 35) (dt_at dtX12_chain 7 rfl) (by decide) (by first | assumption | exact ⟨by omega, by omega⟩) (by first | assumption | exact ⟨by omega, by omega⟩) (fun c1 => ?_) (fun c1 => absurd c1 (by omega))
    refine K_iconst (dt_at dtX12_chain 22 rfl) ?_
    exact K_iret (dt_at dtX12_chain 23 rfl) rfl rfl (by decide) (by decide) ⟨by rw [ea]; rfl, rfl⟩
  | succ dd ih =>
    intro k u hk hu ea
    have hB := d.1.1
    have hNt := hB.1
    have hNp := hB.2.1
    have wu := (hW.2 u hu.1 hu.2).2.2.2
    refine K_iload_n (dt_at dtX12_chain 4 rfl) rfl rfl ?_
    refine K_aload_n (dt_at dtX12_chain 5 rfl) rfl rfl ?_
    refine K_get (a := 0) (ci := 12) (k := 2) (v := vi (sNp S : Int)) (dt_at dtX12_chain 6 rfl) (show TT 0 = (0, 12) from rfl) rfl (by decide) wF_X12_270 (by show vi (hI h 0 2) = vi (sNp S : Int); rw [(MD_np d)]) ?_
    refine K_icmp_ge (tgt := 35) (dt_at dtX12_chain 7 rfl) (by decide) (by first | assumption | exact ⟨by omega, by omega⟩) (by first | assumption | exact ⟨by omega, by omega⟩) (fun c1 => absurd c1 (by omega)) (fun c1 => ?_)
    refine K_aload_n (dt_at dtX12_chain 8 rfl) rfl rfl ?_
    refine K_get (a := 0) (ci := 12) (k := 42) (v := vr 18) (dt_at dtX12_chain 9 rfl) (show TT 0 = (0, 12) from rfl) rfl (by decide) wF_X12_72 rfl ?_
    refine K_bipush (dt_at dtX12_chain 10 rfl) (by decide) ?_
    refine K_iload_n (dt_at dtX12_chain 11 rfl) rfl rfl ?_
    refine K_iadd (dt_at dtX12_chain 12 rfl) ?_
    refine K_iald (dt_at dtX12_chain 13 rfl) (show TT 18 = (1, 154) from rfl) (by omega) (by omega) ?_
    rw [show hA h 18 (70 + u) = (f (22 + u)) from RV_k d.2.2.2 (p := u) (by omega) (by omega)]
    refine K_istore_n (ls' := [(2, vi (f (22 + u))), (3, vi (k : Int)), (0, vr 0), (1, vi p)]) (dt_at dtX12_chain 14 rfl) rfl (by decide) rfl ?_
    refine K_iload_n (dt_at dtX12_chain 15 rfl) rfl rfl ?_
    refine K_iconst (dt_at dtX12_chain 16 rfl) ?_
    refine K_icmp_ne (tgt := 29) (dt_at dtX12_chain 17 rfl) (by decide) (by first | assumption | exact ⟨by omega, by omega⟩) (by first | assumption | exact ⟨by omega, by omega⟩) (fun c2 => ?_) (fun c2 => ?_)
    · refine K_iinc (ls' := [(3, vi ((k : Int) + 1)), (2, vi (f (22 + u))), (0, vr 0), (1, vi p)]) (dt_at dtX12_chain 20 rfl) rfl (by decide) rfl ?_
      refine K_goto (tgt := 4) (dt_at dtX12_chain 21 rfl) (by decide) ?_
      exact K_pk [0, 1, 2, 3] rfl (ih (k + 1) (f (22 + u)) (by omega) (by omega) (by have h9 := ea; rw [show chainF f (dd + 1) (f (22 + u)) (k : Int) = (if f (22 + u) = -1 then (k : Int) else chainF f dd (f (22 + f (22 + u))) ((k : Int) + 1)) from rfl, if_neg (by assumption)] at h9; exact h9))
    · refine K_iload_n (dt_at dtX12_chain 18 rfl) rfl rfl ?_
      exact K_iret (dt_at dtX12_chain 19 rfl) rfl rfl (by decide) (by decide) ⟨by rw [ea, show chainF f (dd + 1) (f (22 + u)) (k : Int) = (if f (22 + u) = -1 then (k : Int) else chainF f dd (f (22 + f (22 + u))) ((k : Int) + 1)) from rfl, if_pos (by assumption)], rfl⟩
set_option maxHeartbeats 4000000 in
set_option maxRecDepth 100000 in
theorem sX12_chain {h0 h : HP} {S : HS} {f : Int → Int} {p : Int} (d : MD h0 h 0 S f) (hW : rW f) (hp : 0 ≤ p ∧ p < 7) : SpecK mX12_chain [vr 0, vi p] h (fun o h' => o = .inl (some (vi (chainF f (sNp S) (f (22 + p)) 0))) ∧ h' = h) := by
  refine Spec_of (by decide +kernel) (Nat.le_of_ble_eq_true rfl) ?_
  refine K_iload_n (dt_at dtX12_chain 0 rfl) rfl rfl ?_
  refine K_istore_n (ls' := [(2, vi p), (0, vr 0), (1, vi p)]) (dt_at dtX12_chain 1 rfl) rfl (by decide) rfl ?_
  refine K_iconst (dt_at dtX12_chain 2 rfl) ?_
  refine K_istore_n (ls' := [(3, vi 0), (2, vi p), (0, vr 0), (1, vi p)]) (dt_at dtX12_chain 3 rfl) rfl (by decide) rfl ?_
  exact K_pk [0, 1, 2, 3] rfl (lp_X12_chain d hW (sNp S) 0 p (by omega) hp rfl)
def wsN (g : Int → Int) (e : Bool) (A : Int) : Nat → Int → Int → Prop
  | 0, u, b => ((e = true ∧ u = -1) ∨ bAnd (bShr b u) 1 ≠ 0) ∧ A = b
  | d + 1, u, b => if (e = true ∧ u = -1) ∨ bAnd (bShr b u) 1 ≠ 0 then A = b else wsN g e A d (g u) (bOr b (bShl 1 u))
def mX12_roundOf : MI := (yX12_roundOf, cX12_roundOf, 4, (some .int), rmK 1 0)
def tX12_roundOf : List (Nat × Instr × Nat) := [(0, .iconst 0, 1), (1, .istore_n 2, 1), (2, .iload_n 1, 1), (3, .istore_n 3, 1), (4, .iload_n 2, 1), (5, .iload_n 3, 1), (6, .ishr, 1), (7, .iconst 1, 1), (8, .iand, 1), (9, .ifCond .ne 22, 3), (12, .iload_n 2, 1), (13, .iconst 1, 1), (14, .iload_n 3, 1), (15, .ishl, 1), (16, .ior, 1), (17, .istore_n 2, 1), (18, .aload_n 0, 1), (19, .getfield 72, 3), (22, .bipush 8, 2), (24, .iload_n 3, 1), (25, .iadd, 1), (26, .iaload, 1), (27, .istore_n 3, 1), (28, .goto (-24), 3), (31, .iload_n 2, 1), (32, .ireturn, 1)]
theorem dtX12_roundOf : tX12_roundOf.all (fun q => decide (decode cX12_roundOf q.1 = .ok (q.2.1, q.2.2))) = true := by decide +kernel
theorem npX12_roundOf : (parseMethodDescriptor (mY mX12_roundOf).desc).map (fun d => d.parameters.length) = some 1 := by decide +kernel
theorem vX12_roundOf : mV mX12_roundOf := ⟨wI_X12_roundOf, wS_X12_roundOf, wN_X12, wC_X12_roundOf, by decide +kernel, by decide +kernel⟩
set_option maxHeartbeats 4000000 in
set_option maxRecDepth 100000 in
theorem lp_X12_roundOf {h0 h : HP} {S : HS} {f : Int → Int} {p A : Int} (d : MD h0 h 0 S f) (hW : rW f) (hp : 0 ≤ p ∧ p < 7) : ∀ (dd : Nat) (u b : Int), 0 ≤ u ∧ u < 7 → wsN (fun u => f (8 + u)) false A dd u b → K mX12_roundOf GK (ZK (fun o h' => o = .inl (some (vi A)) ∧ h' = h) 0 0) 0 0 4 [(3, vi u), (2, vi b), (0, vr 0), (1, vi p)] [] h := by
  intro dd
  induction dd with
  | zero =>
    intro u b hu hw
    have hB := d.1.1
    have hNt := hB.1
    have hNp := hB.2.1
    have wu : 0 ≤ u → -1 ≤ f (8 + u) ∧ f (8 + u) < 7 := fun z => by have := hW.2 u z hu.2; omega
    have wu2 := (hW.2 u hu.1 hu.2).2.1
    obtain ⟨hw1, hab⟩ := hw
    refine K_iload_n (dt_at dtX12_roundOf 4 rfl) rfl rfl ?_
    refine K_iload_n (dt_at dtX12_roundOf 5 rfl) rfl rfl ?_
    refine K_ishr (dt_at dtX12_roundOf 6 rfl) ?_
    refine K_iconst (dt_at dtX12_roundOf 7 rfl) ?_
    refine K_iand (dt_at dtX12_roundOf 8 rfl) ?_
    refine K_if_ne (tgt := 31) (dt_at dtX12_roundOf 9 rfl) (by decide) (bAnd32 _ _) (fun c1 => ?_) (fun c1 => ?_)
    · refine K_iload_n (dt_at dtX12_roundOf 24 rfl) rfl rfl ?_
      exact K_iret (dt_at dtX12_roundOf 25 rfl) rfl rfl (by decide) (by decide) ⟨by rw [hab], rfl⟩
    · refine K_iload_n (dt_at dtX12_roundOf 10 rfl) rfl rfl ?_
      refine K_iconst (dt_at dtX12_roundOf 11 rfl) ?_
      refine K_iload_n (dt_at dtX12_roundOf 12 rfl) rfl rfl ?_
      refine K_ishl (dt_at dtX12_roundOf 13 rfl) ?_
      refine K_ior (dt_at dtX12_roundOf 14 rfl) ?_
      refine K_istore_n (ls' := [(2, vi (bOr b (bShl 1 u))), (3, vi u), (0, vr 0), (1, vi p)]) (dt_at dtX12_roundOf 15 rfl) rfl (by decide) rfl ?_
      refine K_aload_n (dt_at dtX12_roundOf 16 rfl) rfl rfl ?_
      refine K_get (a := 0) (ci := 12) (k := 42) (v := vr 18) (dt_at dtX12_roundOf 17 rfl) (show TT 0 = (0, 12) from rfl) rfl (by decide) wF_X12_72 rfl ?_
      refine K_bipush (dt_at dtX12_roundOf 18 rfl) (by decide) ?_
      refine K_iload_n (dt_at dtX12_roundOf 19 rfl) rfl rfl ?_
      refine K_iadd (dt_at dtX12_roundOf 20 rfl) ?_
      refine K_iald (dt_at dtX12_roundOf 21 rfl) (show TT 18 = (1, 154) from rfl) (by omega) (by omega) ?_
      rw [show hA h 18 (8 + u) = (f (8 + u)) from RV_c d.2.2.2 (p := u) (by omega) (by omega)]
      refine K_istore_n (ls' := [(3, vi (f (8 + u))), (2, vi (bOr b (bShl 1 u))), (0, vr 0), (1, vi p)]) (dt_at dtX12_roundOf 22 rfl) rfl (by decide) rfl ?_
      refine K_goto (tgt := 4) (dt_at dtX12_roundOf 23 rfl) (by decide) ?_
      exact (by simp at hw1; omega : False).elim
  | succ dd ih =>
    intro u b hu hw
    have hB := d.1.1
    have hNt := hB.1
    have hNp := hB.2.1
    have wu : 0 ≤ u → -1 ≤ f (8 + u) ∧ f (8 + u) < 7 := fun z => by have := hW.2 u z hu.2; omega
    have wu2 := (hW.2 u hu.1 hu.2).2.1
    refine K_iload_n (dt_at dtX12_roundOf 4 rfl) rfl rfl ?_
    refine K_iload_n (dt_at dtX12_roundOf 5 rfl) rfl rfl ?_
    refine K_ishr (dt_at dtX12_roundOf 6 rfl) ?_
    refine K_iconst (dt_at dtX12_roundOf 7 rfl) ?_
    refine K_iand (dt_at dtX12_roundOf 8 rfl) ?_
    refine K_if_ne (tgt := 31) (dt_at dtX12_roundOf 9 rfl) (by decide) (bAnd32 _ _) (fun c1 => ?_) (fun c1 => ?_)
    · refine K_iload_n (dt_at dtX12_roundOf 24 rfl) rfl rfl ?_
      have hab : A = b := by have h9 := hw; rw [show wsN (fun u => f (8 + u)) false A (dd + 1) u b = (if (false = true ∧ u = -1) ∨ bAnd (bShr b u) 1 ≠ 0 then A = b else wsN (fun u => f (8 + u)) false A dd (f (8 + u)) (bOr b (bShl 1 u))) from rfl, if_pos (by simp; omega)] at h9; exact h9
      exact K_iret (dt_at dtX12_roundOf 25 rfl) rfl rfl (by decide) (by decide) ⟨by rw [hab], rfl⟩
    · refine K_iload_n (dt_at dtX12_roundOf 10 rfl) rfl rfl ?_
      refine K_iconst (dt_at dtX12_roundOf 11 rfl) ?_
      refine K_iload_n (dt_at dtX12_roundOf 12 rfl) rfl rfl ?_
      refine K_ishl (dt_at dtX12_roundOf 13 rfl) ?_
      refine K_ior (dt_at dtX12_roundOf 14 rfl) ?_
      refine K_istore_n (ls' := [(2, vi (bOr b (bShl 1 u))), (3, vi u), (0, vr 0), (1, vi p)]) (dt_at dtX12_roundOf 15 rfl) rfl (by decide) rfl ?_
      refine K_aload_n (dt_at dtX12_roundOf 16 rfl) rfl rfl ?_
      refine K_get (a := 0) (ci := 12) (k := 42) (v := vr 18) (dt_at dtX12_roundOf 17 rfl) (show TT 0 = (0, 12) from rfl) rfl (by decide) wF_X12_72 rfl ?_
      refine K_bipush (dt_at dtX12_roundOf 18 rfl) (by decide) ?_
      refine K_iload_n (dt_at dtX12_roundOf 19 rfl) rfl rfl ?_
      refine K_iadd (dt_at dtX12_roundOf 20 rfl) ?_
      refine K_iald (dt_at dtX12_roundOf 21 rfl) (show TT 18 = (1, 154) from rfl) (by omega) (by omega) ?_
      rw [show hA h 18 (8 + u) = (f (8 + u)) from RV_c d.2.2.2 (p := u) (by omega) (by omega)]
      refine K_istore_n (ls' := [(3, vi (f (8 + u))), (2, vi (bOr b (bShl 1 u))), (0, vr 0), (1, vi p)]) (dt_at dtX12_roundOf 22 rfl) rfl (by decide) rfl ?_
      refine K_goto (tgt := 4) (dt_at dtX12_roundOf 23 rfl) (by decide) ?_
      exact K_pk [0, 1, 2, 3] rfl (ih (f (8 + u)) (bOr b (bShl 1 u)) (by omega) (by have h9 := hw; rw [show wsN (fun u => f (8 + u)) false A (dd + 1) u b = (if (false = true ∧ u = -1) ∨ bAnd (bShr b u) 1 ≠ 0 then A = b else wsN (fun u => f (8 + u)) false A dd (f (8 + u)) (bOr b (bShl 1 u))) from rfl, if_neg (by simp; omega)] at h9; exact h9))
set_option maxHeartbeats 4000000 in
set_option maxRecDepth 100000 in
theorem sX12_roundOf {h0 h : HP} {S : HS} {f : Int → Int} {p A : Int} {n : Nat} (d : MD h0 h 0 S f) (hW : rW f) (hp : 0 ≤ p ∧ p < 7) (hws : wsN (fun u => f (8 + u)) false A n p 0) : SpecK mX12_roundOf [vr 0, vi p] h (fun o h' => o = .inl (some (vi A)) ∧ h' = h) := by
  refine Spec_of (by decide +kernel) (Nat.le_of_ble_eq_true rfl) ?_
  refine K_iconst (dt_at dtX12_roundOf 0 rfl) ?_
  refine K_istore_n (ls' := [(2, vi 0), (0, vr 0), (1, vi p)]) (dt_at dtX12_roundOf 1 rfl) rfl (by decide) rfl ?_
  refine K_iload_n (dt_at dtX12_roundOf 2 rfl) rfl rfl ?_
  refine K_istore_n (ls' := [(3, vi p), (2, vi 0), (0, vr 0), (1, vi p)]) (dt_at dtX12_roundOf 3 rfl) rfl (by decide) rfl ?_
  exact K_pk [0, 1, 2, 3] rfl (lp_X12_roundOf d hW hp n p 0 hp hws)
def mX12_ring : MI := (yX12_ring, cX12_ring, 4, (some .int), rmK 1 0)
def tX12_ring : List (Nat × Instr × Nat) := [(0, .iconst 0, 1), (1, .istore_n 2, 1), (2, .aload_n 0, 1), (3, .getfield 72, 3), (6, .bipush 70, 2), (8, .iload_n 1, 1), (9, .iadd, 1), (10, .iaload, 1), (11, .istore_n 3, 1), (12, .iload_n 3, 1), (13, .iconst (-1), 1), (14, .if_icmp .eq 30, 3), (17, .iload_n 2, 1), (18, .iload_n 3, 1), (19, .ishr, 1), (20, .iconst 1, 1), (21, .iand, 1), (22, .ifCond .ne 22, 3), (25, .iload_n 2, 1), (26, .iconst 1, 1), (27, .iload_n 3, 1), (28, .ishl, 1), (29, .ior, 1), (30, .istore_n 2, 1), (31, .aload_n 0, 1), (32, .getfield 72, 3), (35, .bipush 70, 2), (37, .iload_n 3, 1), (38, .iadd, 1), (39, .iaload, 1), (40, .istore_n 3, 1), (41, .goto (-29), 3), (44, .iload_n 2, 1), (45, .iload_n 1, 1), (46, .ishr, 1), (47, .iconst 1, 1), (48, .iand, 1), (49, .iconst 1, 1), (50, .if_icmp .ne 7, 3), (53, .iload_n 2, 1), (54, .goto 4, 3), (57, .iconst 0, 1), (58, .ireturn, 1)]
theorem dtX12_ring : tX12_ring.all (fun q => decide (decode cX12_ring q.1 = .ok (q.2.1, q.2.2))) = true := by decide +kernel
theorem npX12_ring : (parseMethodDescriptor (mY mX12_ring).desc).map (fun d => d.parameters.length) = some 1 := by decide +kernel
theorem vX12_ring : mV mX12_ring := ⟨wI_X12_ring, wS_X12_ring, wN_X12, wC_X12_ring, by decide +kernel, by decide +kernel⟩
set_option maxHeartbeats 4000000 in
set_option maxRecDepth 100000 in
theorem lp_X12_ring {h0 h : HP} {S : HS} {f : Int → Int} {p A : Int} (d : MD h0 h 0 S f) (hW : rW f) (hp : 0 ≤ p ∧ p < 7) : ∀ (dd : Nat) (u b : Int), -1 ≤ u ∧ u < 7 → wsN (fun u => f (22 + u)) true A dd u b → K mX12_ring GK (ZK (fun o h' => o = .inl (some (vi (if bAnd (bShr A p) 1 = 1 then A else 0))) ∧ h' = h) 0 0) 0 0 12 [(3, vi u), (2, vi b), (0, vr 0), (1, vi p)] [] h := by
  intro dd
  induction dd with
  | zero =>
    intro u b hu hw
    have hB := d.1.1
    have hNt := hB.1
    have hNp := hB.2.1
    have wu : 0 ≤ u → -1 ≤ f (22 + u) ∧ f (22 + u) < 7 := fun z => by have := hW.2 u z hu.2; omega
    obtain ⟨hw1, hab⟩ := hw
    refine K_iload_n (dt_at dtX12_ring 9 rfl) rfl rfl ?_
    refine K_iconst (dt_at dtX12_ring 10 rfl) ?_
    refine K_icmp_eq (tgt := 44) (dt_at dtX12_ring 11 rfl) (by decide) (by first | assumption | exact ⟨by omega, by omega⟩) (by first | assumption | exact ⟨by omega, by omega⟩) (fun c1 => ?_) (fun c1 => ?_)
    · refine K_iload_n (dt_at dtX12_ring 32 rfl) rfl rfl ?_
      refine K_iload_n (dt_at dtX12_ring 33 rfl) rfl rfl ?_
      refine K_ishr (dt_at dtX12_ring 34 rfl) ?_
      refine K_iconst (dt_at dtX12_ring 35 rfl) ?_
      refine K_iand (dt_at dtX12_ring 36 rfl) ?_
      refine K_iconst (dt_at dtX12_ring 37 rfl) ?_
      refine K_icmp_ne (tgt := 57) (dt_at dtX12_ring 38 rfl) (by decide) (bAnd32 _ _) (by first | assumption | exact ⟨by omega, by omega⟩) (fun c2 => ?_) (fun c2 => ?_)
      · refine K_iconst (dt_at dtX12_ring 41 rfl) ?_
        exact K_iret (dt_at dtX12_ring 42 rfl) rfl rfl (by decide) (by decide) ⟨by rw [hab, if_neg (by assumption)], rfl⟩
      · refine K_iload_n (dt_at dtX12_ring 39 rfl) rfl rfl ?_
        refine K_goto (tgt := 58) (dt_at dtX12_ring 40 rfl) (by decide) ?_
        exact K_iret (dt_at dtX12_ring 42 rfl) rfl rfl (by decide) (by decide) ⟨by rw [hab, if_pos (by assumption)], rfl⟩
    · refine K_iload_n (dt_at dtX12_ring 12 rfl) rfl rfl ?_
      refine K_iload_n (dt_at dtX12_ring 13 rfl) rfl rfl ?_
      refine K_ishr (dt_at dtX12_ring 14 rfl) ?_
      refine K_iconst (dt_at dtX12_ring 15 rfl) ?_
      refine K_iand (dt_at dtX12_ring 16 rfl) ?_
      refine K_if_ne (tgt := 44) (dt_at dtX12_ring 17 rfl) (by decide) (bAnd32 _ _) (fun c3 => ?_) (fun c3 => ?_)
      · refine K_iload_n (dt_at dtX12_ring 32 rfl) rfl rfl ?_
        refine K_iload_n (dt_at dtX12_ring 33 rfl) rfl rfl ?_
        refine K_ishr (dt_at dtX12_ring 34 rfl) ?_
        refine K_iconst (dt_at dtX12_ring 35 rfl) ?_
        refine K_iand (dt_at dtX12_ring 36 rfl) ?_
        refine K_iconst (dt_at dtX12_ring 37 rfl) ?_
        refine K_icmp_ne (tgt := 57) (dt_at dtX12_ring 38 rfl) (by decide) (bAnd32 _ _) (by first | assumption | exact ⟨by omega, by omega⟩) (fun c4 => ?_) (fun c4 => ?_)
        · refine K_iconst (dt_at dtX12_ring 41 rfl) ?_
          exact K_iret (dt_at dtX12_ring 42 rfl) rfl rfl (by decide) (by decide) ⟨by rw [hab, if_neg (by assumption)], rfl⟩
        · refine K_iload_n (dt_at dtX12_ring 39 rfl) rfl rfl ?_
          refine K_goto (tgt := 58) (dt_at dtX12_ring 40 rfl) (by decide) ?_
          exact K_iret (dt_at dtX12_ring 42 rfl) rfl rfl (by decide) (by decide) ⟨by rw [hab, if_pos (by assumption)], rfl⟩
      · refine K_iload_n (dt_at dtX12_ring 18 rfl) rfl rfl ?_
        refine K_iconst (dt_at dtX12_ring 19 rfl) ?_
        refine K_iload_n (dt_at dtX12_ring 20 rfl) rfl rfl ?_
        refine K_ishl (dt_at dtX12_ring 21 rfl) ?_
        refine K_ior (dt_at dtX12_ring 22 rfl) ?_
        refine K_istore_n (ls' := [(2, vi (bOr b (bShl 1 u))), (3, vi u), (0, vr 0), (1, vi p)]) (dt_at dtX12_ring 23 rfl) rfl (by decide) rfl ?_
        refine K_aload_n (dt_at dtX12_ring 24 rfl) rfl rfl ?_
        refine K_get (a := 0) (ci := 12) (k := 42) (v := vr 18) (dt_at dtX12_ring 25 rfl) (show TT 0 = (0, 12) from rfl) rfl (by decide) wF_X12_72 rfl ?_
        refine K_bipush (dt_at dtX12_ring 26 rfl) (by decide) ?_
        refine K_iload_n (dt_at dtX12_ring 27 rfl) rfl rfl ?_
        refine K_iadd (dt_at dtX12_ring 28 rfl) ?_
        refine K_iald (dt_at dtX12_ring 29 rfl) (show TT 18 = (1, 154) from rfl) (by omega) (by omega) ?_
        rw [show hA h 18 (70 + u) = (f (22 + u)) from RV_k d.2.2.2 (p := u) (by omega) (by omega)]
        refine K_istore_n (ls' := [(3, vi (f (22 + u))), (2, vi (bOr b (bShl 1 u))), (0, vr 0), (1, vi p)]) (dt_at dtX12_ring 30 rfl) rfl (by decide) rfl ?_
        refine K_goto (tgt := 12) (dt_at dtX12_ring 31 rfl) (by decide) ?_
        exact (by simp at hw1; omega : False).elim
  | succ dd ih =>
    intro u b hu hw
    have hB := d.1.1
    have hNt := hB.1
    have hNp := hB.2.1
    have wu : 0 ≤ u → -1 ≤ f (22 + u) ∧ f (22 + u) < 7 := fun z => by have := hW.2 u z hu.2; omega
    refine K_iload_n (dt_at dtX12_ring 9 rfl) rfl rfl ?_
    refine K_iconst (dt_at dtX12_ring 10 rfl) ?_
    refine K_icmp_eq (tgt := 44) (dt_at dtX12_ring 11 rfl) (by decide) (by first | assumption | exact ⟨by omega, by omega⟩) (by first | assumption | exact ⟨by omega, by omega⟩) (fun c1 => ?_) (fun c1 => ?_)
    · refine K_iload_n (dt_at dtX12_ring 32 rfl) rfl rfl ?_
      refine K_iload_n (dt_at dtX12_ring 33 rfl) rfl rfl ?_
      refine K_ishr (dt_at dtX12_ring 34 rfl) ?_
      refine K_iconst (dt_at dtX12_ring 35 rfl) ?_
      refine K_iand (dt_at dtX12_ring 36 rfl) ?_
      refine K_iconst (dt_at dtX12_ring 37 rfl) ?_
      refine K_icmp_ne (tgt := 57) (dt_at dtX12_ring 38 rfl) (by decide) (bAnd32 _ _) (by first | assumption | exact ⟨by omega, by omega⟩) (fun c2 => ?_) (fun c2 => ?_)
      · refine K_iconst (dt_at dtX12_ring 41 rfl) ?_
        have hab : A = b := by have h9 := hw; rw [show wsN (fun u => f (22 + u)) true A (dd + 1) u b = (if (true = true ∧ u = -1) ∨ bAnd (bShr b u) 1 ≠ 0 then A = b else wsN (fun u => f (22 + u)) true A dd (f (22 + u)) (bOr b (bShl 1 u))) from rfl, if_pos (by simp; omega)] at h9; exact h9
        exact K_iret (dt_at dtX12_ring 42 rfl) rfl rfl (by decide) (by decide) ⟨by rw [hab, if_neg (by assumption)], rfl⟩
      · refine K_iload_n (dt_at dtX12_ring 39 rfl) rfl rfl ?_
        refine K_goto (tgt := 58) (dt_at dtX12_ring 40 rfl) (by decide) ?_
        have hab : A = b := by have h9 := hw; rw [show wsN (fun u => f (22 + u)) true A (dd + 1) u b = (if (true = true ∧ u = -1) ∨ bAnd (bShr b u) 1 ≠ 0 then A = b else wsN (fun u => f (22 + u)) true A dd (f (22 + u)) (bOr b (bShl 1 u))) from rfl, if_pos (by simp; omega)] at h9; exact h9
        exact K_iret (dt_at dtX12_ring 42 rfl) rfl rfl (by decide) (by decide) ⟨by rw [hab, if_pos (by assumption)], rfl⟩
    · refine K_iload_n (dt_at dtX12_ring 12 rfl) rfl rfl ?_
      refine K_iload_n (dt_at dtX12_ring 13 rfl) rfl rfl ?_
      refine K_ishr (dt_at dtX12_ring 14 rfl) ?_
      refine K_iconst (dt_at dtX12_ring 15 rfl) ?_
      refine K_iand (dt_at dtX12_ring 16 rfl) ?_
      refine K_if_ne (tgt := 44) (dt_at dtX12_ring 17 rfl) (by decide) (bAnd32 _ _) (fun c3 => ?_) (fun c3 => ?_)
      · refine K_iload_n (dt_at dtX12_ring 32 rfl) rfl rfl ?_
        refine K_iload_n (dt_at dtX12_ring 33 rfl) rfl rfl ?_
        refine K_ishr (dt_at dtX12_ring 34 rfl) ?_
        refine K_iconst (dt_at dtX12_ring 35 rfl) ?_
        refine K_iand (dt_at dtX12_ring 36 rfl) ?_
        refine K_iconst (dt_at dtX12_ring 37 rfl) ?_
        refine K_icmp_ne (tgt := 57) (dt_at dtX12_ring 38 rfl) (by decide) (bAnd32 _ _) (by first | assumption | exact ⟨by omega, by omega⟩) (fun c4 => ?_) (fun c4 => ?_)
        · refine K_iconst (dt_at dtX12_ring 41 rfl) ?_
          have hab : A = b := by have h9 := hw; rw [show wsN (fun u => f (22 + u)) true A (dd + 1) u b = (if (true = true ∧ u = -1) ∨ bAnd (bShr b u) 1 ≠ 0 then A = b else wsN (fun u => f (22 + u)) true A dd (f (22 + u)) (bOr b (bShl 1 u))) from rfl, if_pos (by simp; omega)] at h9; exact h9
          exact K_iret (dt_at dtX12_ring 42 rfl) rfl rfl (by decide) (by decide) ⟨by rw [hab, if_neg (by assumption)], rfl⟩
        · refine K_iload_n (dt_at dtX12_ring 39 rfl) rfl rfl ?_
          refine K_goto (tgt := 58) (dt_at dtX12_ring 40 rfl) (by decide) ?_
          have hab : A = b := by have h9 := hw; rw [show wsN (fun u => f (22 + u)) true A (dd + 1) u b = (if (true = true ∧ u = -1) ∨ bAnd (bShr b u) 1 ≠ 0 then A = b else wsN (fun u => f (22 + u)) true A dd (f (22 + u)) (bOr b (bShl 1 u))) from rfl, if_pos (by simp; omega)] at h9; exact h9
          exact K_iret (dt_at dtX12_ring 42 rfl) rfl rfl (by decide) (by decide) ⟨by rw [hab, if_pos (by assumption)], rfl⟩
      · refine K_iload_n (dt_at dtX12_ring 18 rfl) rfl rfl ?_
        refine K_iconst (dt_at dtX12_ring 19 rfl) ?_
        refine K_iload_n (dt_at dtX12_ring 20 rfl) rfl rfl ?_
        refine K_ishl (dt_at dtX12_ring 21 rfl) ?_
        refine K_ior (dt_at dtX12_ring 22 rfl) ?_
        refine K_istore_n (ls' := [(2, vi (bOr b (bShl 1 u))), (3, vi u), (0, vr 0), (1, vi p)]) (dt_at dtX12_ring 23 rfl) rfl (by decide) rfl ?_
        refine K_aload_n (dt_at dtX12_ring 24 rfl) rfl rfl ?_
        refine K_get (a := 0) (ci := 12) (k := 42) (v := vr 18) (dt_at dtX12_ring 25 rfl) (show TT 0 = (0, 12) from rfl) rfl (by decide) wF_X12_72 rfl ?_
        refine K_bipush (dt_at dtX12_ring 26 rfl) (by decide) ?_
        refine K_iload_n (dt_at dtX12_ring 27 rfl) rfl rfl ?_
        refine K_iadd (dt_at dtX12_ring 28 rfl) ?_
        refine K_iald (dt_at dtX12_ring 29 rfl) (show TT 18 = (1, 154) from rfl) (by omega) (by omega) ?_
        rw [show hA h 18 (70 + u) = (f (22 + u)) from RV_k d.2.2.2 (p := u) (by omega) (by omega)]
        refine K_istore_n (ls' := [(3, vi (f (22 + u))), (2, vi (bOr b (bShl 1 u))), (0, vr 0), (1, vi p)]) (dt_at dtX12_ring 30 rfl) rfl (by decide) rfl ?_
        refine K_goto (tgt := 12) (dt_at dtX12_ring 31 rfl) (by decide) ?_
        exact K_pk [0, 1, 2, 3] rfl (ih (f (22 + u)) (bOr b (bShl 1 u)) (by omega) (by have h9 := hw; rw [show wsN (fun u => f (22 + u)) true A (dd + 1) u b = (if (true = true ∧ u = -1) ∨ bAnd (bShr b u) 1 ≠ 0 then A = b else wsN (fun u => f (22 + u)) true A dd (f (22 + u)) (bOr b (bShl 1 u))) from rfl, if_neg (by simp; omega)] at h9; exact h9))
set_option maxHeartbeats 4000000 in
set_option maxRecDepth 100000 in
theorem sX12_ring {h0 h : HP} {S : HS} {f : Int → Int} {p A : Int} {n : Nat} (d : MD h0 h 0 S f) (hW : rW f) (hp : 0 ≤ p ∧ p < 7) (hws : wsN (fun u => f (22 + u)) true A n (f (22 + p)) 0) : SpecK mX12_ring [vr 0, vi p] h (fun o h' => o = .inl (some (vi (if bAnd (bShr A p) 1 = 1 then A else 0))) ∧ h' = h) := by
  refine Spec_of (by decide +kernel) (Nat.le_of_ble_eq_true rfl) ?_
  have wp := (hW.2 p hp.1 hp.2).2.2.2
  refine K_iconst (dt_at dtX12_ring 0 rfl) ?_
  refine K_istore_n (ls' := [(2, vi 0), (0, vr 0), (1, vi p)]) (dt_at dtX12_ring 1 rfl) rfl (by decide) rfl ?_
  refine K_aload_n (dt_at dtX12_ring 2 rfl) rfl rfl ?_
  refine K_get (a := 0) (ci := 12) (k := 42) (v := vr 18) (dt_at dtX12_ring 3 rfl) (show TT 0 = (0, 12) from rfl) rfl (by decide) wF_X12_72 rfl ?_
  refine K_bipush (dt_at dtX12_ring 4 rfl) (by decide) ?_
  refine K_iload_n (dt_at dtX12_ring 5 rfl) rfl rfl ?_
  refine K_iadd (dt_at dtX12_ring 6 rfl) ?_
  refine K_iald (dt_at dtX12_ring 7 rfl) (show TT 18 = (1, 154) from rfl) (by omega) (by omega) ?_
  rw [show hA h 18 (70 + p) = (f (22 + p)) from RV_k d.2.2.2 (p := p) (by omega) (by omega)]
  refine K_istore_n (ls' := [(3, vi (f (22 + p))), (2, vi 0), (0, vr 0), (1, vi p)]) (dt_at dtX12_ring 8 rfl) rfl (by decide) rfl ?_
  exact K_pk [0, 1, 2, 3] rfl (lp_X12_ring d hW hp n (f (22 + p)) 0 wp hws)
