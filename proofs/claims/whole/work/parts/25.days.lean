def mX11_least : MI := (yX11_least, cX11_least, 5, (some .int), rmK 8 2)
def tX11_least : List (Nat × Instr × Nat) := [(0, .aload_n 0, 1), (1, .iload_n 1, 1), (2, .invokevirtual 172, 3), (5, .iload_n 2, 1), (6, .iconst 0, 1), (7, .bipush 100, 2), (9, .invokestatic 111, 3), (12, .aload_n 0, 1), (13, .getfield 39, 3), (16, .iload_n 1, 1), (17, .invokevirtual 181, 3), (20, .istore_n 3, 1), (21, .aload_n 0, 1), (22, .getfield 69, 3), (25, .aload_n 0, 1), (26, .getfield 20, 3), (29, .aload_n 0, 1), (30, .getfield 39, 3), (33, .invokevirtual 286, 3), (36, .iconst 1, 1), (37, .istore 4, 2), (39, .iload 4, 2), (41, .iload_n 2, 1), (42, .if_icmp .gt 32, 3), (45, .aload_n 0, 1), (46, .getfield 69, 3), (49, .invokevirtual 288, 3), (52, .iload_n 3, 1), (53, .aload_n 0, 1), (54, .getfield 69, 3), (57, .getfield 291, 3), (60, .iload_n 1, 1), (61, .invokevirtual 181, 3), (64, .invokestatic 311, 3), (67, .istore_n 3, 1), (68, .iinc 4 1, 3), (71, .goto (-32), 3), (74, .iload_n 3, 1), (75, .ireturn, 1)]
theorem dtX11_least : tX11_least.all (fun q => decide (decode cX11_least q.1 = .ok (q.2.1, q.2.2))) = true := by decide +kernel
theorem npX11_least : (parseMethodDescriptor (mY mX11_least).desc).map (fun d => d.parameters.length) = some 2 := by decide +kernel
theorem vX11_least : mV mX11_least := ⟨wI_X11_least, wS_X11_least, wN_X11, wC_X11_least, by decide +kernel, by decide +kernel⟩
set_option maxHeartbeats 4000000 in
set_option maxRecDepth 100000 in
theorem sX11_least_x1 {h : HP} {t : Nat} {S : HS} {B : Int} {f : Int → Int} {q : Int} {d : Int} (c : CQ h t S B f) (hq : i32 q) (hd : i32 d) (kn : ¬ (0 ≤ q ∧ q < sNt S)) : SpecK mX11_least [vr 30, vi q, vi d] h (fun o h' => o = .inr eNS ∧ FS h h') := by
  refine Spec_of (by decide +kernel) (Nat.le_of_ble_eq_true rfl) ?_
  have ht := c.1
  have hH := TTt ht
  have hB := c.2.2.2.1
  have hNt := hB.1
  have hNp := hB.2.1
  have hT := c.2.2.2.2.2.1
  have hC := c.2.2.2.2.2.2.1
  have h99 := c.2.2.2.2.2.2.2.1
  have G := c.2.2.2.2.2.2.2.2
  have hf0 := hT.2.2.2.1
  refine K_aload_n (dt_at dtX11_least 0 rfl) rfl rfl ?_
  refine K_iload_n (dt_at dtX11_least 1 rfl) rfl rfl ?_
  exact K_callV (M' := mX11_needThing) (a := 30) (ci := 11) (As := [vi q]) (st := []) (dt_at dtX11_least 2 rfl) (sX11_needThing_no hH c.2.1 c.2.2.1.2.1.1 hNt (by assumption) (by omega)) (by decide) rfl wL_X11_172 vX11_needThing rfl npX11_needThing (by decide) (by decide) (Nat.le_of_ble_eq_true rfl) (by decide) (by decide) GK_E (fun v9 h9 hq => by cases hq.1) (fun E h9 hq => by obtain ⟨e9, e8⟩ := hq; cases e9; rw [e8]; exact KX_out (by decide) (by decide) ⟨rfl, FS_rf G⟩)
set_option maxHeartbeats 4000000 in
set_option maxRecDepth 100000 in
theorem sX11_least_x2 {h : HP} {t : Nat} {S : HS} {B : Int} {f : Int → Int} {q : Int} {d : Int} (c : CQ h t S B f) (hq : i32 q) (hd : i32 d) (k0 : 0 ≤ q ∧ q < sNt S) (kn : ¬ (0 ≤ d ∧ d ≤ 100)) : SpecK mX11_least [vr 30, vi q, vi d] h (fun o h' => o = .inr eIA ∧ FS h h') := by
  refine Spec_of (by decide +kernel) (Nat.le_of_ble_eq_true rfl) ?_
  have ht := c.1
  have hH := TTt ht
  have hB := c.2.2.2.1
  have hNt := hB.1
  have hNp := hB.2.1
  have hT := c.2.2.2.2.2.1
  have hC := c.2.2.2.2.2.2.1
  have h99 := c.2.2.2.2.2.2.2.1
  have G := c.2.2.2.2.2.2.2.2
  have hf0 := hT.2.2.2.1
  refine K_aload_n (dt_at dtX11_least 0 rfl) rfl rfl ?_
  refine K_iload_n (dt_at dtX11_least 1 rfl) rfl rfl ?_
  refine K_callV (M' := mX11_needThing) (a := 30) (ci := 11) (As := [vi q]) (st := []) (dt_at dtX11_least 2 rfl) (sX11_needThing hH c.2.1 c.2.2.1.2.1.1 hNt (by first | assumption | exact ⟨by omega, by omega⟩) (by omega)) (by decide) rfl wL_X11_172 vX11_needThing rfl npX11_needThing (by decide) (by decide) (Nat.le_of_ble_eq_true rfl) (by decide) (by decide) GK_E (fun v9 h9 hq => ?_) (fun E h9 hq => by cases hq.1)
  obtain ⟨e9, e8⟩ := hq
  cases e9
  rw [e8]
  show K mX11_least _ _ 1 6 5 [(0, vr 30), (1, vi q), (2, vi d)] [] h
  refine K_iload_n (dt_at dtX11_least 3 rfl) rfl rfl ?_
  refine K_iconst (dt_at dtX11_least 4 rfl) ?_
  refine K_bipush (dt_at dtX11_least 5 rfl) (by decide) ?_
  exact K_callS (M' := mX11_needBetween) (As := [vi d, vi 0, vi 100]) (st := []) (dt_at dtX11_least 6 rfl) (sX11_needBetween_no (by assumption) ⟨by decide, by decide⟩ ⟨by decide, by decide⟩ (by omega)) wL_X11_111 vX11_needBetween rfl npX11_needBetween (by decide) (by decide) (Nat.le_of_ble_eq_true rfl) (by decide) (by decide) GK_E (fun v9 h9 hq => by cases hq.1) (fun E h9 hq => by obtain ⟨e9, e8⟩ := hq; cases e9; rw [e8]; exact KX_out (by decide) (by decide) ⟨rfl, FS_rf G⟩)
theorem lsF_b {S : HS} {B : Int} {f : Int → Int} {q : Int} {n : Nat} (hB : hsW S) (hT : rT B f) (hC : rC S f) (h0 : f 0 + n ≤ 20000) (hq : 0 ≤ q ∧ q < 6) : ∀ k : Nat, k ≤ n → 0 ≤ itN (fun k v => min v (dysF S f (k + 1) (29 + q))) (f (29 + q)) k ∧ itN (fun k v => min v (dysF S f (k + 1) (29 + q))) (f (29 + q)) k ≤ 100000000
  | 0, _ => by
    have a := hT.2.1 (29 + q) (by omega) (by omega)
    have b := hT.1.1 (29 + q) (by omega) (by omega)
    exact ⟨a, b.2⟩
  | k + 1, hk => by
    obtain ⟨a, b⟩ := lsF_b hB hT hC h0 hq k (by omega)
    obtain ⟨hTn, -⟩ := dysF_ok hB hT hC (k + 1) (by omega)
    have e := hTn.2.1 (29 + q) (by omega) (by omega)
    refine ⟨?_, ?_⟩
    · show 0 ≤ min _ _
      omega
    · show min _ _ ≤ _
      omega
set_option maxHeartbeats 4000000 in
set_option maxRecDepth 100000 in
theorem lp_X11_least {Q : AO → HP → Prop} {h h1 : HP} {t : Nat} {S : HS} {B : Int} {f : Int → Int} {q : Int} {n : Nat} (c : CQ h t S B f) (F1 : FS h h1) (X : WX h1 84 t S) (hqt : 0 ≤ q ∧ q < sNt S) (hn : n ≤ 100) (hQ : ∀ h2, FS h h2 → Q (.inl (some (vi (itN (fun k v => min v (dysF S f (k + 1) (29 + q))) (f (29 + q)) n)))) h2) : ∀ (d k : Nat) (hh : HP), k + d = n → PW h1 hh 84 t (dysF S f k) (trD S f (fun _ => 0) k) (emD S f 0 k) → K mX11_least GK (ZK Q 2 12) 2 12 39 [(4, vi ((k : Int) + 1)), (3, vi (itN (fun k v => min v (dysF S f (k + 1) (29 + q))) (f (29 + q)) k)), (0, vr 30), (1, vi q), (2, vi (n : Int))] [] hh := by
  intro d
  induction d with
  | zero =>
    intro k hh hk Ph
    have ek : k = n := by omega
    subst ek
    have ht := c.1
    have hH := TTt ht
    have hB := c.2.2.2.1
    have hNt := hB.1
    have hNp := hB.2.1
    have hT := c.2.2.2.2.2.1
    have hC := c.2.2.2.2.2.2.1
    have h99 := c.2.2.2.2.2.2.2.1
    have G := c.2.2.2.2.2.2.2.2
    have hf0 := hT.2.2.2.1
    have ch := CQ_FS c (FS_tr F1 (WK_FS X Ph.1 F1.2.2.2))
    have hfh : hA hh 86 = dysF S f k := Ph.2.1
    refine K_iload (dt_at dtX11_least 21 rfl) rfl ?_
    refine K_iload_n (dt_at dtX11_least 22 rfl) rfl rfl ?_
    refine K_icmp_gt (tgt := 74) (dt_at dtX11_least 23 rfl) (by decide) (by first | assumption | exact ⟨by omega, by omega⟩) (by first | assumption | exact ⟨by omega, by omega⟩) (fun c1 => ?_) (fun c1 => absurd c1 (by omega))
    refine K_iload_n (dt_at dtX11_least 37 rfl) rfl rfl ?_
    exact K_iret (dt_at dtX11_least 38 rfl) rfl rfl (by decide) (by decide) (hQ _ (FS_tr F1 (WK_FS X Ph.1 F1.2.2.2)))
  | succ d ih =>
    intro k hh hk Ph
    have ht := c.1
    have hH := TTt ht
    have hB := c.2.2.2.1
    have hNt := hB.1
    have hNp := hB.2.1
    have hT := c.2.2.2.2.2.1
    have hC := c.2.2.2.2.2.2.1
    have h99 := c.2.2.2.2.2.2.2.1
    have G := c.2.2.2.2.2.2.2.2
    have hf0 := hT.2.2.2.1
    have ch := CQ_FS c (FS_tr F1 (WK_FS X Ph.1 F1.2.2.2))
    have hfh : hA hh 86 = dysF S f k := Ph.2.1
    obtain ⟨hTk, hCk, hk0⟩ := dysF_ok hB hT hC k (by omega)
    obtain ⟨hTn, hCn, hn0⟩ := dysF_ok hB hT hC (k + 1) (by omega)
    have w1 := lsF_b hB hT hC (n := n) (q := q) (by omega) (by omega) k (by omega)
    have w2 := hTn.1.1 (29 + q) (by omega) (by omega)
    refine K_iload (dt_at dtX11_least 21 rfl) rfl ?_
    refine K_iload_n (dt_at dtX11_least 22 rfl) rfl rfl ?_
    refine K_icmp_gt (tgt := 74) (dt_at dtX11_least 23 rfl) (by decide) (by first | assumption | exact ⟨by omega, by omega⟩) (by first | assumption | exact ⟨by omega, by omega⟩) (fun c1 => absurd c1 (by omega)) (fun c1 => ?_)
    refine K_aload_n (dt_at dtX11_least 24 rfl) rfl rfl ?_
    refine K_get (a := 30) (ci := 11) (k := 11) (v := vr 84) (dt_at dtX11_least 25 rfl) (by decide) rfl (by decide) wF_X11_69 rfl ?_
    refine K_callV (M' := mX10_passDay) (a := 84) (ci := 10) (As := []) (st := []) (dt_at dtX11_least 26 rfl) (sX10_passDay X Ph hTk hCk) (by decide) rfl wL_X11_288 vX10_passDay rfl npX10_passDay (by decide) (by decide) (Nat.le_of_ble_eq_true rfl) (by decide) (by decide) GK_E (fun v9 hc1 hq => ?_) (fun E h9 hq => by cases hq.1)
    have hqq2 := hq
    obtain ⟨e9q2, Pzq2⟩ := hqq2
    have Pq2 : PW h1 hc1 84 t (dysF S f (k + 1)) (trD S f (fun _ => 0) (k + 1)) (emD S f 0 (k + 1)) := Pzq2
    have cq2 := CQ_FS c (FS_tr F1 (WK_FS X Pq2.1 F1.2.2.2))
    have hfq2 : hA hc1 86 = dysF S f (k + 1) := Pq2.2.1
    cases e9q2
    show K mX11_least _ _ 2 12 52 [(4, vi ((k : Int) + 1)), (3, vi (itN (fun k v => min v (dysF S f (k + 1) (29 + q))) (f (29 + q)) k)), (0, vr 30), (1, vi q), (2, vi (n : Int))] [] hc1
    refine K_iload_n (dt_at dtX11_least 27 rfl) rfl rfl ?_
    refine K_aload_n (dt_at dtX11_least 28 rfl) rfl rfl ?_
    refine K_get (a := 30) (ci := 11) (k := 11) (v := vr 84) (dt_at dtX11_least 29 rfl) (by decide) rfl (by decide) wF_X11_69 rfl ?_
    refine K_get (a := 84) (ci := 10) (k := 0) (v := vr 85) (dt_at dtX11_least 30 rfl) (by decide) rfl (by decide) wF_X11_291 rfl ?_
    refine K_iload_n (dt_at dtX11_least 31 rfl) rfl rfl ?_
    refine K_callV (M' := mX8_stock) (a := 85) (ci := 8) (As := [vi q]) (st := [vi (itN (fun k v => min v (dysF S f (k + 1) (29 + q))) (f (29 + q)) k)]) (dt_at dtX11_least 32 rfl) (sX8_stock (a := 85) (by decide) ⟨by omega, by omega⟩) (by decide) rfl wL_X11_181 vX8_stock rfl npX8_stock (by decide) (by decide) (Nat.le_of_ble_eq_true rfl) (by decide) (by decide) GK_E (fun v9 h9 hq => ?_) (fun E h9 hq => by cases hq.1)
    obtain ⟨e9, e8⟩ := hq
    cases e9
    rw [e8]
    show K mX11_least _ _ 2 12 64 [(4, vi ((k : Int) + 1)), (3, vi (itN (fun k v => min v (dysF S f (k + 1) (29 + q))) (f (29 + q)) k)), (0, vr 30), (1, vi q), (2, vi (n : Int))] [vi (hA hc1 (85 + 1) (29 + q)), vi (itN (fun k v => min v (dysF S f (k + 1) (29 + q))) (f (29 + q)) k)] hc1
    rw [show hA hc1 (85 + 1) = (dysF S f (k + 1)) from hfq2]
    refine K_min (dt_at dtX11_least 33 rfl) wL_X11_311 (by first | assumption | exact ⟨by omega, by omega⟩) (by first | assumption | exact ⟨by omega, by omega⟩) (by decide) (Nat.le_of_ble_eq_true rfl) (by decide) (by decide) ?_
    refine K_istore_n (ls' := [(3, vi (min (itN (fun k v => min v (dysF S f (k + 1) (29 + q))) (f (29 + q)) k) ((dysF S f (k + 1)) (29 + q)))), (4, vi ((k : Int) + 1)), (0, vr 30), (1, vi q), (2, vi (n : Int))]) (dt_at dtX11_least 34 rfl) rfl (by decide) rfl ?_
    refine K_iinc (ls' := [(4, vi (((k : Int) + 1) + 1)), (3, vi (min (itN (fun k v => min v (dysF S f (k + 1) (29 + q))) (f (29 + q)) k) ((dysF S f (k + 1)) (29 + q)))), (0, vr 30), (1, vi q), (2, vi (n : Int))]) (dt_at dtX11_least 35 rfl) rfl (by decide) rfl ?_
    refine K_goto (tgt := 39) (dt_at dtX11_least 36 rfl) (by decide) ?_
    refine K_pk [0, 1, 2, 3, 4] (ls' := [(4, vi (((k : Int) + 1) + 1)), (3, vi (min (itN (fun k v => min v (dysF S f (k + 1) (29 + q))) (f (29 + q)) k) ((dysF S f (k + 1)) (29 + q)))), (0, vr 30), (1, vi q), (2, vi (n : Int))]) rfl ?_
    exact K_cg (ls' := [(4, vi (((k + 1 : Nat) : Int) + 1)), (3, vi (itN (fun k v => min v (dysF S f (k + 1) (29 + q))) (f (29 + q)) (k + 1))), (0, vr 30), (1, vi q), (2, vi (n : Int))]) (h' := hc1) (by rfl) rfl (ih (k + 1) hc1 (by omega) Pq2)
set_option maxHeartbeats 4000000 in
set_option maxRecDepth 100000 in
theorem sX11_least {h : HP} {t : Nat} {S : HS} {B : Int} {f : Int → Int} {q : Int} {n : Nat} (c : CQ h t S B f) (hqt : 0 ≤ q ∧ q < sNt S) (hn : n ≤ 100) : SpecK mX11_least [vr 30, vi q, vi (n : Int)] h (fun o h' => o = .inl (some (vi (itN (fun k v => min v (dysF S f (k + 1) (29 + q))) (f (29 + q)) n))) ∧ FS h h') := by
  refine Spec_of (by decide +kernel) (Nat.le_of_ble_eq_true rfl) ?_
  have ht := c.1
  have hH := TTt ht
  have hB := c.2.2.2.1
  have hNt := hB.1
  have hNp := hB.2.1
  have hT := c.2.2.2.2.2.1
  have hC := c.2.2.2.2.2.2.1
  have h99 := c.2.2.2.2.2.2.2.1
  have G := c.2.2.2.2.2.2.2.2
  have hf0 := hT.2.2.2.1
  refine K_aload_n (dt_at dtX11_least 0 rfl) rfl rfl ?_
  refine K_iload_n (dt_at dtX11_least 1 rfl) rfl rfl ?_
  refine K_callV (M' := mX11_needThing) (a := 30) (ci := 11) (As := [vi q]) (st := []) (dt_at dtX11_least 2 rfl) (sX11_needThing hH c.2.1 c.2.2.1.2.1.1 hNt (by first | assumption | exact ⟨by omega, by omega⟩) (by omega)) (by decide) rfl wL_X11_172 vX11_needThing rfl npX11_needThing (by decide) (by decide) (Nat.le_of_ble_eq_true rfl) (by decide) (by decide) GK_E (fun v9 h9 hq => ?_) (fun E h9 hq => by cases hq.1)
  obtain ⟨e9, e8⟩ := hq
  cases e9
  rw [e8]
  show K mX11_least _ _ 1 6 5 [(0, vr 30), (1, vi q), (2, vi (n : Int))] [] h
  refine K_iload_n (dt_at dtX11_least 3 rfl) rfl rfl ?_
  refine K_iconst (dt_at dtX11_least 4 rfl) ?_
  refine K_bipush (dt_at dtX11_least 5 rfl) (by decide) ?_
  refine K_callS (M' := mX11_needBetween) (As := [vi (n : Int), vi 0, vi 100]) (st := []) (dt_at dtX11_least 6 rfl) (sX11_needBetween (by first | assumption | exact ⟨by omega, by omega⟩) ⟨by decide, by decide⟩ ⟨by decide, by decide⟩ (by omega)) wL_X11_111 vX11_needBetween rfl npX11_needBetween (by decide) (by decide) (Nat.le_of_ble_eq_true rfl) (by decide) (by decide) GK_E (fun v9 h9 hq => ?_) (fun E h9 hq => by cases hq.1)
  obtain ⟨e9, e8⟩ := hq
  cases e9
  rw [e8]
  show K mX11_least _ _ 2 12 12 [(0, vr 30), (1, vi q), (2, vi (n : Int))] [] h
  refine K_aload_n (dt_at dtX11_least 7 rfl) rfl rfl ?_
  refine K_get (a := 30) (ci := 11) (k := 5) (v := vr 66) (dt_at dtX11_least 8 rfl) (by decide) rfl (by decide) wF_X11_39 rfl ?_
  refine K_iload_n (dt_at dtX11_least 9 rfl) rfl rfl ?_
  refine K_callV (M' := mX8_stock) (a := 66) (ci := 8) (As := [vi q]) (st := []) (dt_at dtX11_least 10 rfl) (sX8_stock (a := 66) (by decide) ⟨by omega, by omega⟩) (by decide) rfl wL_X11_181 vX8_stock rfl npX8_stock (by decide) (by decide) (Nat.le_of_ble_eq_true rfl) (by decide) (by decide) GK_E (fun v9 h9 hq => ?_) (fun E h9 hq => by cases hq.1)
  obtain ⟨e9, e8⟩ := hq
  cases e9
  rw [e8]
  show K mX11_least _ _ 2 12 20 [(0, vr 30), (1, vi q), (2, vi (n : Int))] [vi (hA h (66 + 1) (29 + q))] h
  rw [show hA h (66 + 1) = f from c.2.2.2.2.1]
  refine K_istore_n (ls' := [(3, vi (f (29 + q))), (0, vr 30), (1, vi q), (2, vi (n : Int))]) (dt_at dtX11_least 11 rfl) rfl (by decide) rfl ?_
  refine K_aload_n (dt_at dtX11_least 12 rfl) rfl rfl ?_
  refine K_get (a := 30) (ci := 11) (k := 11) (v := vr 84) (dt_at dtX11_least 13 rfl) (by decide) rfl (by decide) wF_X11_69 rfl ?_
  refine K_aload_n (dt_at dtX11_least 14 rfl) rfl rfl ?_
  refine K_get (a := 30) (ci := 11) (k := 2) (v := vr t) (dt_at dtX11_least 15 rfl) (by decide) rfl (by decide) wF_X11_20 (by show vr (hR h 30 2) = vr t; rw [c.2.1]) ?_
  refine K_aload_n (dt_at dtX11_least 16 rfl) rfl rfl ?_
  refine K_get (a := 30) (ci := 11) (k := 5) (v := vr 66) (dt_at dtX11_least 17 rfl) (by decide) rfl (by decide) wF_X11_39 rfl ?_
  refine K_callV (M' := mX10_begin) (a := 84) (ci := 10) (As := [vr t, vr 66]) (st := []) (dt_at dtX11_least 18 rfl) (sX10_begin (w := 84) (t := t) (a := 66) (Or.inl rfl) ht (by decide) (by decide)) (by decide) rfl wL_X11_286 vX10_begin rfl npX10_begin (by decide) (by decide) (Nat.le_of_ble_eq_true rfl) (by decide) (by decide) GK_E (fun v9 hc1 hq => ?_) (fun E h9 hq => by cases hq.1)
  have hqq2 := hq
  obtain ⟨e9q2, b1, b2, b3, b4, b5, b6, b7⟩ := hqq2
  obtain ⟨F1, X, P1⟩ := BG_ok (w := 84) (Or.inl rfl) ht c.2.2.1 hB c.2.2.2.2.2.2.2.2 b1 b2 b3 b4 b5 b6 b7
  rw [c.2.2.2.2.1] at P1
  cases e9q2
  show K mX11_least _ _ 2 12 36 [(3, vi (f (29 + q))), (0, vr 30), (1, vi q), (2, vi (n : Int))] [] hc1
  refine K_iconst (dt_at dtX11_least 19 rfl) ?_
  refine K_istore (ls' := [(4, vi 1), (3, vi (f (29 + q))), (0, vr 30), (1, vi q), (2, vi (n : Int))]) (dt_at dtX11_least 20 rfl) (by decide) rfl ?_
  exact K_pk [0, 1, 2, 3, 4] rfl (lp_X11_least c F1 X hqt hn (fun h2 q_ => ⟨rfl, q_⟩) n 0 hc1 (by omega) P1)
/-- the most so far, by the first that has it -/
def mxN (s : Int) (u : Nat → Int) : Nat → Int
  | 0 => s
  | k + 1 => if mxN s u k < u k then u k else mxN s u k
def fmN (s o z : Int) (u : Nat → Int) : Nat → Int
  | 0 => z
  | k + 1 => if mxN s u k < u k then (k : Int) + o else fmN s o z u k
theorem mxN_b {s M : Int} {u : Nat → Int} (hs : s ≤ M) : ∀ n : Nat, (∀ k, k < n → u k ≤ M) → s ≤ mxN s u n ∧ mxN s u n ≤ M
  | 0, _ => ⟨Int.le_refl s, hs⟩
  | k + 1, h => by
    obtain ⟨a, b⟩ := mxN_b hs k (fun j hj => h j (by omega))
    have e := h k (by omega)
    show s ≤ (if mxN s u k < u k then u k else mxN s u k) ∧ _
    by_cases z : mxN s u k < u k
    · rw [if_pos z]
      refine ⟨by omega, ?_⟩
      show (if mxN s u k < u k then u k else mxN s u k) ≤ M
      rw [if_pos z]; exact e
    · rw [if_neg z]
      refine ⟨a, ?_⟩
      show (if mxN s u k < u k then u k else mxN s u k) ≤ M
      rw [if_neg z]; exact b
theorem mxN_t {s : Int} {u : Nat → Int} {k : Nat} (h : mxN s u k < u k) : mxN s u (k + 1) = u k := if_pos h
theorem mxN_f {s : Int} {u : Nat → Int} {k : Nat} (h : ¬ mxN s u k < u k) : mxN s u (k + 1) = mxN s u k := if_neg h
theorem fmN_t {s o z : Int} {u : Nat → Int} {k : Nat} (h : mxN s u k < u k) : fmN s o z u (k + 1) = (k : Int) + o := if_pos h
theorem fmN_f {s o z : Int} {u : Nat → Int} {k : Nat} (h : ¬ mxN s u k < u k) : fmN s o z u (k + 1) = fmN s o z u k := if_neg h
/-- how many below n -/
def cntN (p : Nat → Bool) : Nat → Int
  | 0 => 0
  | k + 1 => if p k then cntN p k + 1 else cntN p k
theorem cntN_t {p : Nat → Bool} {k : Nat} (h : p k = true) : cntN p (k + 1) = cntN p k + 1 := if_pos h
theorem cntN_f {p : Nat → Bool} {k : Nat} (h : p k = false) : cntN p (k + 1) = cntN p k := if_neg (by rw [h]; decide)
theorem sumD_b {S : HS} {B : Int} {f us : Int → Int} {p : Int} {n : Nat} (hB : hsW S) (hT : rT B f) (hC : rC S f) (h0 : f 0 + n ≤ 20000) (hp : 0 ≤ p ∧ p < 7) (hu : us = sW S ∨ us = sU S) : 0 ≤ sumF us (dysF S f n) p (sNt S) ∧ sumF us (dysF S f n) p (sNt S) ≤ 120000000 := by
  obtain ⟨hTn, -⟩ := dysF_ok hB hT hC n (by omega)
  exact sumF_rT hTn hp hB.1 (fun i a b => by
    have q := hB.2.2.1 i a b
    rcases hu with rfl | rfl
    · constructor <;> omega
    · constructor <;> omega)
def mX11_load : MI := (yX11_load, cX11_load, 5, (some .int), rmK 8 2)
def tX11_load : List (Nat × Instr × Nat) := [(0, .aload_n 0, 1), (1, .iload_n 1, 1), (2, .invokevirtual 184, 3), (5, .iload_n 2, 1), (6, .iconst 0, 1), (7, .bipush 100, 2), (9, .invokestatic 111, 3), (12, .aload_n 0, 1), (13, .getfield 20, 3), (16, .aload_n 0, 1), (17, .getfield 39, 3), (20, .iload_n 1, 1), (21, .invokevirtual 271, 3), (24, .istore_n 3, 1), (25, .aload_n 0, 1), (26, .getfield 69, 3), (29, .aload_n 0, 1), (30, .getfield 20, 3), (33, .aload_n 0, 1), (34, .getfield 39, 3), (37, .invokevirtual 286, 3), (40, .iconst 1, 1), (41, .istore 4, 2), (43, .iload 4, 2), (45, .iload_n 2, 1), (46, .if_icmp .gt 36, 3), (49, .aload_n 0, 1), (50, .getfield 69, 3), (53, .invokevirtual 288, 3), (56, .iload_n 3, 1), (57, .aload_n 0, 1), (58, .getfield 20, 3), (61, .aload_n 0, 1), (62, .getfield 69, 3), (65, .getfield 291, 3), (68, .iload_n 1, 1), (69, .invokevirtual 271, 3), (72, .invokestatic 316, 3), (75, .istore_n 3, 1), (76, .iinc 4 1, 3), (79, .goto (-36), 3), (82, .iload_n 3, 1), (83, .ireturn, 1)]
theorem dtX11_load : tX11_load.all (fun q => decide (decode cX11_load q.1 = .ok (q.2.1, q.2.2))) = true := by decide +kernel
theorem npX11_load : (parseMethodDescriptor (mY mX11_load).desc).map (fun d => d.parameters.length) = some 2 := by decide +kernel
theorem vX11_load : mV mX11_load := ⟨wI_X11_load, wS_X11_load, wN_X11, wC_X11_load, by decide +kernel, by decide +kernel⟩
set_option maxHeartbeats 4000000 in
set_option maxRecDepth 100000 in
theorem sX11_load_x1 {h : HP} {t : Nat} {S : HS} {B : Int} {f : Int → Int} {p : Int} {d : Int} (c : CQ h t S B f) (hp : i32 p) (hd : i32 d) (kn : ¬ (0 ≤ p ∧ p < sNp S)) : SpecK mX11_load [vr 30, vi p, vi d] h (fun o h' => o = .inr eNS ∧ FS h h') := by
  refine Spec_of (by decide +kernel) (Nat.le_of_ble_eq_true rfl) ?_
  have ht := c.1
  have hH := TTt ht
  have hB := c.2.2.2.1
  have hNt := hB.1
  have hNp := hB.2.1
  have hT := c.2.2.2.2.2.1
  have hC := c.2.2.2.2.2.2.1
  have h99 := c.2.2.2.2.2.2.2.1
  have G := c.2.2.2.2.2.2.2.2
  have hf0 := hT.2.2.2.1
  refine K_aload_n (dt_at dtX11_load 0 rfl) rfl rfl ?_
  refine K_iload_n (dt_at dtX11_load 1 rfl) rfl rfl ?_
  exact K_callV (M' := mX11_needPerson) (a := 30) (ci := 11) (As := [vi p]) (st := []) (dt_at dtX11_load 2 rfl) (sX11_needPerson_no hH c.2.1 c.2.2.1.2.1.2 hNp (by assumption) (by omega)) (by decide) rfl wL_X11_184 vX11_needPerson rfl npX11_needPerson (by decide) (by decide) (Nat.le_of_ble_eq_true rfl) (by decide) (by decide) GK_E (fun v9 h9 hq => by cases hq.1) (fun E h9 hq => by obtain ⟨e9, e8⟩ := hq; cases e9; rw [e8]; exact KX_out (by decide) (by decide) ⟨rfl, FS_rf G⟩)
set_option maxHeartbeats 4000000 in
set_option maxRecDepth 100000 in
theorem sX11_load_x2 {h : HP} {t : Nat} {S : HS} {B : Int} {f : Int → Int} {p : Int} {d : Int} (c : CQ h t S B f) (hp : i32 p) (hd : i32 d) (k0 : 0 ≤ p ∧ p < sNp S) (kn : ¬ (0 ≤ d ∧ d ≤ 100)) : SpecK mX11_load [vr 30, vi p, vi d] h (fun o h' => o = .inr eIA ∧ FS h h') := by
  refine Spec_of (by decide +kernel) (Nat.le_of_ble_eq_true rfl) ?_
  have ht := c.1
  have hH := TTt ht
  have hB := c.2.2.2.1
  have hNt := hB.1
  have hNp := hB.2.1
  have hT := c.2.2.2.2.2.1
  have hC := c.2.2.2.2.2.2.1
  have h99 := c.2.2.2.2.2.2.2.1
  have G := c.2.2.2.2.2.2.2.2
  have hf0 := hT.2.2.2.1
  refine K_aload_n (dt_at dtX11_load 0 rfl) rfl rfl ?_
  refine K_iload_n (dt_at dtX11_load 1 rfl) rfl rfl ?_
  refine K_callV (M' := mX11_needPerson) (a := 30) (ci := 11) (As := [vi p]) (st := []) (dt_at dtX11_load 2 rfl) (sX11_needPerson hH c.2.1 c.2.2.1.2.1.2 hNp (by first | assumption | exact ⟨by omega, by omega⟩) (by omega)) (by decide) rfl wL_X11_184 vX11_needPerson rfl npX11_needPerson (by decide) (by decide) (Nat.le_of_ble_eq_true rfl) (by decide) (by decide) GK_E (fun v9 h9 hq => ?_) (fun E h9 hq => by cases hq.1)
  obtain ⟨e9, e8⟩ := hq
  cases e9
  rw [e8]
  show K mX11_load _ _ 1 6 5 [(0, vr 30), (1, vi p), (2, vi d)] [] h
  refine K_iload_n (dt_at dtX11_load 3 rfl) rfl rfl ?_
  refine K_iconst (dt_at dtX11_load 4 rfl) ?_
  refine K_bipush (dt_at dtX11_load 5 rfl) (by decide) ?_
  exact K_callS (M' := mX11_needBetween) (As := [vi d, vi 0, vi 100]) (st := []) (dt_at dtX11_load 6 rfl) (sX11_needBetween_no (by assumption) ⟨by decide, by decide⟩ ⟨by decide, by decide⟩ (by omega)) wL_X11_111 vX11_needBetween rfl npX11_needBetween (by decide) (by decide) (Nat.le_of_ble_eq_true rfl) (by decide) (by decide) GK_E (fun v9 h9 hq => by cases hq.1) (fun E h9 hq => by obtain ⟨e9, e8⟩ := hq; cases e9; rw [e8]; exact KX_out (by decide) (by decide) ⟨rfl, FS_rf G⟩)
theorem ldF_b {S : HS} {B : Int} {f : Int → Int} {p : Int} {n : Nat} (hB : hsW S) (hT : rT B f) (hC : rC S f) (h0 : f 0 + n ≤ 20000) (hp : 0 ≤ p ∧ p < 7) : ∀ k : Nat, k ≤ n → 0 ≤ (itN (fun k v => max v (sumF (sW S) (dysF S f (k + 1)) p (sNt S))) (sumF (sW S) f p (sNt S)) k) ∧ (itN (fun k v => max v (sumF (sW S) (dysF S f (k + 1)) p (sNt S))) (sumF (sW S) f p (sNt S)) k) ≤ 120000000
  | 0, _ => sumD_b (n := 0) hB hT hC (by omega) hp (Or.inl rfl)
  | k + 1, hk => by
    obtain ⟨a, b⟩ := ldF_b hB hT hC h0 hp k (by omega)
    have e := sumD_b (n := k + 1) (p := p) hB hT hC (by omega) hp (Or.inl rfl)
    refine ⟨?_, ?_⟩
    · show 0 ≤ max _ _
      omega
    · show max _ _ ≤ _
      omega
set_option maxHeartbeats 4000000 in
set_option maxRecDepth 100000 in
theorem lp_X11_load {Q : AO → HP → Prop} {h h1 : HP} {t : Nat} {S : HS} {B : Int} {f : Int → Int} {p : Int} {n : Nat} (c : CQ h t S B f) (F1 : FS h h1) (X : WX h1 84 t S) (hp : 0 ≤ p ∧ p < sNp S) (hn : n ≤ 100) (hQ : ∀ h2, FS h h2 → Q (.inl (some (vi (itN (fun k v => max v (sumF (sW S) (dysF S f (k + 1)) p (sNt S))) (sumF (sW S) f p (sNt S)) n)))) h2) : ∀ (d k : Nat) (hh : HP), k + d = n → PW h1 hh 84 t (dysF S f k) (trD S f (fun _ => 0) k) (emD S f 0 k) → K mX11_load GK (ZK Q 2 12) 2 12 43 [(4, vi ((k : Int) + 1)), (3, vi (itN (fun k v => max v (sumF (sW S) (dysF S f (k + 1)) p (sNt S))) (sumF (sW S) f p (sNt S)) k)), (0, vr 30), (1, vi p), (2, vi (n : Int))] [] hh := by
  intro d
  induction d with
  | zero =>
    intro k hh hk Ph
    have ek : k = n := by omega
    subst ek
    have ht := c.1
    have hH := TTt ht
    have hB := c.2.2.2.1
    have hNt := hB.1
    have hNp := hB.2.1
    have hT := c.2.2.2.2.2.1
    have hC := c.2.2.2.2.2.2.1
    have h99 := c.2.2.2.2.2.2.2.1
    have G := c.2.2.2.2.2.2.2.2
    have hf0 := hT.2.2.2.1
    have ch := CQ_FS c (FS_tr F1 (WK_FS X Ph.1 F1.2.2.2))
    have hfh : hA hh 86 = dysF S f k := Ph.2.1
    refine K_iload (dt_at dtX11_load 23 rfl) rfl ?_
    refine K_iload_n (dt_at dtX11_load 24 rfl) rfl rfl ?_
    refine K_icmp_gt (tgt := 82) (dt_at dtX11_load 25 rfl) (by decide) (by first | assumption | exact ⟨by omega, by omega⟩) (by first | assumption | exact ⟨by omega, by omega⟩) (fun c1 => ?_) (fun c1 => absurd c1 (by omega))
    refine K_iload_n (dt_at dtX11_load 41 rfl) rfl rfl ?_
    exact K_iret (dt_at dtX11_load 42 rfl) rfl rfl (by decide) (by decide) (hQ _ (FS_tr F1 (WK_FS X Ph.1 F1.2.2.2)))
  | succ d ih =>
    intro k hh hk Ph
    have ht := c.1
    have hH := TTt ht
    have hB := c.2.2.2.1
    have hNt := hB.1
    have hNp := hB.2.1
    have hT := c.2.2.2.2.2.1
    have hC := c.2.2.2.2.2.2.1
    have h99 := c.2.2.2.2.2.2.2.1
    have G := c.2.2.2.2.2.2.2.2
    have hf0 := hT.2.2.2.1
    have ch := CQ_FS c (FS_tr F1 (WK_FS X Ph.1 F1.2.2.2))
    have hfh : hA hh 86 = dysF S f k := Ph.2.1
    obtain ⟨hTk, hCk, hk0⟩ := dysF_ok hB hT hC k (by omega)
    obtain ⟨hTn, hCn, hn0⟩ := dysF_ok hB hT hC (k + 1) (by omega)
    have w1 := ldF_b hB hT hC (n := n) (p := p) (by omega) (by omega) k (by omega)
    have w2 := sumD_b (n := k + 1) (p := p) hB hT hC (by omega) (by omega) (Or.inl rfl)
    refine K_iload (dt_at dtX11_load 23 rfl) rfl ?_
    refine K_iload_n (dt_at dtX11_load 24 rfl) rfl rfl ?_
    refine K_icmp_gt (tgt := 82) (dt_at dtX11_load 25 rfl) (by decide) (by first | assumption | exact ⟨by omega, by omega⟩) (by first | assumption | exact ⟨by omega, by omega⟩) (fun c1 => absurd c1 (by omega)) (fun c1 => ?_)
    refine K_aload_n (dt_at dtX11_load 26 rfl) rfl rfl ?_
    refine K_get (a := 30) (ci := 11) (k := 11) (v := vr 84) (dt_at dtX11_load 27 rfl) (by decide) rfl (by decide) wF_X11_69 rfl ?_
    refine K_callV (M' := mX10_passDay) (a := 84) (ci := 10) (As := []) (st := []) (dt_at dtX11_load 28 rfl) (sX10_passDay X Ph hTk hCk) (by decide) rfl wL_X11_288 vX10_passDay rfl npX10_passDay (by decide) (by decide) (Nat.le_of_ble_eq_true rfl) (by decide) (by decide) GK_E (fun v9 hc1 hq => ?_) (fun E h9 hq => by cases hq.1)
    have hqq2 := hq
    obtain ⟨e9q2, Pzq2⟩ := hqq2
    have Pq2 : PW h1 hc1 84 t (dysF S f (k + 1)) (trD S f (fun _ => 0) (k + 1)) (emD S f 0 (k + 1)) := Pzq2
    have cq2 := CQ_FS c (FS_tr F1 (WK_FS X Pq2.1 F1.2.2.2))
    have hfq2 : hA hc1 86 = dysF S f (k + 1) := Pq2.2.1
    cases e9q2
    show K mX11_load _ _ 2 12 56 [(4, vi ((k : Int) + 1)), (3, vi (itN (fun k v => max v (sumF (sW S) (dysF S f (k + 1)) p (sNt S))) (sumF (sW S) f p (sNt S)) k)), (0, vr 30), (1, vi p), (2, vi (n : Int))] [] hc1
    refine K_iload_n (dt_at dtX11_load 29 rfl) rfl rfl ?_
    refine K_aload_n (dt_at dtX11_load 30 rfl) rfl rfl ?_
    refine K_get (a := 30) (ci := 11) (k := 2) (v := vr t) (dt_at dtX11_load 31 rfl) (by decide) rfl (by decide) wF_X11_20 (by show vr (hR hc1 30 2) = vr t; rw [cq2.2.1]) ?_
    refine K_aload_n (dt_at dtX11_load 32 rfl) rfl rfl ?_
    refine K_get (a := 30) (ci := 11) (k := 11) (v := vr 84) (dt_at dtX11_load 33 rfl) (by decide) rfl (by decide) wF_X11_69 rfl ?_
    refine K_get (a := 84) (ci := 10) (k := 0) (v := vr 85) (dt_at dtX11_load 34 rfl) (by decide) rfl (by decide) wF_X11_291 rfl ?_
    refine K_iload_n (dt_at dtX11_load 35 rfl) rfl rfl ?_
    refine K_callV (M' := mX3_weightWith) (a := t) (ci := 3) (As := [vr 85, vi p]) (st := [vi (itN (fun k v => max v (sumF (sW S) (dysF S f (k + 1)) p (sNt S))) (sumF (sW S) f p (sNt S)) k)]) (dt_at dtX11_load 36 rfl) (sX3_weightWith (n := sNt S) hH (a := 85) (by decide) (by rw [show hA hc1 (85 + 1) = (dysF S f (k + 1)) from hfq2]; exact hTn.1) hNt cq2.2.2.1.2.1.1 ⟨by omega, by omega⟩) hH rfl wL_X11_271 vX3_weightWith rfl npX3_weightWith (by decide) (by decide) (Nat.le_of_ble_eq_true rfl) (by decide) (by decide) GK_E (fun v9 h9 hq => ?_) (fun E h9 hq => by cases hq.1)
    obtain ⟨e9, e8⟩ := hq
    cases e9
    rw [e8]
    show K mX11_load _ _ 2 12 72 [(4, vi ((k : Int) + 1)), (3, vi (itN (fun k v => max v (sumF (sW S) (dysF S f (k + 1)) p (sNt S))) (sumF (sW S) f p (sNt S)) k)), (0, vr 30), (1, vi p), (2, vi (n : Int))] [vi (sumF (hA hc1 (t + 1)) (hA hc1 (85 + 1)) p (sNt S)), vi (itN (fun k v => max v (sumF (sW S) (dysF S f (k + 1)) p (sNt S))) (sumF (sW S) f p (sNt S)) k)] hc1
    rw [show hA hc1 (85 + 1) = (dysF S f (k + 1)) from hfq2]
    rw [show hA hc1 (t + 1) = (sW S) from cq2.2.2.1.1.1]
    refine K_max (dt_at dtX11_load 37 rfl) wL_X11_316 (by first | assumption | exact ⟨by omega, by omega⟩) (by first | assumption | exact ⟨by omega, by omega⟩) (by decide) (Nat.le_of_ble_eq_true rfl) (by decide) (by decide) ?_
    refine K_istore_n (ls' := [(3, vi (max (itN (fun k v => max v (sumF (sW S) (dysF S f (k + 1)) p (sNt S))) (sumF (sW S) f p (sNt S)) k) (sumF (sW S) (dysF S f (k + 1)) p (sNt S)))), (4, vi ((k : Int) + 1)), (0, vr 30), (1, vi p), (2, vi (n : Int))]) (dt_at dtX11_load 38 rfl) rfl (by decide) rfl ?_
    refine K_iinc (ls' := [(4, vi (((k : Int) + 1) + 1)), (3, vi (max (itN (fun k v => max v (sumF (sW S) (dysF S f (k + 1)) p (sNt S))) (sumF (sW S) f p (sNt S)) k) (sumF (sW S) (dysF S f (k + 1)) p (sNt S)))), (0, vr 30), (1, vi p), (2, vi (n : Int))]) (dt_at dtX11_load 39 rfl) rfl (by decide) rfl ?_
    refine K_goto (tgt := 43) (dt_at dtX11_load 40 rfl) (by decide) ?_
    refine K_pk [0, 1, 2, 3, 4] (ls' := [(4, vi (((k : Int) + 1) + 1)), (3, vi (max (itN (fun k v => max v (sumF (sW S) (dysF S f (k + 1)) p (sNt S))) (sumF (sW S) f p (sNt S)) k) (sumF (sW S) (dysF S f (k + 1)) p (sNt S)))), (0, vr 30), (1, vi p), (2, vi (n : Int))]) rfl ?_
    exact K_cg (ls' := [(4, vi (((k + 1 : Nat) : Int) + 1)), (3, vi (itN (fun k v => max v (sumF (sW S) (dysF S f (k + 1)) p (sNt S))) (sumF (sW S) f p (sNt S)) (k + 1))), (0, vr 30), (1, vi p), (2, vi (n : Int))]) (h' := hc1) (by rfl) rfl (ih (k + 1) hc1 (by omega) Pq2)
set_option maxHeartbeats 4000000 in
set_option maxRecDepth 100000 in
theorem sX11_load {h : HP} {t : Nat} {S : HS} {B : Int} {f : Int → Int} {p : Int} {n : Nat} (c : CQ h t S B f) (hp : 0 ≤ p ∧ p < sNp S) (hn : n ≤ 100) : SpecK mX11_load [vr 30, vi p, vi (n : Int)] h (fun o h' => o = .inl (some (vi (itN (fun k v => max v (sumF (sW S) (dysF S f (k + 1)) p (sNt S))) (sumF (sW S) f p (sNt S)) n))) ∧ FS h h') := by
  refine Spec_of (by decide +kernel) (Nat.le_of_ble_eq_true rfl) ?_
  have ht := c.1
  have hH := TTt ht
  have hB := c.2.2.2.1
  have hNt := hB.1
  have hNp := hB.2.1
  have hT := c.2.2.2.2.2.1
  have hC := c.2.2.2.2.2.2.1
  have h99 := c.2.2.2.2.2.2.2.1
  have G := c.2.2.2.2.2.2.2.2
  have hf0 := hT.2.2.2.1
  refine K_aload_n (dt_at dtX11_load 0 rfl) rfl rfl ?_
  refine K_iload_n (dt_at dtX11_load 1 rfl) rfl rfl ?_
  refine K_callV (M' := mX11_needPerson) (a := 30) (ci := 11) (As := [vi p]) (st := []) (dt_at dtX11_load 2 rfl) (sX11_needPerson hH c.2.1 c.2.2.1.2.1.2 hNp (by first | assumption | exact ⟨by omega, by omega⟩) (by omega)) (by decide) rfl wL_X11_184 vX11_needPerson rfl npX11_needPerson (by decide) (by decide) (Nat.le_of_ble_eq_true rfl) (by decide) (by decide) GK_E (fun v9 h9 hq => ?_) (fun E h9 hq => by cases hq.1)
  obtain ⟨e9, e8⟩ := hq
  cases e9
  rw [e8]
  show K mX11_load _ _ 1 6 5 [(0, vr 30), (1, vi p), (2, vi (n : Int))] [] h
  refine K_iload_n (dt_at dtX11_load 3 rfl) rfl rfl ?_
  refine K_iconst (dt_at dtX11_load 4 rfl) ?_
  refine K_bipush (dt_at dtX11_load 5 rfl) (by decide) ?_
  refine K_callS (M' := mX11_needBetween) (As := [vi (n : Int), vi 0, vi 100]) (st := []) (dt_at dtX11_load 6 rfl) (sX11_needBetween (by first | assumption | exact ⟨by omega, by omega⟩) ⟨by decide, by decide⟩ ⟨by decide, by decide⟩ (by omega)) wL_X11_111 vX11_needBetween rfl npX11_needBetween (by decide) (by decide) (Nat.le_of_ble_eq_true rfl) (by decide) (by decide) GK_E (fun v9 h9 hq => ?_) (fun E h9 hq => by cases hq.1)
  obtain ⟨e9, e8⟩ := hq
  cases e9
  rw [e8]
  show K mX11_load _ _ 2 12 12 [(0, vr 30), (1, vi p), (2, vi (n : Int))] [] h
  refine K_aload_n (dt_at dtX11_load 7 rfl) rfl rfl ?_
  refine K_get (a := 30) (ci := 11) (k := 2) (v := vr t) (dt_at dtX11_load 8 rfl) (by decide) rfl (by decide) wF_X11_20 (by show vr (hR h 30 2) = vr t; rw [c.2.1]) ?_
  refine K_aload_n (dt_at dtX11_load 9 rfl) rfl rfl ?_
  refine K_get (a := 30) (ci := 11) (k := 5) (v := vr 66) (dt_at dtX11_load 10 rfl) (by decide) rfl (by decide) wF_X11_39 rfl ?_
  refine K_iload_n (dt_at dtX11_load 11 rfl) rfl rfl ?_
  refine K_callV (M' := mX3_weightWith) (a := t) (ci := 3) (As := [vr 66, vi p]) (st := []) (dt_at dtX11_load 12 rfl) (sX3_weightWith (n := sNt S) hH (a := 66) (by decide) (by rw [show hA h (66 + 1) = f from c.2.2.2.2.1]; exact hT.1) hNt c.2.2.1.2.1.1 ⟨by omega, by omega⟩) hH rfl wL_X11_271 vX3_weightWith rfl npX3_weightWith (by decide) (by decide) (Nat.le_of_ble_eq_true rfl) (by decide) (by decide) GK_E (fun v9 h9 hq => ?_) (fun E h9 hq => by cases hq.1)
  obtain ⟨e9, e8⟩ := hq
  cases e9
  rw [e8]
  show K mX11_load _ _ 2 12 24 [(0, vr 30), (1, vi p), (2, vi (n : Int))] [vi (sumF (hA h (t + 1)) (hA h (66 + 1)) p (sNt S))] h
  rw [show hA h (66 + 1) = f from c.2.2.2.2.1]
  rw [show hA h (t + 1) = (sW S) from c.2.2.1.1.1]
  refine K_istore_n (ls' := [(3, vi (sumF (sW S) f p (sNt S))), (0, vr 30), (1, vi p), (2, vi (n : Int))]) (dt_at dtX11_load 13 rfl) rfl (by decide) rfl ?_
  refine K_aload_n (dt_at dtX11_load 14 rfl) rfl rfl ?_
  refine K_get (a := 30) (ci := 11) (k := 11) (v := vr 84) (dt_at dtX11_load 15 rfl) (by decide) rfl (by decide) wF_X11_69 rfl ?_
  refine K_aload_n (dt_at dtX11_load 16 rfl) rfl rfl ?_
  refine K_get (a := 30) (ci := 11) (k := 2) (v := vr t) (dt_at dtX11_load 17 rfl) (by decide) rfl (by decide) wF_X11_20 (by show vr (hR h 30 2) = vr t; rw [c.2.1]) ?_
  refine K_aload_n (dt_at dtX11_load 18 rfl) rfl rfl ?_
  refine K_get (a := 30) (ci := 11) (k := 5) (v := vr 66) (dt_at dtX11_load 19 rfl) (by decide) rfl (by decide) wF_X11_39 rfl ?_
  refine K_callV (M' := mX10_begin) (a := 84) (ci := 10) (As := [vr t, vr 66]) (st := []) (dt_at dtX11_load 20 rfl) (sX10_begin (w := 84) (t := t) (a := 66) (Or.inl rfl) ht (by decide) (by decide)) (by decide) rfl wL_X11_286 vX10_begin rfl npX10_begin (by decide) (by decide) (Nat.le_of_ble_eq_true rfl) (by decide) (by decide) GK_E (fun v9 hc1 hq => ?_) (fun E h9 hq => by cases hq.1)
  have hqq2 := hq
  obtain ⟨e9q2, b1, b2, b3, b4, b5, b6, b7⟩ := hqq2
  obtain ⟨F1, X, P1⟩ := BG_ok (w := 84) (Or.inl rfl) ht c.2.2.1 hB c.2.2.2.2.2.2.2.2 b1 b2 b3 b4 b5 b6 b7
  rw [c.2.2.2.2.1] at P1
  cases e9q2
  show K mX11_load _ _ 2 12 40 [(3, vi (sumF (sW S) f p (sNt S))), (0, vr 30), (1, vi p), (2, vi (n : Int))] [] hc1
  refine K_iconst (dt_at dtX11_load 21 rfl) ?_
  refine K_istore (ls' := [(4, vi 1), (3, vi (sumF (sW S) f p (sNt S))), (0, vr 30), (1, vi p), (2, vi (n : Int))]) (dt_at dtX11_load 22 rfl) (by decide) rfl ?_
  exact K_pk [0, 1, 2, 3, 4] rfl (lp_X11_load c F1 X hp hn (fun h2 q_ => ⟨rfl, q_⟩) n 0 hc1 (by omega) P1)
def mX11_next : MI := (yX11_next, cX11_next, 4, (some .int), rmK 8 1)
def tX11_next : List (Nat × Instr × Nat) := [(0, .aload_n 0, 1), (1, .iload_n 1, 1), (2, .invokevirtual 184, 3), (5, .aload_n 0, 1), (6, .getfield 39, 3), (9, .iload_n 1, 1), (10, .invokevirtual 263, 3), (13, .istore_n 2, 1), (14, .aload_n 0, 1), (15, .getfield 69, 3), (18, .aload_n 0, 1), (19, .getfield 20, 3), (22, .aload_n 0, 1), (23, .getfield 39, 3), (26, .invokevirtual 286, 3), (29, .iconst 1, 1), (30, .istore_n 3, 1), (31, .iload_n 3, 1), (32, .bipush 100, 2), (34, .if_icmp .gt 33, 3), (37, .aload_n 0, 1), (38, .getfield 69, 3), (41, .invokevirtual 288, 3), (44, .aload_n 0, 1), (45, .getfield 69, 3), (48, .getfield 291, 3), (51, .iload_n 1, 1), (52, .invokevirtual 263, 3), (55, .iload_n 2, 1), (56, .if_icmp .eq 5, 3), (59, .iload_n 3, 1), (60, .ireturn, 1), (61, .iinc 3 1, 3), (64, .goto (-33), 3), (67, .iconst (-1), 1), (68, .ireturn, 1)]
theorem dtX11_next : tX11_next.all (fun q => decide (decode cX11_next q.1 = .ok (q.2.1, q.2.2))) = true := by decide +kernel
theorem npX11_next : (parseMethodDescriptor (mY mX11_next).desc).map (fun d => d.parameters.length) = some 1 := by decide +kernel
theorem vX11_next : mV mX11_next := ⟨wI_X11_next, wS_X11_next, wN_X11, wC_X11_next, by decide +kernel, by decide +kernel⟩
set_option maxHeartbeats 4000000 in
set_option maxRecDepth 100000 in
theorem sX11_next_x1 {h : HP} {t : Nat} {S : HS} {B : Int} {f : Int → Int} {p : Int} (c : CQ h t S B f) (hp : i32 p) (kn : ¬ (0 ≤ p ∧ p < sNp S)) : SpecK mX11_next [vr 30, vi p] h (fun o h' => o = .inr eNS ∧ FS h h') := by
  refine Spec_of (by decide +kernel) (Nat.le_of_ble_eq_true rfl) ?_
  have ht := c.1
  have hH := TTt ht
  have hB := c.2.2.2.1
  have hNt := hB.1
  have hNp := hB.2.1
  have hT := c.2.2.2.2.2.1
  have hC := c.2.2.2.2.2.2.1
  have h99 := c.2.2.2.2.2.2.2.1
  have G := c.2.2.2.2.2.2.2.2
  have hf0 := hT.2.2.2.1
  refine K_aload_n (dt_at dtX11_next 0 rfl) rfl rfl ?_
  refine K_iload_n (dt_at dtX11_next 1 rfl) rfl rfl ?_
  exact K_callV (M' := mX11_needPerson) (a := 30) (ci := 11) (As := [vi p]) (st := []) (dt_at dtX11_next 2 rfl) (sX11_needPerson_no hH c.2.1 c.2.2.1.2.1.2 hNp (by assumption) (by omega)) (by decide) rfl wL_X11_184 vX11_needPerson rfl npX11_needPerson (by decide) (by decide) (Nat.le_of_ble_eq_true rfl) (by decide) (by decide) GK_E (fun v9 h9 hq => by cases hq.1) (fun E h9 hq => by obtain ⟨e9, e8⟩ := hq; cases e9; rw [e8]; exact KX_out (by decide) (by decide) ⟨rfl, FS_rf G⟩)
set_option maxHeartbeats 4000000 in
set_option maxRecDepth 100000 in
theorem lp_X11_next {Q : AO → HP → Prop} {h h1 : HP} {t : Nat} {S : HS} {B : Int} {f : Int → Int} {p : Int} (c : CQ h t S B f) (F1 : FS h h1) (X : WX h1 84 t S) (hp : 0 ≤ p ∧ p < sNp S) : ∀ (d k : Nat) (hh : HP), k + d = 100 → PW h1 hh 84 t (dysF S f k) (trD S f (fun _ => 0) k) (emD S f 0 k) → (∀ h2, FS h h2 → Q (.inl (some (vi (srN (fun k => if (if dysF S f (k + 1) (1 + p) = 0 then (1 : Int) else 0) = (if f (1 + p) = 0 then 1 else 0) then none else some ((k : Int) + 1)) (-1) k d)))) h2) → K mX11_next GK (ZK Q 1 6) 1 6 31 [(3, vi ((k : Int) + 1)), (0, vr 30), (1, vi p), (2, vi (if f (1 + p) = 0 then 1 else 0))] [] hh := by
  intro d
  induction d with
  | zero =>
    intro k hh hk Ph hQ
    have ek : k = 100 := by omega
    subst ek
    have ht := c.1
    have hH := TTt ht
    have hB := c.2.2.2.1
    have hNt := hB.1
    have hNp := hB.2.1
    have hT := c.2.2.2.2.2.1
    have hC := c.2.2.2.2.2.2.1
    have h99 := c.2.2.2.2.2.2.2.1
    have G := c.2.2.2.2.2.2.2.2
    have hf0 := hT.2.2.2.1
    have ch := CQ_FS c (FS_tr F1 (WK_FS X Ph.1 F1.2.2.2))
    have hfh : hA hh 86 = dysF S f 100 := Ph.2.1
    refine K_iload_n (dt_at dtX11_next 17 rfl) rfl rfl ?_
    refine K_bipush (dt_at dtX11_next 18 rfl) (by decide) ?_
    refine K_icmp_gt (tgt := 67) (dt_at dtX11_next 19 rfl) (by decide) (by first | assumption | exact ⟨by omega, by omega⟩) (by first | assumption | exact ⟨by omega, by omega⟩) (fun c1 => ?_) (fun c1 => absurd c1 (by omega))
    refine K_iconst (dt_at dtX11_next 34 rfl) ?_
    exact K_iret (dt_at dtX11_next 35 rfl) rfl rfl (by decide) (by decide) (hQ _ (FS_tr F1 (WK_FS X Ph.1 F1.2.2.2)))
  | succ d ih =>
    intro k hh hk Ph hQ
    have ht := c.1
    have hH := TTt ht
    have hB := c.2.2.2.1
    have hNt := hB.1
    have hNp := hB.2.1
    have hT := c.2.2.2.2.2.1
    have hC := c.2.2.2.2.2.2.1
    have h99 := c.2.2.2.2.2.2.2.1
    have G := c.2.2.2.2.2.2.2.2
    have hf0 := hT.2.2.2.1
    have ch := CQ_FS c (FS_tr F1 (WK_FS X Ph.1 F1.2.2.2))
    have hfh : hA hh 86 = dysF S f k := Ph.2.1
    obtain ⟨hTk, hCk, hk0⟩ := dysF_ok hB hT hC k (by omega)
    obtain ⟨hTn, hCn, hn0⟩ := dysF_ok hB hT hC (k + 1) (by omega)
    refine K_iload_n (dt_at dtX11_next 17 rfl) rfl rfl ?_
    refine K_bipush (dt_at dtX11_next 18 rfl) (by decide) ?_
    refine K_icmp_gt (tgt := 67) (dt_at dtX11_next 19 rfl) (by decide) (by first | assumption | exact ⟨by omega, by omega⟩) (by first | assumption | exact ⟨by omega, by omega⟩) (fun c1 => absurd c1 (by omega)) (fun c1 => ?_)
    refine K_aload_n (dt_at dtX11_next 20 rfl) rfl rfl ?_
    refine K_get (a := 30) (ci := 11) (k := 11) (v := vr 84) (dt_at dtX11_next 21 rfl) (by decide) rfl (by decide) wF_X11_69 rfl ?_
    refine K_callV (M' := mX10_passDay) (a := 84) (ci := 10) (As := []) (st := []) (dt_at dtX11_next 22 rfl) (sX10_passDay X Ph hTk hCk) (by decide) rfl wL_X11_288 vX10_passDay rfl npX10_passDay (by decide) (by decide) (Nat.le_of_ble_eq_true rfl) (by decide) (by decide) GK_E (fun v9 hc1 hq => ?_) (fun E h9 hq => by cases hq.1)
    have hqq2 := hq
    obtain ⟨e9q2, Pzq2⟩ := hqq2
    have Pq2 : PW h1 hc1 84 t (dysF S f (k + 1)) (trD S f (fun _ => 0) (k + 1)) (emD S f 0 (k + 1)) := Pzq2
    have cq2 := CQ_FS c (FS_tr F1 (WK_FS X Pq2.1 F1.2.2.2))
    have hfq2 : hA hc1 86 = dysF S f (k + 1) := Pq2.2.1
    cases e9q2
    show K mX11_next _ _ 1 6 44 [(3, vi ((k : Int) + 1)), (0, vr 30), (1, vi p), (2, vi (if f (1 + p) = 0 then 1 else 0))] [] hc1
    refine K_aload_n (dt_at dtX11_next 23 rfl) rfl rfl ?_
    refine K_get (a := 30) (ci := 11) (k := 11) (v := vr 84) (dt_at dtX11_next 24 rfl) (by decide) rfl (by decide) wF_X11_69 rfl ?_
    refine K_get (a := 84) (ci := 10) (k := 0) (v := vr 85) (dt_at dtX11_next 25 rfl) (by decide) rfl (by decide) wF_X11_291 rfl ?_
    refine K_iload_n (dt_at dtX11_next 26 rfl) rfl rfl ?_
    refine K_callV (M' := mX8_isIn) (a := 85) (ci := 8) (As := [vi p]) (st := []) (dt_at dtX11_next 27 rfl) (sX8_isIn (a := 85) (by decide) ⟨by omega, by omega⟩ (by rw [show hA hc1 (85 + 1) = (dysF S f (k + 1)) from hfq2]; have := (hTn.1.2 p (by omega) (by omega)).1; exact ⟨by omega, by omega⟩)) (by decide) rfl wL_X11_263 vX8_isIn rfl npX8_isIn (by decide) (by decide) (Nat.le_of_ble_eq_true rfl) (by decide) (by decide) GK_E (fun v9 h9 hq => ?_) (fun E h9 hq => by cases hq.1)
    obtain ⟨e9, e8⟩ := hq
    cases e9
    rw [e8]
    show K mX11_next _ _ 1 6 55 [(3, vi ((k : Int) + 1)), (0, vr 30), (1, vi p), (2, vi (if f (1 + p) = 0 then 1 else 0))] [vi (if hA hc1 (85 + 1) (1 + p) = 0 then 1 else 0)] hc1
    rw [show hA hc1 (85 + 1) = (dysF S f (k + 1)) from hfq2]
    refine K_iload_n (dt_at dtX11_next 28 rfl) rfl rfl ?_
    refine K_icmp_eq (tgt := 61) (dt_at dtX11_next 29 rfl) (by decide) (i32_if ⟨by decide, by decide⟩ ⟨by decide, by decide⟩) (i32_if ⟨by decide, by decide⟩ ⟨by decide, by decide⟩) (fun c2 => ?_) (fun c2 => ?_)
    · refine K_iinc (ls' := [(3, vi (((k : Int) + 1) + 1)), (0, vr 30), (1, vi p), (2, vi (if f (1 + p) = 0 then 1 else 0))]) (dt_at dtX11_next 32 rfl) rfl (by decide) rfl ?_
      refine K_goto (tgt := 31) (dt_at dtX11_next 33 rfl) (by decide) ?_
      refine K_pk [0, 1, 2, 3] (ls' := [(3, vi (((k : Int) + 1) + 1)), (0, vr 30), (1, vi p), (2, vi (if f (1 + p) = 0 then 1 else 0))]) rfl ?_
      exact K_cg (ls' := [(3, vi (((k + 1 : Nat) : Int) + 1)), (0, vr 30), (1, vi p), (2, vi (if f (1 + p) = 0 then 1 else 0))]) (h' := hc1) (by rfl) rfl (ih (k + 1) hc1 (by omega) Pq2 (fun h2 q_ => by have h9 := hQ h2 q_; simpa only [srN, if_pos (show (if dysF S f (k + 1) (1 + p) = 0 then (1 : Int) else 0) = (if f (1 + p) = 0 then 1 else 0) by assumption)] using h9))
    · refine K_iload_n (dt_at dtX11_next 30 rfl) rfl rfl ?_
      exact K_iret (dt_at dtX11_next 31 rfl) rfl rfl (by decide) (by decide) (by have h9 := hQ _ (FS_tr F1 (WK_FS X Pq2.1 F1.2.2.2)); simpa only [srN, if_neg (show ¬ (if dysF S f (k + 1) (1 + p) = 0 then (1 : Int) else 0) = (if f (1 + p) = 0 then 1 else 0) by assumption)] using h9)
set_option maxHeartbeats 4000000 in
set_option maxRecDepth 100000 in
theorem sX11_next {h : HP} {t : Nat} {S : HS} {B : Int} {f : Int → Int} {p : Int} (c : CQ h t S B f) (hp : 0 ≤ p ∧ p < sNp S) : SpecK mX11_next [vr 30, vi p] h (fun o h' => o = .inl (some (vi (srN (fun k => if (if dysF S f (k + 1) (1 + p) = 0 then (1 : Int) else 0) = (if f (1 + p) = 0 then 1 else 0) then none else some ((k : Int) + 1)) (-1) 0 100))) ∧ FS h h') := by
  refine Spec_of (by decide +kernel) (Nat.le_of_ble_eq_true rfl) ?_
  have ht := c.1
  have hH := TTt ht
  have hB := c.2.2.2.1
  have hNt := hB.1
  have hNp := hB.2.1
  have hT := c.2.2.2.2.2.1
  have hC := c.2.2.2.2.2.2.1
  have h99 := c.2.2.2.2.2.2.2.1
  have G := c.2.2.2.2.2.2.2.2
  have hf0 := hT.2.2.2.1
  refine K_aload_n (dt_at dtX11_next 0 rfl) rfl rfl ?_
  refine K_iload_n (dt_at dtX11_next 1 rfl) rfl rfl ?_
  refine K_callV (M' := mX11_needPerson) (a := 30) (ci := 11) (As := [vi p]) (st := []) (dt_at dtX11_next 2 rfl) (sX11_needPerson hH c.2.1 c.2.2.1.2.1.2 hNp (by first | assumption | exact ⟨by omega, by omega⟩) (by omega)) (by decide) rfl wL_X11_184 vX11_needPerson rfl npX11_needPerson (by decide) (by decide) (Nat.le_of_ble_eq_true rfl) (by decide) (by decide) GK_E (fun v9 h9 hq => ?_) (fun E h9 hq => by cases hq.1)
  obtain ⟨e9, e8⟩ := hq
  cases e9
  rw [e8]
  show K mX11_next _ _ 1 6 5 [(0, vr 30), (1, vi p)] [] h
  refine K_aload_n (dt_at dtX11_next 3 rfl) rfl rfl ?_
  refine K_get (a := 30) (ci := 11) (k := 5) (v := vr 66) (dt_at dtX11_next 4 rfl) (by decide) rfl (by decide) wF_X11_39 rfl ?_
  refine K_iload_n (dt_at dtX11_next 5 rfl) rfl rfl ?_
  refine K_callV (M' := mX8_isIn) (a := 66) (ci := 8) (As := [vi p]) (st := []) (dt_at dtX11_next 6 rfl) (sX8_isIn (a := 66) (by decide) ⟨by omega, by omega⟩ (by rw [show hA h (66 + 1) = f from c.2.2.2.2.1]; have := (hT.1.2 p (by omega) (by omega)).1; exact ⟨by omega, by omega⟩)) (by decide) rfl wL_X11_263 vX8_isIn rfl npX8_isIn (by decide) (by decide) (Nat.le_of_ble_eq_true rfl) (by decide) (by decide) GK_E (fun v9 h9 hq => ?_) (fun E h9 hq => by cases hq.1)
  obtain ⟨e9, e8⟩ := hq
  cases e9
  rw [e8]
  show K mX11_next _ _ 1 6 13 [(0, vr 30), (1, vi p)] [vi (if hA h (66 + 1) (1 + p) = 0 then 1 else 0)] h
  rw [show hA h (66 + 1) = f from c.2.2.2.2.1]
  refine K_istore_n (ls' := [(2, vi (if f (1 + p) = 0 then 1 else 0)), (0, vr 30), (1, vi p)]) (dt_at dtX11_next 7 rfl) rfl (by decide) rfl ?_
  refine K_aload_n (dt_at dtX11_next 8 rfl) rfl rfl ?_
  refine K_get (a := 30) (ci := 11) (k := 11) (v := vr 84) (dt_at dtX11_next 9 rfl) (by decide) rfl (by decide) wF_X11_69 rfl ?_
  refine K_aload_n (dt_at dtX11_next 10 rfl) rfl rfl ?_
  refine K_get (a := 30) (ci := 11) (k := 2) (v := vr t) (dt_at dtX11_next 11 rfl) (by decide) rfl (by decide) wF_X11_20 (by show vr (hR h 30 2) = vr t; rw [c.2.1]) ?_
  refine K_aload_n (dt_at dtX11_next 12 rfl) rfl rfl ?_
  refine K_get (a := 30) (ci := 11) (k := 5) (v := vr 66) (dt_at dtX11_next 13 rfl) (by decide) rfl (by decide) wF_X11_39 rfl ?_
  refine K_callV (M' := mX10_begin) (a := 84) (ci := 10) (As := [vr t, vr 66]) (st := []) (dt_at dtX11_next 14 rfl) (sX10_begin (w := 84) (t := t) (a := 66) (Or.inl rfl) ht (by decide) (by decide)) (by decide) rfl wL_X11_286 vX10_begin rfl npX10_begin (by decide) (by decide) (Nat.le_of_ble_eq_true rfl) (by decide) (by decide) GK_E (fun v9 hc1 hq => ?_) (fun E h9 hq => by cases hq.1)
  have hqq2 := hq
  obtain ⟨e9q2, b1, b2, b3, b4, b5, b6, b7⟩ := hqq2
  obtain ⟨F1, X, P1⟩ := BG_ok (w := 84) (Or.inl rfl) ht c.2.2.1 hB c.2.2.2.2.2.2.2.2 b1 b2 b3 b4 b5 b6 b7
  rw [c.2.2.2.2.1] at P1
  cases e9q2
  show K mX11_next _ _ 1 6 29 [(2, vi (if f (1 + p) = 0 then 1 else 0)), (0, vr 30), (1, vi p)] [] hc1
  refine K_iconst (dt_at dtX11_next 15 rfl) ?_
  refine K_istore_n (ls' := [(3, vi 1), (2, vi (if f (1 + p) = 0 then 1 else 0)), (0, vr 30), (1, vi p)]) (dt_at dtX11_next 16 rfl) rfl (by decide) rfl ?_
  exact K_pk [0, 2, 3, 1] rfl (lp_X11_next c F1 X hp 100 0 hc1 (by omega) P1 (fun h2 q_ => ⟨rfl, q_⟩))
def mX11_lacking : MI := (yX11_lacking, cX11_lacking, 3, (some .int), rmK 8 1)
def tX11_lacking : List (Nat × Instr × Nat) := [(0, .aload_n 0, 1), (1, .iload_n 1, 1), (2, .invokevirtual 172, 3), (5, .aload_n 0, 1), (6, .getfield 69, 3), (9, .aload_n 0, 1), (10, .getfield 20, 3), (13, .aload_n 0, 1), (14, .getfield 39, 3), (17, .invokevirtual 286, 3), (20, .iconst 0, 1), (21, .istore_n 2, 1), (22, .iload_n 2, 1), (23, .bipush 100, 2), (25, .if_icmp .gt 32, 3), (28, .aload_n 0, 1), (29, .getfield 69, 3), (32, .getfield 291, 3), (35, .iload_n 1, 1), (36, .invokevirtual 181, 3), (39, .ifCond .ne 5, 3), (42, .iload_n 2, 1), (43, .ireturn, 1), (44, .aload_n 0, 1), (45, .getfield 69, 3), (48, .invokevirtual 288, 3), (51, .iinc 2 1, 3), (54, .goto (-32), 3), (57, .iconst (-1), 1), (58, .ireturn, 1)]
theorem dtX11_lacking : tX11_lacking.all (fun q => decide (decode cX11_lacking q.1 = .ok (q.2.1, q.2.2))) = true := by decide +kernel
theorem npX11_lacking : (parseMethodDescriptor (mY mX11_lacking).desc).map (fun d => d.parameters.length) = some 1 := by decide +kernel
theorem vX11_lacking : mV mX11_lacking := ⟨wI_X11_lacking, wS_X11_lacking, wN_X11, wC_X11_lacking, by decide +kernel, by decide +kernel⟩
set_option maxHeartbeats 4000000 in
set_option maxRecDepth 100000 in
theorem sX11_lacking_x1 {h : HP} {t : Nat} {S : HS} {B : Int} {f : Int → Int} {q : Int} (c : CQ h t S B f) (hq : i32 q) (kn : ¬ (0 ≤ q ∧ q < sNt S)) : SpecK mX11_lacking [vr 30, vi q] h (fun o h' => o = .inr eNS ∧ FS h h') := by
  refine Spec_of (by decide +kernel) (Nat.le_of_ble_eq_true rfl) ?_
  have ht := c.1
  have hH := TTt ht
  have hB := c.2.2.2.1
  have hNt := hB.1
  have hNp := hB.2.1
  have hT := c.2.2.2.2.2.1
  have hC := c.2.2.2.2.2.2.1
  have h99 := c.2.2.2.2.2.2.2.1
  have G := c.2.2.2.2.2.2.2.2
  have hf0 := hT.2.2.2.1
  refine K_aload_n (dt_at dtX11_lacking 0 rfl) rfl rfl ?_
  refine K_iload_n (dt_at dtX11_lacking 1 rfl) rfl rfl ?_
  exact K_callV (M' := mX11_needThing) (a := 30) (ci := 11) (As := [vi q]) (st := []) (dt_at dtX11_lacking 2 rfl) (sX11_needThing_no hH c.2.1 c.2.2.1.2.1.1 hNt (by assumption) (by omega)) (by decide) rfl wL_X11_172 vX11_needThing rfl npX11_needThing (by decide) (by decide) (Nat.le_of_ble_eq_true rfl) (by decide) (by decide) GK_E (fun v9 h9 hq => by cases hq.1) (fun E h9 hq => by obtain ⟨e9, e8⟩ := hq; cases e9; rw [e8]; exact KX_out (by decide) (by decide) ⟨rfl, FS_rf G⟩)
set_option maxHeartbeats 4000000 in
set_option maxRecDepth 100000 in
theorem lp_X11_lacking {Q : AO → HP → Prop} {h h1 : HP} {t : Nat} {S : HS} {B : Int} {f : Int → Int} {q : Int} (c : CQ h t S B f) (F1 : FS h h1) (X : WX h1 84 t S) (hqt : 0 ≤ q ∧ q < sNt S) : ∀ (d k : Nat) (hh : HP), k + d = 101 → PW h1 hh 84 t (dysF S f k) (trD S f (fun _ => 0) k) (emD S f 0 k) → (∀ h2, FS h h2 → Q (.inl (some (vi (srN (fun k => if dysF S f k (29 + q) = 0 then some (k : Int) else none) (-1) k d)))) h2) → K mX11_lacking GK (ZK Q 1 6) 1 6 22 [(2, vi (k : Int)), (0, vr 30), (1, vi q)] [] hh := by
  intro d
  induction d with
  | zero =>
    intro k hh hk Ph hQ
    have ek : k = 101 := by omega
    subst ek
    have ht := c.1
    have hH := TTt ht
    have hB := c.2.2.2.1
    have hNt := hB.1
    have hNp := hB.2.1
    have hT := c.2.2.2.2.2.1
    have hC := c.2.2.2.2.2.2.1
    have h99 := c.2.2.2.2.2.2.2.1
    have G := c.2.2.2.2.2.2.2.2
    have hf0 := hT.2.2.2.1
    have ch := CQ_FS c (FS_tr F1 (WK_FS X Ph.1 F1.2.2.2))
    have hfh : hA hh 86 = dysF S f 101 := Ph.2.1
    refine K_iload_n (dt_at dtX11_lacking 12 rfl) rfl rfl ?_
    refine K_bipush (dt_at dtX11_lacking 13 rfl) (by decide) ?_
    refine K_icmp_gt (tgt := 57) (dt_at dtX11_lacking 14 rfl) (by decide) (by first | assumption | exact ⟨by omega, by omega⟩) (by first | assumption | exact ⟨by omega, by omega⟩) (fun c1 => ?_) (fun c1 => absurd c1 (by omega))
    refine K_iconst (dt_at dtX11_lacking 28 rfl) ?_
    exact K_iret (dt_at dtX11_lacking 29 rfl) rfl rfl (by decide) (by decide) (hQ _ (FS_tr F1 (WK_FS X Ph.1 F1.2.2.2)))
  | succ d ih =>
    intro k hh hk Ph hQ
    have ht := c.1
    have hH := TTt ht
    have hB := c.2.2.2.1
    have hNt := hB.1
    have hNp := hB.2.1
    have hT := c.2.2.2.2.2.1
    have hC := c.2.2.2.2.2.2.1
    have h99 := c.2.2.2.2.2.2.2.1
    have G := c.2.2.2.2.2.2.2.2
    have hf0 := hT.2.2.2.1
    have ch := CQ_FS c (FS_tr F1 (WK_FS X Ph.1 F1.2.2.2))
    have hfh : hA hh 86 = dysF S f k := Ph.2.1
    obtain ⟨hTk, hCk, hk0⟩ := dysF_ok hB hT hC k (by omega)
    obtain ⟨hTn, hCn, hn0⟩ := dysF_ok hB hT hC (k + 1) (by omega)
    have w2 := hTk.1.1 (29 + q) (by omega) (by omega)
    refine K_iload_n (dt_at dtX11_lacking 12 rfl) rfl rfl ?_
    refine K_bipush (dt_at dtX11_lacking 13 rfl) (by decide) ?_
    refine K_icmp_gt (tgt := 57) (dt_at dtX11_lacking 14 rfl) (by decide) (by first | assumption | exact ⟨by omega, by omega⟩) (by first | assumption | exact ⟨by omega, by omega⟩) (fun c1 => absurd c1 (by omega)) (fun c1 => ?_)
    refine K_aload_n (dt_at dtX11_lacking 15 rfl) rfl rfl ?_
    refine K_get (a := 30) (ci := 11) (k := 11) (v := vr 84) (dt_at dtX11_lacking 16 rfl) (by decide) rfl (by decide) wF_X11_69 rfl ?_
    refine K_get (a := 84) (ci := 10) (k := 0) (v := vr 85) (dt_at dtX11_lacking 17 rfl) (by decide) rfl (by decide) wF_X11_291 rfl ?_
    refine K_iload_n (dt_at dtX11_lacking 18 rfl) rfl rfl ?_
    refine K_callV (M' := mX8_stock) (a := 85) (ci := 8) (As := [vi q]) (st := []) (dt_at dtX11_lacking 19 rfl) (sX8_stock (a := 85) (by decide) ⟨by omega, by omega⟩) (by decide) rfl wL_X11_181 vX8_stock rfl npX8_stock (by decide) (by decide) (Nat.le_of_ble_eq_true rfl) (by decide) (by decide) GK_E (fun v9 h9 hq => ?_) (fun E h9 hq => by cases hq.1)
    obtain ⟨e9, e8⟩ := hq
    cases e9
    rw [e8]
    show K mX11_lacking _ _ 1 6 39 [(2, vi (k : Int)), (0, vr 30), (1, vi q)] [vi (hA hh (85 + 1) (29 + q))] hh
    rw [show hA hh (85 + 1) = (dysF S f k) from hfh]
    refine K_if_ne (tgt := 44) (dt_at dtX11_lacking 20 rfl) (by decide) (by first | assumption | exact ⟨by omega, by omega⟩) (fun c2 => ?_) (fun c2 => ?_)
    · refine K_aload_n (dt_at dtX11_lacking 23 rfl) rfl rfl ?_
      refine K_get (a := 30) (ci := 11) (k := 11) (v := vr 84) (dt_at dtX11_lacking 24 rfl) (by decide) rfl (by decide) wF_X11_69 rfl ?_
      refine K_callV (M' := mX10_passDay) (a := 84) (ci := 10) (As := []) (st := []) (dt_at dtX11_lacking 25 rfl) (sX10_passDay X Ph hTk hCk) (by decide) rfl wL_X11_288 vX10_passDay rfl npX10_passDay (by decide) (by decide) (Nat.le_of_ble_eq_true rfl) (by decide) (by decide) GK_E (fun v9 hc1 hq => ?_) (fun E h9 hq => by cases hq.1)
      have hqq2 := hq
      obtain ⟨e9q2, Pzq2⟩ := hqq2
      have Pq2 : PW h1 hc1 84 t (dysF S f (k + 1)) (trD S f (fun _ => 0) (k + 1)) (emD S f 0 (k + 1)) := Pzq2
      have cq2 := CQ_FS c (FS_tr F1 (WK_FS X Pq2.1 F1.2.2.2))
      have hfq2 : hA hc1 86 = dysF S f (k + 1) := Pq2.2.1
      cases e9q2
      show K mX11_lacking _ _ 1 6 51 [(2, vi (k : Int)), (0, vr 30), (1, vi q)] [] hc1
      refine K_iinc (ls' := [(2, vi ((k : Int) + 1)), (0, vr 30), (1, vi q)]) (dt_at dtX11_lacking 26 rfl) rfl (by decide) rfl ?_
      refine K_goto (tgt := 22) (dt_at dtX11_lacking 27 rfl) (by decide) ?_
      refine K_pk [0, 1, 2] (ls' := [(2, vi ((k : Int) + 1)), (0, vr 30), (1, vi q)]) rfl ?_
      exact K_cg (ls' := [(2, vi ((k + 1 : Nat) : Int)), (0, vr 30), (1, vi q)]) (h' := hc1) (by rfl) rfl (ih (k + 1) hc1 (by omega) Pq2 (fun h2 q_ => by have h9 := hQ h2 q_; simpa only [srN, if_neg (show ¬ dysF S f k (29 + q) = 0 by assumption)] using h9))
    · refine K_iload_n (dt_at dtX11_lacking 21 rfl) rfl rfl ?_
      exact K_iret (dt_at dtX11_lacking 22 rfl) rfl rfl (by decide) (by decide) (by have h9 := hQ _ (FS_tr F1 (WK_FS X Ph.1 F1.2.2.2)); simpa only [srN, if_pos (show dysF S f k (29 + q) = 0 by assumption)] using h9)
set_option maxHeartbeats 4000000 in
set_option maxRecDepth 100000 in
theorem sX11_lacking {h : HP} {t : Nat} {S : HS} {B : Int} {f : Int → Int} {q : Int} (c : CQ h t S B f) (hqt : 0 ≤ q ∧ q < sNt S) : SpecK mX11_lacking [vr 30, vi q] h (fun o h' => o = .inl (some (vi (srN (fun k => if dysF S f k (29 + q) = 0 then some (k : Int) else none) (-1) 0 101))) ∧ FS h h') := by
  refine Spec_of (by decide +kernel) (Nat.le_of_ble_eq_true rfl) ?_
  have ht := c.1
  have hH := TTt ht
  have hB := c.2.2.2.1
  have hNt := hB.1
  have hNp := hB.2.1
  have hT := c.2.2.2.2.2.1
  have hC := c.2.2.2.2.2.2.1
  have h99 := c.2.2.2.2.2.2.2.1
  have G := c.2.2.2.2.2.2.2.2
  have hf0 := hT.2.2.2.1
  refine K_aload_n (dt_at dtX11_lacking 0 rfl) rfl rfl ?_
  refine K_iload_n (dt_at dtX11_lacking 1 rfl) rfl rfl ?_
  refine K_callV (M' := mX11_needThing) (a := 30) (ci := 11) (As := [vi q]) (st := []) (dt_at dtX11_lacking 2 rfl) (sX11_needThing hH c.2.1 c.2.2.1.2.1.1 hNt (by first | assumption | exact ⟨by omega, by omega⟩) (by omega)) (by decide) rfl wL_X11_172 vX11_needThing rfl npX11_needThing (by decide) (by decide) (Nat.le_of_ble_eq_true rfl) (by decide) (by decide) GK_E (fun v9 h9 hq => ?_) (fun E h9 hq => by cases hq.1)
  obtain ⟨e9, e8⟩ := hq
  cases e9
  rw [e8]
  show K mX11_lacking _ _ 1 6 5 [(0, vr 30), (1, vi q)] [] h
  refine K_aload_n (dt_at dtX11_lacking 3 rfl) rfl rfl ?_
  refine K_get (a := 30) (ci := 11) (k := 11) (v := vr 84) (dt_at dtX11_lacking 4 rfl) (by decide) rfl (by decide) wF_X11_69 rfl ?_
  refine K_aload_n (dt_at dtX11_lacking 5 rfl) rfl rfl ?_
  refine K_get (a := 30) (ci := 11) (k := 2) (v := vr t) (dt_at dtX11_lacking 6 rfl) (by decide) rfl (by decide) wF_X11_20 (by show vr (hR h 30 2) = vr t; rw [c.2.1]) ?_
  refine K_aload_n (dt_at dtX11_lacking 7 rfl) rfl rfl ?_
  refine K_get (a := 30) (ci := 11) (k := 5) (v := vr 66) (dt_at dtX11_lacking 8 rfl) (by decide) rfl (by decide) wF_X11_39 rfl ?_
  refine K_callV (M' := mX10_begin) (a := 84) (ci := 10) (As := [vr t, vr 66]) (st := []) (dt_at dtX11_lacking 9 rfl) (sX10_begin (w := 84) (t := t) (a := 66) (Or.inl rfl) ht (by decide) (by decide)) (by decide) rfl wL_X11_286 vX10_begin rfl npX10_begin (by decide) (by decide) (Nat.le_of_ble_eq_true rfl) (by decide) (by decide) GK_E (fun v9 hc1 hq => ?_) (fun E h9 hq => by cases hq.1)
  have hqq2 := hq
  obtain ⟨e9q2, b1, b2, b3, b4, b5, b6, b7⟩ := hqq2
  obtain ⟨F1, X, P1⟩ := BG_ok (w := 84) (Or.inl rfl) ht c.2.2.1 hB c.2.2.2.2.2.2.2.2 b1 b2 b3 b4 b5 b6 b7
  rw [c.2.2.2.2.1] at P1
  cases e9q2
  show K mX11_lacking _ _ 1 6 20 [(0, vr 30), (1, vi q)] [] hc1
  refine K_iconst (dt_at dtX11_lacking 10 rfl) ?_
  refine K_istore_n (ls' := [(2, vi 0), (0, vr 30), (1, vi q)]) (dt_at dtX11_lacking 11 rfl) rfl (by decide) rfl ?_
  exact K_pk [0, 1, 2] rfl (lp_X11_lacking c F1 X hqt 101 0 hc1 (by omega) P1 (fun h2 q_ => ⟨rfl, q_⟩))
def mX11_hadBest : MI := (yX11_hadBest, cX11_hadBest, 7, (some .int), rmK 6 0)
def tX11_hadBest : List (Nat × Instr × Nat) := [(0, .iconst (-1), 1), (1, .istore_n 3, 1), (2, .iconst (-1), 1), (3, .istore 4, 2), (5, .aload_n 0, 1), (6, .getfield 69, 3), (9, .aload_n 0, 1), (10, .getfield 20, 3), (13, .aload_n 0, 1), (14, .getfield 39, 3), (17, .invokevirtual 286, 3), (20, .iconst 0, 1), (21, .istore 5, 2), (23, .iload 5, 2), (25, .iload_n 2, 1), (26, .if_icmp .gt 46, 3), (29, .aload_n 0, 1), (30, .getfield 20, 3), (33, .aload_n 0, 1), (34, .getfield 69, 3), (37, .getfield 291, 3), (40, .iload_n 1, 1), (41, .invokevirtual 267, 3), (44, .istore 6, 2), (46, .iload 6, 2), (48, .iload_n 3, 1), (49, .if_icmp .le 10, 3), (52, .iload 6, 2), (54, .istore_n 3, 1), (55, .iload 5, 2), (57, .istore 4, 2), (59, .aload_n 0, 1), (60, .getfield 69, 3), (63, .invokevirtual 288, 3), (66, .iinc 5 1, 3), (69, .goto (-46), 3), (72, .iload 4, 2), (74, .ireturn, 1)]
theorem dtX11_hadBest : tX11_hadBest.all (fun q => decide (decode cX11_hadBest q.1 = .ok (q.2.1, q.2.2))) = true := by decide +kernel
theorem npX11_hadBest : (parseMethodDescriptor (mY mX11_hadBest).desc).map (fun d => d.parameters.length) = some 2 := by decide +kernel
theorem vX11_hadBest : mV mX11_hadBest := ⟨wI_X11_hadBest, wS_X11_hadBest, wN_X11, wC_X11_hadBest, by decide +kernel, by decide +kernel⟩
set_option maxHeartbeats 4000000 in
set_option maxRecDepth 100000 in
theorem lp_X11_hadBest {Q : AO → HP → Prop} {h h1 : HP} {t : Nat} {S : HS} {B : Int} {f : Int → Int} {p : Int} {n : Nat} (c : CQ h t S B f) (F1 : FS h h1) (X : WX h1 84 t S) (hp : 0 ≤ p ∧ p < sNp S) (hn : n ≤ 100) (hQ : ∀ h2, FS h h2 → Q (.inl (some (vi (fmN (-1) 0 (-1) (fun k => sumF (sU S) (dysF S f k) p (sNt S)) (n + 1))))) h2) : ∀ (d k : Nat) (hh : HP), k + d = n + 1 → PW h1 hh 84 t (dysF S f k) (trD S f (fun _ => 0) k) (emD S f 0 k) → K mX11_hadBest GK (ZK Q 0 0) 0 0 23 [(5, vi (k : Int)), (3, vi (mxN (-1) (fun k => sumF (sU S) (dysF S f k) p (sNt S)) k)), (4, vi (fmN (-1) 0 (-1) (fun k => sumF (sU S) (dysF S f k) p (sNt S)) k)), (0, vr 30), (1, vi p), (2, vi (n : Int))] [] hh := by
  intro d
  induction d with
  | zero =>
    intro k hh hk Ph
    have ek : k = n + 1 := by omega
    subst ek
    have ht := c.1
    have hH := TTt ht
    have hB := c.2.2.2.1
    have hNt := hB.1
    have hNp := hB.2.1
    have hT := c.2.2.2.2.2.1
    have hC := c.2.2.2.2.2.2.1
    have h99 := c.2.2.2.2.2.2.2.1
    have G := c.2.2.2.2.2.2.2.2
    have hf0 := hT.2.2.2.1
    have ch := CQ_FS c (FS_tr F1 (WK_FS X Ph.1 F1.2.2.2))
    have hfh : hA hh 86 = dysF S f (n + 1) := Ph.2.1
    refine K_iload (dt_at dtX11_hadBest 13 rfl) rfl ?_
    refine K_iload_n (dt_at dtX11_hadBest 14 rfl) rfl rfl ?_
    refine K_icmp_gt (tgt := 72) (dt_at dtX11_hadBest 15 rfl) (by decide) (by first | assumption | exact ⟨by omega, by omega⟩) (by first | assumption | exact ⟨by omega, by omega⟩) (fun c1 => ?_) (fun c1 => absurd c1 (by omega))
    refine K_iload (dt_at dtX11_hadBest 36 rfl) rfl ?_
    exact K_iret (dt_at dtX11_hadBest 37 rfl) rfl rfl (by decide) (by decide) (hQ _ (FS_tr F1 (WK_FS X Ph.1 F1.2.2.2)))
  | succ d ih =>
    intro k hh hk Ph
    have ht := c.1
    have hH := TTt ht
    have hB := c.2.2.2.1
    have hNt := hB.1
    have hNp := hB.2.1
    have hT := c.2.2.2.2.2.1
    have hC := c.2.2.2.2.2.2.1
    have h99 := c.2.2.2.2.2.2.2.1
    have G := c.2.2.2.2.2.2.2.2
    have hf0 := hT.2.2.2.1
    have ch := CQ_FS c (FS_tr F1 (WK_FS X Ph.1 F1.2.2.2))
    have hfh : hA hh 86 = dysF S f k := Ph.2.1
    obtain ⟨hTk, hCk, hk0⟩ := dysF_ok hB hT hC k (by omega)
    obtain ⟨hTn, hCn, hn0⟩ := dysF_ok hB hT hC (k + 1) (by omega)
    have w1 := sumD_b (n := k) (p := p) hB hT hC (by omega) (by omega) (Or.inr rfl)
    have w2 := mxN_b (s := -1) (M := 120000000) (u := (fun k => sumF (sU S) (dysF S f k) p (sNt S))) (by omega) k (fun j hj => (sumD_b (n := j) (p := p) hB hT hC (by omega) (by omega) (Or.inr rfl)).2)
    refine K_iload (dt_at dtX11_hadBest 13 rfl) rfl ?_
    refine K_iload_n (dt_at dtX11_hadBest 14 rfl) rfl rfl ?_
    refine K_icmp_gt (tgt := 72) (dt_at dtX11_hadBest 15 rfl) (by decide) (by first | assumption | exact ⟨by omega, by omega⟩) (by first | assumption | exact ⟨by omega, by omega⟩) (fun c1 => absurd c1 (by omega)) (fun c1 => ?_)
    refine K_aload_n (dt_at dtX11_hadBest 16 rfl) rfl rfl ?_
    refine K_get (a := 30) (ci := 11) (k := 2) (v := vr t) (dt_at dtX11_hadBest 17 rfl) (by decide) rfl (by decide) wF_X11_20 (by show vr (hR hh 30 2) = vr t; rw [ch.2.1]) ?_
    refine K_aload_n (dt_at dtX11_hadBest 18 rfl) rfl rfl ?_
    refine K_get (a := 30) (ci := 11) (k := 11) (v := vr 84) (dt_at dtX11_hadBest 19 rfl) (by decide) rfl (by decide) wF_X11_69 rfl ?_
    refine K_get (a := 84) (ci := 10) (k := 0) (v := vr 85) (dt_at dtX11_hadBest 20 rfl) (by decide) rfl (by decide) wF_X11_291 rfl ?_
    refine K_iload_n (dt_at dtX11_hadBest 21 rfl) rfl rfl ?_
    refine K_callV (M' := mX3_useWith) (a := t) (ci := 3) (As := [vr 85, vi p]) (st := []) (dt_at dtX11_hadBest 22 rfl) (sX3_useWith (n := sNt S) hH (a := 85) (by decide) (by rw [show hA hh (85 + 1) = (dysF S f k) from hfh]; exact hTk.1) hNt ch.2.2.1.2.1.1 ⟨by omega, by omega⟩) hH rfl wL_X11_267 vX3_useWith rfl npX3_useWith (by decide) (by decide) (Nat.le_of_ble_eq_true rfl) (by decide) (by decide) GK_E (fun v9 h9 hq => ?_) (fun E h9 hq => by cases hq.1)
    obtain ⟨e9, e8⟩ := hq
    cases e9
    rw [e8]
    show K mX11_hadBest _ _ 0 0 44 [(5, vi (k : Int)), (3, vi (mxN (-1) (fun k => sumF (sU S) (dysF S f k) p (sNt S)) k)), (4, vi (fmN (-1) 0 (-1) (fun k => sumF (sU S) (dysF S f k) p (sNt S)) k)), (0, vr 30), (1, vi p), (2, vi (n : Int))] [vi (sumF (hA hh (t + 2)) (hA hh (85 + 1)) p (sNt S))] hh
    rw [show hA hh (85 + 1) = (dysF S f k) from hfh]
    rw [show hA hh (t + 2) = (sU S) from ch.2.2.1.1.2.1]
    refine K_istore (ls' := [(6, vi (sumF (sU S) (dysF S f k) p (sNt S))), (5, vi (k : Int)), (3, vi (mxN (-1) (fun k => sumF (sU S) (dysF S f k) p (sNt S)) k)), (4, vi (fmN (-1) 0 (-1) (fun k => sumF (sU S) (dysF S f k) p (sNt S)) k)), (0, vr 30), (1, vi p), (2, vi (n : Int))]) (dt_at dtX11_hadBest 23 rfl) (by decide) rfl ?_
    refine K_iload (dt_at dtX11_hadBest 24 rfl) rfl ?_
    refine K_iload_n (dt_at dtX11_hadBest 25 rfl) rfl rfl ?_
    refine K_icmp_le (tgt := 59) (dt_at dtX11_hadBest 26 rfl) (by decide) (by first | assumption | exact ⟨by omega, by omega⟩) (by first | assumption | exact ⟨by omega, by omega⟩) (fun c2 => ?_) (fun c2 => ?_)
    · refine K_aload_n (dt_at dtX11_hadBest 31 rfl) rfl rfl ?_
      refine K_get (a := 30) (ci := 11) (k := 11) (v := vr 84) (dt_at dtX11_hadBest 32 rfl) (by decide) rfl (by decide) wF_X11_69 rfl ?_
      refine K_callV (M' := mX10_passDay) (a := 84) (ci := 10) (As := []) (st := []) (dt_at dtX11_hadBest 33 rfl) (sX10_passDay X Ph hTk hCk) (by decide) rfl wL_X11_288 vX10_passDay rfl npX10_passDay (by decide) (by decide) (Nat.le_of_ble_eq_true rfl) (by decide) (by decide) GK_E (fun v9 hc1 hq => ?_) (fun E h9 hq => by cases hq.1)
      have hqq2 := hq
      obtain ⟨e9q2, Pzq2⟩ := hqq2
      have Pq2 : PW h1 hc1 84 t (dysF S f (k + 1)) (trD S f (fun _ => 0) (k + 1)) (emD S f 0 (k + 1)) := Pzq2
      have cq2 := CQ_FS c (FS_tr F1 (WK_FS X Pq2.1 F1.2.2.2))
      have hfq2 : hA hc1 86 = dysF S f (k + 1) := Pq2.2.1
      cases e9q2
      show K mX11_hadBest _ _ 0 0 66 [(6, vi (sumF (sU S) (dysF S f k) p (sNt S))), (5, vi (k : Int)), (3, vi (mxN (-1) (fun k => sumF (sU S) (dysF S f k) p (sNt S)) k)), (4, vi (fmN (-1) 0 (-1) (fun k => sumF (sU S) (dysF S f k) p (sNt S)) k)), (0, vr 30), (1, vi p), (2, vi (n : Int))] [] hc1
      refine K_iinc (ls' := [(5, vi ((k : Int) + 1)), (6, vi (sumF (sU S) (dysF S f k) p (sNt S))), (3, vi (mxN (-1) (fun k => sumF (sU S) (dysF S f k) p (sNt S)) k)), (4, vi (fmN (-1) 0 (-1) (fun k => sumF (sU S) (dysF S f k) p (sNt S)) k)), (0, vr 30), (1, vi p), (2, vi (n : Int))]) (dt_at dtX11_hadBest 34 rfl) rfl (by decide) rfl ?_
      refine K_goto (tgt := 23) (dt_at dtX11_hadBest 35 rfl) (by decide) ?_
      refine K_pk [0, 2, 3, 4, 5, 6] (ls' := [(5, vi ((k : Int) + 1)), (3, vi (mxN (-1) (fun k => sumF (sU S) (dysF S f k) p (sNt S)) k)), (4, vi (fmN (-1) 0 (-1) (fun k => sumF (sU S) (dysF S f k) p (sNt S)) k)), (0, vr 30), (1, vi p), (2, vi (n : Int))]) rfl ?_
      exact K_cg (ls' := [(5, vi ((k + 1 : Nat) : Int)), (3, vi (mxN (-1) (fun k => sumF (sU S) (dysF S f k) p (sNt S)) (k + 1))), (4, vi (fmN (-1) 0 (-1) (fun k => sumF (sU S) (dysF S f k) p (sNt S)) (k + 1))), (0, vr 30), (1, vi p), (2, vi (n : Int))]) (h' := hc1) (by rw [mxN_f (show ¬ mxN (-1) (fun k => sumF (sU S) (dysF S f k) p (sNt S)) k < sumF (sU S) (dysF S f k) p (sNt S) by omega), fmN_f (show ¬ mxN (-1) (fun k => sumF (sU S) (dysF S f k) p (sNt S)) k < sumF (sU S) (dysF S f k) p (sNt S) by omega)]; rfl) rfl (ih (k + 1) hc1 (by omega) Pq2)
    · refine K_iload (dt_at dtX11_hadBest 27 rfl) rfl ?_
      refine K_istore_n (ls' := [(3, vi (sumF (sU S) (dysF S f k) p (sNt S))), (6, vi (sumF (sU S) (dysF S f k) p (sNt S))), (5, vi (k : Int)), (4, vi (fmN (-1) 0 (-1) (fun k => sumF (sU S) (dysF S f k) p (sNt S)) k)), (0, vr 30), (1, vi p), (2, vi (n : Int))]) (dt_at dtX11_hadBest 28 rfl) rfl (by decide) rfl ?_
      refine K_iload (dt_at dtX11_hadBest 29 rfl) rfl ?_
      refine K_istore (ls' := [(4, vi (k : Int)), (3, vi (sumF (sU S) (dysF S f k) p (sNt S))), (6, vi (sumF (sU S) (dysF S f k) p (sNt S))), (5, vi (k : Int)), (0, vr 30), (1, vi p), (2, vi (n : Int))]) (dt_at dtX11_hadBest 30 rfl) (by decide) rfl ?_
      refine K_aload_n (dt_at dtX11_hadBest 31 rfl) rfl rfl ?_
      refine K_get (a := 30) (ci := 11) (k := 11) (v := vr 84) (dt_at dtX11_hadBest 32 rfl) (by decide) rfl (by decide) wF_X11_69 rfl ?_
      refine K_callV (M' := mX10_passDay) (a := 84) (ci := 10) (As := []) (st := []) (dt_at dtX11_hadBest 33 rfl) (sX10_passDay X Ph hTk hCk) (by decide) rfl wL_X11_288 vX10_passDay rfl npX10_passDay (by decide) (by decide) (Nat.le_of_ble_eq_true rfl) (by decide) (by decide) GK_E (fun v9 hc3 hq => ?_) (fun E h9 hq => by cases hq.1)
      have hqq4 := hq
      obtain ⟨e9q4, Pzq4⟩ := hqq4
      have Pq4 : PW h1 hc3 84 t (dysF S f (k + 1)) (trD S f (fun _ => 0) (k + 1)) (emD S f 0 (k + 1)) := Pzq4
      have cq4 := CQ_FS c (FS_tr F1 (WK_FS X Pq4.1 F1.2.2.2))
      have hfq4 : hA hc3 86 = dysF S f (k + 1) := Pq4.2.1
      cases e9q4
      show K mX11_hadBest _ _ 0 0 66 [(4, vi (k : Int)), (3, vi (sumF (sU S) (dysF S f k) p (sNt S))), (6, vi (sumF (sU S) (dysF S f k) p (sNt S))), (5, vi (k : Int)), (0, vr 30), (1, vi p), (2, vi (n : Int))] [] hc3
      refine K_iinc (ls' := [(5, vi ((k : Int) + 1)), (4, vi (k : Int)), (3, vi (sumF (sU S) (dysF S f k) p (sNt S))), (6, vi (sumF (sU S) (dysF S f k) p (sNt S))), (0, vr 30), (1, vi p), (2, vi (n : Int))]) (dt_at dtX11_hadBest 34 rfl) rfl (by decide) rfl ?_
      refine K_goto (tgt := 23) (dt_at dtX11_hadBest 35 rfl) (by decide) ?_
      refine K_pk [0, 2, 1, 4, 5, 6] (ls' := [(5, vi ((k : Int) + 1)), (3, vi (sumF (sU S) (dysF S f k) p (sNt S))), (4, vi (k : Int)), (0, vr 30), (1, vi p), (2, vi (n : Int))]) rfl ?_
      exact K_cg (ls' := [(5, vi ((k + 1 : Nat) : Int)), (3, vi (mxN (-1) (fun k => sumF (sU S) (dysF S f k) p (sNt S)) (k + 1))), (4, vi (fmN (-1) 0 (-1) (fun k => sumF (sU S) (dysF S f k) p (sNt S)) (k + 1))), (0, vr 30), (1, vi p), (2, vi (n : Int))]) (h' := hc3) (by rw [mxN_t (show mxN (-1) (fun k => sumF (sU S) (dysF S f k) p (sNt S)) k < sumF (sU S) (dysF S f k) p (sNt S) by omega), fmN_t (show mxN (-1) (fun k => sumF (sU S) (dysF S f k) p (sNt S)) k < sumF (sU S) (dysF S f k) p (sNt S) by omega)]; rw [Int.add_zero]; rfl) rfl (ih (k + 1) hc3 (by omega) Pq4)
set_option maxHeartbeats 4000000 in
set_option maxRecDepth 100000 in
theorem sX11_hadBest {h : HP} {t : Nat} {S : HS} {B : Int} {f : Int → Int} {p : Int} {n : Nat} (c : CQ h t S B f) (hp : 0 ≤ p ∧ p < sNp S) (hn : n ≤ 100) : SpecK mX11_hadBest [vr 30, vi p, vi (n : Int)] h (fun o h' => o = .inl (some (vi (fmN (-1) 0 (-1) (fun k => sumF (sU S) (dysF S f k) p (sNt S)) (n + 1)))) ∧ FS h h') := by
  refine Spec_of (by decide +kernel) (Nat.le_of_ble_eq_true rfl) ?_
  have ht := c.1
  have hH := TTt ht
  have hB := c.2.2.2.1
  have hNt := hB.1
  have hNp := hB.2.1
  have hT := c.2.2.2.2.2.1
  have hC := c.2.2.2.2.2.2.1
  have h99 := c.2.2.2.2.2.2.2.1
  have G := c.2.2.2.2.2.2.2.2
  have hf0 := hT.2.2.2.1
  refine K_iconst (dt_at dtX11_hadBest 0 rfl) ?_
  refine K_istore_n (ls' := [(3, vi (-1)), (0, vr 30), (1, vi p), (2, vi (n : Int))]) (dt_at dtX11_hadBest 1 rfl) rfl (by decide) rfl ?_
  refine K_iconst (dt_at dtX11_hadBest 2 rfl) ?_
  refine K_istore (ls' := [(4, vi (-1)), (3, vi (-1)), (0, vr 30), (1, vi p), (2, vi (n : Int))]) (dt_at dtX11_hadBest 3 rfl) (by decide) rfl ?_
  refine K_aload_n (dt_at dtX11_hadBest 4 rfl) rfl rfl ?_
  refine K_get (a := 30) (ci := 11) (k := 11) (v := vr 84) (dt_at dtX11_hadBest 5 rfl) (by decide) rfl (by decide) wF_X11_69 rfl ?_
  refine K_aload_n (dt_at dtX11_hadBest 6 rfl) rfl rfl ?_
  refine K_get (a := 30) (ci := 11) (k := 2) (v := vr t) (dt_at dtX11_hadBest 7 rfl) (by decide) rfl (by decide) wF_X11_20 (by show vr (hR h 30 2) = vr t; rw [c.2.1]) ?_
  refine K_aload_n (dt_at dtX11_hadBest 8 rfl) rfl rfl ?_
  refine K_get (a := 30) (ci := 11) (k := 5) (v := vr 66) (dt_at dtX11_hadBest 9 rfl) (by decide) rfl (by decide) wF_X11_39 rfl ?_
  refine K_callV (M' := mX10_begin) (a := 84) (ci := 10) (As := [vr t, vr 66]) (st := []) (dt_at dtX11_hadBest 10 rfl) (sX10_begin (w := 84) (t := t) (a := 66) (Or.inl rfl) ht (by decide) (by decide)) (by decide) rfl wL_X11_286 vX10_begin rfl npX10_begin (by decide) (by decide) (Nat.le_of_ble_eq_true rfl) (by decide) (by decide) GK_E (fun v9 hc1 hq => ?_) (fun E h9 hq => by cases hq.1)
  have hqq2 := hq
  obtain ⟨e9q2, b1, b2, b3, b4, b5, b6, b7⟩ := hqq2
  obtain ⟨F1, X, P1⟩ := BG_ok (w := 84) (Or.inl rfl) ht c.2.2.1 hB c.2.2.2.2.2.2.2.2 b1 b2 b3 b4 b5 b6 b7
  rw [c.2.2.2.2.1] at P1
  cases e9q2
  show K mX11_hadBest _ _ 0 0 20 [(4, vi (-1)), (3, vi (-1)), (0, vr 30), (1, vi p), (2, vi (n : Int))] [] hc1
  refine K_iconst (dt_at dtX11_hadBest 11 rfl) ?_
  refine K_istore (ls' := [(5, vi 0), (4, vi (-1)), (3, vi (-1)), (0, vr 30), (1, vi p), (2, vi (n : Int))]) (dt_at dtX11_hadBest 12 rfl) (by decide) rfl ?_
  exact K_pk [0, 2, 1, 3, 4, 5] rfl (lp_X11_hadBest c F1 X hp hn (fun h2 q_ => ⟨rfl, q_⟩) (n + 1) 0 hc1 (by omega) P1)
def mX11_daysWithNoneOut : MI := (yX11_daysWithNoneOut, cX11_daysWithNoneOut, 5, (some .int), rmK 6 0)
def tX11_daysWithNoneOut : List (Nat × Instr × Nat) := [(0, .iconst 0, 1), (1, .istore_n 3, 1), (2, .aload_n 0, 1), (3, .getfield 69, 3), (6, .aload_n 0, 1), (7, .getfield 20, 3), (10, .aload_n 0, 1), (11, .getfield 39, 3), (14, .invokevirtual 286, 3), (17, .iconst 1, 1), (18, .istore 4, 2), (20, .iload 4, 2), (22, .iload_n 2, 1), (23, .if_icmp .gt 41, 3), (26, .aload_n 0, 1), (27, .getfield 69, 3), (30, .invokevirtual 288, 3), (33, .aload_n 0, 1), (34, .getfield 69, 3), (37, .getfield 291, 3), (40, .aload_n 0, 1), (41, .getfield 20, 3), (44, .getfield 140, 3), (47, .invokevirtual 274, 3), (50, .iload_n 1, 1), (51, .iand, 1), (52, .ifCond .ne 6, 3), (55, .iinc 3 1, 3), (58, .iinc 4 1, 3), (61, .goto (-41), 3), (64, .iload_n 3, 1), (65, .ireturn, 1)]
theorem dtX11_daysWithNoneOut : tX11_daysWithNoneOut.all (fun q => decide (decode cX11_daysWithNoneOut q.1 = .ok (q.2.1, q.2.2))) = true := by decide +kernel
theorem npX11_daysWithNoneOut : (parseMethodDescriptor (mY mX11_daysWithNoneOut).desc).map (fun d => d.parameters.length) = some 2 := by decide +kernel
theorem vX11_daysWithNoneOut : mV mX11_daysWithNoneOut := ⟨wI_X11_daysWithNoneOut, wS_X11_daysWithNoneOut, wN_X11, wC_X11_daysWithNoneOut, by decide +kernel, by decide +kernel⟩
set_option maxHeartbeats 4000000 in
set_option maxRecDepth 100000 in
theorem lp_X11_daysWithNoneOut {Q : AO → HP → Prop} {h h1 : HP} {t : Nat} {S : HS} {B : Int} {f : Int → Int} {x : Int} {n : Nat} (c : CQ h t S B f) (F1 : FS h h1) (X : WX h1 84 t S) (hn : n ≤ 100) (hQ : ∀ h2, FS h h2 → Q (.inl (some (vi (cntN (fun k => decide (bAnd (bitN (fun j => decide (((dysF S f (k + 1)) (1 + (j : Int))) ≠ 0)) (sNp S)) x = 0)) n)))) h2) : ∀ (d k : Nat) (hh : HP), k + d = n → PW h1 hh 84 t (dysF S f k) (trD S f (fun _ => 0) k) (emD S f 0 k) → K mX11_daysWithNoneOut GK (ZK Q 0 0) 0 0 20 [(4, vi ((k : Int) + 1)), (3, vi (cntN (fun k => decide (bAnd (bitN (fun j => decide (((dysF S f (k + 1)) (1 + (j : Int))) ≠ 0)) (sNp S)) x = 0)) k)), (0, vr 30), (1, vi x), (2, vi (n : Int))] [] hh := by
  intro d
  induction d with
  | zero =>
    intro k hh hk Ph
    have ek : k = n := by omega
    subst ek
    have ht := c.1
    have hH := TTt ht
    have hB := c.2.2.2.1
    have hNt := hB.1
    have hNp := hB.2.1
    have hT := c.2.2.2.2.2.1
    have hC := c.2.2.2.2.2.2.1
    have h99 := c.2.2.2.2.2.2.2.1
    have G := c.2.2.2.2.2.2.2.2
    have hf0 := hT.2.2.2.1
    have ch := CQ_FS c (FS_tr F1 (WK_FS X Ph.1 F1.2.2.2))
    have hfh : hA hh 86 = dysF S f k := Ph.2.1
    refine K_iload (dt_at dtX11_daysWithNoneOut 11 rfl) rfl ?_
    refine K_iload_n (dt_at dtX11_daysWithNoneOut 12 rfl) rfl rfl ?_
    refine K_icmp_gt (tgt := 64) (dt_at dtX11_daysWithNoneOut 13 rfl) (by decide) (by first | assumption | exact ⟨by omega, by omega⟩) (by first | assumption | exact ⟨by omega, by omega⟩) (fun c1 => ?_) (fun c1 => absurd c1 (by omega))
    refine K_iload_n (dt_at dtX11_daysWithNoneOut 30 rfl) rfl rfl ?_
    exact K_iret (dt_at dtX11_daysWithNoneOut 31 rfl) rfl rfl (by decide) (by decide) (hQ _ (FS_tr F1 (WK_FS X Ph.1 F1.2.2.2)))
  | succ d ih =>
    intro k hh hk Ph
    have ht := c.1
    have hH := TTt ht
    have hB := c.2.2.2.1
    have hNt := hB.1
    have hNp := hB.2.1
    have hT := c.2.2.2.2.2.1
    have hC := c.2.2.2.2.2.2.1
    have h99 := c.2.2.2.2.2.2.2.1
    have G := c.2.2.2.2.2.2.2.2
    have hf0 := hT.2.2.2.1
    have ch := CQ_FS c (FS_tr F1 (WK_FS X Ph.1 F1.2.2.2))
    have hfh : hA hh 86 = dysF S f k := Ph.2.1
    obtain ⟨hTk, hCk, hk0⟩ := dysF_ok hB hT hC k (by omega)
    obtain ⟨hTn, hCn, hn0⟩ := dysF_ok hB hT hC (k + 1) (by omega)
    refine K_iload (dt_at dtX11_daysWithNoneOut 11 rfl) rfl ?_
    refine K_iload_n (dt_at dtX11_daysWithNoneOut 12 rfl) rfl rfl ?_
    refine K_icmp_gt (tgt := 64) (dt_at dtX11_daysWithNoneOut 13 rfl) (by decide) (by first | assumption | exact ⟨by omega, by omega⟩) (by first | assumption | exact ⟨by omega, by omega⟩) (fun c1 => absurd c1 (by omega)) (fun c1 => ?_)
    refine K_aload_n (dt_at dtX11_daysWithNoneOut 14 rfl) rfl rfl ?_
    refine K_get (a := 30) (ci := 11) (k := 11) (v := vr 84) (dt_at dtX11_daysWithNoneOut 15 rfl) (by decide) rfl (by decide) wF_X11_69 rfl ?_
    refine K_callV (M' := mX10_passDay) (a := 84) (ci := 10) (As := []) (st := []) (dt_at dtX11_daysWithNoneOut 16 rfl) (sX10_passDay X Ph hTk hCk) (by decide) rfl wL_X11_288 vX10_passDay rfl npX10_passDay (by decide) (by decide) (Nat.le_of_ble_eq_true rfl) (by decide) (by decide) GK_E (fun v9 hc1 hq => ?_) (fun E h9 hq => by cases hq.1)
    have hqq2 := hq
    obtain ⟨e9q2, Pzq2⟩ := hqq2
    have Pq2 : PW h1 hc1 84 t (dysF S f (k + 1)) (trD S f (fun _ => 0) (k + 1)) (emD S f 0 (k + 1)) := Pzq2
    have cq2 := CQ_FS c (FS_tr F1 (WK_FS X Pq2.1 F1.2.2.2))
    have hfq2 : hA hc1 86 = dysF S f (k + 1) := Pq2.2.1
    cases e9q2
    show K mX11_daysWithNoneOut _ _ 0 0 33 [(4, vi ((k : Int) + 1)), (3, vi (cntN (fun k => decide (bAnd (bitN (fun j => decide (((dysF S f (k + 1)) (1 + (j : Int))) ≠ 0)) (sNp S)) x = 0)) k)), (0, vr 30), (1, vi x), (2, vi (n : Int))] [] hc1
    refine K_aload_n (dt_at dtX11_daysWithNoneOut 17 rfl) rfl rfl ?_
    refine K_get (a := 30) (ci := 11) (k := 11) (v := vr 84) (dt_at dtX11_daysWithNoneOut 18 rfl) (by decide) rfl (by decide) wF_X11_69 rfl ?_
    refine K_get (a := 84) (ci := 10) (k := 0) (v := vr 85) (dt_at dtX11_daysWithNoneOut 19 rfl) (by decide) rfl (by decide) wF_X11_291 rfl ?_
    refine K_aload_n (dt_at dtX11_daysWithNoneOut 20 rfl) rfl rfl ?_
    refine K_get (a := 30) (ci := 11) (k := 2) (v := vr t) (dt_at dtX11_daysWithNoneOut 21 rfl) (by decide) rfl (by decide) wF_X11_20 (by show vr (hR hc1 30 2) = vr t; rw [cq2.2.1]) ?_
    refine K_get (a := t) (ci := 3) (k := 11) (v := vi (sNp S : Int)) (dt_at dtX11_daysWithNoneOut 22 rfl) hH rfl (by decide) wF_X11_140 (by show vi (hI hc1 t 11) = vi (sNp S : Int); rw [cq2.2.2.1.2.1.2]) ?_
    refine K_callV (M' := mX8_whoIsOut) (a := 85) (ci := 8) (As := [vi (sNp S : Int)]) (st := []) (dt_at dtX11_daysWithNoneOut 23 rfl) (sX8_whoIsOut (n := sNp S) (a := 85) (by decide) (by rw [show hA hc1 (85 + 1) = (dysF S f (k + 1)) from hfq2]; exact hTn.1) hNp) (by decide) rfl wL_X11_274 vX8_whoIsOut rfl npX8_whoIsOut (by decide) (by decide) (Nat.le_of_ble_eq_true rfl) (by decide) (by decide) GK_E (fun v9 h9 hq => ?_) (fun E h9 hq => by cases hq.1)
    obtain ⟨e9, e8⟩ := hq
    cases e9
    rw [e8]
    show K mX11_daysWithNoneOut _ _ 0 0 50 [(4, vi ((k : Int) + 1)), (3, vi (cntN (fun k => decide (bAnd (bitN (fun j => decide (((dysF S f (k + 1)) (1 + (j : Int))) ≠ 0)) (sNp S)) x = 0)) k)), (0, vr 30), (1, vi x), (2, vi (n : Int))] [vi (bitN (fun j => decide ((hA hc1 (85 + 1) (1 + (j : Int))) ≠ 0)) (sNp S))] hc1
    rw [show hA hc1 (85 + 1) = (dysF S f (k + 1)) from hfq2]
    refine K_iload_n (dt_at dtX11_daysWithNoneOut 24 rfl) rfl rfl ?_
    refine K_iand (dt_at dtX11_daysWithNoneOut 25 rfl) ?_
    refine K_if_ne (tgt := 58) (dt_at dtX11_daysWithNoneOut 26 rfl) (by decide) (bAnd32 _ _) (fun c2 => ?_) (fun c2 => ?_)
    · refine K_iinc (ls' := [(4, vi (((k : Int) + 1) + 1)), (3, vi (cntN (fun k => decide (bAnd (bitN (fun j => decide (((dysF S f (k + 1)) (1 + (j : Int))) ≠ 0)) (sNp S)) x = 0)) k)), (0, vr 30), (1, vi x), (2, vi (n : Int))]) (dt_at dtX11_daysWithNoneOut 28 rfl) rfl (by decide) rfl ?_
      refine K_goto (tgt := 20) (dt_at dtX11_daysWithNoneOut 29 rfl) (by decide) ?_
      refine K_pk [0, 1, 2, 3, 4] (ls' := [(4, vi (((k : Int) + 1) + 1)), (3, vi (cntN (fun k => decide (bAnd (bitN (fun j => decide (((dysF S f (k + 1)) (1 + (j : Int))) ≠ 0)) (sNp S)) x = 0)) k)), (0, vr 30), (1, vi x), (2, vi (n : Int))]) rfl ?_
      exact K_cg (ls' := [(4, vi (((k + 1 : Nat) : Int) + 1)), (3, vi (cntN (fun k => decide (bAnd (bitN (fun j => decide (((dysF S f (k + 1)) (1 + (j : Int))) ≠ 0)) (sNp S)) x = 0)) (k + 1))), (0, vr 30), (1, vi x), (2, vi (n : Int))]) (h' := hc1) (by rw [cntN_f (p := (fun k => decide (bAnd (bitN (fun j => decide (((dysF S f (k + 1)) (1 + (j : Int))) ≠ 0)) (sNp S)) x = 0))) (decide_eq_false (by assumption))]; rfl) rfl (ih (k + 1) hc1 (by omega) Pq2)
    · refine K_iinc (ls' := [(3, vi ((cntN (fun k => decide (bAnd (bitN (fun j => decide (((dysF S f (k + 1)) (1 + (j : Int))) ≠ 0)) (sNp S)) x = 0)) k) + 1)), (4, vi ((k : Int) + 1)), (0, vr 30), (1, vi x), (2, vi (n : Int))]) (dt_at dtX11_daysWithNoneOut 27 rfl) rfl (by decide) rfl ?_
      refine K_iinc (ls' := [(4, vi (((k : Int) + 1) + 1)), (3, vi ((cntN (fun k => decide (bAnd (bitN (fun j => decide (((dysF S f (k + 1)) (1 + (j : Int))) ≠ 0)) (sNp S)) x = 0)) k) + 1)), (0, vr 30), (1, vi x), (2, vi (n : Int))]) (dt_at dtX11_daysWithNoneOut 28 rfl) rfl (by decide) rfl ?_
      refine K_goto (tgt := 20) (dt_at dtX11_daysWithNoneOut 29 rfl) (by decide) ?_
      refine K_pk [0, 1, 2, 3, 4] (ls' := [(4, vi (((k : Int) + 1) + 1)), (3, vi ((cntN (fun k => decide (bAnd (bitN (fun j => decide (((dysF S f (k + 1)) (1 + (j : Int))) ≠ 0)) (sNp S)) x = 0)) k) + 1)), (0, vr 30), (1, vi x), (2, vi (n : Int))]) rfl ?_
      exact K_cg (ls' := [(4, vi (((k + 1 : Nat) : Int) + 1)), (3, vi (cntN (fun k => decide (bAnd (bitN (fun j => decide (((dysF S f (k + 1)) (1 + (j : Int))) ≠ 0)) (sNp S)) x = 0)) (k + 1))), (0, vr 30), (1, vi x), (2, vi (n : Int))]) (h' := hc1) (by rw [cntN_t (p := (fun k => decide (bAnd (bitN (fun j => decide (((dysF S f (k + 1)) (1 + (j : Int))) ≠ 0)) (sNp S)) x = 0))) (decide_eq_true (by assumption))]; rfl) rfl (ih (k + 1) hc1 (by omega) Pq2)
set_option maxHeartbeats 4000000 in
set_option maxRecDepth 100000 in
theorem sX11_daysWithNoneOut {h : HP} {t : Nat} {S : HS} {B : Int} {f : Int → Int} {x : Int} {n : Nat} (c : CQ h t S B f) (hn : n ≤ 100) : SpecK mX11_daysWithNoneOut [vr 30, vi x, vi (n : Int)] h (fun o h' => o = .inl (some (vi (cntN (fun k => decide (bAnd (bitN (fun j => decide (((dysF S f (k + 1)) (1 + (j : Int))) ≠ 0)) (sNp S)) x = 0)) n))) ∧ FS h h') := by
  refine Spec_of (by decide +kernel) (Nat.le_of_ble_eq_true rfl) ?_
  have ht := c.1
  have hH := TTt ht
  have hB := c.2.2.2.1
  have hNt := hB.1
  have hNp := hB.2.1
  have hT := c.2.2.2.2.2.1
  have hC := c.2.2.2.2.2.2.1
  have h99 := c.2.2.2.2.2.2.2.1
  have G := c.2.2.2.2.2.2.2.2
  have hf0 := hT.2.2.2.1
  refine K_iconst (dt_at dtX11_daysWithNoneOut 0 rfl) ?_
  refine K_istore_n (ls' := [(3, vi 0), (0, vr 30), (1, vi x), (2, vi (n : Int))]) (dt_at dtX11_daysWithNoneOut 1 rfl) rfl (by decide) rfl ?_
  refine K_aload_n (dt_at dtX11_daysWithNoneOut 2 rfl) rfl rfl ?_
  refine K_get (a := 30) (ci := 11) (k := 11) (v := vr 84) (dt_at dtX11_daysWithNoneOut 3 rfl) (by decide) rfl (by decide) wF_X11_69 rfl ?_
  refine K_aload_n (dt_at dtX11_daysWithNoneOut 4 rfl) rfl rfl ?_
  refine K_get (a := 30) (ci := 11) (k := 2) (v := vr t) (dt_at dtX11_daysWithNoneOut 5 rfl) (by decide) rfl (by decide) wF_X11_20 (by show vr (hR h 30 2) = vr t; rw [c.2.1]) ?_
  refine K_aload_n (dt_at dtX11_daysWithNoneOut 6 rfl) rfl rfl ?_
  refine K_get (a := 30) (ci := 11) (k := 5) (v := vr 66) (dt_at dtX11_daysWithNoneOut 7 rfl) (by decide) rfl (by decide) wF_X11_39 rfl ?_
  refine K_callV (M' := mX10_begin) (a := 84) (ci := 10) (As := [vr t, vr 66]) (st := []) (dt_at dtX11_daysWithNoneOut 8 rfl) (sX10_begin (w := 84) (t := t) (a := 66) (Or.inl rfl) ht (by decide) (by decide)) (by decide) rfl wL_X11_286 vX10_begin rfl npX10_begin (by decide) (by decide) (Nat.le_of_ble_eq_true rfl) (by decide) (by decide) GK_E (fun v9 hc1 hq => ?_) (fun E h9 hq => by cases hq.1)
  have hqq2 := hq
  obtain ⟨e9q2, b1, b2, b3, b4, b5, b6, b7⟩ := hqq2
  obtain ⟨F1, X, P1⟩ := BG_ok (w := 84) (Or.inl rfl) ht c.2.2.1 hB c.2.2.2.2.2.2.2.2 b1 b2 b3 b4 b5 b6 b7
  rw [c.2.2.2.2.1] at P1
  cases e9q2
  show K mX11_daysWithNoneOut _ _ 0 0 17 [(3, vi 0), (0, vr 30), (1, vi x), (2, vi (n : Int))] [] hc1
  refine K_iconst (dt_at dtX11_daysWithNoneOut 9 rfl) ?_
  refine K_istore (ls' := [(4, vi 1), (3, vi 0), (0, vr 30), (1, vi x), (2, vi (n : Int))]) (dt_at dtX11_daysWithNoneOut 10 rfl) (by decide) rfl ?_
  exact K_pk [0, 1, 2, 3, 4] rfl (lp_X11_daysWithNoneOut c F1 X hn (fun h2 q_ => ⟨rfl, q_⟩) n 0 hc1 (by omega) P1)
def mX11_daysWithNoneIn : MI := (yX11_daysWithNoneIn, cX11_daysWithNoneIn, 5, (some .int), rmK 6 0)
def tX11_daysWithNoneIn : List (Nat × Instr × Nat) := [(0, .iconst 0, 1), (1, .istore_n 3, 1), (2, .aload_n 0, 1), (3, .getfield 69, 3), (6, .aload_n 0, 1), (7, .getfield 20, 3), (10, .aload_n 0, 1), (11, .getfield 39, 3), (14, .invokevirtual 286, 3), (17, .iconst 1, 1), (18, .istore 4, 2), (20, .iload 4, 2), (22, .iload_n 2, 1), (23, .if_icmp .gt 41, 3), (26, .aload_n 0, 1), (27, .getfield 69, 3), (30, .invokevirtual 288, 3), (33, .aload_n 0, 1), (34, .getfield 69, 3), (37, .getfield 291, 3), (40, .aload_n 0, 1), (41, .getfield 20, 3), (44, .getfield 140, 3), (47, .invokevirtual 146, 3), (50, .iload_n 1, 1), (51, .iand, 1), (52, .ifCond .ne 6, 3), (55, .iinc 3 1, 3), (58, .iinc 4 1, 3), (61, .goto (-41), 3), (64, .iload_n 3, 1), (65, .ireturn, 1)]
theorem dtX11_daysWithNoneIn : tX11_daysWithNoneIn.all (fun q => decide (decode cX11_daysWithNoneIn q.1 = .ok (q.2.1, q.2.2))) = true := by decide +kernel
theorem npX11_daysWithNoneIn : (parseMethodDescriptor (mY mX11_daysWithNoneIn).desc).map (fun d => d.parameters.length) = some 2 := by decide +kernel
theorem vX11_daysWithNoneIn : mV mX11_daysWithNoneIn := ⟨wI_X11_daysWithNoneIn, wS_X11_daysWithNoneIn, wN_X11, wC_X11_daysWithNoneIn, by decide +kernel, by decide +kernel⟩
set_option maxHeartbeats 4000000 in
set_option maxRecDepth 100000 in
theorem lp_X11_daysWithNoneIn {Q : AO → HP → Prop} {h h1 : HP} {t : Nat} {S : HS} {B : Int} {f : Int → Int} {x : Int} {n : Nat} (c : CQ h t S B f) (F1 : FS h h1) (X : WX h1 84 t S) (hn : n ≤ 100) (hQ : ∀ h2, FS h h2 → Q (.inl (some (vi (cntN (fun k => decide (bAnd (bAnd (bXor (bitN (fun j => decide (((dysF S f (k + 1)) (1 + (j : Int))) ≠ 0)) (sNp S)) (-1)) (bShl 1 (sNp S : Int) - 1)) x = 0)) n)))) h2) : ∀ (d k : Nat) (hh : HP), k + d = n → PW h1 hh 84 t (dysF S f k) (trD S f (fun _ => 0) k) (emD S f 0 k) → K mX11_daysWithNoneIn GK (ZK Q 0 0) 0 0 20 [(4, vi ((k : Int) + 1)), (3, vi (cntN (fun k => decide (bAnd (bAnd (bXor (bitN (fun j => decide (((dysF S f (k + 1)) (1 + (j : Int))) ≠ 0)) (sNp S)) (-1)) (bShl 1 (sNp S : Int) - 1)) x = 0)) k)), (0, vr 30), (1, vi x), (2, vi (n : Int))] [] hh := by
  intro d
  induction d with
  | zero =>
    intro k hh hk Ph
    have ek : k = n := by omega
    subst ek
    have ht := c.1
    have hH := TTt ht
    have hB := c.2.2.2.1
    have hNt := hB.1
    have hNp := hB.2.1
    have hT := c.2.2.2.2.2.1
    have hC := c.2.2.2.2.2.2.1
    have h99 := c.2.2.2.2.2.2.2.1
    have G := c.2.2.2.2.2.2.2.2
    have hf0 := hT.2.2.2.1
    have ch := CQ_FS c (FS_tr F1 (WK_FS X Ph.1 F1.2.2.2))
    have hfh : hA hh 86 = dysF S f k := Ph.2.1
    refine K_iload (dt_at dtX11_daysWithNoneIn 11 rfl) rfl ?_
    refine K_iload_n (dt_at dtX11_daysWithNoneIn 12 rfl) rfl rfl ?_
    refine K_icmp_gt (tgt := 64) (dt_at dtX11_daysWithNoneIn 13 rfl) (by decide) (by first | assumption | exact ⟨by omega, by omega⟩) (by first | assumption | exact ⟨by omega, by omega⟩) (fun c1 => ?_) (fun c1 => absurd c1 (by omega))
    refine K_iload_n (dt_at dtX11_daysWithNoneIn 30 rfl) rfl rfl ?_
    exact K_iret (dt_at dtX11_daysWithNoneIn 31 rfl) rfl rfl (by decide) (by decide) (hQ _ (FS_tr F1 (WK_FS X Ph.1 F1.2.2.2)))
  | succ d ih =>
    intro k hh hk Ph
    have ht := c.1
    have hH := TTt ht
    have hB := c.2.2.2.1
    have hNt := hB.1
    have hNp := hB.2.1
    have hT := c.2.2.2.2.2.1
    have hC := c.2.2.2.2.2.2.1
    have h99 := c.2.2.2.2.2.2.2.1
    have G := c.2.2.2.2.2.2.2.2
    have hf0 := hT.2.2.2.1
    have ch := CQ_FS c (FS_tr F1 (WK_FS X Ph.1 F1.2.2.2))
    have hfh : hA hh 86 = dysF S f k := Ph.2.1
    obtain ⟨hTk, hCk, hk0⟩ := dysF_ok hB hT hC k (by omega)
    obtain ⟨hTn, hCn, hn0⟩ := dysF_ok hB hT hC (k + 1) (by omega)
    refine K_iload (dt_at dtX11_daysWithNoneIn 11 rfl) rfl ?_
    refine K_iload_n (dt_at dtX11_daysWithNoneIn 12 rfl) rfl rfl ?_
    refine K_icmp_gt (tgt := 64) (dt_at dtX11_daysWithNoneIn 13 rfl) (by decide) (by first | assumption | exact ⟨by omega, by omega⟩) (by first | assumption | exact ⟨by omega, by omega⟩) (fun c1 => absurd c1 (by omega)) (fun c1 => ?_)
    refine K_aload_n (dt_at dtX11_daysWithNoneIn 14 rfl) rfl rfl ?_
    refine K_get (a := 30) (ci := 11) (k := 11) (v := vr 84) (dt_at dtX11_daysWithNoneIn 15 rfl) (by decide) rfl (by decide) wF_X11_69 rfl ?_
    refine K_callV (M' := mX10_passDay) (a := 84) (ci := 10) (As := []) (st := []) (dt_at dtX11_daysWithNoneIn 16 rfl) (sX10_passDay X Ph hTk hCk) (by decide) rfl wL_X11_288 vX10_passDay rfl npX10_passDay (by decide) (by decide) (Nat.le_of_ble_eq_true rfl) (by decide) (by decide) GK_E (fun v9 hc1 hq => ?_) (fun E h9 hq => by cases hq.1)
    have hqq2 := hq
    obtain ⟨e9q2, Pzq2⟩ := hqq2
    have Pq2 : PW h1 hc1 84 t (dysF S f (k + 1)) (trD S f (fun _ => 0) (k + 1)) (emD S f 0 (k + 1)) := Pzq2
    have cq2 := CQ_FS c (FS_tr F1 (WK_FS X Pq2.1 F1.2.2.2))
    have hfq2 : hA hc1 86 = dysF S f (k + 1) := Pq2.2.1
    cases e9q2
    show K mX11_daysWithNoneIn _ _ 0 0 33 [(4, vi ((k : Int) + 1)), (3, vi (cntN (fun k => decide (bAnd (bAnd (bXor (bitN (fun j => decide (((dysF S f (k + 1)) (1 + (j : Int))) ≠ 0)) (sNp S)) (-1)) (bShl 1 (sNp S : Int) - 1)) x = 0)) k)), (0, vr 30), (1, vi x), (2, vi (n : Int))] [] hc1
    refine K_aload_n (dt_at dtX11_daysWithNoneIn 17 rfl) rfl rfl ?_
    refine K_get (a := 30) (ci := 11) (k := 11) (v := vr 84) (dt_at dtX11_daysWithNoneIn 18 rfl) (by decide) rfl (by decide) wF_X11_69 rfl ?_
    refine K_get (a := 84) (ci := 10) (k := 0) (v := vr 85) (dt_at dtX11_daysWithNoneIn 19 rfl) (by decide) rfl (by decide) wF_X11_291 rfl ?_
    refine K_aload_n (dt_at dtX11_daysWithNoneIn 20 rfl) rfl rfl ?_
    refine K_get (a := 30) (ci := 11) (k := 2) (v := vr t) (dt_at dtX11_daysWithNoneIn 21 rfl) (by decide) rfl (by decide) wF_X11_20 (by show vr (hR hc1 30 2) = vr t; rw [cq2.2.1]) ?_
    refine K_get (a := t) (ci := 3) (k := 11) (v := vi (sNp S : Int)) (dt_at dtX11_daysWithNoneIn 22 rfl) hH rfl (by decide) wF_X11_140 (by show vi (hI hc1 t 11) = vi (sNp S : Int); rw [cq2.2.2.1.2.1.2]) ?_
    refine K_callV (M' := mX8_whoIsIn) (a := 85) (ci := 8) (As := [vi (sNp S : Int)]) (st := []) (dt_at dtX11_daysWithNoneIn 23 rfl) (sX8_whoIsIn (n := sNp S) (a := 85) (by decide) (by rw [show hA hc1 (85 + 1) = (dysF S f (k + 1)) from hfq2]; exact hTn.1) hNp) (by decide) rfl wL_X11_146 vX8_whoIsIn rfl npX8_whoIsIn (by decide) (by decide) (Nat.le_of_ble_eq_true rfl) (by decide) (by decide) GK_E (fun v9 h9 hq => ?_) (fun E h9 hq => by cases hq.1)
    obtain ⟨e9, e8⟩ := hq
    cases e9
    rw [e8]
    show K mX11_daysWithNoneIn _ _ 0 0 50 [(4, vi ((k : Int) + 1)), (3, vi (cntN (fun k => decide (bAnd (bAnd (bXor (bitN (fun j => decide (((dysF S f (k + 1)) (1 + (j : Int))) ≠ 0)) (sNp S)) (-1)) (bShl 1 (sNp S : Int) - 1)) x = 0)) k)), (0, vr 30), (1, vi x), (2, vi (n : Int))] [vi (bAnd (bXor (bitN (fun j => decide ((hA hc1 (85 + 1) (1 + (j : Int))) ≠ 0)) (sNp S)) (-1)) (bShl 1 (sNp S : Int) - 1))] hc1
    rw [show hA hc1 (85 + 1) = (dysF S f (k + 1)) from hfq2]
    refine K_iload_n (dt_at dtX11_daysWithNoneIn 24 rfl) rfl rfl ?_
    refine K_iand (dt_at dtX11_daysWithNoneIn 25 rfl) ?_
    refine K_if_ne (tgt := 58) (dt_at dtX11_daysWithNoneIn 26 rfl) (by decide) (bAnd32 _ _) (fun c2 => ?_) (fun c2 => ?_)
    · refine K_iinc (ls' := [(4, vi (((k : Int) + 1) + 1)), (3, vi (cntN (fun k => decide (bAnd (bAnd (bXor (bitN (fun j => decide (((dysF S f (k + 1)) (1 + (j : Int))) ≠ 0)) (sNp S)) (-1)) (bShl 1 (sNp S : Int) - 1)) x = 0)) k)), (0, vr 30), (1, vi x), (2, vi (n : Int))]) (dt_at dtX11_daysWithNoneIn 28 rfl) rfl (by decide) rfl ?_
      refine K_goto (tgt := 20) (dt_at dtX11_daysWithNoneIn 29 rfl) (by decide) ?_
      refine K_pk [0, 1, 2, 3, 4] (ls' := [(4, vi (((k : Int) + 1) + 1)), (3, vi (cntN (fun k => decide (bAnd (bAnd (bXor (bitN (fun j => decide (((dysF S f (k + 1)) (1 + (j : Int))) ≠ 0)) (sNp S)) (-1)) (bShl 1 (sNp S : Int) - 1)) x = 0)) k)), (0, vr 30), (1, vi x), (2, vi (n : Int))]) rfl ?_
      exact K_cg (ls' := [(4, vi (((k + 1 : Nat) : Int) + 1)), (3, vi (cntN (fun k => decide (bAnd (bAnd (bXor (bitN (fun j => decide (((dysF S f (k + 1)) (1 + (j : Int))) ≠ 0)) (sNp S)) (-1)) (bShl 1 (sNp S : Int) - 1)) x = 0)) (k + 1))), (0, vr 30), (1, vi x), (2, vi (n : Int))]) (h' := hc1) (by rw [cntN_f (p := (fun k => decide (bAnd (bAnd (bXor (bitN (fun j => decide (((dysF S f (k + 1)) (1 + (j : Int))) ≠ 0)) (sNp S)) (-1)) (bShl 1 (sNp S : Int) - 1)) x = 0))) (decide_eq_false (by assumption))]; rfl) rfl (ih (k + 1) hc1 (by omega) Pq2)
    · refine K_iinc (ls' := [(3, vi ((cntN (fun k => decide (bAnd (bAnd (bXor (bitN (fun j => decide (((dysF S f (k + 1)) (1 + (j : Int))) ≠ 0)) (sNp S)) (-1)) (bShl 1 (sNp S : Int) - 1)) x = 0)) k) + 1)), (4, vi ((k : Int) + 1)), (0, vr 30), (1, vi x), (2, vi (n : Int))]) (dt_at dtX11_daysWithNoneIn 27 rfl) rfl (by decide) rfl ?_
      refine K_iinc (ls' := [(4, vi (((k : Int) + 1) + 1)), (3, vi ((cntN (fun k => decide (bAnd (bAnd (bXor (bitN (fun j => decide (((dysF S f (k + 1)) (1 + (j : Int))) ≠ 0)) (sNp S)) (-1)) (bShl 1 (sNp S : Int) - 1)) x = 0)) k) + 1)), (0, vr 30), (1, vi x), (2, vi (n : Int))]) (dt_at dtX11_daysWithNoneIn 28 rfl) rfl (by decide) rfl ?_
      refine K_goto (tgt := 20) (dt_at dtX11_daysWithNoneIn 29 rfl) (by decide) ?_
      refine K_pk [0, 1, 2, 3, 4] (ls' := [(4, vi (((k : Int) + 1) + 1)), (3, vi ((cntN (fun k => decide (bAnd (bAnd (bXor (bitN (fun j => decide (((dysF S f (k + 1)) (1 + (j : Int))) ≠ 0)) (sNp S)) (-1)) (bShl 1 (sNp S : Int) - 1)) x = 0)) k) + 1)), (0, vr 30), (1, vi x), (2, vi (n : Int))]) rfl ?_
      exact K_cg (ls' := [(4, vi (((k + 1 : Nat) : Int) + 1)), (3, vi (cntN (fun k => decide (bAnd (bAnd (bXor (bitN (fun j => decide (((dysF S f (k + 1)) (1 + (j : Int))) ≠ 0)) (sNp S)) (-1)) (bShl 1 (sNp S : Int) - 1)) x = 0)) (k + 1))), (0, vr 30), (1, vi x), (2, vi (n : Int))]) (h' := hc1) (by rw [cntN_t (p := (fun k => decide (bAnd (bAnd (bXor (bitN (fun j => decide (((dysF S f (k + 1)) (1 + (j : Int))) ≠ 0)) (sNp S)) (-1)) (bShl 1 (sNp S : Int) - 1)) x = 0))) (decide_eq_true (by assumption))]; rfl) rfl (ih (k + 1) hc1 (by omega) Pq2)
set_option maxHeartbeats 4000000 in
set_option maxRecDepth 100000 in
theorem sX11_daysWithNoneIn {h : HP} {t : Nat} {S : HS} {B : Int} {f : Int → Int} {x : Int} {n : Nat} (c : CQ h t S B f) (hn : n ≤ 100) : SpecK mX11_daysWithNoneIn [vr 30, vi x, vi (n : Int)] h (fun o h' => o = .inl (some (vi (cntN (fun k => decide (bAnd (bAnd (bXor (bitN (fun j => decide (((dysF S f (k + 1)) (1 + (j : Int))) ≠ 0)) (sNp S)) (-1)) (bShl 1 (sNp S : Int) - 1)) x = 0)) n))) ∧ FS h h') := by
  refine Spec_of (by decide +kernel) (Nat.le_of_ble_eq_true rfl) ?_
  have ht := c.1
  have hH := TTt ht
  have hB := c.2.2.2.1
  have hNt := hB.1
  have hNp := hB.2.1
  have hT := c.2.2.2.2.2.1
  have hC := c.2.2.2.2.2.2.1
  have h99 := c.2.2.2.2.2.2.2.1
  have G := c.2.2.2.2.2.2.2.2
  have hf0 := hT.2.2.2.1
  refine K_iconst (dt_at dtX11_daysWithNoneIn 0 rfl) ?_
  refine K_istore_n (ls' := [(3, vi 0), (0, vr 30), (1, vi x), (2, vi (n : Int))]) (dt_at dtX11_daysWithNoneIn 1 rfl) rfl (by decide) rfl ?_
  refine K_aload_n (dt_at dtX11_daysWithNoneIn 2 rfl) rfl rfl ?_
  refine K_get (a := 30) (ci := 11) (k := 11) (v := vr 84) (dt_at dtX11_daysWithNoneIn 3 rfl) (by decide) rfl (by decide) wF_X11_69 rfl ?_
  refine K_aload_n (dt_at dtX11_daysWithNoneIn 4 rfl) rfl rfl ?_
  refine K_get (a := 30) (ci := 11) (k := 2) (v := vr t) (dt_at dtX11_daysWithNoneIn 5 rfl) (by decide) rfl (by decide) wF_X11_20 (by show vr (hR h 30 2) = vr t; rw [c.2.1]) ?_
  refine K_aload_n (dt_at dtX11_daysWithNoneIn 6 rfl) rfl rfl ?_
  refine K_get (a := 30) (ci := 11) (k := 5) (v := vr 66) (dt_at dtX11_daysWithNoneIn 7 rfl) (by decide) rfl (by decide) wF_X11_39 rfl ?_
  refine K_callV (M' := mX10_begin) (a := 84) (ci := 10) (As := [vr t, vr 66]) (st := []) (dt_at dtX11_daysWithNoneIn 8 rfl) (sX10_begin (w := 84) (t := t) (a := 66) (Or.inl rfl) ht (by decide) (by decide)) (by decide) rfl wL_X11_286 vX10_begin rfl npX10_begin (by decide) (by decide) (Nat.le_of_ble_eq_true rfl) (by decide) (by decide) GK_E (fun v9 hc1 hq => ?_) (fun E h9 hq => by cases hq.1)
  have hqq2 := hq
  obtain ⟨e9q2, b1, b2, b3, b4, b5, b6, b7⟩ := hqq2
  obtain ⟨F1, X, P1⟩ := BG_ok (w := 84) (Or.inl rfl) ht c.2.2.1 hB c.2.2.2.2.2.2.2.2 b1 b2 b3 b4 b5 b6 b7
  rw [c.2.2.2.2.1] at P1
  cases e9q2
  show K mX11_daysWithNoneIn _ _ 0 0 17 [(3, vi 0), (0, vr 30), (1, vi x), (2, vi (n : Int))] [] hc1
  refine K_iconst (dt_at dtX11_daysWithNoneIn 9 rfl) ?_
  refine K_istore (ls' := [(4, vi 1), (3, vi 0), (0, vr 30), (1, vi x), (2, vi (n : Int))]) (dt_at dtX11_daysWithNoneIn 10 rfl) (by decide) rfl ?_
  exact K_pk [0, 1, 2, 3, 4] rfl (lp_X11_daysWithNoneIn c F1 X hn (fun h2 q_ => ⟨rfl, q_⟩) n 0 hc1 (by omega) P1)
