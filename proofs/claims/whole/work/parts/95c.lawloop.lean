set_option maxHeartbeats 4000000 in
set_option maxRecDepth 100000 in
theorem lw_c0 {h : HP} {A : AS} {i : Int} {nc ns L : Nat} {xs : Nat → Int32} (hL : L ≤ 3072) (h0 : 0 ≤ i) (h1 : i + 6 ≤ L) (hnc : nc + 8 ≤ 601024) (hns : ns + 48 ≤ 7293034) (I : CI h A) (V : MV h A) (kk : ∀ A' h', CI h' A' → MV h' A' → K mL_law (GL L xs) ZL (nc + 8) (ns + 48) 2595 (LwS i) [] h') : K mL_law (GL L xs) ZL nc ns 216 (LwS i) [] h := by
  obtain ⟨Q1, s1, q0⟩ := pair_feed I (xv_i xs (i + 1)) (xv_i xs (i + 2)) (xv_i xs (i + 3)) (xv_i xs (i + 4)) (xv_i xs (i + 5))
  have q : PQ mX12_feed [vi (xv xs (i + 1)), vi (xv xs (i + 2)), vi (xv xs (i + 3)), vi (xv xs (i + 4)), vi (xv xs (i + 5))] c00 h A Q1 := q0
  refine K_aload_n (a := 30) (dt_at dtL_law_c0 0 rfl) rfl rfl ?_
  refine K_aload_nS (a := 50) (dt_at dtL_law_c0 1 rfl) rfl rfl ?_
  refine K_iload (x := i) (dt_at dtL_law_c0 2 rfl) rfl ?_
  refine K_iconst (dt_at dtL_law_c0 3 rfl) ?_
  refine K_iadd (dt_at dtL_law_c0 4 rfl) ?_
  refine K_sld (dt_at dtL_law_c0 5 rfl) (by omega) (by omega) (by omega) ?_
  refine K_aload_nS (a := 50) (dt_at dtL_law_c0 6 rfl) rfl rfl ?_
  refine K_iload (x := i) (dt_at dtL_law_c0 7 rfl) rfl ?_
  refine K_iconst (dt_at dtL_law_c0 8 rfl) ?_
  refine K_iadd (dt_at dtL_law_c0 9 rfl) ?_
  refine K_sld (dt_at dtL_law_c0 10 rfl) (by omega) (by omega) (by omega) ?_
  refine K_aload_nS (a := 50) (dt_at dtL_law_c0 11 rfl) rfl rfl ?_
  refine K_iload (x := i) (dt_at dtL_law_c0 12 rfl) rfl ?_
  refine K_iconst (dt_at dtL_law_c0 13 rfl) ?_
  refine K_iadd (dt_at dtL_law_c0 14 rfl) ?_
  refine K_sld (dt_at dtL_law_c0 15 rfl) (by omega) (by omega) (by omega) ?_
  refine K_aload_nS (a := 50) (dt_at dtL_law_c0 16 rfl) rfl rfl ?_
  refine K_iload (x := i) (dt_at dtL_law_c0 17 rfl) rfl ?_
  refine K_iconst (dt_at dtL_law_c0 18 rfl) ?_
  refine K_iadd (dt_at dtL_law_c0 19 rfl) ?_
  refine K_sld (dt_at dtL_law_c0 20 rfl) (by omega) (by omega) (by omega) ?_
  refine K_aload_nS (a := 50) (dt_at dtL_law_c0 21 rfl) rfl rfl ?_
  refine K_iload (x := i) (dt_at dtL_law_c0 22 rfl) rfl ?_
  refine K_iconst (dt_at dtL_law_c0 23 rfl) ?_
  refine K_iadd (dt_at dtL_law_c0 24 rfl) ?_
  refine K_sld (dt_at dtL_law_c0 25 rfl) (by omega) (by omega) (by omega) ?_
  refine K_callV (M' := mX11_feed) (a := 30) (ci := 11) (As := [vi (xv xs (i + 1)), vi (xv xs (i + 2)), vi (xv xs (i + 3)), vi (xv xs (i + 4)), vi (xv xs (i + 5))]) (st := []) (dt_at dtL_law_c0 26 rfl) s1 (show TT 30 = (0, 11) from rfl) rfl wL_L_118 vX11_feed rfl npX11_feed (by decide) (by decide) (Nat.le_of_ble_eq_true rfl) (show nc + 0 ≤ 601024 by omega) (show ns + 0 ≤ 7293034 by omega) GL_E (fun v9 h9 hq => ?_) (fun E h9 hq => (lawDx q hq).elim)
  obtain ⟨A', y, rfl, I', s2⟩ := lawD V q hq
  refine K_aload_n (a := 0) (dt_at dtL_law_c0 27 rfl) rfl rfl ?_
  refine K_aload_nS (a := 50) (dt_at dtL_law_c0 28 rfl) rfl rfl ?_
  refine K_iload (x := i) (dt_at dtL_law_c0 29 rfl) rfl ?_
  refine K_iconst (dt_at dtL_law_c0 30 rfl) ?_
  refine K_iadd (dt_at dtL_law_c0 31 rfl) ?_
  refine K_sld (dt_at dtL_law_c0 32 rfl) (by omega) (by omega) (by omega) ?_
  refine K_aload_nS (a := 50) (dt_at dtL_law_c0 33 rfl) rfl rfl ?_
  refine K_iload (x := i) (dt_at dtL_law_c0 34 rfl) rfl ?_
  refine K_iconst (dt_at dtL_law_c0 35 rfl) ?_
  refine K_iadd (dt_at dtL_law_c0 36 rfl) ?_
  refine K_sld (dt_at dtL_law_c0 37 rfl) (by omega) (by omega) (by omega) ?_
  refine K_aload_nS (a := 50) (dt_at dtL_law_c0 38 rfl) rfl rfl ?_
  refine K_iload (x := i) (dt_at dtL_law_c0 39 rfl) rfl ?_
  refine K_iconst (dt_at dtL_law_c0 40 rfl) ?_
  refine K_iadd (dt_at dtL_law_c0 41 rfl) ?_
  refine K_sld (dt_at dtL_law_c0 42 rfl) (by omega) (by omega) (by omega) ?_
  refine K_aload_nS (a := 50) (dt_at dtL_law_c0 43 rfl) rfl rfl ?_
  refine K_iload (x := i) (dt_at dtL_law_c0 44 rfl) rfl ?_
  refine K_iconst (dt_at dtL_law_c0 45 rfl) ?_
  refine K_iadd (dt_at dtL_law_c0 46 rfl) ?_
  refine K_sld (dt_at dtL_law_c0 47 rfl) (by omega) (by omega) (by omega) ?_
  refine K_aload_nS (a := 50) (dt_at dtL_law_c0 48 rfl) rfl rfl ?_
  refine K_iload (x := i) (dt_at dtL_law_c0 49 rfl) rfl ?_
  refine K_iconst (dt_at dtL_law_c0 50 rfl) ?_
  refine K_iadd (dt_at dtL_law_c0 51 rfl) ?_
  refine K_sld (dt_at dtL_law_c0 52 rfl) (by omega) (by omega) (by omega) ?_
  refine K_callV (M' := mX12_feed) (a := 0) (ci := 12) (As := [vi (xv xs (i + 1)), vi (xv xs (i + 2)), vi (xv xs (i + 3)), vi (xv xs (i + 4)), vi (xv xs (i + 5))]) (st := [vi y]) (dt_at dtL_law_c0 53 rfl) s2 (show TT 0 = (0, 12) from rfl) rfl wL_L_122 vX12_feed rfl npX12_feed (by decide) (by decide) (Nat.le_of_ble_eq_true rfl) (show nc + 0 + 0 ≤ 601024 by omega) (show ns + 0 + 0 ≤ 7293034 by omega) GL_E (fun v9 h10 hq => ?_) (fun E h9 hq => by cases hq.1)
  obtain ⟨e1, V', F, ht⟩ := hq
  cases e1
  refine K_icmp_same (tgt := 2595) (dt_at dtL_law_c0 54 rfl) (by decide) ?_
  refine K_widen (nc2 := nc + 8) (ns2 := ns + 48) (show nc + 0 + 0 ≤ nc + 8 by omega) (show ns + 0 + 0 ≤ ns + 48 by omega) ?_
  exact K_pk [0, 1, 2, 3, 4] (ls' := LwS i) rfl (kk A' h10 (CI_FC I' F) V')
set_option maxHeartbeats 4000000 in
set_option maxRecDepth 100000 in
theorem lw_c1 {h : HP} {A : AS} {i : Int} {nc ns L : Nat} {xs : Nat → Int32} (hL : L ≤ 3072) (h0 : 0 ≤ i) (h1 : i + 6 ≤ L) (hnc : nc + 8 ≤ 601024) (hns : ns + 48 ≤ 7293034) (I : CI h A) (V : MV h A) (kk : ∀ A' h', CI h' A' → MV h' A' → K mL_law (GL L xs) ZL (nc + 8) (ns + 48) 2595 (LwS i) [] h') : K mL_law (GL L xs) ZL nc ns 289 (LwS i) [] h := by
  obtain ⟨Q1, s1, q0⟩ := pair_house I (xv_i xs (i + 1))
  have q : PQ mX12_house [vi (xv xs (i + 1))] cIA h A Q1 := q0
  refine K_aload_n (a := 30) (dt_at dtL_law_c1 0 rfl) rfl rfl ?_
  refine K_aload_nS (a := 50) (dt_at dtL_law_c1 1 rfl) rfl rfl ?_
  refine K_iload (x := i) (dt_at dtL_law_c1 2 rfl) rfl ?_
  refine K_iconst (dt_at dtL_law_c1 3 rfl) ?_
  refine K_iadd (dt_at dtL_law_c1 4 rfl) ?_
  refine K_sld (dt_at dtL_law_c1 5 rfl) (by omega) (by omega) (by omega) ?_
  refine K_aload_n (a := 29) (dt_at dtL_law_c1 6 rfl) rfl rfl ?_
  refine K_callH (M' := mL_house) (hh := hL_house) (As := [vr 30, vi (xv xs (i + 1)), vr 29]) (st := []) (dt_at dtL_law_c1 7 rfl) (sL_house s1 (PQ_ok q)) wL_L_123 vL_house rfl npL_house (by decide) (by decide) (Nat.le_of_ble_eq_true rfl) (show nc + 1 ≤ 601024 by omega) (show ns + 6 ≤ 7293034 by omega) GL_E (fun v9 h9 hq => ?_) (fun E h9 hq => (lawPx hq).elim)
  obtain ⟨A', kq, y, rfl, hk2, I', s2, ho⟩ := lawP cIA_b V q hq
  refine K_istore (ls' := [(5, vi kq), (0, vs 51), (1, vr 30), (2, vr 0), (3, vr 29), (4, vi i)]) (dt_at dtL_law_c1 8 rfl) (by decide) rfl ?_
  refine K_aload_n (a := 0) (dt_at dtL_law_c1 9 rfl) rfl rfl ?_
  refine K_aload_nS (a := 50) (dt_at dtL_law_c1 10 rfl) rfl rfl ?_
  refine K_iload (x := i) (dt_at dtL_law_c1 11 rfl) rfl ?_
  refine K_iconst (dt_at dtL_law_c1 12 rfl) ?_
  refine K_iadd (dt_at dtL_law_c1 13 rfl) ?_
  refine K_sld (dt_at dtL_law_c1 14 rfl) (by omega) (by omega) (by omega) ?_
  refine K_callV (M' := mX12_house) (a := 0) (ci := 12) (As := [vi (xv xs (i + 1))]) (st := []) (dt_at dtL_law_c1 15 rfl) s2 (show TT 0 = (0, 12) from rfl) rfl wL_L_128 vX12_house rfl npX12_house (by decide) (by decide) (Nat.le_of_ble_eq_true rfl) (show nc + 1 + 0 ≤ 601024 by omega) (show ns + 6 + 0 ≤ 7293034 by omega) GL_E (fun v9 h10 hq => ?_) (fun E h9 hq => by cases hq.1)
  obtain ⟨e1, V', F, ht⟩ := hq
  cases e1
  refine K_istore (ls' := [(6, vi y), (5, vi kq), (0, vs 51), (1, vr 30), (2, vr 0), (3, vr 29), (4, vi i)]) (dt_at dtL_law_c1 16 rfl) (by decide) rfl ?_
  refine K_aload_n (a := 0) (dt_at dtL_law_c1 17 rfl) rfl rfl ?_
  refine K_callV (M' := mX12_thrown) (a := 0) (ci := 12) (As := []) (st := []) (dt_at dtL_law_c1 18 rfl) sX12_thrown (show TT 0 = (0, 12) from rfl) rfl wL_L_129 vX12_thrown rfl npX12_thrown (by decide) (by decide) (Nat.le_of_ble_eq_true rfl) (show nc + 1 + 0 + 0 ≤ 601024 by omega) (show ns + 6 + 0 + 0 ≤ 7293034 by omega) GL_E (fun v9 h11 hq => ?_) (fun E h9 hq => by cases hq.1)
  obtain ⟨e1, e2⟩ := hq
  cases e1
  rw [e2, ht]
  refine K_iload (x := kq) (dt_at dtL_law_c1 19 rfl) rfl ?_
  refine K_icmp_same (tgt := 325) (dt_at dtL_law_c1 20 rfl) (by decide) ?_
  refine K_iload (x := kq) (dt_at dtL_law_c1 23 rfl) rfl ?_
  refine K_if_ne (tgt := 342) (dt_at dtL_law_c1 24 rfl) (by decide) hk2 (fun z9 => ?_) (fun z9 => ?_)
  · skip
    refine K_goto (tgt := 2595) (dt_at dtL_law_c1 34 rfl) (by decide) ?_
    refine K_widen (nc2 := nc + 8) (ns2 := ns + 48) (show nc + 1 + 0 + 0 ≤ nc + 8 by omega) (show ns + 6 + 0 + 0 ≤ ns + 48 by omega) ?_
    exact K_pk [2, 3, 4, 5, 6] (ls' := LwS i) rfl (kk A' h10 (CI_FC I' F) V')
  · have z8 : kq = 0 := z9
    have hz : hA h10 29 0 = wr y := by rw [F.1 29 (by omega)]; exact ho z8
    refine K_aload_n (a := 29) (dt_at dtL_law_c1 25 rfl) rfl rfl ?_
    refine K_iconst (dt_at dtL_law_c1 26 rfl) ?_
    refine K_lald (a := 29) (n := 1) (dt_at dtL_law_c1 27 rfl) rfl (by decide) (by decide) ?_
    rw [hz]
    refine K_iload (x := y) (dt_at dtL_law_c1 28 rfl) rfl ?_
    refine K_i2lw (dt_at dtL_law_c1 29 rfl) ?_
    refine K_lcmpS (dt_at dtL_law_c1 30 rfl) (wr_64 y) ?_
    refine K_if_eq (tgt := 342) (dt_at dtL_law_c1 31 rfl) (by decide) ⟨by decide, by decide⟩ (fun _ => ?_) (fun z7 => (z7 rfl).elim)
    refine K_goto (tgt := 2595) (dt_at dtL_law_c1 34 rfl) (by decide) ?_
    refine K_widen (nc2 := nc + 8) (ns2 := ns + 48) (show nc + 1 + 0 + 0 ≤ nc + 8 by omega) (show ns + 6 + 0 + 0 ≤ ns + 48 by omega) ?_
    exact K_pk [2, 3, 4, 5, 6] (ls' := LwS i) rfl (kk A' h10 (CI_FC I' F) V')
set_option maxHeartbeats 4000000 in
set_option maxRecDepth 100000 in
theorem lw_c2 {h : HP} {A : AS} {i : Int} {nc ns L : Nat} {xs : Nat → Int32} (hL : L ≤ 3072) (h0 : 0 ≤ i) (h1 : i + 6 ≤ L) (hnc : nc + 8 ≤ 601024) (hns : ns + 48 ≤ 7293034) (I : CI h A) (V : MV h A) (kk : ∀ A' h', CI h' A' → MV h' A' → K mL_law (GL L xs) ZL (nc + 8) (ns + 48) 2595 (LwS i) [] h') : K mL_law (GL L xs) ZL nc ns 345 (LwS i) [] h := by
  obtain ⟨Q1, s1, q0⟩ := pair_fault I 
  have q : PQ mX12_fault [] c00 h A Q1 := q0
  refine K_aload_n (a := 30) (dt_at dtL_law_c2 0 rfl) rfl rfl ?_
  refine K_callV (M' := mX11_fault) (a := 30) (ci := 11) (As := []) (st := []) (dt_at dtL_law_c2 1 rfl) s1 (show TT 30 = (0, 11) from rfl) rfl wL_L_133 vX11_fault rfl npX11_fault (by decide) (by decide) (Nat.le_of_ble_eq_true rfl) (show nc + 0 ≤ 601024 by omega) (show ns + 0 ≤ 7293034 by omega) GL_E (fun v9 h9 hq => ?_) (fun E h9 hq => (lawDx q hq).elim)
  obtain ⟨A', y, rfl, I', s2⟩ := lawD V q hq
  refine K_aload_n (a := 0) (dt_at dtL_law_c2 2 rfl) rfl rfl ?_
  refine K_callV (M' := mX12_fault) (a := 0) (ci := 12) (As := []) (st := [vi y]) (dt_at dtL_law_c2 3 rfl) s2 (show TT 0 = (0, 12) from rfl) rfl wL_L_136 vX12_fault rfl npX12_fault (by decide) (by decide) (Nat.le_of_ble_eq_true rfl) (show nc + 0 + 0 ≤ 601024 by omega) (show ns + 0 + 0 ≤ 7293034 by omega) GL_E (fun v9 h10 hq => ?_) (fun E h9 hq => by cases hq.1)
  obtain ⟨e1, V', F, ht⟩ := hq
  cases e1
  refine K_icmp_same (tgt := 2595) (dt_at dtL_law_c2 4 rfl) (by decide) ?_
  refine K_widen (nc2 := nc + 8) (ns2 := ns + 48) (show nc + 0 + 0 ≤ nc + 8 by omega) (show ns + 0 + 0 ≤ ns + 48 by omega) ?_
  exact K_pk [0, 1, 2, 3, 4] (ls' := LwS i) rfl (kk A' h10 (CI_FC I' F) V')
set_option maxHeartbeats 4000000 in
set_option maxRecDepth 100000 in
theorem lw_c3 {h : HP} {A : AS} {i : Int} {nc ns L : Nat} {xs : Nat → Int32} (hL : L ≤ 3072) (h0 : 0 ≤ i) (h1 : i + 6 ≤ L) (hnc : nc + 8 ≤ 601024) (hns : ns + 48 ≤ 7293034) (I : CI h A) (V : MV h A) (kk : ∀ A' h', CI h' A' → MV h' A' → K mL_law (GL L xs) ZL (nc + 8) (ns + 48) 2595 (LwS i) [] h') : K mL_law (GL L xs) ZL nc ns 358 (LwS i) [] h := by
  obtain ⟨Q1, s1, q0⟩ := pair_count I (xv_i xs (i + 1))
  have q : PQ mX12_count [vi (xv xs (i + 1))] cN1 h A Q1 := q0
  refine K_aload_n (a := 30) (dt_at dtL_law_c3 0 rfl) rfl rfl ?_
  refine K_aload_nS (a := 50) (dt_at dtL_law_c3 1 rfl) rfl rfl ?_
  refine K_iload (x := i) (dt_at dtL_law_c3 2 rfl) rfl ?_
  refine K_iconst (dt_at dtL_law_c3 3 rfl) ?_
  refine K_iadd (dt_at dtL_law_c3 4 rfl) ?_
  refine K_sld (dt_at dtL_law_c3 5 rfl) (by omega) (by omega) (by omega) ?_
  refine K_aload_n (a := 29) (dt_at dtL_law_c3 6 rfl) rfl rfl ?_
  refine K_callH (M' := mL_count) (hh := hL_count) (As := [vr 30, vi (xv xs (i + 1)), vr 29]) (st := []) (dt_at dtL_law_c3 7 rfl) (sL_count s1 (PQ_ok q)) wL_L_137 vL_count rfl npL_count (by decide) (by decide) (Nat.le_of_ble_eq_true rfl) (show nc + 1 ≤ 601024 by omega) (show ns + 6 ≤ 7293034 by omega) GL_E (fun v9 h9 hq => ?_) (fun E h9 hq => (lawPx hq).elim)
  obtain ⟨A', kq, y, rfl, hk2, I', s2, ho⟩ := lawP cN1_b V q hq
  refine K_istore (ls' := [(5, vi kq), (0, vs 51), (1, vr 30), (2, vr 0), (3, vr 29), (4, vi i)]) (dt_at dtL_law_c3 8 rfl) (by decide) rfl ?_
  refine K_aload_n (a := 0) (dt_at dtL_law_c3 9 rfl) rfl rfl ?_
  refine K_aload_nS (a := 50) (dt_at dtL_law_c3 10 rfl) rfl rfl ?_
  refine K_iload (x := i) (dt_at dtL_law_c3 11 rfl) rfl ?_
  refine K_iconst (dt_at dtL_law_c3 12 rfl) ?_
  refine K_iadd (dt_at dtL_law_c3 13 rfl) ?_
  refine K_sld (dt_at dtL_law_c3 14 rfl) (by omega) (by omega) (by omega) ?_
  refine K_callV (M' := mX12_count) (a := 0) (ci := 12) (As := [vi (xv xs (i + 1))]) (st := []) (dt_at dtL_law_c3 15 rfl) s2 (show TT 0 = (0, 12) from rfl) rfl wL_L_139 vX12_count rfl npX12_count (by decide) (by decide) (Nat.le_of_ble_eq_true rfl) (show nc + 1 + 0 ≤ 601024 by omega) (show ns + 6 + 0 ≤ 7293034 by omega) GL_E (fun v9 h10 hq => ?_) (fun E h9 hq => by cases hq.1)
  obtain ⟨e1, V', F, ht⟩ := hq
  cases e1
  refine K_istore (ls' := [(6, vi y), (5, vi kq), (0, vs 51), (1, vr 30), (2, vr 0), (3, vr 29), (4, vi i)]) (dt_at dtL_law_c3 16 rfl) (by decide) rfl ?_
  refine K_aload_n (a := 0) (dt_at dtL_law_c3 17 rfl) rfl rfl ?_
  refine K_callV (M' := mX12_thrown) (a := 0) (ci := 12) (As := []) (st := []) (dt_at dtL_law_c3 18 rfl) sX12_thrown (show TT 0 = (0, 12) from rfl) rfl wL_L_129 vX12_thrown rfl npX12_thrown (by decide) (by decide) (Nat.le_of_ble_eq_true rfl) (show nc + 1 + 0 + 0 ≤ 601024 by omega) (show ns + 6 + 0 + 0 ≤ 7293034 by omega) GL_E (fun v9 h11 hq => ?_) (fun E h9 hq => by cases hq.1)
  obtain ⟨e1, e2⟩ := hq
  cases e1
  rw [e2, ht]
  refine K_iload (x := kq) (dt_at dtL_law_c3 19 rfl) rfl ?_
  refine K_icmp_same (tgt := 394) (dt_at dtL_law_c3 20 rfl) (by decide) ?_
  refine K_iload (x := kq) (dt_at dtL_law_c3 23 rfl) rfl ?_
  refine K_if_ne (tgt := 411) (dt_at dtL_law_c3 24 rfl) (by decide) hk2 (fun z9 => ?_) (fun z9 => ?_)
  · skip
    refine K_goto (tgt := 2595) (dt_at dtL_law_c3 34 rfl) (by decide) ?_
    refine K_widen (nc2 := nc + 8) (ns2 := ns + 48) (show nc + 1 + 0 + 0 ≤ nc + 8 by omega) (show ns + 6 + 0 + 0 ≤ ns + 48 by omega) ?_
    exact K_pk [2, 3, 4, 5, 6] (ls' := LwS i) rfl (kk A' h10 (CI_FC I' F) V')
  · have z8 : kq = 0 := z9
    have hz : hA h10 29 0 = wr y := by rw [F.1 29 (by omega)]; exact ho z8
    refine K_aload_n (a := 29) (dt_at dtL_law_c3 25 rfl) rfl rfl ?_
    refine K_iconst (dt_at dtL_law_c3 26 rfl) ?_
    refine K_lald (a := 29) (n := 1) (dt_at dtL_law_c3 27 rfl) rfl (by decide) (by decide) ?_
    rw [hz]
    refine K_iload (x := y) (dt_at dtL_law_c3 28 rfl) rfl ?_
    refine K_i2lw (dt_at dtL_law_c3 29 rfl) ?_
    refine K_lcmpS (dt_at dtL_law_c3 30 rfl) (wr_64 y) ?_
    refine K_if_eq (tgt := 411) (dt_at dtL_law_c3 31 rfl) (by decide) ⟨by decide, by decide⟩ (fun _ => ?_) (fun z7 => (z7 rfl).elim)
    refine K_goto (tgt := 2595) (dt_at dtL_law_c3 34 rfl) (by decide) ?_
    refine K_widen (nc2 := nc + 8) (ns2 := ns + 48) (show nc + 1 + 0 + 0 ≤ nc + 8 by omega) (show ns + 6 + 0 + 0 ≤ ns + 48 by omega) ?_
    exact K_pk [2, 3, 4, 5, 6] (ls' := LwS i) rfl (kk A' h10 (CI_FC I' F) V')
set_option maxHeartbeats 4000000 in
set_option maxRecDepth 100000 in
theorem lw_c4 {h : HP} {A : AS} {i : Int} {nc ns L : Nat} {xs : Nat → Int32} (hL : L ≤ 3072) (h0 : 0 ≤ i) (h1 : i + 6 ≤ L) (hnc : nc + 8 ≤ 601024) (hns : ns + 48 ≤ 7293034) (I : CI h A) (V : MV h A) (kk : ∀ A' h', CI h' A' → MV h' A' → K mL_law (GL L xs) ZL (nc + 8) (ns + 48) 2595 (LwS i) [] h') : K mL_law (GL L xs) ZL nc ns 414 (LwS i) [] h := by
  obtain ⟨Q1, s1, q0⟩ := pair_thing I (xv_i xs (i + 1)) (xv_i xs (i + 2))
  have q : PQ mX12_thing [vi (xv xs (i + 1)), vi (xv xs (i + 2))] cN1 h A Q1 := q0
  refine K_aload_n (a := 30) (dt_at dtL_law_c4 0 rfl) rfl rfl ?_
  refine K_aload_nS (a := 50) (dt_at dtL_law_c4 1 rfl) rfl rfl ?_
  refine K_iload (x := i) (dt_at dtL_law_c4 2 rfl) rfl ?_
  refine K_iconst (dt_at dtL_law_c4 3 rfl) ?_
  refine K_iadd (dt_at dtL_law_c4 4 rfl) ?_
  refine K_sld (dt_at dtL_law_c4 5 rfl) (by omega) (by omega) (by omega) ?_
  refine K_aload_nS (a := 50) (dt_at dtL_law_c4 6 rfl) rfl rfl ?_
  refine K_iload (x := i) (dt_at dtL_law_c4 7 rfl) rfl ?_
  refine K_iconst (dt_at dtL_law_c4 8 rfl) ?_
  refine K_iadd (dt_at dtL_law_c4 9 rfl) ?_
  refine K_sld (dt_at dtL_law_c4 10 rfl) (by omega) (by omega) (by omega) ?_
  refine K_aload_n (a := 29) (dt_at dtL_law_c4 11 rfl) rfl rfl ?_
  refine K_callH (M' := mL_thing) (hh := hL_thing) (As := [vr 30, vi (xv xs (i + 1)), vi (xv xs (i + 2)), vr 29]) (st := []) (dt_at dtL_law_c4 12 rfl) (sL_thing s1 (PQ_ok q)) wL_L_140 vL_thing rfl npL_thing (by decide) (by decide) (Nat.le_of_ble_eq_true rfl) (show nc + 2 ≤ 601024 by omega) (show ns + 12 ≤ 7293034 by omega) GL_E (fun v9 h9 hq => ?_) (fun E h9 hq => (lawPx hq).elim)
  obtain ⟨A', kq, y, rfl, hk2, I', s2, ho⟩ := lawP cN1_b V q hq
  refine K_istore (ls' := [(5, vi kq), (0, vs 51), (1, vr 30), (2, vr 0), (3, vr 29), (4, vi i)]) (dt_at dtL_law_c4 13 rfl) (by decide) rfl ?_
  refine K_aload_n (a := 0) (dt_at dtL_law_c4 14 rfl) rfl rfl ?_
  refine K_aload_nS (a := 50) (dt_at dtL_law_c4 15 rfl) rfl rfl ?_
  refine K_iload (x := i) (dt_at dtL_law_c4 16 rfl) rfl ?_
  refine K_iconst (dt_at dtL_law_c4 17 rfl) ?_
  refine K_iadd (dt_at dtL_law_c4 18 rfl) ?_
  refine K_sld (dt_at dtL_law_c4 19 rfl) (by omega) (by omega) (by omega) ?_
  refine K_aload_nS (a := 50) (dt_at dtL_law_c4 20 rfl) rfl rfl ?_
  refine K_iload (x := i) (dt_at dtL_law_c4 21 rfl) rfl ?_
  refine K_iconst (dt_at dtL_law_c4 22 rfl) ?_
  refine K_iadd (dt_at dtL_law_c4 23 rfl) ?_
  refine K_sld (dt_at dtL_law_c4 24 rfl) (by omega) (by omega) (by omega) ?_
  refine K_callV (M' := mX12_thing) (a := 0) (ci := 12) (As := [vi (xv xs (i + 1)), vi (xv xs (i + 2))]) (st := []) (dt_at dtL_law_c4 25 rfl) s2 (show TT 0 = (0, 12) from rfl) rfl wL_L_143 vX12_thing rfl npX12_thing (by decide) (by decide) (Nat.le_of_ble_eq_true rfl) (show nc + 2 + 0 ≤ 601024 by omega) (show ns + 12 + 0 ≤ 7293034 by omega) GL_E (fun v9 h10 hq => ?_) (fun E h9 hq => by cases hq.1)
  obtain ⟨e1, V', F, ht⟩ := hq
  cases e1
  refine K_istore (ls' := [(6, vi y), (5, vi kq), (0, vs 51), (1, vr 30), (2, vr 0), (3, vr 29), (4, vi i)]) (dt_at dtL_law_c4 26 rfl) (by decide) rfl ?_
  refine K_aload_n (a := 0) (dt_at dtL_law_c4 27 rfl) rfl rfl ?_
  refine K_callV (M' := mX12_thrown) (a := 0) (ci := 12) (As := []) (st := []) (dt_at dtL_law_c4 28 rfl) sX12_thrown (show TT 0 = (0, 12) from rfl) rfl wL_L_129 vX12_thrown rfl npX12_thrown (by decide) (by decide) (Nat.le_of_ble_eq_true rfl) (show nc + 2 + 0 + 0 ≤ 601024 by omega) (show ns + 12 + 0 + 0 ≤ 7293034 by omega) GL_E (fun v9 h11 hq => ?_) (fun E h9 hq => by cases hq.1)
  obtain ⟨e1, e2⟩ := hq
  cases e1
  rw [e2, ht]
  refine K_iload (x := kq) (dt_at dtL_law_c4 29 rfl) rfl ?_
  refine K_icmp_same (tgt := 462) (dt_at dtL_law_c4 30 rfl) (by decide) ?_
  refine K_iload (x := kq) (dt_at dtL_law_c4 33 rfl) rfl ?_
  refine K_if_ne (tgt := 479) (dt_at dtL_law_c4 34 rfl) (by decide) hk2 (fun z9 => ?_) (fun z9 => ?_)
  · skip
    refine K_goto (tgt := 2595) (dt_at dtL_law_c4 44 rfl) (by decide) ?_
    refine K_widen (nc2 := nc + 8) (ns2 := ns + 48) (show nc + 2 + 0 + 0 ≤ nc + 8 by omega) (show ns + 12 + 0 + 0 ≤ ns + 48 by omega) ?_
    exact K_pk [2, 3, 4, 5, 6] (ls' := LwS i) rfl (kk A' h10 (CI_FC I' F) V')
  · have z8 : kq = 0 := z9
    have hz : hA h10 29 0 = wr y := by rw [F.1 29 (by omega)]; exact ho z8
    refine K_aload_n (a := 29) (dt_at dtL_law_c4 35 rfl) rfl rfl ?_
    refine K_iconst (dt_at dtL_law_c4 36 rfl) ?_
    refine K_lald (a := 29) (n := 1) (dt_at dtL_law_c4 37 rfl) rfl (by decide) (by decide) ?_
    rw [hz]
    refine K_iload (x := y) (dt_at dtL_law_c4 38 rfl) rfl ?_
    refine K_i2lw (dt_at dtL_law_c4 39 rfl) ?_
    refine K_lcmpS (dt_at dtL_law_c4 40 rfl) (wr_64 y) ?_
    refine K_if_eq (tgt := 479) (dt_at dtL_law_c4 41 rfl) (by decide) ⟨by decide, by decide⟩ (fun _ => ?_) (fun z7 => (z7 rfl).elim)
    refine K_goto (tgt := 2595) (dt_at dtL_law_c4 44 rfl) (by decide) ?_
    refine K_widen (nc2 := nc + 8) (ns2 := ns + 48) (show nc + 2 + 0 + 0 ≤ nc + 8 by omega) (show ns + 12 + 0 + 0 ≤ ns + 48 by omega) ?_
    exact K_pk [2, 3, 4, 5, 6] (ls' := LwS i) rfl (kk A' h10 (CI_FC I' F) V')
set_option maxHeartbeats 4000000 in
set_option maxRecDepth 100000 in
theorem lw_c5 {h : HP} {A : AS} {i : Int} {nc ns L : Nat} {xs : Nat → Int32} (hL : L ≤ 3072) (h0 : 0 ≤ i) (h1 : i + 6 ≤ L) (hnc : nc + 8 ≤ 601024) (hns : ns + 48 ≤ 7293034) (I : CI h A) (V : MV h A) (kk : ∀ A' h', CI h' A' → MV h' A' → K mL_law (GL L xs) ZL (nc + 8) (ns + 48) 2595 (LwS i) [] h') : K mL_law (GL L xs) ZL nc ns 482 (LwS i) [] h := by
  obtain ⟨Q1, s1, q0⟩ := pair_person I (xv_i xs (i + 1)) (xv_i xs (i + 2))
  have q : PQ mX12_person [vi (xv xs (i + 1)), vi (xv xs (i + 2))] cN1 h A Q1 := q0
  refine K_aload_n (a := 30) (dt_at dtL_law_c5 0 rfl) rfl rfl ?_
  refine K_aload_nS (a := 50) (dt_at dtL_law_c5 1 rfl) rfl rfl ?_
  refine K_iload (x := i) (dt_at dtL_law_c5 2 rfl) rfl ?_
  refine K_iconst (dt_at dtL_law_c5 3 rfl) ?_
  refine K_iadd (dt_at dtL_law_c5 4 rfl) ?_
  refine K_sld (dt_at dtL_law_c5 5 rfl) (by omega) (by omega) (by omega) ?_
  refine K_aload_nS (a := 50) (dt_at dtL_law_c5 6 rfl) rfl rfl ?_
  refine K_iload (x := i) (dt_at dtL_law_c5 7 rfl) rfl ?_
  refine K_iconst (dt_at dtL_law_c5 8 rfl) ?_
  refine K_iadd (dt_at dtL_law_c5 9 rfl) ?_
  refine K_sld (dt_at dtL_law_c5 10 rfl) (by omega) (by omega) (by omega) ?_
  refine K_aload_n (a := 29) (dt_at dtL_law_c5 11 rfl) rfl rfl ?_
  refine K_callH (M' := mL_person) (hh := hL_person) (As := [vr 30, vi (xv xs (i + 1)), vi (xv xs (i + 2)), vr 29]) (st := []) (dt_at dtL_law_c5 12 rfl) (sL_person s1 (PQ_ok q)) wL_L_144 vL_person rfl npL_person (by decide) (by decide) (Nat.le_of_ble_eq_true rfl) (show nc + 2 ≤ 601024 by omega) (show ns + 12 ≤ 7293034 by omega) GL_E (fun v9 h9 hq => ?_) (fun E h9 hq => (lawPx hq).elim)
  obtain ⟨A', kq, y, rfl, hk2, I', s2, ho⟩ := lawP cN1_b V q hq
  refine K_istore (ls' := [(5, vi kq), (0, vs 51), (1, vr 30), (2, vr 0), (3, vr 29), (4, vi i)]) (dt_at dtL_law_c5 13 rfl) (by decide) rfl ?_
  refine K_aload_n (a := 0) (dt_at dtL_law_c5 14 rfl) rfl rfl ?_
  refine K_aload_nS (a := 50) (dt_at dtL_law_c5 15 rfl) rfl rfl ?_
  refine K_iload (x := i) (dt_at dtL_law_c5 16 rfl) rfl ?_
  refine K_iconst (dt_at dtL_law_c5 17 rfl) ?_
  refine K_iadd (dt_at dtL_law_c5 18 rfl) ?_
  refine K_sld (dt_at dtL_law_c5 19 rfl) (by omega) (by omega) (by omega) ?_
  refine K_aload_nS (a := 50) (dt_at dtL_law_c5 20 rfl) rfl rfl ?_
  refine K_iload (x := i) (dt_at dtL_law_c5 21 rfl) rfl ?_
  refine K_iconst (dt_at dtL_law_c5 22 rfl) ?_
  refine K_iadd (dt_at dtL_law_c5 23 rfl) ?_
  refine K_sld (dt_at dtL_law_c5 24 rfl) (by omega) (by omega) (by omega) ?_
  refine K_callV (M' := mX12_person) (a := 0) (ci := 12) (As := [vi (xv xs (i + 1)), vi (xv xs (i + 2))]) (st := []) (dt_at dtL_law_c5 25 rfl) s2 (show TT 0 = (0, 12) from rfl) rfl wL_L_146 vX12_person rfl npX12_person (by decide) (by decide) (Nat.le_of_ble_eq_true rfl) (show nc + 2 + 0 ≤ 601024 by omega) (show ns + 12 + 0 ≤ 7293034 by omega) GL_E (fun v9 h10 hq => ?_) (fun E h9 hq => by cases hq.1)
  obtain ⟨e1, V', F, ht⟩ := hq
  cases e1
  refine K_istore (ls' := [(6, vi y), (5, vi kq), (0, vs 51), (1, vr 30), (2, vr 0), (3, vr 29), (4, vi i)]) (dt_at dtL_law_c5 26 rfl) (by decide) rfl ?_
  refine K_aload_n (a := 0) (dt_at dtL_law_c5 27 rfl) rfl rfl ?_
  refine K_callV (M' := mX12_thrown) (a := 0) (ci := 12) (As := []) (st := []) (dt_at dtL_law_c5 28 rfl) sX12_thrown (show TT 0 = (0, 12) from rfl) rfl wL_L_129 vX12_thrown rfl npX12_thrown (by decide) (by decide) (Nat.le_of_ble_eq_true rfl) (show nc + 2 + 0 + 0 ≤ 601024 by omega) (show ns + 12 + 0 + 0 ≤ 7293034 by omega) GL_E (fun v9 h11 hq => ?_) (fun E h9 hq => by cases hq.1)
  obtain ⟨e1, e2⟩ := hq
  cases e1
  rw [e2, ht]
  refine K_iload (x := kq) (dt_at dtL_law_c5 29 rfl) rfl ?_
  refine K_icmp_same (tgt := 530) (dt_at dtL_law_c5 30 rfl) (by decide) ?_
  refine K_iload (x := kq) (dt_at dtL_law_c5 33 rfl) rfl ?_
  refine K_if_ne (tgt := 547) (dt_at dtL_law_c5 34 rfl) (by decide) hk2 (fun z9 => ?_) (fun z9 => ?_)
  · skip
    refine K_goto (tgt := 2595) (dt_at dtL_law_c5 44 rfl) (by decide) ?_
    refine K_widen (nc2 := nc + 8) (ns2 := ns + 48) (show nc + 2 + 0 + 0 ≤ nc + 8 by omega) (show ns + 12 + 0 + 0 ≤ ns + 48 by omega) ?_
    exact K_pk [2, 3, 4, 5, 6] (ls' := LwS i) rfl (kk A' h10 (CI_FC I' F) V')
  · have z8 : kq = 0 := z9
    have hz : hA h10 29 0 = wr y := by rw [F.1 29 (by omega)]; exact ho z8
    refine K_aload_n (a := 29) (dt_at dtL_law_c5 35 rfl) rfl rfl ?_
    refine K_iconst (dt_at dtL_law_c5 36 rfl) ?_
    refine K_lald (a := 29) (n := 1) (dt_at dtL_law_c5 37 rfl) rfl (by decide) (by decide) ?_
    rw [hz]
    refine K_iload (x := y) (dt_at dtL_law_c5 38 rfl) rfl ?_
    refine K_i2lw (dt_at dtL_law_c5 39 rfl) ?_
    refine K_lcmpS (dt_at dtL_law_c5 40 rfl) (wr_64 y) ?_
    refine K_if_eq (tgt := 547) (dt_at dtL_law_c5 41 rfl) (by decide) ⟨by decide, by decide⟩ (fun _ => ?_) (fun z7 => (z7 rfl).elim)
    refine K_goto (tgt := 2595) (dt_at dtL_law_c5 44 rfl) (by decide) ?_
    refine K_widen (nc2 := nc + 8) (ns2 := ns + 48) (show nc + 2 + 0 + 0 ≤ nc + 8 by omega) (show ns + 12 + 0 + 0 ≤ ns + 48 by omega) ?_
    exact K_pk [2, 3, 4, 5, 6] (ls' := LwS i) rfl (kk A' h10 (CI_FC I' F) V')
set_option maxHeartbeats 4000000 in
set_option maxRecDepth 100000 in
theorem lw_c6 {h : HP} {A : AS} {i : Int} {nc ns L : Nat} {xs : Nat → Int32} (hL : L ≤ 3072) (h0 : 0 ≤ i) (h1 : i + 6 ≤ L) (hnc : nc + 8 ≤ 601024) (hns : ns + 48 ≤ 7293034) (I : CI h A) (V : MV h A) (kk : ∀ A' h', CI h' A' → MV h' A' → K mL_law (GL L xs) ZL (nc + 8) (ns + 48) 2595 (LwS i) [] h') : K mL_law (GL L xs) ZL nc ns 550 (LwS i) [] h := by
  obtain ⟨Q1, s1, q0⟩ := pair_in I (xv_i xs (i + 1)) (xv_i xs (i + 2))
  have q : PQ mX12_in [vi (xv xs (i + 1)), vi (xv xs (i + 2))] cN1 h A Q1 := q0
  refine K_aload_n (a := 30) (dt_at dtL_law_c6 0 rfl) rfl rfl ?_
  refine K_aload_nS (a := 50) (dt_at dtL_law_c6 1 rfl) rfl rfl ?_
  refine K_iload (x := i) (dt_at dtL_law_c6 2 rfl) rfl ?_
  refine K_iconst (dt_at dtL_law_c6 3 rfl) ?_
  refine K_iadd (dt_at dtL_law_c6 4 rfl) ?_
  refine K_sld (dt_at dtL_law_c6 5 rfl) (by omega) (by omega) (by omega) ?_
  refine K_aload_nS (a := 50) (dt_at dtL_law_c6 6 rfl) rfl rfl ?_
  refine K_iload (x := i) (dt_at dtL_law_c6 7 rfl) rfl ?_
  refine K_iconst (dt_at dtL_law_c6 8 rfl) ?_
  refine K_iadd (dt_at dtL_law_c6 9 rfl) ?_
  refine K_sld (dt_at dtL_law_c6 10 rfl) (by omega) (by omega) (by omega) ?_
  refine K_aload_n (a := 29) (dt_at dtL_law_c6 11 rfl) rfl rfl ?_
  refine K_callH (M' := mL_in) (hh := hL_in) (As := [vr 30, vi (xv xs (i + 1)), vi (xv xs (i + 2)), vr 29]) (st := []) (dt_at dtL_law_c6 12 rfl) (sL_in s1 (PQ_ok q)) wL_L_147 vL_in rfl npL_in (by decide) (by decide) (Nat.le_of_ble_eq_true rfl) (show nc + 2 ≤ 601024 by omega) (show ns + 12 ≤ 7293034 by omega) GL_E (fun v9 h9 hq => ?_) (fun E h9 hq => (lawPx hq).elim)
  obtain ⟨A', kq, y, rfl, hk2, I', s2, ho⟩ := lawP cN1_b V q hq
  refine K_istore (ls' := [(5, vi kq), (0, vs 51), (1, vr 30), (2, vr 0), (3, vr 29), (4, vi i)]) (dt_at dtL_law_c6 13 rfl) (by decide) rfl ?_
  refine K_aload_n (a := 0) (dt_at dtL_law_c6 14 rfl) rfl rfl ?_
  refine K_aload_nS (a := 50) (dt_at dtL_law_c6 15 rfl) rfl rfl ?_
  refine K_iload (x := i) (dt_at dtL_law_c6 16 rfl) rfl ?_
  refine K_iconst (dt_at dtL_law_c6 17 rfl) ?_
  refine K_iadd (dt_at dtL_law_c6 18 rfl) ?_
  refine K_sld (dt_at dtL_law_c6 19 rfl) (by omega) (by omega) (by omega) ?_
  refine K_aload_nS (a := 50) (dt_at dtL_law_c6 20 rfl) rfl rfl ?_
  refine K_iload (x := i) (dt_at dtL_law_c6 21 rfl) rfl ?_
  refine K_iconst (dt_at dtL_law_c6 22 rfl) ?_
  refine K_iadd (dt_at dtL_law_c6 23 rfl) ?_
  refine K_sld (dt_at dtL_law_c6 24 rfl) (by omega) (by omega) (by omega) ?_
  refine K_callV (M' := mX12_in) (a := 0) (ci := 12) (As := [vi (xv xs (i + 1)), vi (xv xs (i + 2))]) (st := []) (dt_at dtL_law_c6 25 rfl) s2 (show TT 0 = (0, 12) from rfl) rfl wL_L_149 vX12_in rfl npX12_in (by decide) (by decide) (Nat.le_of_ble_eq_true rfl) (show nc + 2 + 0 ≤ 601024 by omega) (show ns + 12 + 0 ≤ 7293034 by omega) GL_E (fun v9 h10 hq => ?_) (fun E h9 hq => by cases hq.1)
  obtain ⟨e1, V', F, ht⟩ := hq
  cases e1
  refine K_istore (ls' := [(6, vi y), (5, vi kq), (0, vs 51), (1, vr 30), (2, vr 0), (3, vr 29), (4, vi i)]) (dt_at dtL_law_c6 26 rfl) (by decide) rfl ?_
  refine K_aload_n (a := 0) (dt_at dtL_law_c6 27 rfl) rfl rfl ?_
  refine K_callV (M' := mX12_thrown) (a := 0) (ci := 12) (As := []) (st := []) (dt_at dtL_law_c6 28 rfl) sX12_thrown (show TT 0 = (0, 12) from rfl) rfl wL_L_129 vX12_thrown rfl npX12_thrown (by decide) (by decide) (Nat.le_of_ble_eq_true rfl) (show nc + 2 + 0 + 0 ≤ 601024 by omega) (show ns + 12 + 0 + 0 ≤ 7293034 by omega) GL_E (fun v9 h11 hq => ?_) (fun E h9 hq => by cases hq.1)
  obtain ⟨e1, e2⟩ := hq
  cases e1
  rw [e2, ht]
  refine K_iload (x := kq) (dt_at dtL_law_c6 29 rfl) rfl ?_
  refine K_icmp_same (tgt := 598) (dt_at dtL_law_c6 30 rfl) (by decide) ?_
  refine K_iload (x := kq) (dt_at dtL_law_c6 33 rfl) rfl ?_
  refine K_if_ne (tgt := 615) (dt_at dtL_law_c6 34 rfl) (by decide) hk2 (fun z9 => ?_) (fun z9 => ?_)
  · skip
    refine K_goto (tgt := 2595) (dt_at dtL_law_c6 44 rfl) (by decide) ?_
    refine K_widen (nc2 := nc + 8) (ns2 := ns + 48) (show nc + 2 + 0 + 0 ≤ nc + 8 by omega) (show ns + 12 + 0 + 0 ≤ ns + 48 by omega) ?_
    exact K_pk [2, 3, 4, 5, 6] (ls' := LwS i) rfl (kk A' h10 (CI_FC I' F) V')
  · have z8 : kq = 0 := z9
    have hz : hA h10 29 0 = wr y := by rw [F.1 29 (by omega)]; exact ho z8
    refine K_aload_n (a := 29) (dt_at dtL_law_c6 35 rfl) rfl rfl ?_
    refine K_iconst (dt_at dtL_law_c6 36 rfl) ?_
    refine K_lald (a := 29) (n := 1) (dt_at dtL_law_c6 37 rfl) rfl (by decide) (by decide) ?_
    rw [hz]
    refine K_iload (x := y) (dt_at dtL_law_c6 38 rfl) rfl ?_
    refine K_i2lw (dt_at dtL_law_c6 39 rfl) ?_
    refine K_lcmpS (dt_at dtL_law_c6 40 rfl) (wr_64 y) ?_
    refine K_if_eq (tgt := 615) (dt_at dtL_law_c6 41 rfl) (by decide) ⟨by decide, by decide⟩ (fun _ => ?_) (fun z7 => (z7 rfl).elim)
    refine K_goto (tgt := 2595) (dt_at dtL_law_c6 44 rfl) (by decide) ?_
    refine K_widen (nc2 := nc + 8) (ns2 := ns + 48) (show nc + 2 + 0 + 0 ≤ nc + 8 by omega) (show ns + 12 + 0 + 0 ≤ ns + 48 by omega) ?_
    exact K_pk [2, 3, 4, 5, 6] (ls' := LwS i) rfl (kk A' h10 (CI_FC I' F) V')
set_option maxHeartbeats 4000000 in
set_option maxRecDepth 100000 in
theorem lw_c7 {h : HP} {A : AS} {i : Int} {nc ns L : Nat} {xs : Nat → Int32} (hL : L ≤ 3072) (h0 : 0 ≤ i) (h1 : i + 6 ≤ L) (hnc : nc + 8 ≤ 601024) (hns : ns + 48 ≤ 7293034) (I : CI h A) (V : MV h A) (kk : ∀ A' h', CI h' A' → MV h' A' → K mL_law (GL L xs) ZL (nc + 8) (ns + 48) 2595 (LwS i) [] h') : K mL_law (GL L xs) ZL nc ns 618 (LwS i) [] h := by
  obtain ⟨Q1, s1, q0⟩ := pair_days I (xv_i xs (i + 1))
  have q : PQ mX12_days [vi (xv xs (i + 1))] c00 h A Q1 := q0
  refine K_aload_n (a := 30) (dt_at dtL_law_c7 0 rfl) rfl rfl ?_
  refine K_aload_nS (a := 50) (dt_at dtL_law_c7 1 rfl) rfl rfl ?_
  refine K_iload (x := i) (dt_at dtL_law_c7 2 rfl) rfl ?_
  refine K_iconst (dt_at dtL_law_c7 3 rfl) ?_
  refine K_iadd (dt_at dtL_law_c7 4 rfl) ?_
  refine K_sld (dt_at dtL_law_c7 5 rfl) (by omega) (by omega) (by omega) ?_
  refine K_callV (M' := mX11_days) (a := 30) (ci := 11) (As := [vi (xv xs (i + 1))]) (st := []) (dt_at dtL_law_c7 6 rfl) s1 (show TT 30 = (0, 11) from rfl) rfl wL_L_150 vX11_days rfl npX11_days (by decide) (by decide) (Nat.le_of_ble_eq_true rfl) (show nc + 0 ≤ 601024 by omega) (show ns + 0 ≤ 7293034 by omega) GL_E (fun v9 h9 hq => ?_) (fun E h9 hq => (lawDx q hq).elim)
  obtain ⟨A', y, rfl, I', s2⟩ := lawD V q hq
  refine K_aload_n (a := 0) (dt_at dtL_law_c7 7 rfl) rfl rfl ?_
  refine K_aload_nS (a := 50) (dt_at dtL_law_c7 8 rfl) rfl rfl ?_
  refine K_iload (x := i) (dt_at dtL_law_c7 9 rfl) rfl ?_
  refine K_iconst (dt_at dtL_law_c7 10 rfl) ?_
  refine K_iadd (dt_at dtL_law_c7 11 rfl) ?_
  refine K_sld (dt_at dtL_law_c7 12 rfl) (by omega) (by omega) (by omega) ?_
  refine K_callV (M' := mX12_days) (a := 0) (ci := 12) (As := [vi (xv xs (i + 1))]) (st := [vi y]) (dt_at dtL_law_c7 13 rfl) s2 (show TT 0 = (0, 12) from rfl) rfl wL_L_153 vX12_days rfl npX12_days (by decide) (by decide) (Nat.le_of_ble_eq_true rfl) (show nc + 0 + 0 ≤ 601024 by omega) (show ns + 0 + 0 ≤ 7293034 by omega) GL_E (fun v9 h10 hq => ?_) (fun E h9 hq => by cases hq.1)
  obtain ⟨e1, V', F, ht⟩ := hq
  cases e1
  refine K_icmp_same (tgt := 2595) (dt_at dtL_law_c7 14 rfl) (by decide) ?_
  refine K_widen (nc2 := nc + 8) (ns2 := ns + 48) (show nc + 0 + 0 ≤ nc + 8 by omega) (show ns + 0 + 0 ≤ ns + 48 by omega) ?_
  exact K_pk [0, 1, 2, 3, 4] (ls' := LwS i) rfl (kk A' h10 (CI_FC I' F) V')
set_option maxHeartbeats 4000000 in
set_option maxRecDepth 100000 in
theorem lw_c8 {h : HP} {A : AS} {i : Int} {nc ns L : Nat} {xs : Nat → Int32} (hL : L ≤ 3072) (h0 : 0 ≤ i) (h1 : i + 6 ≤ L) (hnc : nc + 8 ≤ 601024) (hns : ns + 48 ≤ 7293034) (I : CI h A) (V : MV h A) (kk : ∀ A' h', CI h' A' → MV h' A' → K mL_law (GL L xs) ZL (nc + 8) (ns + 48) 2595 (LwS i) [] h') : K mL_law (GL L xs) ZL nc ns 643 (LwS i) [] h := by
  obtain ⟨Q1, s1, q0⟩ := pair_swap I (xv_i xs (i + 1)) (xv_i xs (i + 2))
  have q : PQ mX12_swap [vi (xv xs (i + 1)), vi (xv xs (i + 2))] cN1 h A Q1 := q0
  refine K_aload_n (a := 30) (dt_at dtL_law_c8 0 rfl) rfl rfl ?_
  refine K_aload_nS (a := 50) (dt_at dtL_law_c8 1 rfl) rfl rfl ?_
  refine K_iload (x := i) (dt_at dtL_law_c8 2 rfl) rfl ?_
  refine K_iconst (dt_at dtL_law_c8 3 rfl) ?_
  refine K_iadd (dt_at dtL_law_c8 4 rfl) ?_
  refine K_sld (dt_at dtL_law_c8 5 rfl) (by omega) (by omega) (by omega) ?_
  refine K_aload_nS (a := 50) (dt_at dtL_law_c8 6 rfl) rfl rfl ?_
  refine K_iload (x := i) (dt_at dtL_law_c8 7 rfl) rfl ?_
  refine K_iconst (dt_at dtL_law_c8 8 rfl) ?_
  refine K_iadd (dt_at dtL_law_c8 9 rfl) ?_
  refine K_sld (dt_at dtL_law_c8 10 rfl) (by omega) (by omega) (by omega) ?_
  refine K_aload_n (a := 29) (dt_at dtL_law_c8 11 rfl) rfl rfl ?_
  refine K_callH (M' := mL_swap) (hh := hL_swap) (As := [vr 30, vi (xv xs (i + 1)), vi (xv xs (i + 2)), vr 29]) (st := []) (dt_at dtL_law_c8 12 rfl) (sL_swap s1 (PQ_ok q)) wL_L_154 vL_swap rfl npL_swap (by decide) (by decide) (Nat.le_of_ble_eq_true rfl) (show nc + 2 ≤ 601024 by omega) (show ns + 12 ≤ 7293034 by omega) GL_E (fun v9 h9 hq => ?_) (fun E h9 hq => (lawPx hq).elim)
  obtain ⟨A', kq, y, rfl, hk2, I', s2, ho⟩ := lawP cN1_b V q hq
  refine K_istore (ls' := [(5, vi kq), (0, vs 51), (1, vr 30), (2, vr 0), (3, vr 29), (4, vi i)]) (dt_at dtL_law_c8 13 rfl) (by decide) rfl ?_
  refine K_aload_n (a := 0) (dt_at dtL_law_c8 14 rfl) rfl rfl ?_
  refine K_aload_nS (a := 50) (dt_at dtL_law_c8 15 rfl) rfl rfl ?_
  refine K_iload (x := i) (dt_at dtL_law_c8 16 rfl) rfl ?_
  refine K_iconst (dt_at dtL_law_c8 17 rfl) ?_
  refine K_iadd (dt_at dtL_law_c8 18 rfl) ?_
  refine K_sld (dt_at dtL_law_c8 19 rfl) (by omega) (by omega) (by omega) ?_
  refine K_aload_nS (a := 50) (dt_at dtL_law_c8 20 rfl) rfl rfl ?_
  refine K_iload (x := i) (dt_at dtL_law_c8 21 rfl) rfl ?_
  refine K_iconst (dt_at dtL_law_c8 22 rfl) ?_
  refine K_iadd (dt_at dtL_law_c8 23 rfl) ?_
  refine K_sld (dt_at dtL_law_c8 24 rfl) (by omega) (by omega) (by omega) ?_
  refine K_callV (M' := mX12_swap) (a := 0) (ci := 12) (As := [vi (xv xs (i + 1)), vi (xv xs (i + 2))]) (st := []) (dt_at dtL_law_c8 25 rfl) s2 (show TT 0 = (0, 12) from rfl) rfl wL_L_156 vX12_swap rfl npX12_swap (by decide) (by decide) (Nat.le_of_ble_eq_true rfl) (show nc + 2 + 0 ≤ 601024 by omega) (show ns + 12 + 0 ≤ 7293034 by omega) GL_E (fun v9 h10 hq => ?_) (fun E h9 hq => by cases hq.1)
  obtain ⟨e1, V', F, ht⟩ := hq
  cases e1
  refine K_istore (ls' := [(6, vi y), (5, vi kq), (0, vs 51), (1, vr 30), (2, vr 0), (3, vr 29), (4, vi i)]) (dt_at dtL_law_c8 26 rfl) (by decide) rfl ?_
  refine K_aload_n (a := 0) (dt_at dtL_law_c8 27 rfl) rfl rfl ?_
  refine K_callV (M' := mX12_thrown) (a := 0) (ci := 12) (As := []) (st := []) (dt_at dtL_law_c8 28 rfl) sX12_thrown (show TT 0 = (0, 12) from rfl) rfl wL_L_129 vX12_thrown rfl npX12_thrown (by decide) (by decide) (Nat.le_of_ble_eq_true rfl) (show nc + 2 + 0 + 0 ≤ 601024 by omega) (show ns + 12 + 0 + 0 ≤ 7293034 by omega) GL_E (fun v9 h11 hq => ?_) (fun E h9 hq => by cases hq.1)
  obtain ⟨e1, e2⟩ := hq
  cases e1
  rw [e2, ht]
  refine K_iload (x := kq) (dt_at dtL_law_c8 29 rfl) rfl ?_
  refine K_icmp_same (tgt := 691) (dt_at dtL_law_c8 30 rfl) (by decide) ?_
  refine K_iload (x := kq) (dt_at dtL_law_c8 33 rfl) rfl ?_
  refine K_if_ne (tgt := 715) (dt_at dtL_law_c8 34 rfl) (by decide) hk2 (fun z9 => ?_) (fun z9 => ?_)
  · skip
    refine K_goto (tgt := 2595) (dt_at dtL_law_c8 47 rfl) (by decide) ?_
    refine K_widen (nc2 := nc + 8) (ns2 := ns + 48) (show nc + 2 + 0 + 0 ≤ nc + 8 by omega) (show ns + 12 + 0 + 0 ≤ ns + 48 by omega) ?_
    exact K_pk [2, 3, 4, 5, 6] (ls' := LwS i) rfl (kk A' h10 (CI_FC I' F) V')
  · have z8 : kq = 0 := z9
    have hz : hA h10 29 0 = b01 y := by rw [F.1 29 (by omega)]; exact ho z8
    refine K_aload_n (a := 29) (dt_at dtL_law_c8 35 rfl) rfl rfl ?_
    refine K_iconst (dt_at dtL_law_c8 36 rfl) ?_
    refine K_lald (a := 29) (n := 1) (dt_at dtL_law_c8 37 rfl) rfl (by decide) (by decide) ?_
    rw [hz]
    refine K_iload (x := y) (dt_at dtL_law_c8 38 rfl) rfl ?_
    refine K_same (wr_same y) ?_
    refine K_if_eq (tgt := 708) (dt_at dtL_law_c8 39 rfl) (by decide) (wr_i y) (fun z9 => ?_) (fun z9 => ?_)
    · rw [show b01 y = 0 by unfold b01; rw [if_pos z9]]
      refine K_lconst0 (dt_at dtL_law_c8 42 rfl) ?_
      refine K_lcmpS (dt_at dtL_law_c8 43 rfl) ⟨by decide, by decide⟩ ?_
      refine K_if_eq (tgt := 715) (dt_at dtL_law_c8 44 rfl) (by decide) ⟨by decide, by decide⟩ (fun _ => ?_) (fun z7 => (z7 rfl).elim)
      refine K_goto (tgt := 2595) (dt_at dtL_law_c8 47 rfl) (by decide) ?_
      refine K_widen (nc2 := nc + 8) (ns2 := ns + 48) (show nc + 2 + 0 + 0 ≤ nc + 8 by omega) (show ns + 12 + 0 + 0 ≤ ns + 48 by omega) ?_
      exact K_pk [2, 3, 4, 5, 6] (ls' := LwS i) rfl (kk A' h10 (CI_FC I' F) V')
    · rw [show b01 y = 1 by unfold b01; rw [if_neg z9]]
      refine K_lconst1 (dt_at dtL_law_c8 40 rfl) ?_
      refine K_goto (tgt := 709) (dt_at dtL_law_c8 41 rfl) (by decide) ?_
      refine K_lcmpS (dt_at dtL_law_c8 43 rfl) ⟨by decide, by decide⟩ ?_
      refine K_if_eq (tgt := 715) (dt_at dtL_law_c8 44 rfl) (by decide) ⟨by decide, by decide⟩ (fun _ => ?_) (fun z7 => (z7 rfl).elim)
      refine K_goto (tgt := 2595) (dt_at dtL_law_c8 47 rfl) (by decide) ?_
      refine K_widen (nc2 := nc + 8) (ns2 := ns + 48) (show nc + 2 + 0 + 0 ≤ nc + 8 by omega) (show ns + 12 + 0 + 0 ≤ ns + 48 by omega) ?_
      exact K_pk [2, 3, 4, 5, 6] (ls' := LwS i) rfl (kk A' h10 (CI_FC I' F) V')
set_option maxHeartbeats 4000000 in
set_option maxRecDepth 100000 in
theorem lw_c9 {h : HP} {A : AS} {i : Int} {nc ns L : Nat} {xs : Nat → Int32} (hL : L ≤ 3072) (h0 : 0 ≤ i) (h1 : i + 6 ≤ L) (hnc : nc + 8 ≤ 601024) (hns : ns + 48 ≤ 7293034) (I : CI h A) (V : MV h A) (kk : ∀ A' h', CI h' A' → MV h' A' → K mL_law (GL L xs) ZL (nc + 8) (ns + 48) 2595 (LwS i) [] h') : K mL_law (GL L xs) ZL nc ns 718 (LwS i) [] h := by
  obtain ⟨Q1, s1, q0⟩ := pair_buy I (xv_i xs (i + 1)) (xv_i xs (i + 2))
  have q : PQ mX12_buy [vi (xv xs (i + 1)), vi (xv xs (i + 2))] cN1 h A Q1 := q0
  refine K_aload_n (a := 30) (dt_at dtL_law_c9 0 rfl) rfl rfl ?_
  refine K_aload_nS (a := 50) (dt_at dtL_law_c9 1 rfl) rfl rfl ?_
  refine K_iload (x := i) (dt_at dtL_law_c9 2 rfl) rfl ?_
  refine K_iconst (dt_at dtL_law_c9 3 rfl) ?_
  refine K_iadd (dt_at dtL_law_c9 4 rfl) ?_
  refine K_sld (dt_at dtL_law_c9 5 rfl) (by omega) (by omega) (by omega) ?_
  refine K_aload_nS (a := 50) (dt_at dtL_law_c9 6 rfl) rfl rfl ?_
  refine K_iload (x := i) (dt_at dtL_law_c9 7 rfl) rfl ?_
  refine K_iconst (dt_at dtL_law_c9 8 rfl) ?_
  refine K_iadd (dt_at dtL_law_c9 9 rfl) ?_
  refine K_sld (dt_at dtL_law_c9 10 rfl) (by omega) (by omega) (by omega) ?_
  refine K_aload_n (a := 29) (dt_at dtL_law_c9 11 rfl) rfl rfl ?_
  refine K_callH (M' := mL_buy) (hh := hL_buy) (As := [vr 30, vi (xv xs (i + 1)), vi (xv xs (i + 2)), vr 29]) (st := []) (dt_at dtL_law_c9 12 rfl) (sL_buy s1 (PQ_ok q)) wL_L_157 vL_buy rfl npL_buy (by decide) (by decide) (Nat.le_of_ble_eq_true rfl) (show nc + 1 ≤ 601024 by omega) (show ns + 6 ≤ 7293034 by omega) GL_E (fun v9 h9 hq => ?_) (fun E h9 hq => (lawPx hq).elim)
  obtain ⟨A', kq, y, rfl, hk2, I', s2, ho⟩ := lawP cN1_b V q hq
  refine K_istore (ls' := [(5, vi kq), (0, vs 51), (1, vr 30), (2, vr 0), (3, vr 29), (4, vi i)]) (dt_at dtL_law_c9 13 rfl) (by decide) rfl ?_
  refine K_aload_n (a := 0) (dt_at dtL_law_c9 14 rfl) rfl rfl ?_
  refine K_aload_nS (a := 50) (dt_at dtL_law_c9 15 rfl) rfl rfl ?_
  refine K_iload (x := i) (dt_at dtL_law_c9 16 rfl) rfl ?_
  refine K_iconst (dt_at dtL_law_c9 17 rfl) ?_
  refine K_iadd (dt_at dtL_law_c9 18 rfl) ?_
  refine K_sld (dt_at dtL_law_c9 19 rfl) (by omega) (by omega) (by omega) ?_
  refine K_aload_nS (a := 50) (dt_at dtL_law_c9 20 rfl) rfl rfl ?_
  refine K_iload (x := i) (dt_at dtL_law_c9 21 rfl) rfl ?_
  refine K_iconst (dt_at dtL_law_c9 22 rfl) ?_
  refine K_iadd (dt_at dtL_law_c9 23 rfl) ?_
  refine K_sld (dt_at dtL_law_c9 24 rfl) (by omega) (by omega) (by omega) ?_
  refine K_callV (M' := mX12_buy) (a := 0) (ci := 12) (As := [vi (xv xs (i + 1)), vi (xv xs (i + 2))]) (st := []) (dt_at dtL_law_c9 25 rfl) s2 (show TT 0 = (0, 12) from rfl) rfl wL_L_159 vX12_buy rfl npX12_buy (by decide) (by decide) (Nat.le_of_ble_eq_true rfl) (show nc + 1 + 0 ≤ 601024 by omega) (show ns + 6 + 0 ≤ 7293034 by omega) GL_E (fun v9 h10 hq => ?_) (fun E h9 hq => by cases hq.1)
  obtain ⟨e1, V', F, ht⟩ := hq
  cases e1
  refine K_istore (ls' := [(6, vi y), (5, vi kq), (0, vs 51), (1, vr 30), (2, vr 0), (3, vr 29), (4, vi i)]) (dt_at dtL_law_c9 26 rfl) (by decide) rfl ?_
  refine K_aload_n (a := 0) (dt_at dtL_law_c9 27 rfl) rfl rfl ?_
  refine K_callV (M' := mX12_thrown) (a := 0) (ci := 12) (As := []) (st := []) (dt_at dtL_law_c9 28 rfl) sX12_thrown (show TT 0 = (0, 12) from rfl) rfl wL_L_129 vX12_thrown rfl npX12_thrown (by decide) (by decide) (Nat.le_of_ble_eq_true rfl) (show nc + 1 + 0 + 0 ≤ 601024 by omega) (show ns + 6 + 0 + 0 ≤ 7293034 by omega) GL_E (fun v9 h11 hq => ?_) (fun E h9 hq => by cases hq.1)
  obtain ⟨e1, e2⟩ := hq
  cases e1
  rw [e2, ht]
  refine K_iload (x := kq) (dt_at dtL_law_c9 29 rfl) rfl ?_
  refine K_icmp_same (tgt := 766) (dt_at dtL_law_c9 30 rfl) (by decide) ?_
  refine K_iload (x := kq) (dt_at dtL_law_c9 33 rfl) rfl ?_
  refine K_if_ne (tgt := 783) (dt_at dtL_law_c9 34 rfl) (by decide) hk2 (fun z9 => ?_) (fun z9 => ?_)
  · skip
    refine K_goto (tgt := 2595) (dt_at dtL_law_c9 44 rfl) (by decide) ?_
    refine K_widen (nc2 := nc + 8) (ns2 := ns + 48) (show nc + 1 + 0 + 0 ≤ nc + 8 by omega) (show ns + 6 + 0 + 0 ≤ ns + 48 by omega) ?_
    exact K_pk [2, 3, 4, 5, 6] (ls' := LwS i) rfl (kk A' h10 (CI_FC I' F) V')
  · have z8 : kq = 0 := z9
    have hz : hA h10 29 0 = wr y := by rw [F.1 29 (by omega)]; exact ho z8
    refine K_aload_n (a := 29) (dt_at dtL_law_c9 35 rfl) rfl rfl ?_
    refine K_iconst (dt_at dtL_law_c9 36 rfl) ?_
    refine K_lald (a := 29) (n := 1) (dt_at dtL_law_c9 37 rfl) rfl (by decide) (by decide) ?_
    rw [hz]
    refine K_iload (x := y) (dt_at dtL_law_c9 38 rfl) rfl ?_
    refine K_i2lw (dt_at dtL_law_c9 39 rfl) ?_
    refine K_lcmpS (dt_at dtL_law_c9 40 rfl) (wr_64 y) ?_
    refine K_if_eq (tgt := 783) (dt_at dtL_law_c9 41 rfl) (by decide) ⟨by decide, by decide⟩ (fun _ => ?_) (fun z7 => (z7 rfl).elim)
    refine K_goto (tgt := 2595) (dt_at dtL_law_c9 44 rfl) (by decide) ?_
    refine K_widen (nc2 := nc + 8) (ns2 := ns + 48) (show nc + 1 + 0 + 0 ≤ nc + 8 by omega) (show ns + 6 + 0 + 0 ≤ ns + 48 by omega) ?_
    exact K_pk [2, 3, 4, 5, 6] (ls' := LwS i) rfl (kk A' h10 (CI_FC I' F) V')
set_option maxHeartbeats 4000000 in
set_option maxRecDepth 100000 in
theorem lw_c10 {h : HP} {A : AS} {i : Int} {nc ns L : Nat} {xs : Nat → Int32} (hL : L ≤ 3072) (h0 : 0 ≤ i) (h1 : i + 6 ≤ L) (hnc : nc + 8 ≤ 601024) (hns : ns + 48 ≤ 7293034) (I : CI h A) (V : MV h A) (kk : ∀ A' h', CI h' A' → MV h' A' → K mL_law (GL L xs) ZL (nc + 8) (ns + 48) 2595 (LwS i) [] h') : K mL_law (GL L xs) ZL nc ns 786 (LwS i) [] h := by
  obtain ⟨Q1, s1, q0⟩ := pair_packer I (xv_i xs (i + 1)) (xv_i xs (i + 2))
  have q : PQ mX12_packer [vi (xv xs (i + 1)), vi (xv xs (i + 2))] cN1 h A Q1 := q0
  refine K_aload_n (a := 30) (dt_at dtL_law_c10 0 rfl) rfl rfl ?_
  refine K_aload_nS (a := 50) (dt_at dtL_law_c10 1 rfl) rfl rfl ?_
  refine K_iload (x := i) (dt_at dtL_law_c10 2 rfl) rfl ?_
  refine K_iconst (dt_at dtL_law_c10 3 rfl) ?_
  refine K_iadd (dt_at dtL_law_c10 4 rfl) ?_
  refine K_sld (dt_at dtL_law_c10 5 rfl) (by omega) (by omega) (by omega) ?_
  refine K_aload_nS (a := 50) (dt_at dtL_law_c10 6 rfl) rfl rfl ?_
  refine K_iload (x := i) (dt_at dtL_law_c10 7 rfl) rfl ?_
  refine K_iconst (dt_at dtL_law_c10 8 rfl) ?_
  refine K_iadd (dt_at dtL_law_c10 9 rfl) ?_
  refine K_sld (dt_at dtL_law_c10 10 rfl) (by omega) (by omega) (by omega) ?_
  refine K_aload_n (a := 29) (dt_at dtL_law_c10 11 rfl) rfl rfl ?_
  refine K_callH (M' := mL_packer) (hh := hL_packer) (As := [vr 30, vi (xv xs (i + 1)), vi (xv xs (i + 2)), vr 29]) (st := []) (dt_at dtL_law_c10 12 rfl) (sL_packer s1 (PQ_ok q)) wL_L_160 vL_packer rfl npL_packer (by decide) (by decide) (Nat.le_of_ble_eq_true rfl) (show nc + 2 ≤ 601024 by omega) (show ns + 12 ≤ 7293034 by omega) GL_E (fun v9 h9 hq => ?_) (fun E h9 hq => (lawPx hq).elim)
  obtain ⟨A', kq, y, rfl, hk2, I', s2, ho⟩ := lawP cN1_b V q hq
  refine K_istore (ls' := [(5, vi kq), (0, vs 51), (1, vr 30), (2, vr 0), (3, vr 29), (4, vi i)]) (dt_at dtL_law_c10 13 rfl) (by decide) rfl ?_
  refine K_aload_n (a := 0) (dt_at dtL_law_c10 14 rfl) rfl rfl ?_
  refine K_aload_nS (a := 50) (dt_at dtL_law_c10 15 rfl) rfl rfl ?_
  refine K_iload (x := i) (dt_at dtL_law_c10 16 rfl) rfl ?_
  refine K_iconst (dt_at dtL_law_c10 17 rfl) ?_
  refine K_iadd (dt_at dtL_law_c10 18 rfl) ?_
  refine K_sld (dt_at dtL_law_c10 19 rfl) (by omega) (by omega) (by omega) ?_
  refine K_aload_nS (a := 50) (dt_at dtL_law_c10 20 rfl) rfl rfl ?_
  refine K_iload (x := i) (dt_at dtL_law_c10 21 rfl) rfl ?_
  refine K_iconst (dt_at dtL_law_c10 22 rfl) ?_
  refine K_iadd (dt_at dtL_law_c10 23 rfl) ?_
  refine K_sld (dt_at dtL_law_c10 24 rfl) (by omega) (by omega) (by omega) ?_
  refine K_callV (M' := mX12_packer) (a := 0) (ci := 12) (As := [vi (xv xs (i + 1)), vi (xv xs (i + 2))]) (st := []) (dt_at dtL_law_c10 25 rfl) s2 (show TT 0 = (0, 12) from rfl) rfl wL_L_162 vX12_packer rfl npX12_packer (by decide) (by decide) (Nat.le_of_ble_eq_true rfl) (show nc + 2 + 0 ≤ 601024 by omega) (show ns + 12 + 0 ≤ 7293034 by omega) GL_E (fun v9 h10 hq => ?_) (fun E h9 hq => by cases hq.1)
  obtain ⟨e1, V', F, ht⟩ := hq
  cases e1
  refine K_istore (ls' := [(6, vi y), (5, vi kq), (0, vs 51), (1, vr 30), (2, vr 0), (3, vr 29), (4, vi i)]) (dt_at dtL_law_c10 26 rfl) (by decide) rfl ?_
  refine K_aload_n (a := 0) (dt_at dtL_law_c10 27 rfl) rfl rfl ?_
  refine K_callV (M' := mX12_thrown) (a := 0) (ci := 12) (As := []) (st := []) (dt_at dtL_law_c10 28 rfl) sX12_thrown (show TT 0 = (0, 12) from rfl) rfl wL_L_129 vX12_thrown rfl npX12_thrown (by decide) (by decide) (Nat.le_of_ble_eq_true rfl) (show nc + 2 + 0 + 0 ≤ 601024 by omega) (show ns + 12 + 0 + 0 ≤ 7293034 by omega) GL_E (fun v9 h11 hq => ?_) (fun E h9 hq => by cases hq.1)
  obtain ⟨e1, e2⟩ := hq
  cases e1
  rw [e2, ht]
  refine K_iload (x := kq) (dt_at dtL_law_c10 29 rfl) rfl ?_
  refine K_icmp_same (tgt := 834) (dt_at dtL_law_c10 30 rfl) (by decide) ?_
  refine K_iload (x := kq) (dt_at dtL_law_c10 33 rfl) rfl ?_
  refine K_if_ne (tgt := 851) (dt_at dtL_law_c10 34 rfl) (by decide) hk2 (fun z9 => ?_) (fun z9 => ?_)
  · skip
    refine K_goto (tgt := 2595) (dt_at dtL_law_c10 44 rfl) (by decide) ?_
    refine K_widen (nc2 := nc + 8) (ns2 := ns + 48) (show nc + 2 + 0 + 0 ≤ nc + 8 by omega) (show ns + 12 + 0 + 0 ≤ ns + 48 by omega) ?_
    exact K_pk [2, 3, 4, 5, 6] (ls' := LwS i) rfl (kk A' h10 (CI_FC I' F) V')
  · have z8 : kq = 0 := z9
    have hz : hA h10 29 0 = wr y := by rw [F.1 29 (by omega)]; exact ho z8
    refine K_aload_n (a := 29) (dt_at dtL_law_c10 35 rfl) rfl rfl ?_
    refine K_iconst (dt_at dtL_law_c10 36 rfl) ?_
    refine K_lald (a := 29) (n := 1) (dt_at dtL_law_c10 37 rfl) rfl (by decide) (by decide) ?_
    rw [hz]
    refine K_iload (x := y) (dt_at dtL_law_c10 38 rfl) rfl ?_
    refine K_i2lw (dt_at dtL_law_c10 39 rfl) ?_
    refine K_lcmpS (dt_at dtL_law_c10 40 rfl) (wr_64 y) ?_
    refine K_if_eq (tgt := 851) (dt_at dtL_law_c10 41 rfl) (by decide) ⟨by decide, by decide⟩ (fun _ => ?_) (fun z7 => (z7 rfl).elim)
    refine K_goto (tgt := 2595) (dt_at dtL_law_c10 44 rfl) (by decide) ?_
    refine K_widen (nc2 := nc + 8) (ns2 := ns + 48) (show nc + 2 + 0 + 0 ≤ nc + 8 by omega) (show ns + 12 + 0 + 0 ≤ ns + 48 by omega) ?_
    exact K_pk [2, 3, 4, 5, 6] (ls' := LwS i) rfl (kk A' h10 (CI_FC I' F) V')
set_option maxHeartbeats 4000000 in
set_option maxRecDepth 100000 in
theorem lw_c11 {h : HP} {A : AS} {i : Int} {nc ns L : Nat} {xs : Nat → Int32} (hL : L ≤ 3072) (h0 : 0 ≤ i) (h1 : i + 6 ≤ L) (hnc : nc + 8 ≤ 601024) (hns : ns + 48 ≤ 7293034) (I : CI h A) (V : MV h A) (kk : ∀ A' h', CI h' A' → MV h' A' → K mL_law (GL L xs) ZL (nc + 8) (ns + 48) 2595 (LwS i) [] h') : K mL_law (GL L xs) ZL nc ns 854 (LwS i) [] h := by
  obtain ⟨Q1, s1, q0⟩ := pair_mend I (xv_i xs (i + 1)) (xv_i xs (i + 2))
  have q : PQ mX12_mend [vi (xv xs (i + 1)), vi (xv xs (i + 2))] cN1 h A Q1 := q0
  refine K_aload_n (a := 30) (dt_at dtL_law_c11 0 rfl) rfl rfl ?_
  refine K_aload_nS (a := 50) (dt_at dtL_law_c11 1 rfl) rfl rfl ?_
  refine K_iload (x := i) (dt_at dtL_law_c11 2 rfl) rfl ?_
  refine K_iconst (dt_at dtL_law_c11 3 rfl) ?_
  refine K_iadd (dt_at dtL_law_c11 4 rfl) ?_
  refine K_sld (dt_at dtL_law_c11 5 rfl) (by omega) (by omega) (by omega) ?_
  refine K_aload_nS (a := 50) (dt_at dtL_law_c11 6 rfl) rfl rfl ?_
  refine K_iload (x := i) (dt_at dtL_law_c11 7 rfl) rfl ?_
  refine K_iconst (dt_at dtL_law_c11 8 rfl) ?_
  refine K_iadd (dt_at dtL_law_c11 9 rfl) ?_
  refine K_sld (dt_at dtL_law_c11 10 rfl) (by omega) (by omega) (by omega) ?_
  refine K_aload_n (a := 29) (dt_at dtL_law_c11 11 rfl) rfl rfl ?_
  refine K_callH (M' := mL_mend) (hh := hL_mend) (As := [vr 30, vi (xv xs (i + 1)), vi (xv xs (i + 2)), vr 29]) (st := []) (dt_at dtL_law_c11 12 rfl) (sL_mend s1 (PQ_ok q)) wL_L_163 vL_mend rfl npL_mend (by decide) (by decide) (Nat.le_of_ble_eq_true rfl) (show nc + 1 ≤ 601024 by omega) (show ns + 6 ≤ 7293034 by omega) GL_E (fun v9 h9 hq => ?_) (fun E h9 hq => (lawPx hq).elim)
  obtain ⟨A', kq, y, rfl, hk2, I', s2, ho⟩ := lawP cN1_b V q hq
  refine K_istore (ls' := [(5, vi kq), (0, vs 51), (1, vr 30), (2, vr 0), (3, vr 29), (4, vi i)]) (dt_at dtL_law_c11 13 rfl) (by decide) rfl ?_
  refine K_aload_n (a := 0) (dt_at dtL_law_c11 14 rfl) rfl rfl ?_
  refine K_aload_nS (a := 50) (dt_at dtL_law_c11 15 rfl) rfl rfl ?_
  refine K_iload (x := i) (dt_at dtL_law_c11 16 rfl) rfl ?_
  refine K_iconst (dt_at dtL_law_c11 17 rfl) ?_
  refine K_iadd (dt_at dtL_law_c11 18 rfl) ?_
  refine K_sld (dt_at dtL_law_c11 19 rfl) (by omega) (by omega) (by omega) ?_
  refine K_aload_nS (a := 50) (dt_at dtL_law_c11 20 rfl) rfl rfl ?_
  refine K_iload (x := i) (dt_at dtL_law_c11 21 rfl) rfl ?_
  refine K_iconst (dt_at dtL_law_c11 22 rfl) ?_
  refine K_iadd (dt_at dtL_law_c11 23 rfl) ?_
  refine K_sld (dt_at dtL_law_c11 24 rfl) (by omega) (by omega) (by omega) ?_
  refine K_callV (M' := mX12_mend) (a := 0) (ci := 12) (As := [vi (xv xs (i + 1)), vi (xv xs (i + 2))]) (st := []) (dt_at dtL_law_c11 25 rfl) s2 (show TT 0 = (0, 12) from rfl) rfl wL_L_165 vX12_mend rfl npX12_mend (by decide) (by decide) (Nat.le_of_ble_eq_true rfl) (show nc + 1 + 0 ≤ 601024 by omega) (show ns + 6 + 0 ≤ 7293034 by omega) GL_E (fun v9 h10 hq => ?_) (fun E h9 hq => by cases hq.1)
  obtain ⟨e1, V', F, ht⟩ := hq
  cases e1
  refine K_istore (ls' := [(6, vi y), (5, vi kq), (0, vs 51), (1, vr 30), (2, vr 0), (3, vr 29), (4, vi i)]) (dt_at dtL_law_c11 26 rfl) (by decide) rfl ?_
  refine K_aload_n (a := 0) (dt_at dtL_law_c11 27 rfl) rfl rfl ?_
  refine K_callV (M' := mX12_thrown) (a := 0) (ci := 12) (As := []) (st := []) (dt_at dtL_law_c11 28 rfl) sX12_thrown (show TT 0 = (0, 12) from rfl) rfl wL_L_129 vX12_thrown rfl npX12_thrown (by decide) (by decide) (Nat.le_of_ble_eq_true rfl) (show nc + 1 + 0 + 0 ≤ 601024 by omega) (show ns + 6 + 0 + 0 ≤ 7293034 by omega) GL_E (fun v9 h11 hq => ?_) (fun E h9 hq => by cases hq.1)
  obtain ⟨e1, e2⟩ := hq
  cases e1
  rw [e2, ht]
  refine K_iload (x := kq) (dt_at dtL_law_c11 29 rfl) rfl ?_
  refine K_icmp_same (tgt := 902) (dt_at dtL_law_c11 30 rfl) (by decide) ?_
  refine K_iload (x := kq) (dt_at dtL_law_c11 33 rfl) rfl ?_
  refine K_if_ne (tgt := 919) (dt_at dtL_law_c11 34 rfl) (by decide) hk2 (fun z9 => ?_) (fun z9 => ?_)
  · skip
    refine K_goto (tgt := 2595) (dt_at dtL_law_c11 44 rfl) (by decide) ?_
    refine K_widen (nc2 := nc + 8) (ns2 := ns + 48) (show nc + 1 + 0 + 0 ≤ nc + 8 by omega) (show ns + 6 + 0 + 0 ≤ ns + 48 by omega) ?_
    exact K_pk [2, 3, 4, 5, 6] (ls' := LwS i) rfl (kk A' h10 (CI_FC I' F) V')
  · have z8 : kq = 0 := z9
    have hz : hA h10 29 0 = wr y := by rw [F.1 29 (by omega)]; exact ho z8
    refine K_aload_n (a := 29) (dt_at dtL_law_c11 35 rfl) rfl rfl ?_
    refine K_iconst (dt_at dtL_law_c11 36 rfl) ?_
    refine K_lald (a := 29) (n := 1) (dt_at dtL_law_c11 37 rfl) rfl (by decide) (by decide) ?_
    rw [hz]
    refine K_iload (x := y) (dt_at dtL_law_c11 38 rfl) rfl ?_
    refine K_i2lw (dt_at dtL_law_c11 39 rfl) ?_
    refine K_lcmpS (dt_at dtL_law_c11 40 rfl) (wr_64 y) ?_
    refine K_if_eq (tgt := 919) (dt_at dtL_law_c11 41 rfl) (by decide) ⟨by decide, by decide⟩ (fun _ => ?_) (fun z7 => (z7 rfl).elim)
    refine K_goto (tgt := 2595) (dt_at dtL_law_c11 44 rfl) (by decide) ?_
    refine K_widen (nc2 := nc + 8) (ns2 := ns + 48) (show nc + 1 + 0 + 0 ≤ nc + 8 by omega) (show ns + 6 + 0 + 0 ≤ ns + 48 by omega) ?_
    exact K_pk [2, 3, 4, 5, 6] (ls' := LwS i) rfl (kk A' h10 (CI_FC I' F) V')
set_option maxHeartbeats 4000000 in
set_option maxRecDepth 100000 in
theorem lw_c12 {h : HP} {A : AS} {i : Int} {nc ns L : Nat} {xs : Nat → Int32} (hL : L ≤ 3072) (h0 : 0 ≤ i) (h1 : i + 6 ≤ L) (hnc : nc + 8 ≤ 601024) (hns : ns + 48 ≤ 7293034) (I : CI h A) (V : MV h A) (kk : ∀ A' h', CI h' A' → MV h' A' → K mL_law (GL L xs) ZL (nc + 8) (ns + 48) 2595 (LwS i) [] h') : K mL_law (GL L xs) ZL nc ns 922 (LwS i) [] h := by
  obtain ⟨Q1, s1, q0⟩ := pair_undo I 
  have q : PQ mX12_undo [] c00 h A Q1 := q0
  refine K_aload_n (a := 30) (dt_at dtL_law_c12 0 rfl) rfl rfl ?_
  refine K_callV (M' := mX11_undo) (a := 30) (ci := 11) (As := []) (st := []) (dt_at dtL_law_c12 1 rfl) s1 (show TT 30 = (0, 11) from rfl) rfl wL_L_166 vX11_undo rfl npX11_undo (by decide) (by decide) (Nat.le_of_ble_eq_true rfl) (show nc + 0 ≤ 601024 by omega) (show ns + 0 ≤ 7293034 by omega) GL_E (fun v9 h9 hq => ?_) (fun E h9 hq => (lawDx q hq).elim)
  obtain ⟨A', y, rfl, I', s2⟩ := lawD V q hq
  refine K_aload_n (a := 0) (dt_at dtL_law_c12 2 rfl) rfl rfl ?_
  refine K_callV (M' := mX12_undo) (a := 0) (ci := 12) (As := []) (st := [vi y]) (dt_at dtL_law_c12 3 rfl) s2 (show TT 0 = (0, 12) from rfl) rfl wL_L_169 vX12_undo rfl npX12_undo (by decide) (by decide) (Nat.le_of_ble_eq_true rfl) (show nc + 0 + 0 ≤ 601024 by omega) (show ns + 0 + 0 ≤ 7293034 by omega) GL_E (fun v9 h10 hq => ?_) (fun E h9 hq => by cases hq.1)
  obtain ⟨e1, V', F, ht⟩ := hq
  cases e1
  refine K_icmp_same (tgt := 2595) (dt_at dtL_law_c12 4 rfl) (by decide) ?_
  refine K_widen (nc2 := nc + 8) (ns2 := ns + 48) (show nc + 0 + 0 ≤ nc + 8 by omega) (show ns + 0 + 0 ≤ ns + 48 by omega) ?_
  exact K_pk [0, 1, 2, 3, 4] (ls' := LwS i) rfl (kk A' h10 (CI_FC I' F) V')
set_option maxHeartbeats 4000000 in
set_option maxRecDepth 100000 in
theorem lw_c13 {h : HP} {A : AS} {i : Int} {nc ns L : Nat} {xs : Nat → Int32} (hL : L ≤ 3072) (h0 : 0 ≤ i) (h1 : i + 6 ≤ L) (hnc : nc + 8 ≤ 601024) (hns : ns + 48 ≤ 7293034) (I : CI h A) (V : MV h A) (kk : ∀ A' h', CI h' A' → MV h' A' → K mL_law (GL L xs) ZL (nc + 8) (ns + 48) 2595 (LwS i) [] h') : K mL_law (GL L xs) ZL nc ns 935 (LwS i) [] h := by
  obtain ⟨Q1, s1, q0⟩ := pair_then I (xv_i xs (i + 1)) (xv_i xs (i + 2)) (xv_i xs (i + 3))
  have q : PQ mX12_then [vi (xv xs (i + 1)), vi (xv xs (i + 2)), vi (xv xs (i + 3))] cNS h A Q1 := q0
  refine K_aload_n (a := 30) (dt_at dtL_law_c13 0 rfl) rfl rfl ?_
  refine K_aload_nS (a := 50) (dt_at dtL_law_c13 1 rfl) rfl rfl ?_
  refine K_iload (x := i) (dt_at dtL_law_c13 2 rfl) rfl ?_
  refine K_iconst (dt_at dtL_law_c13 3 rfl) ?_
  refine K_iadd (dt_at dtL_law_c13 4 rfl) ?_
  refine K_sld (dt_at dtL_law_c13 5 rfl) (by omega) (by omega) (by omega) ?_
  refine K_aload_nS (a := 50) (dt_at dtL_law_c13 6 rfl) rfl rfl ?_
  refine K_iload (x := i) (dt_at dtL_law_c13 7 rfl) rfl ?_
  refine K_iconst (dt_at dtL_law_c13 8 rfl) ?_
  refine K_iadd (dt_at dtL_law_c13 9 rfl) ?_
  refine K_sld (dt_at dtL_law_c13 10 rfl) (by omega) (by omega) (by omega) ?_
  refine K_aload_nS (a := 50) (dt_at dtL_law_c13 11 rfl) rfl rfl ?_
  refine K_iload (x := i) (dt_at dtL_law_c13 12 rfl) rfl ?_
  refine K_iconst (dt_at dtL_law_c13 13 rfl) ?_
  refine K_iadd (dt_at dtL_law_c13 14 rfl) ?_
  refine K_sld (dt_at dtL_law_c13 15 rfl) (by omega) (by omega) (by omega) ?_
  refine K_aload_n (a := 29) (dt_at dtL_law_c13 16 rfl) rfl rfl ?_
  refine K_callH (M' := mL_then) (hh := hL_then) (As := [vr 30, vi (xv xs (i + 1)), vi (xv xs (i + 2)), vi (xv xs (i + 3)), vr 29]) (st := []) (dt_at dtL_law_c13 17 rfl) (sL_then s1 (PQ_ok q)) wL_L_170 vL_then rfl npL_then (by decide) (by decide) (Nat.le_of_ble_eq_true rfl) (show nc + 3 ≤ 601024 by omega) (show ns + 18 ≤ 7293034 by omega) GL_E (fun v9 h9 hq => ?_) (fun E h9 hq => (lawPx hq).elim)
  obtain ⟨A', kq, y, rfl, hk2, I', s2, ho⟩ := lawP cNS_b V q hq
  refine K_istore (ls' := [(5, vi kq), (0, vs 51), (1, vr 30), (2, vr 0), (3, vr 29), (4, vi i)]) (dt_at dtL_law_c13 18 rfl) (by decide) rfl ?_
  refine K_aload_n (a := 0) (dt_at dtL_law_c13 19 rfl) rfl rfl ?_
  refine K_aload_nS (a := 50) (dt_at dtL_law_c13 20 rfl) rfl rfl ?_
  refine K_iload (x := i) (dt_at dtL_law_c13 21 rfl) rfl ?_
  refine K_iconst (dt_at dtL_law_c13 22 rfl) ?_
  refine K_iadd (dt_at dtL_law_c13 23 rfl) ?_
  refine K_sld (dt_at dtL_law_c13 24 rfl) (by omega) (by omega) (by omega) ?_
  refine K_aload_nS (a := 50) (dt_at dtL_law_c13 25 rfl) rfl rfl ?_
  refine K_iload (x := i) (dt_at dtL_law_c13 26 rfl) rfl ?_
  refine K_iconst (dt_at dtL_law_c13 27 rfl) ?_
  refine K_iadd (dt_at dtL_law_c13 28 rfl) ?_
  refine K_sld (dt_at dtL_law_c13 29 rfl) (by omega) (by omega) (by omega) ?_
  refine K_aload_nS (a := 50) (dt_at dtL_law_c13 30 rfl) rfl rfl ?_
  refine K_iload (x := i) (dt_at dtL_law_c13 31 rfl) rfl ?_
  refine K_iconst (dt_at dtL_law_c13 32 rfl) ?_
  refine K_iadd (dt_at dtL_law_c13 33 rfl) ?_
  refine K_sld (dt_at dtL_law_c13 34 rfl) (by omega) (by omega) (by omega) ?_
  refine K_callV (M' := mX12_then) (a := 0) (ci := 12) (As := [vi (xv xs (i + 1)), vi (xv xs (i + 2)), vi (xv xs (i + 3))]) (st := []) (dt_at dtL_law_c13 35 rfl) s2 (show TT 0 = (0, 12) from rfl) rfl wL_L_173 vX12_then rfl npX12_then (by decide) (by decide) (Nat.le_of_ble_eq_true rfl) (show nc + 3 + 0 ≤ 601024 by omega) (show ns + 18 + 0 ≤ 7293034 by omega) GL_E (fun v9 h10 hq => ?_) (fun E h9 hq => by cases hq.1)
  obtain ⟨e1, V', F, ht⟩ := hq
  cases e1
  refine K_istore (ls' := [(6, vi y), (5, vi kq), (0, vs 51), (1, vr 30), (2, vr 0), (3, vr 29), (4, vi i)]) (dt_at dtL_law_c13 36 rfl) (by decide) rfl ?_
  refine K_aload_n (a := 0) (dt_at dtL_law_c13 37 rfl) rfl rfl ?_
  refine K_callV (M' := mX12_thrown) (a := 0) (ci := 12) (As := []) (st := []) (dt_at dtL_law_c13 38 rfl) sX12_thrown (show TT 0 = (0, 12) from rfl) rfl wL_L_129 vX12_thrown rfl npX12_thrown (by decide) (by decide) (Nat.le_of_ble_eq_true rfl) (show nc + 3 + 0 + 0 ≤ 601024 by omega) (show ns + 18 + 0 + 0 ≤ 7293034 by omega) GL_E (fun v9 h11 hq => ?_) (fun E h9 hq => by cases hq.1)
  obtain ⟨e1, e2⟩ := hq
  cases e1
  rw [e2, ht]
  refine K_iload (x := kq) (dt_at dtL_law_c13 39 rfl) rfl ?_
  refine K_icmp_same (tgt := 995) (dt_at dtL_law_c13 40 rfl) (by decide) ?_
  refine K_iload (x := kq) (dt_at dtL_law_c13 43 rfl) rfl ?_
  refine K_if_ne (tgt := 1012) (dt_at dtL_law_c13 44 rfl) (by decide) hk2 (fun z9 => ?_) (fun z9 => ?_)
  · skip
    refine K_goto (tgt := 2595) (dt_at dtL_law_c13 54 rfl) (by decide) ?_
    refine K_widen (nc2 := nc + 8) (ns2 := ns + 48) (show nc + 3 + 0 + 0 ≤ nc + 8 by omega) (show ns + 18 + 0 + 0 ≤ ns + 48 by omega) ?_
    exact K_pk [2, 3, 4, 5, 6] (ls' := LwS i) rfl (kk A' h10 (CI_FC I' F) V')
  · have z8 : kq = 0 := z9
    have hz : hA h10 29 0 = wr y := by rw [F.1 29 (by omega)]; exact ho z8
    refine K_aload_n (a := 29) (dt_at dtL_law_c13 45 rfl) rfl rfl ?_
    refine K_iconst (dt_at dtL_law_c13 46 rfl) ?_
    refine K_lald (a := 29) (n := 1) (dt_at dtL_law_c13 47 rfl) rfl (by decide) (by decide) ?_
    rw [hz]
    refine K_iload (x := y) (dt_at dtL_law_c13 48 rfl) rfl ?_
    refine K_i2lw (dt_at dtL_law_c13 49 rfl) ?_
    refine K_lcmpS (dt_at dtL_law_c13 50 rfl) (wr_64 y) ?_
    refine K_if_eq (tgt := 1012) (dt_at dtL_law_c13 51 rfl) (by decide) ⟨by decide, by decide⟩ (fun _ => ?_) (fun z7 => (z7 rfl).elim)
    refine K_goto (tgt := 2595) (dt_at dtL_law_c13 54 rfl) (by decide) ?_
    refine K_widen (nc2 := nc + 8) (ns2 := ns + 48) (show nc + 3 + 0 + 0 ≤ nc + 8 by omega) (show ns + 18 + 0 + 0 ≤ ns + 48 by omega) ?_
    exact K_pk [2, 3, 4, 5, 6] (ls' := LwS i) rfl (kk A' h10 (CI_FC I' F) V')
set_option maxHeartbeats 4000000 in
set_option maxRecDepth 100000 in
theorem lw_c14 {h : HP} {A : AS} {i : Int} {nc ns L : Nat} {xs : Nat → Int32} (hL : L ≤ 3072) (h0 : 0 ≤ i) (h1 : i + 6 ≤ L) (hnc : nc + 8 ≤ 601024) (hns : ns + 48 ≤ 7293034) (I : CI h A) (V : MV h A) (kk : ∀ A' h', CI h' A' → MV h' A' → K mL_law (GL L xs) ZL (nc + 8) (ns + 48) 2595 (LwS i) [] h') : K mL_law (GL L xs) ZL nc ns 1015 (LwS i) [] h := by
  obtain ⟨Q1, s1, q0⟩ := pair_packed I (xv_i xs (i + 1)) (xv_i xs (i + 2)) (xv_i xs (i + 3))
  have q : PQ mX12_packed [vi (xv xs (i + 1)), vi (xv xs (i + 2)), vi (xv xs (i + 3))] cNS h A Q1 := q0
  refine K_aload_n (a := 30) (dt_at dtL_law_c14 0 rfl) rfl rfl ?_
  refine K_aload_nS (a := 50) (dt_at dtL_law_c14 1 rfl) rfl rfl ?_
  refine K_iload (x := i) (dt_at dtL_law_c14 2 rfl) rfl ?_
  refine K_iconst (dt_at dtL_law_c14 3 rfl) ?_
  refine K_iadd (dt_at dtL_law_c14 4 rfl) ?_
  refine K_sld (dt_at dtL_law_c14 5 rfl) (by omega) (by omega) (by omega) ?_
  refine K_aload_nS (a := 50) (dt_at dtL_law_c14 6 rfl) rfl rfl ?_
  refine K_iload (x := i) (dt_at dtL_law_c14 7 rfl) rfl ?_
  refine K_iconst (dt_at dtL_law_c14 8 rfl) ?_
  refine K_iadd (dt_at dtL_law_c14 9 rfl) ?_
  refine K_sld (dt_at dtL_law_c14 10 rfl) (by omega) (by omega) (by omega) ?_
  refine K_aload_nS (a := 50) (dt_at dtL_law_c14 11 rfl) rfl rfl ?_
  refine K_iload (x := i) (dt_at dtL_law_c14 12 rfl) rfl ?_
  refine K_iconst (dt_at dtL_law_c14 13 rfl) ?_
  refine K_iadd (dt_at dtL_law_c14 14 rfl) ?_
  refine K_sld (dt_at dtL_law_c14 15 rfl) (by omega) (by omega) (by omega) ?_
  refine K_aload_n (a := 29) (dt_at dtL_law_c14 16 rfl) rfl rfl ?_
  refine K_callH (M' := mL_packed) (hh := hL_packed) (As := [vr 30, vi (xv xs (i + 1)), vi (xv xs (i + 2)), vi (xv xs (i + 3)), vr 29]) (st := []) (dt_at dtL_law_c14 17 rfl) (sL_packed s1 (PQ_ok q)) wL_L_174 vL_packed rfl npL_packed (by decide) (by decide) (Nat.le_of_ble_eq_true rfl) (show nc + 3 ≤ 601024 by omega) (show ns + 18 ≤ 7293034 by omega) GL_E (fun v9 h9 hq => ?_) (fun E h9 hq => (lawPx hq).elim)
  obtain ⟨A', kq, y, rfl, hk2, I', s2, ho⟩ := lawP cNS_b V q hq
  refine K_istore (ls' := [(5, vi kq), (0, vs 51), (1, vr 30), (2, vr 0), (3, vr 29), (4, vi i)]) (dt_at dtL_law_c14 18 rfl) (by decide) rfl ?_
  refine K_aload_n (a := 0) (dt_at dtL_law_c14 19 rfl) rfl rfl ?_
  refine K_aload_nS (a := 50) (dt_at dtL_law_c14 20 rfl) rfl rfl ?_
  refine K_iload (x := i) (dt_at dtL_law_c14 21 rfl) rfl ?_
  refine K_iconst (dt_at dtL_law_c14 22 rfl) ?_
  refine K_iadd (dt_at dtL_law_c14 23 rfl) ?_
  refine K_sld (dt_at dtL_law_c14 24 rfl) (by omega) (by omega) (by omega) ?_
  refine K_aload_nS (a := 50) (dt_at dtL_law_c14 25 rfl) rfl rfl ?_
  refine K_iload (x := i) (dt_at dtL_law_c14 26 rfl) rfl ?_
  refine K_iconst (dt_at dtL_law_c14 27 rfl) ?_
  refine K_iadd (dt_at dtL_law_c14 28 rfl) ?_
  refine K_sld (dt_at dtL_law_c14 29 rfl) (by omega) (by omega) (by omega) ?_
  refine K_aload_nS (a := 50) (dt_at dtL_law_c14 30 rfl) rfl rfl ?_
  refine K_iload (x := i) (dt_at dtL_law_c14 31 rfl) rfl ?_
  refine K_iconst (dt_at dtL_law_c14 32 rfl) ?_
  refine K_iadd (dt_at dtL_law_c14 33 rfl) ?_
  refine K_sld (dt_at dtL_law_c14 34 rfl) (by omega) (by omega) (by omega) ?_
  refine K_callV (M' := mX12_packed) (a := 0) (ci := 12) (As := [vi (xv xs (i + 1)), vi (xv xs (i + 2)), vi (xv xs (i + 3))]) (st := []) (dt_at dtL_law_c14 35 rfl) s2 (show TT 0 = (0, 12) from rfl) rfl wL_L_176 vX12_packed rfl npX12_packed (by decide) (by decide) (Nat.le_of_ble_eq_true rfl) (show nc + 3 + 0 ≤ 601024 by omega) (show ns + 18 + 0 ≤ 7293034 by omega) GL_E (fun v9 h10 hq => ?_) (fun E h9 hq => by cases hq.1)
  obtain ⟨e1, V', F, ht⟩ := hq
  cases e1
  refine K_istore (ls' := [(6, vi y), (5, vi kq), (0, vs 51), (1, vr 30), (2, vr 0), (3, vr 29), (4, vi i)]) (dt_at dtL_law_c14 36 rfl) (by decide) rfl ?_
  refine K_aload_n (a := 0) (dt_at dtL_law_c14 37 rfl) rfl rfl ?_
  refine K_callV (M' := mX12_thrown) (a := 0) (ci := 12) (As := []) (st := []) (dt_at dtL_law_c14 38 rfl) sX12_thrown (show TT 0 = (0, 12) from rfl) rfl wL_L_129 vX12_thrown rfl npX12_thrown (by decide) (by decide) (Nat.le_of_ble_eq_true rfl) (show nc + 3 + 0 + 0 ≤ 601024 by omega) (show ns + 18 + 0 + 0 ≤ 7293034 by omega) GL_E (fun v9 h11 hq => ?_) (fun E h9 hq => by cases hq.1)
  obtain ⟨e1, e2⟩ := hq
  cases e1
  rw [e2, ht]
  refine K_iload (x := kq) (dt_at dtL_law_c14 39 rfl) rfl ?_
  refine K_icmp_same (tgt := 1075) (dt_at dtL_law_c14 40 rfl) (by decide) ?_
  refine K_iload (x := kq) (dt_at dtL_law_c14 43 rfl) rfl ?_
  refine K_if_ne (tgt := 1092) (dt_at dtL_law_c14 44 rfl) (by decide) hk2 (fun z9 => ?_) (fun z9 => ?_)
  · skip
    refine K_goto (tgt := 2595) (dt_at dtL_law_c14 54 rfl) (by decide) ?_
    refine K_widen (nc2 := nc + 8) (ns2 := ns + 48) (show nc + 3 + 0 + 0 ≤ nc + 8 by omega) (show ns + 18 + 0 + 0 ≤ ns + 48 by omega) ?_
    exact K_pk [2, 3, 4, 5, 6] (ls' := LwS i) rfl (kk A' h10 (CI_FC I' F) V')
  · have z8 : kq = 0 := z9
    have hz : hA h10 29 0 = wr y := by rw [F.1 29 (by omega)]; exact ho z8
    refine K_aload_n (a := 29) (dt_at dtL_law_c14 45 rfl) rfl rfl ?_
    refine K_iconst (dt_at dtL_law_c14 46 rfl) ?_
    refine K_lald (a := 29) (n := 1) (dt_at dtL_law_c14 47 rfl) rfl (by decide) (by decide) ?_
    rw [hz]
    refine K_iload (x := y) (dt_at dtL_law_c14 48 rfl) rfl ?_
    refine K_i2lw (dt_at dtL_law_c14 49 rfl) ?_
    refine K_lcmpS (dt_at dtL_law_c14 50 rfl) (wr_64 y) ?_
    refine K_if_eq (tgt := 1092) (dt_at dtL_law_c14 51 rfl) (by decide) ⟨by decide, by decide⟩ (fun _ => ?_) (fun z7 => (z7 rfl).elim)
    refine K_goto (tgt := 2595) (dt_at dtL_law_c14 54 rfl) (by decide) ?_
    refine K_widen (nc2 := nc + 8) (ns2 := ns + 48) (show nc + 3 + 0 + 0 ≤ nc + 8 by omega) (show ns + 18 + 0 + 0 ≤ ns + 48 by omega) ?_
    exact K_pk [2, 3, 4, 5, 6] (ls' := LwS i) rfl (kk A' h10 (CI_FC I' F) V')
set_option maxHeartbeats 4000000 in
set_option maxRecDepth 100000 in
theorem lw_c15 {h : HP} {A : AS} {i : Int} {nc ns L : Nat} {xs : Nat → Int32} (hL : L ≤ 3072) (h0 : 0 ≤ i) (h1 : i + 6 ≤ L) (hnc : nc + 8 ≤ 601024) (hns : ns + 48 ≤ 7293034) (I : CI h A) (V : MV h A) (kk : ∀ A' h', CI h' A' → MV h' A' → K mL_law (GL L xs) ZL (nc + 8) (ns + 48) 2595 (LwS i) [] h') : K mL_law (GL L xs) ZL nc ns 1095 (LwS i) [] h := by
  obtain ⟨Q1, s1, q0⟩ := pair_cupboard I (xv_i xs (i + 1)) (xv_i xs (i + 2))
  have q : PQ mX12_cupboard [vi (xv xs (i + 1)), vi (xv xs (i + 2))] cNS h A Q1 := q0
  refine K_aload_n (a := 30) (dt_at dtL_law_c15 0 rfl) rfl rfl ?_
  refine K_aload_nS (a := 50) (dt_at dtL_law_c15 1 rfl) rfl rfl ?_
  refine K_iload (x := i) (dt_at dtL_law_c15 2 rfl) rfl ?_
  refine K_iconst (dt_at dtL_law_c15 3 rfl) ?_
  refine K_iadd (dt_at dtL_law_c15 4 rfl) ?_
  refine K_sld (dt_at dtL_law_c15 5 rfl) (by omega) (by omega) (by omega) ?_
  refine K_aload_nS (a := 50) (dt_at dtL_law_c15 6 rfl) rfl rfl ?_
  refine K_iload (x := i) (dt_at dtL_law_c15 7 rfl) rfl ?_
  refine K_iconst (dt_at dtL_law_c15 8 rfl) ?_
  refine K_iadd (dt_at dtL_law_c15 9 rfl) ?_
  refine K_sld (dt_at dtL_law_c15 10 rfl) (by omega) (by omega) (by omega) ?_
  refine K_aload_n (a := 29) (dt_at dtL_law_c15 11 rfl) rfl rfl ?_
  refine K_callH (M' := mL_cupboard) (hh := hL_cupboard) (As := [vr 30, vi (xv xs (i + 1)), vi (xv xs (i + 2)), vr 29]) (st := []) (dt_at dtL_law_c15 12 rfl) (sL_cupboard s1 (PQ_ok q)) wL_L_177 vL_cupboard rfl npL_cupboard (by decide) (by decide) (Nat.le_of_ble_eq_true rfl) (show nc + 2 ≤ 601024 by omega) (show ns + 12 ≤ 7293034 by omega) GL_E (fun v9 h9 hq => ?_) (fun E h9 hq => (lawPx hq).elim)
  obtain ⟨A', kq, y, rfl, hk2, I', s2, ho⟩ := lawP cNS_b V q hq
  refine K_istore (ls' := [(5, vi kq), (0, vs 51), (1, vr 30), (2, vr 0), (3, vr 29), (4, vi i)]) (dt_at dtL_law_c15 13 rfl) (by decide) rfl ?_
  refine K_aload_n (a := 0) (dt_at dtL_law_c15 14 rfl) rfl rfl ?_
  refine K_aload_nS (a := 50) (dt_at dtL_law_c15 15 rfl) rfl rfl ?_
  refine K_iload (x := i) (dt_at dtL_law_c15 16 rfl) rfl ?_
  refine K_iconst (dt_at dtL_law_c15 17 rfl) ?_
  refine K_iadd (dt_at dtL_law_c15 18 rfl) ?_
  refine K_sld (dt_at dtL_law_c15 19 rfl) (by omega) (by omega) (by omega) ?_
  refine K_aload_nS (a := 50) (dt_at dtL_law_c15 20 rfl) rfl rfl ?_
  refine K_iload (x := i) (dt_at dtL_law_c15 21 rfl) rfl ?_
  refine K_iconst (dt_at dtL_law_c15 22 rfl) ?_
  refine K_iadd (dt_at dtL_law_c15 23 rfl) ?_
  refine K_sld (dt_at dtL_law_c15 24 rfl) (by omega) (by omega) (by omega) ?_
  refine K_callV (M' := mX12_cupboard) (a := 0) (ci := 12) (As := [vi (xv xs (i + 1)), vi (xv xs (i + 2))]) (st := []) (dt_at dtL_law_c15 25 rfl) s2 (show TT 0 = (0, 12) from rfl) rfl wL_L_179 vX12_cupboard rfl npX12_cupboard (by decide) (by decide) (Nat.le_of_ble_eq_true rfl) (show nc + 2 + 0 ≤ 601024 by omega) (show ns + 12 + 0 ≤ 7293034 by omega) GL_E (fun v9 h10 hq => ?_) (fun E h9 hq => by cases hq.1)
  obtain ⟨e1, V', F, ht⟩ := hq
  cases e1
  refine K_istore (ls' := [(6, vi y), (5, vi kq), (0, vs 51), (1, vr 30), (2, vr 0), (3, vr 29), (4, vi i)]) (dt_at dtL_law_c15 26 rfl) (by decide) rfl ?_
  refine K_aload_n (a := 0) (dt_at dtL_law_c15 27 rfl) rfl rfl ?_
  refine K_callV (M' := mX12_thrown) (a := 0) (ci := 12) (As := []) (st := []) (dt_at dtL_law_c15 28 rfl) sX12_thrown (show TT 0 = (0, 12) from rfl) rfl wL_L_129 vX12_thrown rfl npX12_thrown (by decide) (by decide) (Nat.le_of_ble_eq_true rfl) (show nc + 2 + 0 + 0 ≤ 601024 by omega) (show ns + 12 + 0 + 0 ≤ 7293034 by omega) GL_E (fun v9 h11 hq => ?_) (fun E h9 hq => by cases hq.1)
  obtain ⟨e1, e2⟩ := hq
  cases e1
  rw [e2, ht]
  refine K_iload (x := kq) (dt_at dtL_law_c15 29 rfl) rfl ?_
  refine K_icmp_same (tgt := 1143) (dt_at dtL_law_c15 30 rfl) (by decide) ?_
  refine K_iload (x := kq) (dt_at dtL_law_c15 33 rfl) rfl ?_
  refine K_if_ne (tgt := 1160) (dt_at dtL_law_c15 34 rfl) (by decide) hk2 (fun z9 => ?_) (fun z9 => ?_)
  · skip
    refine K_goto (tgt := 2595) (dt_at dtL_law_c15 44 rfl) (by decide) ?_
    refine K_widen (nc2 := nc + 8) (ns2 := ns + 48) (show nc + 2 + 0 + 0 ≤ nc + 8 by omega) (show ns + 12 + 0 + 0 ≤ ns + 48 by omega) ?_
    exact K_pk [2, 3, 4, 5, 6] (ls' := LwS i) rfl (kk A' h10 (CI_FC I' F) V')
  · have z8 : kq = 0 := z9
    have hz : hA h10 29 0 = wr y := by rw [F.1 29 (by omega)]; exact ho z8
    refine K_aload_n (a := 29) (dt_at dtL_law_c15 35 rfl) rfl rfl ?_
    refine K_iconst (dt_at dtL_law_c15 36 rfl) ?_
    refine K_lald (a := 29) (n := 1) (dt_at dtL_law_c15 37 rfl) rfl (by decide) (by decide) ?_
    rw [hz]
    refine K_iload (x := y) (dt_at dtL_law_c15 38 rfl) rfl ?_
    refine K_i2lw (dt_at dtL_law_c15 39 rfl) ?_
    refine K_lcmpS (dt_at dtL_law_c15 40 rfl) (wr_64 y) ?_
    refine K_if_eq (tgt := 1160) (dt_at dtL_law_c15 41 rfl) (by decide) ⟨by decide, by decide⟩ (fun _ => ?_) (fun z7 => (z7 rfl).elim)
    refine K_goto (tgt := 2595) (dt_at dtL_law_c15 44 rfl) (by decide) ?_
    refine K_widen (nc2 := nc + 8) (ns2 := ns + 48) (show nc + 2 + 0 + 0 ≤ nc + 8 by omega) (show ns + 12 + 0 + 0 ≤ ns + 48 by omega) ?_
    exact K_pk [2, 3, 4, 5, 6] (ls' := LwS i) rfl (kk A' h10 (CI_FC I' F) V')
set_option maxHeartbeats 4000000 in
set_option maxRecDepth 100000 in
theorem lw_c16 {h : HP} {A : AS} {i : Int} {nc ns L : Nat} {xs : Nat → Int32} (hL : L ≤ 3072) (h0 : 0 ≤ i) (h1 : i + 6 ≤ L) (hnc : nc + 8 ≤ 601024) (hns : ns + 48 ≤ 7293034) (I : CI h A) (V : MV h A) (kk : ∀ A' h', CI h' A' → MV h' A' → K mL_law (GL L xs) ZL (nc + 8) (ns + 48) 2595 (LwS i) [] h') : K mL_law (GL L xs) ZL nc ns 1163 (LwS i) [] h := by
  obtain ⟨Q1, s1, q0⟩ := pair_later I (xv_i xs (i + 1)) (xv_i xs (i + 2))
  have q : PQ mX12_later [vi (xv xs (i + 1)), vi (xv xs (i + 2))] cNS h A Q1 := q0
  refine K_aload_n (a := 30) (dt_at dtL_law_c16 0 rfl) rfl rfl ?_
  refine K_aload_nS (a := 50) (dt_at dtL_law_c16 1 rfl) rfl rfl ?_
  refine K_iload (x := i) (dt_at dtL_law_c16 2 rfl) rfl ?_
  refine K_iconst (dt_at dtL_law_c16 3 rfl) ?_
  refine K_iadd (dt_at dtL_law_c16 4 rfl) ?_
  refine K_sld (dt_at dtL_law_c16 5 rfl) (by omega) (by omega) (by omega) ?_
  refine K_aload_nS (a := 50) (dt_at dtL_law_c16 6 rfl) rfl rfl ?_
  refine K_iload (x := i) (dt_at dtL_law_c16 7 rfl) rfl ?_
  refine K_iconst (dt_at dtL_law_c16 8 rfl) ?_
  refine K_iadd (dt_at dtL_law_c16 9 rfl) ?_
  refine K_sld (dt_at dtL_law_c16 10 rfl) (by omega) (by omega) (by omega) ?_
  refine K_aload_n (a := 29) (dt_at dtL_law_c16 11 rfl) rfl rfl ?_
  refine K_callH (M' := mL_later) (hh := hL_later) (As := [vr 30, vi (xv xs (i + 1)), vi (xv xs (i + 2)), vr 29]) (st := []) (dt_at dtL_law_c16 12 rfl) (sL_later s1 (PQ_ok q)) wL_L_180 vL_later rfl npL_later (by decide) (by decide) (Nat.le_of_ble_eq_true rfl) (show nc + 2 ≤ 601024 by omega) (show ns + 12 ≤ 7293034 by omega) GL_E (fun v9 h9 hq => ?_) (fun E h9 hq => (lawPx hq).elim)
  obtain ⟨A', kq, y, rfl, hk2, I', s2, ho⟩ := lawP cNS_b V q hq
  refine K_istore (ls' := [(5, vi kq), (0, vs 51), (1, vr 30), (2, vr 0), (3, vr 29), (4, vi i)]) (dt_at dtL_law_c16 13 rfl) (by decide) rfl ?_
  refine K_aload_n (a := 0) (dt_at dtL_law_c16 14 rfl) rfl rfl ?_
  refine K_aload_nS (a := 50) (dt_at dtL_law_c16 15 rfl) rfl rfl ?_
  refine K_iload (x := i) (dt_at dtL_law_c16 16 rfl) rfl ?_
  refine K_iconst (dt_at dtL_law_c16 17 rfl) ?_
  refine K_iadd (dt_at dtL_law_c16 18 rfl) ?_
  refine K_sld (dt_at dtL_law_c16 19 rfl) (by omega) (by omega) (by omega) ?_
  refine K_aload_nS (a := 50) (dt_at dtL_law_c16 20 rfl) rfl rfl ?_
  refine K_iload (x := i) (dt_at dtL_law_c16 21 rfl) rfl ?_
  refine K_iconst (dt_at dtL_law_c16 22 rfl) ?_
  refine K_iadd (dt_at dtL_law_c16 23 rfl) ?_
  refine K_sld (dt_at dtL_law_c16 24 rfl) (by omega) (by omega) (by omega) ?_
  refine K_callV (M' := mX12_later) (a := 0) (ci := 12) (As := [vi (xv xs (i + 1)), vi (xv xs (i + 2))]) (st := []) (dt_at dtL_law_c16 25 rfl) s2 (show TT 0 = (0, 12) from rfl) rfl wL_L_182 vX12_later rfl npX12_later (by decide) (by decide) (Nat.le_of_ble_eq_true rfl) (show nc + 2 + 0 ≤ 601024 by omega) (show ns + 12 + 0 ≤ 7293034 by omega) GL_E (fun v9 h10 hq => ?_) (fun E h9 hq => by cases hq.1)
  obtain ⟨e1, V', F, ht⟩ := hq
  cases e1
  refine K_istore (ls' := [(6, vi y), (5, vi kq), (0, vs 51), (1, vr 30), (2, vr 0), (3, vr 29), (4, vi i)]) (dt_at dtL_law_c16 26 rfl) (by decide) rfl ?_
  refine K_aload_n (a := 0) (dt_at dtL_law_c16 27 rfl) rfl rfl ?_
  refine K_callV (M' := mX12_thrown) (a := 0) (ci := 12) (As := []) (st := []) (dt_at dtL_law_c16 28 rfl) sX12_thrown (show TT 0 = (0, 12) from rfl) rfl wL_L_129 vX12_thrown rfl npX12_thrown (by decide) (by decide) (Nat.le_of_ble_eq_true rfl) (show nc + 2 + 0 + 0 ≤ 601024 by omega) (show ns + 12 + 0 + 0 ≤ 7293034 by omega) GL_E (fun v9 h11 hq => ?_) (fun E h9 hq => by cases hq.1)
  obtain ⟨e1, e2⟩ := hq
  cases e1
  rw [e2, ht]
  refine K_iload (x := kq) (dt_at dtL_law_c16 29 rfl) rfl ?_
  refine K_icmp_same (tgt := 1211) (dt_at dtL_law_c16 30 rfl) (by decide) ?_
  refine K_iload (x := kq) (dt_at dtL_law_c16 33 rfl) rfl ?_
  refine K_if_ne (tgt := 1228) (dt_at dtL_law_c16 34 rfl) (by decide) hk2 (fun z9 => ?_) (fun z9 => ?_)
  · skip
    refine K_goto (tgt := 2595) (dt_at dtL_law_c16 44 rfl) (by decide) ?_
    refine K_widen (nc2 := nc + 8) (ns2 := ns + 48) (show nc + 2 + 0 + 0 ≤ nc + 8 by omega) (show ns + 12 + 0 + 0 ≤ ns + 48 by omega) ?_
    exact K_pk [2, 3, 4, 5, 6] (ls' := LwS i) rfl (kk A' h10 (CI_FC I' F) V')
  · have z8 : kq = 0 := z9
    have hz : hA h10 29 0 = wr y := by rw [F.1 29 (by omega)]; exact ho z8
    refine K_aload_n (a := 29) (dt_at dtL_law_c16 35 rfl) rfl rfl ?_
    refine K_iconst (dt_at dtL_law_c16 36 rfl) ?_
    refine K_lald (a := 29) (n := 1) (dt_at dtL_law_c16 37 rfl) rfl (by decide) (by decide) ?_
    rw [hz]
    refine K_iload (x := y) (dt_at dtL_law_c16 38 rfl) rfl ?_
    refine K_i2lw (dt_at dtL_law_c16 39 rfl) ?_
    refine K_lcmpS (dt_at dtL_law_c16 40 rfl) (wr_64 y) ?_
    refine K_if_eq (tgt := 1228) (dt_at dtL_law_c16 41 rfl) (by decide) ⟨by decide, by decide⟩ (fun _ => ?_) (fun z7 => (z7 rfl).elim)
    refine K_goto (tgt := 2595) (dt_at dtL_law_c16 44 rfl) (by decide) ?_
    refine K_widen (nc2 := nc + 8) (ns2 := ns + 48) (show nc + 2 + 0 + 0 ≤ nc + 8 by omega) (show ns + 12 + 0 + 0 ≤ ns + 48 by omega) ?_
    exact K_pk [2, 3, 4, 5, 6] (ls' := LwS i) rfl (kk A' h10 (CI_FC I' F) V')
set_option maxHeartbeats 4000000 in
set_option maxRecDepth 100000 in
theorem lw_c17 {h : HP} {A : AS} {i : Int} {nc ns L : Nat} {xs : Nat → Int32} (hL : L ≤ 3072) (h0 : 0 ≤ i) (h1 : i + 6 ≤ L) (hnc : nc + 8 ≤ 601024) (hns : ns + 48 ≤ 7293034) (I : CI h A) (V : MV h A) (kk : ∀ A' h', CI h' A' → MV h' A' → K mL_law (GL L xs) ZL (nc + 8) (ns + 48) 2595 (LwS i) [] h') : K mL_law (GL L xs) ZL nc ns 1231 (LwS i) [] h := by
  obtain ⟨Q1, s1, q0⟩ := pair_next I (xv_i xs (i + 1))
  have q : PQ mX12_next [vi (xv xs (i + 1))] cN1 h A Q1 := q0
  refine K_aload_n (a := 30) (dt_at dtL_law_c17 0 rfl) rfl rfl ?_
  refine K_aload_nS (a := 50) (dt_at dtL_law_c17 1 rfl) rfl rfl ?_
  refine K_iload (x := i) (dt_at dtL_law_c17 2 rfl) rfl ?_
  refine K_iconst (dt_at dtL_law_c17 3 rfl) ?_
  refine K_iadd (dt_at dtL_law_c17 4 rfl) ?_
  refine K_sld (dt_at dtL_law_c17 5 rfl) (by omega) (by omega) (by omega) ?_
  refine K_aload_n (a := 29) (dt_at dtL_law_c17 6 rfl) rfl rfl ?_
  refine K_callH (M' := mL_next) (hh := hL_next) (As := [vr 30, vi (xv xs (i + 1)), vr 29]) (st := []) (dt_at dtL_law_c17 7 rfl) (sL_next s1 (PQ_ok q)) wL_L_183 vL_next rfl npL_next (by decide) (by decide) (Nat.le_of_ble_eq_true rfl) (show nc + 1 ≤ 601024 by omega) (show ns + 6 ≤ 7293034 by omega) GL_E (fun v9 h9 hq => ?_) (fun E h9 hq => (lawPx hq).elim)
  obtain ⟨A', kq, y, rfl, hk2, I', s2, ho⟩ := lawP cN1_b V q hq
  refine K_istore (ls' := [(5, vi kq), (0, vs 51), (1, vr 30), (2, vr 0), (3, vr 29), (4, vi i)]) (dt_at dtL_law_c17 8 rfl) (by decide) rfl ?_
  refine K_aload_n (a := 0) (dt_at dtL_law_c17 9 rfl) rfl rfl ?_
  refine K_aload_nS (a := 50) (dt_at dtL_law_c17 10 rfl) rfl rfl ?_
  refine K_iload (x := i) (dt_at dtL_law_c17 11 rfl) rfl ?_
  refine K_iconst (dt_at dtL_law_c17 12 rfl) ?_
  refine K_iadd (dt_at dtL_law_c17 13 rfl) ?_
  refine K_sld (dt_at dtL_law_c17 14 rfl) (by omega) (by omega) (by omega) ?_
  refine K_callV (M' := mX12_next) (a := 0) (ci := 12) (As := [vi (xv xs (i + 1))]) (st := []) (dt_at dtL_law_c17 15 rfl) s2 (show TT 0 = (0, 12) from rfl) rfl wL_L_185 vX12_next rfl npX12_next (by decide) (by decide) (Nat.le_of_ble_eq_true rfl) (show nc + 1 + 0 ≤ 601024 by omega) (show ns + 6 + 0 ≤ 7293034 by omega) GL_E (fun v9 h10 hq => ?_) (fun E h9 hq => by cases hq.1)
  obtain ⟨e1, V', F, ht⟩ := hq
  cases e1
  refine K_istore (ls' := [(6, vi y), (5, vi kq), (0, vs 51), (1, vr 30), (2, vr 0), (3, vr 29), (4, vi i)]) (dt_at dtL_law_c17 16 rfl) (by decide) rfl ?_
  refine K_aload_n (a := 0) (dt_at dtL_law_c17 17 rfl) rfl rfl ?_
  refine K_callV (M' := mX12_thrown) (a := 0) (ci := 12) (As := []) (st := []) (dt_at dtL_law_c17 18 rfl) sX12_thrown (show TT 0 = (0, 12) from rfl) rfl wL_L_129 vX12_thrown rfl npX12_thrown (by decide) (by decide) (Nat.le_of_ble_eq_true rfl) (show nc + 1 + 0 + 0 ≤ 601024 by omega) (show ns + 6 + 0 + 0 ≤ 7293034 by omega) GL_E (fun v9 h11 hq => ?_) (fun E h9 hq => by cases hq.1)
  obtain ⟨e1, e2⟩ := hq
  cases e1
  rw [e2, ht]
  refine K_iload (x := kq) (dt_at dtL_law_c17 19 rfl) rfl ?_
  refine K_icmp_same (tgt := 1267) (dt_at dtL_law_c17 20 rfl) (by decide) ?_
  refine K_iload (x := kq) (dt_at dtL_law_c17 23 rfl) rfl ?_
  refine K_if_ne (tgt := 1284) (dt_at dtL_law_c17 24 rfl) (by decide) hk2 (fun z9 => ?_) (fun z9 => ?_)
  · skip
    refine K_goto (tgt := 2595) (dt_at dtL_law_c17 34 rfl) (by decide) ?_
    refine K_widen (nc2 := nc + 8) (ns2 := ns + 48) (show nc + 1 + 0 + 0 ≤ nc + 8 by omega) (show ns + 6 + 0 + 0 ≤ ns + 48 by omega) ?_
    exact K_pk [2, 3, 4, 5, 6] (ls' := LwS i) rfl (kk A' h10 (CI_FC I' F) V')
  · have z8 : kq = 0 := z9
    have hz : hA h10 29 0 = wr y := by rw [F.1 29 (by omega)]; exact ho z8
    refine K_aload_n (a := 29) (dt_at dtL_law_c17 25 rfl) rfl rfl ?_
    refine K_iconst (dt_at dtL_law_c17 26 rfl) ?_
    refine K_lald (a := 29) (n := 1) (dt_at dtL_law_c17 27 rfl) rfl (by decide) (by decide) ?_
    rw [hz]
    refine K_iload (x := y) (dt_at dtL_law_c17 28 rfl) rfl ?_
    refine K_i2lw (dt_at dtL_law_c17 29 rfl) ?_
    refine K_lcmpS (dt_at dtL_law_c17 30 rfl) (wr_64 y) ?_
    refine K_if_eq (tgt := 1284) (dt_at dtL_law_c17 31 rfl) (by decide) ⟨by decide, by decide⟩ (fun _ => ?_) (fun z7 => (z7 rfl).elim)
    refine K_goto (tgt := 2595) (dt_at dtL_law_c17 34 rfl) (by decide) ?_
    refine K_widen (nc2 := nc + 8) (ns2 := ns + 48) (show nc + 1 + 0 + 0 ≤ nc + 8 by omega) (show ns + 6 + 0 + 0 ≤ ns + 48 by omega) ?_
    exact K_pk [2, 3, 4, 5, 6] (ls' := LwS i) rfl (kk A' h10 (CI_FC I' F) V')
set_option maxHeartbeats 4000000 in
set_option maxRecDepth 100000 in
theorem lw_c18 {h : HP} {A : AS} {i : Int} {nc ns L : Nat} {xs : Nat → Int32} (hL : L ≤ 3072) (h0 : 0 ≤ i) (h1 : i + 6 ≤ L) (hnc : nc + 8 ≤ 601024) (hns : ns + 48 ≤ 7293034) (I : CI h A) (V : MV h A) (kk : ∀ A' h', CI h' A' → MV h' A' → K mL_law (GL L xs) ZL (nc + 8) (ns + 48) 2595 (LwS i) [] h') : K mL_law (GL L xs) ZL nc ns 1287 (LwS i) [] h := by
  obtain ⟨Q1, s1, q0⟩ := pair_lacking I (xv_i xs (i + 1))
  have q : PQ mX12_lacking [vi (xv xs (i + 1))] cN1 h A Q1 := q0
  refine K_aload_n (a := 30) (dt_at dtL_law_c18 0 rfl) rfl rfl ?_
  refine K_aload_nS (a := 50) (dt_at dtL_law_c18 1 rfl) rfl rfl ?_
  refine K_iload (x := i) (dt_at dtL_law_c18 2 rfl) rfl ?_
  refine K_iconst (dt_at dtL_law_c18 3 rfl) ?_
  refine K_iadd (dt_at dtL_law_c18 4 rfl) ?_
  refine K_sld (dt_at dtL_law_c18 5 rfl) (by omega) (by omega) (by omega) ?_
  refine K_aload_n (a := 29) (dt_at dtL_law_c18 6 rfl) rfl rfl ?_
  refine K_callH (M' := mL_lacking) (hh := hL_lacking) (As := [vr 30, vi (xv xs (i + 1)), vr 29]) (st := []) (dt_at dtL_law_c18 7 rfl) (sL_lacking s1 (PQ_ok q)) wL_L_186 vL_lacking rfl npL_lacking (by decide) (by decide) (Nat.le_of_ble_eq_true rfl) (show nc + 1 ≤ 601024 by omega) (show ns + 6 ≤ 7293034 by omega) GL_E (fun v9 h9 hq => ?_) (fun E h9 hq => (lawPx hq).elim)
  obtain ⟨A', kq, y, rfl, hk2, I', s2, ho⟩ := lawP cN1_b V q hq
  refine K_istore (ls' := [(5, vi kq), (0, vs 51), (1, vr 30), (2, vr 0), (3, vr 29), (4, vi i)]) (dt_at dtL_law_c18 8 rfl) (by decide) rfl ?_
  refine K_aload_n (a := 0) (dt_at dtL_law_c18 9 rfl) rfl rfl ?_
  refine K_aload_nS (a := 50) (dt_at dtL_law_c18 10 rfl) rfl rfl ?_
  refine K_iload (x := i) (dt_at dtL_law_c18 11 rfl) rfl ?_
  refine K_iconst (dt_at dtL_law_c18 12 rfl) ?_
  refine K_iadd (dt_at dtL_law_c18 13 rfl) ?_
  refine K_sld (dt_at dtL_law_c18 14 rfl) (by omega) (by omega) (by omega) ?_
  refine K_callV (M' := mX12_lacking) (a := 0) (ci := 12) (As := [vi (xv xs (i + 1))]) (st := []) (dt_at dtL_law_c18 15 rfl) s2 (show TT 0 = (0, 12) from rfl) rfl wL_L_188 vX12_lacking rfl npX12_lacking (by decide) (by decide) (Nat.le_of_ble_eq_true rfl) (show nc + 1 + 0 ≤ 601024 by omega) (show ns + 6 + 0 ≤ 7293034 by omega) GL_E (fun v9 h10 hq => ?_) (fun E h9 hq => by cases hq.1)
  obtain ⟨e1, V', F, ht⟩ := hq
  cases e1
  refine K_istore (ls' := [(6, vi y), (5, vi kq), (0, vs 51), (1, vr 30), (2, vr 0), (3, vr 29), (4, vi i)]) (dt_at dtL_law_c18 16 rfl) (by decide) rfl ?_
  refine K_aload_n (a := 0) (dt_at dtL_law_c18 17 rfl) rfl rfl ?_
  refine K_callV (M' := mX12_thrown) (a := 0) (ci := 12) (As := []) (st := []) (dt_at dtL_law_c18 18 rfl) sX12_thrown (show TT 0 = (0, 12) from rfl) rfl wL_L_129 vX12_thrown rfl npX12_thrown (by decide) (by decide) (Nat.le_of_ble_eq_true rfl) (show nc + 1 + 0 + 0 ≤ 601024 by omega) (show ns + 6 + 0 + 0 ≤ 7293034 by omega) GL_E (fun v9 h11 hq => ?_) (fun E h9 hq => by cases hq.1)
  obtain ⟨e1, e2⟩ := hq
  cases e1
  rw [e2, ht]
  refine K_iload (x := kq) (dt_at dtL_law_c18 19 rfl) rfl ?_
  refine K_icmp_same (tgt := 1323) (dt_at dtL_law_c18 20 rfl) (by decide) ?_
  refine K_iload (x := kq) (dt_at dtL_law_c18 23 rfl) rfl ?_
  refine K_if_ne (tgt := 1340) (dt_at dtL_law_c18 24 rfl) (by decide) hk2 (fun z9 => ?_) (fun z9 => ?_)
  · skip
    refine K_goto (tgt := 2595) (dt_at dtL_law_c18 34 rfl) (by decide) ?_
    refine K_widen (nc2 := nc + 8) (ns2 := ns + 48) (show nc + 1 + 0 + 0 ≤ nc + 8 by omega) (show ns + 6 + 0 + 0 ≤ ns + 48 by omega) ?_
    exact K_pk [2, 3, 4, 5, 6] (ls' := LwS i) rfl (kk A' h10 (CI_FC I' F) V')
  · have z8 : kq = 0 := z9
    have hz : hA h10 29 0 = wr y := by rw [F.1 29 (by omega)]; exact ho z8
    refine K_aload_n (a := 29) (dt_at dtL_law_c18 25 rfl) rfl rfl ?_
    refine K_iconst (dt_at dtL_law_c18 26 rfl) ?_
    refine K_lald (a := 29) (n := 1) (dt_at dtL_law_c18 27 rfl) rfl (by decide) (by decide) ?_
    rw [hz]
    refine K_iload (x := y) (dt_at dtL_law_c18 28 rfl) rfl ?_
    refine K_i2lw (dt_at dtL_law_c18 29 rfl) ?_
    refine K_lcmpS (dt_at dtL_law_c18 30 rfl) (wr_64 y) ?_
    refine K_if_eq (tgt := 1340) (dt_at dtL_law_c18 31 rfl) (by decide) ⟨by decide, by decide⟩ (fun _ => ?_) (fun z7 => (z7 rfl).elim)
    refine K_goto (tgt := 2595) (dt_at dtL_law_c18 34 rfl) (by decide) ?_
    refine K_widen (nc2 := nc + 8) (ns2 := ns + 48) (show nc + 1 + 0 + 0 ≤ nc + 8 by omega) (show ns + 6 + 0 + 0 ≤ ns + 48 by omega) ?_
    exact K_pk [2, 3, 4, 5, 6] (ls' := LwS i) rfl (kk A' h10 (CI_FC I' F) V')
set_option maxHeartbeats 4000000 in
set_option maxRecDepth 100000 in
theorem lw_c19 {h : HP} {A : AS} {i : Int} {nc ns L : Nat} {xs : Nat → Int32} (hL : L ≤ 3072) (h0 : 0 ≤ i) (h1 : i + 6 ≤ L) (hnc : nc + 8 ≤ 601024) (hns : ns + 48 ≤ 7293034) (I : CI h A) (V : MV h A) (kk : ∀ A' h', CI h' A' → MV h' A' → K mL_law (GL L xs) ZL (nc + 8) (ns + 48) 2595 (LwS i) [] h') : K mL_law (GL L xs) ZL nc ns 1343 (LwS i) [] h := by
  obtain ⟨Q1, s1, q0⟩ := pair_emptiest I (xv_i xs (i + 1))
  have q : PQ mX12_emptiest [vi (xv xs (i + 1))] cIA h A Q1 := q0
  refine K_aload_n (a := 30) (dt_at dtL_law_c19 0 rfl) rfl rfl ?_
  refine K_aload_nS (a := 50) (dt_at dtL_law_c19 1 rfl) rfl rfl ?_
  refine K_iload (x := i) (dt_at dtL_law_c19 2 rfl) rfl ?_
  refine K_iconst (dt_at dtL_law_c19 3 rfl) ?_
  refine K_iadd (dt_at dtL_law_c19 4 rfl) ?_
  refine K_sld (dt_at dtL_law_c19 5 rfl) (by omega) (by omega) (by omega) ?_
  refine K_aload_n (a := 29) (dt_at dtL_law_c19 6 rfl) rfl rfl ?_
  refine K_callH (M' := mL_emptiest) (hh := hL_emptiest) (As := [vr 30, vi (xv xs (i + 1)), vr 29]) (st := []) (dt_at dtL_law_c19 7 rfl) (sL_emptiest s1 (PQ_ok q)) wL_L_189 vL_emptiest rfl npL_emptiest (by decide) (by decide) (Nat.le_of_ble_eq_true rfl) (show nc + 1 ≤ 601024 by omega) (show ns + 6 ≤ 7293034 by omega) GL_E (fun v9 h9 hq => ?_) (fun E h9 hq => (lawPx hq).elim)
  obtain ⟨A', kq, y, rfl, hk2, I', s2, ho⟩ := lawP cIA_b V q hq
  refine K_istore (ls' := [(5, vi kq), (0, vs 51), (1, vr 30), (2, vr 0), (3, vr 29), (4, vi i)]) (dt_at dtL_law_c19 8 rfl) (by decide) rfl ?_
  refine K_aload_n (a := 0) (dt_at dtL_law_c19 9 rfl) rfl rfl ?_
  refine K_aload_nS (a := 50) (dt_at dtL_law_c19 10 rfl) rfl rfl ?_
  refine K_iload (x := i) (dt_at dtL_law_c19 11 rfl) rfl ?_
  refine K_iconst (dt_at dtL_law_c19 12 rfl) ?_
  refine K_iadd (dt_at dtL_law_c19 13 rfl) ?_
  refine K_sld (dt_at dtL_law_c19 14 rfl) (by omega) (by omega) (by omega) ?_
  refine K_callV (M' := mX12_emptiest) (a := 0) (ci := 12) (As := [vi (xv xs (i + 1))]) (st := []) (dt_at dtL_law_c19 15 rfl) s2 (show TT 0 = (0, 12) from rfl) rfl wL_L_191 vX12_emptiest rfl npX12_emptiest (by decide) (by decide) (Nat.le_of_ble_eq_true rfl) (show nc + 1 + 0 ≤ 601024 by omega) (show ns + 6 + 0 ≤ 7293034 by omega) GL_E (fun v9 h10 hq => ?_) (fun E h9 hq => by cases hq.1)
  obtain ⟨e1, V', F, ht⟩ := hq
  cases e1
  refine K_istore (ls' := [(6, vi y), (5, vi kq), (0, vs 51), (1, vr 30), (2, vr 0), (3, vr 29), (4, vi i)]) (dt_at dtL_law_c19 16 rfl) (by decide) rfl ?_
  refine K_aload_n (a := 0) (dt_at dtL_law_c19 17 rfl) rfl rfl ?_
  refine K_callV (M' := mX12_thrown) (a := 0) (ci := 12) (As := []) (st := []) (dt_at dtL_law_c19 18 rfl) sX12_thrown (show TT 0 = (0, 12) from rfl) rfl wL_L_129 vX12_thrown rfl npX12_thrown (by decide) (by decide) (Nat.le_of_ble_eq_true rfl) (show nc + 1 + 0 + 0 ≤ 601024 by omega) (show ns + 6 + 0 + 0 ≤ 7293034 by omega) GL_E (fun v9 h11 hq => ?_) (fun E h9 hq => by cases hq.1)
  obtain ⟨e1, e2⟩ := hq
  cases e1
  rw [e2, ht]
  refine K_iload (x := kq) (dt_at dtL_law_c19 19 rfl) rfl ?_
  refine K_icmp_same (tgt := 1379) (dt_at dtL_law_c19 20 rfl) (by decide) ?_
  refine K_iload (x := kq) (dt_at dtL_law_c19 23 rfl) rfl ?_
  refine K_if_ne (tgt := 1396) (dt_at dtL_law_c19 24 rfl) (by decide) hk2 (fun z9 => ?_) (fun z9 => ?_)
  · skip
    refine K_goto (tgt := 2595) (dt_at dtL_law_c19 34 rfl) (by decide) ?_
    refine K_widen (nc2 := nc + 8) (ns2 := ns + 48) (show nc + 1 + 0 + 0 ≤ nc + 8 by omega) (show ns + 6 + 0 + 0 ≤ ns + 48 by omega) ?_
    exact K_pk [2, 3, 4, 5, 6] (ls' := LwS i) rfl (kk A' h10 (CI_FC I' F) V')
  · have z8 : kq = 0 := z9
    have hz : hA h10 29 0 = wr y := by rw [F.1 29 (by omega)]; exact ho z8
    refine K_aload_n (a := 29) (dt_at dtL_law_c19 25 rfl) rfl rfl ?_
    refine K_iconst (dt_at dtL_law_c19 26 rfl) ?_
    refine K_lald (a := 29) (n := 1) (dt_at dtL_law_c19 27 rfl) rfl (by decide) (by decide) ?_
    rw [hz]
    refine K_iload (x := y) (dt_at dtL_law_c19 28 rfl) rfl ?_
    refine K_i2lw (dt_at dtL_law_c19 29 rfl) ?_
    refine K_lcmpS (dt_at dtL_law_c19 30 rfl) (wr_64 y) ?_
    refine K_if_eq (tgt := 1396) (dt_at dtL_law_c19 31 rfl) (by decide) ⟨by decide, by decide⟩ (fun _ => ?_) (fun z7 => (z7 rfl).elim)
    refine K_goto (tgt := 2595) (dt_at dtL_law_c19 34 rfl) (by decide) ?_
    refine K_widen (nc2 := nc + 8) (ns2 := ns + 48) (show nc + 1 + 0 + 0 ≤ nc + 8 by omega) (show ns + 6 + 0 + 0 ≤ ns + 48 by omega) ?_
    exact K_pk [2, 3, 4, 5, 6] (ls' := LwS i) rfl (kk A' h10 (CI_FC I' F) V')
set_option maxHeartbeats 4000000 in
set_option maxRecDepth 100000 in
theorem lw_c20 {h : HP} {A : AS} {i : Int} {nc ns L : Nat} {xs : Nat → Int32} (hL : L ≤ 3072) (h0 : 0 ≤ i) (h1 : i + 6 ≤ L) (hnc : nc + 8 ≤ 601024) (hns : ns + 48 ≤ 7293034) (I : CI h A) (V : MV h A) (kk : ∀ A' h', CI h' A' → MV h' A' → K mL_law (GL L xs) ZL (nc + 8) (ns + 48) 2595 (LwS i) [] h') : K mL_law (GL L xs) ZL nc ns 1399 (LwS i) [] h := by
  obtain ⟨Q1, s1, q0⟩ := pair_best I (xv_i xs (i + 1)) (xv_i xs (i + 2))
  have q : PQ mX12_best [vi (xv xs (i + 1)), vi (xv xs (i + 2))] cN1 h A Q1 := q0
  refine K_aload_n (a := 30) (dt_at dtL_law_c20 0 rfl) rfl rfl ?_
  refine K_aload_nS (a := 50) (dt_at dtL_law_c20 1 rfl) rfl rfl ?_
  refine K_iload (x := i) (dt_at dtL_law_c20 2 rfl) rfl ?_
  refine K_iconst (dt_at dtL_law_c20 3 rfl) ?_
  refine K_iadd (dt_at dtL_law_c20 4 rfl) ?_
  refine K_sld (dt_at dtL_law_c20 5 rfl) (by omega) (by omega) (by omega) ?_
  refine K_aload_nS (a := 50) (dt_at dtL_law_c20 6 rfl) rfl rfl ?_
  refine K_iload (x := i) (dt_at dtL_law_c20 7 rfl) rfl ?_
  refine K_iconst (dt_at dtL_law_c20 8 rfl) ?_
  refine K_iadd (dt_at dtL_law_c20 9 rfl) ?_
  refine K_sld (dt_at dtL_law_c20 10 rfl) (by omega) (by omega) (by omega) ?_
  refine K_aload_n (a := 29) (dt_at dtL_law_c20 11 rfl) rfl rfl ?_
  refine K_callH (M' := mL_best) (hh := hL_best) (As := [vr 30, vi (xv xs (i + 1)), vi (xv xs (i + 2)), vr 29]) (st := []) (dt_at dtL_law_c20 12 rfl) (sL_best s1 (PQ_ok q)) wL_L_192 vL_best rfl npL_best (by decide) (by decide) (Nat.le_of_ble_eq_true rfl) (show nc + 2 ≤ 601024 by omega) (show ns + 12 ≤ 7293034 by omega) GL_E (fun v9 h9 hq => ?_) (fun E h9 hq => (lawPx hq).elim)
  obtain ⟨A', kq, y, rfl, hk2, I', s2, ho⟩ := lawP cN1_b V q hq
  refine K_istore (ls' := [(5, vi kq), (0, vs 51), (1, vr 30), (2, vr 0), (3, vr 29), (4, vi i)]) (dt_at dtL_law_c20 13 rfl) (by decide) rfl ?_
  refine K_aload_n (a := 0) (dt_at dtL_law_c20 14 rfl) rfl rfl ?_
  refine K_aload_nS (a := 50) (dt_at dtL_law_c20 15 rfl) rfl rfl ?_
  refine K_iload (x := i) (dt_at dtL_law_c20 16 rfl) rfl ?_
  refine K_iconst (dt_at dtL_law_c20 17 rfl) ?_
  refine K_iadd (dt_at dtL_law_c20 18 rfl) ?_
  refine K_sld (dt_at dtL_law_c20 19 rfl) (by omega) (by omega) (by omega) ?_
  refine K_aload_nS (a := 50) (dt_at dtL_law_c20 20 rfl) rfl rfl ?_
  refine K_iload (x := i) (dt_at dtL_law_c20 21 rfl) rfl ?_
  refine K_iconst (dt_at dtL_law_c20 22 rfl) ?_
  refine K_iadd (dt_at dtL_law_c20 23 rfl) ?_
  refine K_sld (dt_at dtL_law_c20 24 rfl) (by omega) (by omega) (by omega) ?_
  refine K_callV (M' := mX12_best) (a := 0) (ci := 12) (As := [vi (xv xs (i + 1)), vi (xv xs (i + 2))]) (st := []) (dt_at dtL_law_c20 25 rfl) s2 (show TT 0 = (0, 12) from rfl) rfl wL_L_194 vX12_best rfl npX12_best (by decide) (by decide) (Nat.le_of_ble_eq_true rfl) (show nc + 2 + 0 ≤ 601024 by omega) (show ns + 12 + 0 ≤ 7293034 by omega) GL_E (fun v9 h10 hq => ?_) (fun E h9 hq => by cases hq.1)
  obtain ⟨e1, V', F, ht⟩ := hq
  cases e1
  refine K_istore (ls' := [(6, vi y), (5, vi kq), (0, vs 51), (1, vr 30), (2, vr 0), (3, vr 29), (4, vi i)]) (dt_at dtL_law_c20 26 rfl) (by decide) rfl ?_
  refine K_aload_n (a := 0) (dt_at dtL_law_c20 27 rfl) rfl rfl ?_
  refine K_callV (M' := mX12_thrown) (a := 0) (ci := 12) (As := []) (st := []) (dt_at dtL_law_c20 28 rfl) sX12_thrown (show TT 0 = (0, 12) from rfl) rfl wL_L_129 vX12_thrown rfl npX12_thrown (by decide) (by decide) (Nat.le_of_ble_eq_true rfl) (show nc + 2 + 0 + 0 ≤ 601024 by omega) (show ns + 12 + 0 + 0 ≤ 7293034 by omega) GL_E (fun v9 h11 hq => ?_) (fun E h9 hq => by cases hq.1)
  obtain ⟨e1, e2⟩ := hq
  cases e1
  rw [e2, ht]
  refine K_iload (x := kq) (dt_at dtL_law_c20 29 rfl) rfl ?_
  refine K_icmp_same (tgt := 1447) (dt_at dtL_law_c20 30 rfl) (by decide) ?_
  refine K_iload (x := kq) (dt_at dtL_law_c20 33 rfl) rfl ?_
  refine K_if_ne (tgt := 1464) (dt_at dtL_law_c20 34 rfl) (by decide) hk2 (fun z9 => ?_) (fun z9 => ?_)
  · skip
    refine K_goto (tgt := 2595) (dt_at dtL_law_c20 44 rfl) (by decide) ?_
    refine K_widen (nc2 := nc + 8) (ns2 := ns + 48) (show nc + 2 + 0 + 0 ≤ nc + 8 by omega) (show ns + 12 + 0 + 0 ≤ ns + 48 by omega) ?_
    exact K_pk [2, 3, 4, 5, 6] (ls' := LwS i) rfl (kk A' h10 (CI_FC I' F) V')
  · have z8 : kq = 0 := z9
    have hz : hA h10 29 0 = wr y := by rw [F.1 29 (by omega)]; exact ho z8
    refine K_aload_n (a := 29) (dt_at dtL_law_c20 35 rfl) rfl rfl ?_
    refine K_iconst (dt_at dtL_law_c20 36 rfl) ?_
    refine K_lald (a := 29) (n := 1) (dt_at dtL_law_c20 37 rfl) rfl (by decide) (by decide) ?_
    rw [hz]
    refine K_iload (x := y) (dt_at dtL_law_c20 38 rfl) rfl ?_
    refine K_i2lw (dt_at dtL_law_c20 39 rfl) ?_
    refine K_lcmpS (dt_at dtL_law_c20 40 rfl) (wr_64 y) ?_
    refine K_if_eq (tgt := 1464) (dt_at dtL_law_c20 41 rfl) (by decide) ⟨by decide, by decide⟩ (fun _ => ?_) (fun z7 => (z7 rfl).elim)
    refine K_goto (tgt := 2595) (dt_at dtL_law_c20 44 rfl) (by decide) ?_
    refine K_widen (nc2 := nc + 8) (ns2 := ns + 48) (show nc + 2 + 0 + 0 ≤ nc + 8 by omega) (show ns + 12 + 0 + 0 ≤ ns + 48 by omega) ?_
    exact K_pk [2, 3, 4, 5, 6] (ls' := LwS i) rfl (kk A' h10 (CI_FC I' F) V')
set_option maxHeartbeats 4000000 in
set_option maxRecDepth 100000 in
theorem lw_c21 {h : HP} {A : AS} {i : Int} {nc ns L : Nat} {xs : Nat → Int32} (hL : L ≤ 3072) (h0 : 0 ≤ i) (h1 : i + 6 ≤ L) (hnc : nc + 8 ≤ 601024) (hns : ns + 48 ≤ 7293034) (I : CI h A) (V : MV h A) (kk : ∀ A' h', CI h' A' → MV h' A' → K mL_law (GL L xs) ZL (nc + 8) (ns + 48) 2595 (LwS i) [] h') : K mL_law (GL L xs) ZL nc ns 1467 (LwS i) [] h := by
  obtain ⟨Q1, s1, q0⟩ := pair_toHold I 
  have q : PQ mX12_toHold [] c00 h A Q1 := q0
  refine K_aload_n (a := 30) (dt_at dtL_law_c21 0 rfl) rfl rfl ?_
  refine K_callV (M' := mX11_toHold) (a := 30) (ci := 11) (As := []) (st := []) (dt_at dtL_law_c21 1 rfl) s1 (show TT 30 = (0, 11) from rfl) rfl wL_L_195 vX11_toHold rfl npX11_toHold (by decide) (by decide) (Nat.le_of_ble_eq_true rfl) (show nc + 0 ≤ 601024 by omega) (show ns + 0 ≤ 7293034 by omega) GL_E (fun v9 h9 hq => ?_) (fun E h9 hq => (lawDx q hq).elim)
  obtain ⟨A', y, rfl, I', s2⟩ := lawD V q hq
  refine K_aload_n (a := 0) (dt_at dtL_law_c21 2 rfl) rfl rfl ?_
  refine K_callV (M' := mX12_toHold) (a := 0) (ci := 12) (As := []) (st := [vi y]) (dt_at dtL_law_c21 3 rfl) s2 (show TT 0 = (0, 12) from rfl) rfl wL_L_198 vX12_toHold rfl npX12_toHold (by decide) (by decide) (Nat.le_of_ble_eq_true rfl) (show nc + 0 + 0 ≤ 601024 by omega) (show ns + 0 + 0 ≤ 7293034 by omega) GL_E (fun v9 h10 hq => ?_) (fun E h9 hq => by cases hq.1)
  obtain ⟨e1, V', F, ht⟩ := hq
  cases e1
  refine K_icmp_same (tgt := 2595) (dt_at dtL_law_c21 4 rfl) (by decide) ?_
  refine K_widen (nc2 := nc + 8) (ns2 := ns + 48) (show nc + 0 + 0 ≤ nc + 8 by omega) (show ns + 0 + 0 ≤ ns + 48 by omega) ?_
  exact K_pk [0, 1, 2, 3, 4] (ls' := LwS i) rfl (kk A' h10 (CI_FC I' F) V')
set_option maxHeartbeats 4000000 in
set_option maxRecDepth 100000 in
theorem lw_c22 {h : HP} {A : AS} {i : Int} {nc ns L : Nat} {xs : Nat → Int32} (hL : L ≤ 3072) (h0 : 0 ≤ i) (h1 : i + 6 ≤ L) (hnc : nc + 8 ≤ 601024) (hns : ns + 48 ≤ 7293034) (I : CI h A) (V : MV h A) (kk : ∀ A' h', CI h' A' → MV h' A' → K mL_law (GL L xs) ZL (nc + 8) (ns + 48) 2595 (LwS i) [] h') : K mL_law (GL L xs) ZL nc ns 1480 (LwS i) [] h := by
  obtain ⟨Q1, s1, q0⟩ := pair_balance I (xv_i xs (i + 1))
  have q : PQ mX12_balance [vi (xv xs (i + 1))] cIA h A Q1 := q0
  refine K_aload_n (a := 30) (dt_at dtL_law_c22 0 rfl) rfl rfl ?_
  refine K_aload_nS (a := 50) (dt_at dtL_law_c22 1 rfl) rfl rfl ?_
  refine K_iload (x := i) (dt_at dtL_law_c22 2 rfl) rfl ?_
  refine K_iconst (dt_at dtL_law_c22 3 rfl) ?_
  refine K_iadd (dt_at dtL_law_c22 4 rfl) ?_
  refine K_sld (dt_at dtL_law_c22 5 rfl) (by omega) (by omega) (by omega) ?_
  refine K_aload_n (a := 29) (dt_at dtL_law_c22 6 rfl) rfl rfl ?_
  refine K_callH (M' := mL_balance) (hh := hL_balance) (As := [vr 30, vi (xv xs (i + 1)), vr 29]) (st := []) (dt_at dtL_law_c22 7 rfl) (sL_balance s1 (PQ_ok q)) wL_L_199 vL_balance rfl npL_balance (by decide) (by decide) (Nat.le_of_ble_eq_true rfl) (show nc + 1 ≤ 601024 by omega) (show ns + 6 ≤ 7293034 by omega) GL_E (fun v9 h9 hq => ?_) (fun E h9 hq => (lawPx hq).elim)
  obtain ⟨A', kq, y, rfl, hk2, I', s2, ho⟩ := lawP cIA_b V q hq
  refine K_istore (ls' := [(5, vi kq), (0, vs 51), (1, vr 30), (2, vr 0), (3, vr 29), (4, vi i)]) (dt_at dtL_law_c22 8 rfl) (by decide) rfl ?_
  refine K_aload_n (a := 0) (dt_at dtL_law_c22 9 rfl) rfl rfl ?_
  refine K_aload_nS (a := 50) (dt_at dtL_law_c22 10 rfl) rfl rfl ?_
  refine K_iload (x := i) (dt_at dtL_law_c22 11 rfl) rfl ?_
  refine K_iconst (dt_at dtL_law_c22 12 rfl) ?_
  refine K_iadd (dt_at dtL_law_c22 13 rfl) ?_
  refine K_sld (dt_at dtL_law_c22 14 rfl) (by omega) (by omega) (by omega) ?_
  refine K_callV (M' := mX12_balance) (a := 0) (ci := 12) (As := [vi (xv xs (i + 1))]) (st := []) (dt_at dtL_law_c22 15 rfl) s2 (show TT 0 = (0, 12) from rfl) rfl wL_L_201 vX12_balance rfl npX12_balance (by decide) (by decide) (Nat.le_of_ble_eq_true rfl) (show nc + 1 + 0 ≤ 601024 by omega) (show ns + 6 + 0 ≤ 7293034 by omega) GL_E (fun v9 h10 hq => ?_) (fun E h9 hq => by cases hq.1)
  obtain ⟨e1, V', F, ht⟩ := hq
  cases e1
  refine K_istore (ls' := [(6, vi y), (5, vi kq), (0, vs 51), (1, vr 30), (2, vr 0), (3, vr 29), (4, vi i)]) (dt_at dtL_law_c22 16 rfl) (by decide) rfl ?_
  refine K_aload_n (a := 0) (dt_at dtL_law_c22 17 rfl) rfl rfl ?_
  refine K_callV (M' := mX12_thrown) (a := 0) (ci := 12) (As := []) (st := []) (dt_at dtL_law_c22 18 rfl) sX12_thrown (show TT 0 = (0, 12) from rfl) rfl wL_L_129 vX12_thrown rfl npX12_thrown (by decide) (by decide) (Nat.le_of_ble_eq_true rfl) (show nc + 1 + 0 + 0 ≤ 601024 by omega) (show ns + 6 + 0 + 0 ≤ 7293034 by omega) GL_E (fun v9 h11 hq => ?_) (fun E h9 hq => by cases hq.1)
  obtain ⟨e1, e2⟩ := hq
  cases e1
  rw [e2, ht]
  refine K_iload (x := kq) (dt_at dtL_law_c22 19 rfl) rfl ?_
  refine K_icmp_same (tgt := 1516) (dt_at dtL_law_c22 20 rfl) (by decide) ?_
  refine K_iload (x := kq) (dt_at dtL_law_c22 23 rfl) rfl ?_
  refine K_if_ne (tgt := 1533) (dt_at dtL_law_c22 24 rfl) (by decide) hk2 (fun z9 => ?_) (fun z9 => ?_)
  · skip
    refine K_goto (tgt := 2595) (dt_at dtL_law_c22 34 rfl) (by decide) ?_
    refine K_widen (nc2 := nc + 8) (ns2 := ns + 48) (show nc + 1 + 0 + 0 ≤ nc + 8 by omega) (show ns + 6 + 0 + 0 ≤ ns + 48 by omega) ?_
    exact K_pk [2, 3, 4, 5, 6] (ls' := LwS i) rfl (kk A' h10 (CI_FC I' F) V')
  · have z8 : kq = 0 := z9
    have hz : hA h10 29 0 = wr y := by rw [F.1 29 (by omega)]; exact ho z8
    refine K_aload_n (a := 29) (dt_at dtL_law_c22 25 rfl) rfl rfl ?_
    refine K_iconst (dt_at dtL_law_c22 26 rfl) ?_
    refine K_lald (a := 29) (n := 1) (dt_at dtL_law_c22 27 rfl) rfl (by decide) (by decide) ?_
    rw [hz]
    refine K_iload (x := y) (dt_at dtL_law_c22 28 rfl) rfl ?_
    refine K_i2lw (dt_at dtL_law_c22 29 rfl) ?_
    refine K_lcmpS (dt_at dtL_law_c22 30 rfl) (wr_64 y) ?_
    refine K_if_eq (tgt := 1533) (dt_at dtL_law_c22 31 rfl) (by decide) ⟨by decide, by decide⟩ (fun _ => ?_) (fun z7 => (z7 rfl).elim)
    refine K_goto (tgt := 2595) (dt_at dtL_law_c22 34 rfl) (by decide) ?_
    refine K_widen (nc2 := nc + 8) (ns2 := ns + 48) (show nc + 1 + 0 + 0 ≤ nc + 8 by omega) (show ns + 6 + 0 + 0 ≤ ns + 48 by omega) ?_
    exact K_pk [2, 3, 4, 5, 6] (ls' := LwS i) rfl (kk A' h10 (CI_FC I' F) V')
set_option maxHeartbeats 4000000 in
set_option maxRecDepth 100000 in
theorem lw_c23 {h : HP} {A : AS} {i : Int} {nc ns L : Nat} {xs : Nat → Int32} (hL : L ≤ 3072) (h0 : 0 ≤ i) (h1 : i + 6 ≤ L) (hnc : nc + 8 ≤ 601024) (hns : ns + 48 ≤ 7293034) (I : CI h A) (V : MV h A) (kk : ∀ A' h', CI h' A' → MV h' A' → K mL_law (GL L xs) ZL (nc + 8) (ns + 48) 2595 (LwS i) [] h') : K mL_law (GL L xs) ZL nc ns 1536 (LwS i) [] h := by
  obtain ⟨Q1, s1, q0⟩ := pair_see I (xv_i xs (i + 1)) (xv_i xs (i + 2)) (xv_i xs (i + 3)) (xv_i xs (i + 4))
  have q : PQ mX12_see [vi (xv xs (i + 1)), vi (xv xs (i + 2)), vi (xv xs (i + 3)), vi (xv xs (i + 4))] cN1 h A Q1 := q0
  refine K_aload_n (a := 30) (dt_at dtL_law_c23 0 rfl) rfl rfl ?_
  refine K_aload_nS (a := 50) (dt_at dtL_law_c23 1 rfl) rfl rfl ?_
  refine K_iload (x := i) (dt_at dtL_law_c23 2 rfl) rfl ?_
  refine K_iconst (dt_at dtL_law_c23 3 rfl) ?_
  refine K_iadd (dt_at dtL_law_c23 4 rfl) ?_
  refine K_sld (dt_at dtL_law_c23 5 rfl) (by omega) (by omega) (by omega) ?_
  refine K_aload_nS (a := 50) (dt_at dtL_law_c23 6 rfl) rfl rfl ?_
  refine K_iload (x := i) (dt_at dtL_law_c23 7 rfl) rfl ?_
  refine K_iconst (dt_at dtL_law_c23 8 rfl) ?_
  refine K_iadd (dt_at dtL_law_c23 9 rfl) ?_
  refine K_sld (dt_at dtL_law_c23 10 rfl) (by omega) (by omega) (by omega) ?_
  refine K_aload_nS (a := 50) (dt_at dtL_law_c23 11 rfl) rfl rfl ?_
  refine K_iload (x := i) (dt_at dtL_law_c23 12 rfl) rfl ?_
  refine K_iconst (dt_at dtL_law_c23 13 rfl) ?_
  refine K_iadd (dt_at dtL_law_c23 14 rfl) ?_
  refine K_sld (dt_at dtL_law_c23 15 rfl) (by omega) (by omega) (by omega) ?_
  refine K_aload_nS (a := 50) (dt_at dtL_law_c23 16 rfl) rfl rfl ?_
  refine K_iload (x := i) (dt_at dtL_law_c23 17 rfl) rfl ?_
  refine K_iconst (dt_at dtL_law_c23 18 rfl) ?_
  refine K_iadd (dt_at dtL_law_c23 19 rfl) ?_
  refine K_sld (dt_at dtL_law_c23 20 rfl) (by omega) (by omega) (by omega) ?_
  refine K_aload_n (a := 29) (dt_at dtL_law_c23 21 rfl) rfl rfl ?_
  refine K_callH (M' := mL_see) (hh := hL_see) (As := [vr 30, vi (xv xs (i + 1)), vi (xv xs (i + 2)), vi (xv xs (i + 3)), vi (xv xs (i + 4)), vr 29]) (st := []) (dt_at dtL_law_c23 22 rfl) (sL_see s1 (PQ_ok q)) wL_L_202 vL_see rfl npL_see (by decide) (by decide) (Nat.le_of_ble_eq_true rfl) (show nc + 2 ≤ 601024 by omega) (show ns + 12 ≤ 7293034 by omega) GL_E (fun v9 h9 hq => ?_) (fun E h9 hq => (lawPx hq).elim)
  obtain ⟨A', kq, y, rfl, hk2, I', s2, ho⟩ := lawP cN1_b V q hq
  refine K_istore (ls' := [(5, vi kq), (0, vs 51), (1, vr 30), (2, vr 0), (3, vr 29), (4, vi i)]) (dt_at dtL_law_c23 23 rfl) (by decide) rfl ?_
  refine K_aload_n (a := 0) (dt_at dtL_law_c23 24 rfl) rfl rfl ?_
  refine K_aload_nS (a := 50) (dt_at dtL_law_c23 25 rfl) rfl rfl ?_
  refine K_iload (x := i) (dt_at dtL_law_c23 26 rfl) rfl ?_
  refine K_iconst (dt_at dtL_law_c23 27 rfl) ?_
  refine K_iadd (dt_at dtL_law_c23 28 rfl) ?_
  refine K_sld (dt_at dtL_law_c23 29 rfl) (by omega) (by omega) (by omega) ?_
  refine K_aload_nS (a := 50) (dt_at dtL_law_c23 30 rfl) rfl rfl ?_
  refine K_iload (x := i) (dt_at dtL_law_c23 31 rfl) rfl ?_
  refine K_iconst (dt_at dtL_law_c23 32 rfl) ?_
  refine K_iadd (dt_at dtL_law_c23 33 rfl) ?_
  refine K_sld (dt_at dtL_law_c23 34 rfl) (by omega) (by omega) (by omega) ?_
  refine K_aload_nS (a := 50) (dt_at dtL_law_c23 35 rfl) rfl rfl ?_
  refine K_iload (x := i) (dt_at dtL_law_c23 36 rfl) rfl ?_
  refine K_iconst (dt_at dtL_law_c23 37 rfl) ?_
  refine K_iadd (dt_at dtL_law_c23 38 rfl) ?_
  refine K_sld (dt_at dtL_law_c23 39 rfl) (by omega) (by omega) (by omega) ?_
  refine K_aload_nS (a := 50) (dt_at dtL_law_c23 40 rfl) rfl rfl ?_
  refine K_iload (x := i) (dt_at dtL_law_c23 41 rfl) rfl ?_
  refine K_iconst (dt_at dtL_law_c23 42 rfl) ?_
  refine K_iadd (dt_at dtL_law_c23 43 rfl) ?_
  refine K_sld (dt_at dtL_law_c23 44 rfl) (by omega) (by omega) (by omega) ?_
  refine K_callV (M' := mX12_see) (a := 0) (ci := 12) (As := [vi (xv xs (i + 1)), vi (xv xs (i + 2)), vi (xv xs (i + 3)), vi (xv xs (i + 4))]) (st := []) (dt_at dtL_law_c23 45 rfl) s2 (show TT 0 = (0, 12) from rfl) rfl wL_L_205 vX12_see rfl npX12_see (by decide) (by decide) (Nat.le_of_ble_eq_true rfl) (show nc + 2 + 0 ≤ 601024 by omega) (show ns + 12 + 0 ≤ 7293034 by omega) GL_E (fun v9 h10 hq => ?_) (fun E h9 hq => by cases hq.1)
  obtain ⟨e1, V', F, ht⟩ := hq
  cases e1
  refine K_istore (ls' := [(6, vi y), (5, vi kq), (0, vs 51), (1, vr 30), (2, vr 0), (3, vr 29), (4, vi i)]) (dt_at dtL_law_c23 46 rfl) (by decide) rfl ?_
  refine K_aload_n (a := 0) (dt_at dtL_law_c23 47 rfl) rfl rfl ?_
  refine K_callV (M' := mX12_thrown) (a := 0) (ci := 12) (As := []) (st := []) (dt_at dtL_law_c23 48 rfl) sX12_thrown (show TT 0 = (0, 12) from rfl) rfl wL_L_129 vX12_thrown rfl npX12_thrown (by decide) (by decide) (Nat.le_of_ble_eq_true rfl) (show nc + 2 + 0 + 0 ≤ 601024 by omega) (show ns + 12 + 0 + 0 ≤ 7293034 by omega) GL_E (fun v9 h11 hq => ?_) (fun E h9 hq => by cases hq.1)
  obtain ⟨e1, e2⟩ := hq
  cases e1
  rw [e2, ht]
  refine K_iload (x := kq) (dt_at dtL_law_c23 49 rfl) rfl ?_
  refine K_icmp_same (tgt := 1608) (dt_at dtL_law_c23 50 rfl) (by decide) ?_
  refine K_iload (x := kq) (dt_at dtL_law_c23 53 rfl) rfl ?_
  refine K_if_ne (tgt := 1625) (dt_at dtL_law_c23 54 rfl) (by decide) hk2 (fun z9 => ?_) (fun z9 => ?_)
  · skip
    refine K_goto (tgt := 2595) (dt_at dtL_law_c23 64 rfl) (by decide) ?_
    refine K_widen (nc2 := nc + 8) (ns2 := ns + 48) (show nc + 2 + 0 + 0 ≤ nc + 8 by omega) (show ns + 12 + 0 + 0 ≤ ns + 48 by omega) ?_
    exact K_pk [2, 3, 4, 5, 6] (ls' := LwS i) rfl (kk A' h10 (CI_FC I' F) V')
  · have z8 : kq = 0 := z9
    have hz : hA h10 29 0 = wr y := by rw [F.1 29 (by omega)]; exact ho z8
    refine K_aload_n (a := 29) (dt_at dtL_law_c23 55 rfl) rfl rfl ?_
    refine K_iconst (dt_at dtL_law_c23 56 rfl) ?_
    refine K_lald (a := 29) (n := 1) (dt_at dtL_law_c23 57 rfl) rfl (by decide) (by decide) ?_
    rw [hz]
    refine K_iload (x := y) (dt_at dtL_law_c23 58 rfl) rfl ?_
    refine K_i2lw (dt_at dtL_law_c23 59 rfl) ?_
    refine K_lcmpS (dt_at dtL_law_c23 60 rfl) (wr_64 y) ?_
    refine K_if_eq (tgt := 1625) (dt_at dtL_law_c23 61 rfl) (by decide) ⟨by decide, by decide⟩ (fun _ => ?_) (fun z7 => (z7 rfl).elim)
    refine K_goto (tgt := 2595) (dt_at dtL_law_c23 64 rfl) (by decide) ?_
    refine K_widen (nc2 := nc + 8) (ns2 := ns + 48) (show nc + 2 + 0 + 0 ≤ nc + 8 by omega) (show ns + 12 + 0 + 0 ≤ ns + 48 by omega) ?_
    exact K_pk [2, 3, 4, 5, 6] (ls' := LwS i) rfl (kk A' h10 (CI_FC I' F) V')
set_option maxHeartbeats 4000000 in
set_option maxRecDepth 100000 in
theorem lw_c24 {h : HP} {A : AS} {i : Int} {nc ns L : Nat} {xs : Nat → Int32} (hL : L ≤ 3072) (h0 : 0 ≤ i) (h1 : i + 6 ≤ L) (hnc : nc + 8 ≤ 601024) (hns : ns + 48 ≤ 7293034) (I : CI h A) (V : MV h A) (kk : ∀ A' h', CI h' A' → MV h' A' → K mL_law (GL L xs) ZL (nc + 8) (ns + 48) 2595 (LwS i) [] h') : K mL_law (GL L xs) ZL nc ns 1628 (LwS i) [] h := by
  obtain ⟨A', s1, q⟩ := pair_forget I
  refine K_aload_n (a := 30) (dt_at dtL_law_c24 0 rfl) rfl rfl ?_
  refine K_callV (M' := mX11_forget) (a := 30) (ci := 11) (As := []) (st := []) (dt_at dtL_law_c24 1 rfl) s1 (show TT 30 = (0, 11) from rfl) rfl wL_L_206 vX11_forget rfl npX11_forget (by decide) (by decide) (Nat.le_of_ble_eq_true rfl) (show nc + 0 ≤ 601024 by omega) (show ns + 0 ≤ 7293034 by omega) GL_E (fun v9 h9 hq => ?_) (fun E h9 hq => by cases hq.1)
  obtain ⟨e1, I', F9⟩ := hq
  cases e1
  refine K_aload_n (a := 0) (dt_at dtL_law_c24 2 rfl) rfl rfl ?_
  refine K_callV (M' := mX12_forget) (a := 0) (ci := 12) (As := []) (st := []) (dt_at dtL_law_c24 3 rfl) (q h9 (MV_FM V F9)) (show TT 0 = (0, 12) from rfl) rfl wL_L_209 vX12_forget rfl npX12_forget (by decide) (by decide) (Nat.le_of_ble_eq_true rfl) (show nc + 0 + 0 ≤ 601024 by omega) (show ns + 0 + 0 ≤ 7293034 by omega) GL_E (fun v9 h10 hq => ?_) (fun E h9 hq => by cases hq.1)
  obtain ⟨e1, V', F, ht⟩ := hq
  cases e1
  refine K_goto (tgt := 2595) (dt_at dtL_law_c24 4 rfl) (by decide) ?_
  refine K_widen (nc2 := nc + 8) (ns2 := ns + 48) (show nc + 0 + 0 ≤ nc + 8 by omega) (show ns + 0 + 0 ≤ ns + 48 by omega) ?_
  exact K_pk [0, 1, 2, 3, 4] (ls' := LwS i) rfl (kk A' h10 (CI_FC I' F) V')
set_option maxHeartbeats 4000000 in
set_option maxRecDepth 100000 in
theorem lw_c25 {h : HP} {A : AS} {i : Int} {nc ns L : Nat} {xs : Nat → Int32} (hL : L ≤ 3072) (h0 : 0 ≤ i) (h1 : i + 6 ≤ L) (hnc : nc + 8 ≤ 601024) (hns : ns + 48 ≤ 7293034) (I : CI h A) (V : MV h A) (kk : ∀ A' h', CI h' A' → MV h' A' → K mL_law (GL L xs) ZL (nc + 8) (ns + 48) 2595 (LwS i) [] h') : K mL_law (GL L xs) ZL nc ns 1639 (LwS i) [] h := by
  obtain ⟨Q1, s1, q0⟩ := pair_fonder I (xv_i xs (i + 1))
  have q : PQ mX12_fonder [vi (xv xs (i + 1))] cN1 h A Q1 := q0
  refine K_aload_n (a := 30) (dt_at dtL_law_c25 0 rfl) rfl rfl ?_
  refine K_aload_nS (a := 50) (dt_at dtL_law_c25 1 rfl) rfl rfl ?_
  refine K_iload (x := i) (dt_at dtL_law_c25 2 rfl) rfl ?_
  refine K_iconst (dt_at dtL_law_c25 3 rfl) ?_
  refine K_iadd (dt_at dtL_law_c25 4 rfl) ?_
  refine K_sld (dt_at dtL_law_c25 5 rfl) (by omega) (by omega) (by omega) ?_
  refine K_aload_n (a := 29) (dt_at dtL_law_c25 6 rfl) rfl rfl ?_
  refine K_callH (M' := mL_fonder) (hh := hL_fonder) (As := [vr 30, vi (xv xs (i + 1)), vr 29]) (st := []) (dt_at dtL_law_c25 7 rfl) (sL_fonder s1 (PQ_ok q)) wL_L_210 vL_fonder rfl npL_fonder (by decide) (by decide) (Nat.le_of_ble_eq_true rfl) (show nc + 1 ≤ 601024 by omega) (show ns + 6 ≤ 7293034 by omega) GL_E (fun v9 h9 hq => ?_) (fun E h9 hq => (lawPx hq).elim)
  obtain ⟨A', kq, y, rfl, hk2, I', s2, ho⟩ := lawP cN1_b V q hq
  refine K_istore (ls' := [(5, vi kq), (0, vs 51), (1, vr 30), (2, vr 0), (3, vr 29), (4, vi i)]) (dt_at dtL_law_c25 8 rfl) (by decide) rfl ?_
  refine K_aload_n (a := 0) (dt_at dtL_law_c25 9 rfl) rfl rfl ?_
  refine K_aload_nS (a := 50) (dt_at dtL_law_c25 10 rfl) rfl rfl ?_
  refine K_iload (x := i) (dt_at dtL_law_c25 11 rfl) rfl ?_
  refine K_iconst (dt_at dtL_law_c25 12 rfl) ?_
  refine K_iadd (dt_at dtL_law_c25 13 rfl) ?_
  refine K_sld (dt_at dtL_law_c25 14 rfl) (by omega) (by omega) (by omega) ?_
  refine K_callV (M' := mX12_fonder) (a := 0) (ci := 12) (As := [vi (xv xs (i + 1))]) (st := []) (dt_at dtL_law_c25 15 rfl) s2 (show TT 0 = (0, 12) from rfl) rfl wL_L_212 vX12_fonder rfl npX12_fonder (by decide) (by decide) (Nat.le_of_ble_eq_true rfl) (show nc + 1 + 0 ≤ 601024 by omega) (show ns + 6 + 0 ≤ 7293034 by omega) GL_E (fun v9 h10 hq => ?_) (fun E h9 hq => by cases hq.1)
  obtain ⟨e1, V', F, ht⟩ := hq
  cases e1
  refine K_istore (ls' := [(6, vi y), (5, vi kq), (0, vs 51), (1, vr 30), (2, vr 0), (3, vr 29), (4, vi i)]) (dt_at dtL_law_c25 16 rfl) (by decide) rfl ?_
  refine K_aload_n (a := 0) (dt_at dtL_law_c25 17 rfl) rfl rfl ?_
  refine K_callV (M' := mX12_thrown) (a := 0) (ci := 12) (As := []) (st := []) (dt_at dtL_law_c25 18 rfl) sX12_thrown (show TT 0 = (0, 12) from rfl) rfl wL_L_129 vX12_thrown rfl npX12_thrown (by decide) (by decide) (Nat.le_of_ble_eq_true rfl) (show nc + 1 + 0 + 0 ≤ 601024 by omega) (show ns + 6 + 0 + 0 ≤ 7293034 by omega) GL_E (fun v9 h11 hq => ?_) (fun E h9 hq => by cases hq.1)
  obtain ⟨e1, e2⟩ := hq
  cases e1
  rw [e2, ht]
  refine K_iload (x := kq) (dt_at dtL_law_c25 19 rfl) rfl ?_
  refine K_icmp_same (tgt := 1675) (dt_at dtL_law_c25 20 rfl) (by decide) ?_
  refine K_iload (x := kq) (dt_at dtL_law_c25 23 rfl) rfl ?_
  refine K_if_ne (tgt := 1692) (dt_at dtL_law_c25 24 rfl) (by decide) hk2 (fun z9 => ?_) (fun z9 => ?_)
  · skip
    refine K_goto (tgt := 2595) (dt_at dtL_law_c25 34 rfl) (by decide) ?_
    refine K_widen (nc2 := nc + 8) (ns2 := ns + 48) (show nc + 1 + 0 + 0 ≤ nc + 8 by omega) (show ns + 6 + 0 + 0 ≤ ns + 48 by omega) ?_
    exact K_pk [2, 3, 4, 5, 6] (ls' := LwS i) rfl (kk A' h10 (CI_FC I' F) V')
  · have z8 : kq = 0 := z9
    have hz : hA h10 29 0 = wr y := by rw [F.1 29 (by omega)]; exact ho z8
    refine K_aload_n (a := 29) (dt_at dtL_law_c25 25 rfl) rfl rfl ?_
    refine K_iconst (dt_at dtL_law_c25 26 rfl) ?_
    refine K_lald (a := 29) (n := 1) (dt_at dtL_law_c25 27 rfl) rfl (by decide) (by decide) ?_
    rw [hz]
    refine K_iload (x := y) (dt_at dtL_law_c25 28 rfl) rfl ?_
    refine K_i2lw (dt_at dtL_law_c25 29 rfl) ?_
    refine K_lcmpS (dt_at dtL_law_c25 30 rfl) (wr_64 y) ?_
    refine K_if_eq (tgt := 1692) (dt_at dtL_law_c25 31 rfl) (by decide) ⟨by decide, by decide⟩ (fun _ => ?_) (fun z7 => (z7 rfl).elim)
    refine K_goto (tgt := 2595) (dt_at dtL_law_c25 34 rfl) (by decide) ?_
    refine K_widen (nc2 := nc + 8) (ns2 := ns + 48) (show nc + 1 + 0 + 0 ≤ nc + 8 by omega) (show ns + 6 + 0 + 0 ≤ ns + 48 by omega) ?_
    exact K_pk [2, 3, 4, 5, 6] (ls' := LwS i) rfl (kk A' h10 (CI_FC I' F) V')
set_option maxHeartbeats 4000000 in
set_option maxRecDepth 100000 in
theorem lw_c26 {h : HP} {A : AS} {i : Int} {nc ns L : Nat} {xs : Nat → Int32} (hL : L ≤ 3072) (h0 : 0 ≤ i) (h1 : i + 6 ≤ L) (hnc : nc + 8 ≤ 601024) (hns : ns + 48 ≤ 7293034) (I : CI h A) (V : MV h A) (kk : ∀ A' h', CI h' A' → MV h' A' → K mL_law (GL L xs) ZL (nc + 8) (ns + 48) 2595 (LwS i) [] h') : K mL_law (GL L xs) ZL nc ns 1695 (LwS i) [] h := by
  obtain ⟨Q1, s1, q0⟩ := pair_look I (xv_i xs (i + 1))
  have q : PQ mX12_look [vi (xv xs (i + 1))] cN1 h A Q1 := q0
  refine K_aload_n (a := 30) (dt_at dtL_law_c26 0 rfl) rfl rfl ?_
  refine K_aload_nS (a := 50) (dt_at dtL_law_c26 1 rfl) rfl rfl ?_
  refine K_iload (x := i) (dt_at dtL_law_c26 2 rfl) rfl ?_
  refine K_iconst (dt_at dtL_law_c26 3 rfl) ?_
  refine K_iadd (dt_at dtL_law_c26 4 rfl) ?_
  refine K_sld (dt_at dtL_law_c26 5 rfl) (by omega) (by omega) (by omega) ?_
  refine K_aload_n (a := 29) (dt_at dtL_law_c26 6 rfl) rfl rfl ?_
  refine K_callH (M' := mL_look) (hh := hL_look) (As := [vr 30, vi (xv xs (i + 1)), vr 29]) (st := []) (dt_at dtL_law_c26 7 rfl) (sL_look s1 (PQ_ok q)) wL_L_213 vL_look rfl npL_look (by decide) (by decide) (Nat.le_of_ble_eq_true rfl) (show nc + 1 ≤ 601024 by omega) (show ns + 6 ≤ 7293034 by omega) GL_E (fun v9 h9 hq => ?_) (fun E h9 hq => (lawPx hq).elim)
  obtain ⟨A', kq, y, rfl, hk2, I', s2, ho⟩ := lawP cN1_b V q hq
  refine K_istore (ls' := [(5, vi kq), (0, vs 51), (1, vr 30), (2, vr 0), (3, vr 29), (4, vi i)]) (dt_at dtL_law_c26 8 rfl) (by decide) rfl ?_
  refine K_aload_n (a := 0) (dt_at dtL_law_c26 9 rfl) rfl rfl ?_
  refine K_aload_nS (a := 50) (dt_at dtL_law_c26 10 rfl) rfl rfl ?_
  refine K_iload (x := i) (dt_at dtL_law_c26 11 rfl) rfl ?_
  refine K_iconst (dt_at dtL_law_c26 12 rfl) ?_
  refine K_iadd (dt_at dtL_law_c26 13 rfl) ?_
  refine K_sld (dt_at dtL_law_c26 14 rfl) (by omega) (by omega) (by omega) ?_
  refine K_callV (M' := mX12_look) (a := 0) (ci := 12) (As := [vi (xv xs (i + 1))]) (st := []) (dt_at dtL_law_c26 15 rfl) s2 (show TT 0 = (0, 12) from rfl) rfl wL_L_215 vX12_look rfl npX12_look (by decide) (by decide) (Nat.le_of_ble_eq_true rfl) (show nc + 1 + 0 ≤ 601024 by omega) (show ns + 6 + 0 ≤ 7293034 by omega) GL_E (fun v9 h10 hq => ?_) (fun E h9 hq => by cases hq.1)
  obtain ⟨e1, V', F, ht⟩ := hq
  cases e1
  refine K_istore (ls' := [(6, vi y), (5, vi kq), (0, vs 51), (1, vr 30), (2, vr 0), (3, vr 29), (4, vi i)]) (dt_at dtL_law_c26 16 rfl) (by decide) rfl ?_
  refine K_aload_n (a := 0) (dt_at dtL_law_c26 17 rfl) rfl rfl ?_
  refine K_callV (M' := mX12_thrown) (a := 0) (ci := 12) (As := []) (st := []) (dt_at dtL_law_c26 18 rfl) sX12_thrown (show TT 0 = (0, 12) from rfl) rfl wL_L_129 vX12_thrown rfl npX12_thrown (by decide) (by decide) (Nat.le_of_ble_eq_true rfl) (show nc + 1 + 0 + 0 ≤ 601024 by omega) (show ns + 6 + 0 + 0 ≤ 7293034 by omega) GL_E (fun v9 h11 hq => ?_) (fun E h9 hq => by cases hq.1)
  obtain ⟨e1, e2⟩ := hq
  cases e1
  rw [e2, ht]
  refine K_iload (x := kq) (dt_at dtL_law_c26 19 rfl) rfl ?_
  refine K_icmp_same (tgt := 1731) (dt_at dtL_law_c26 20 rfl) (by decide) ?_
  refine K_iload (x := kq) (dt_at dtL_law_c26 23 rfl) rfl ?_
  refine K_if_ne (tgt := 1748) (dt_at dtL_law_c26 24 rfl) (by decide) hk2 (fun z9 => ?_) (fun z9 => ?_)
  · skip
    refine K_goto (tgt := 2595) (dt_at dtL_law_c26 34 rfl) (by decide) ?_
    refine K_widen (nc2 := nc + 8) (ns2 := ns + 48) (show nc + 1 + 0 + 0 ≤ nc + 8 by omega) (show ns + 6 + 0 + 0 ≤ ns + 48 by omega) ?_
    exact K_pk [2, 3, 4, 5, 6] (ls' := LwS i) rfl (kk A' h10 (CI_FC I' F) V')
  · have z8 : kq = 0 := z9
    have hz : hA h10 29 0 = wr y := by rw [F.1 29 (by omega)]; exact ho z8
    refine K_aload_n (a := 29) (dt_at dtL_law_c26 25 rfl) rfl rfl ?_
    refine K_iconst (dt_at dtL_law_c26 26 rfl) ?_
    refine K_lald (a := 29) (n := 1) (dt_at dtL_law_c26 27 rfl) rfl (by decide) (by decide) ?_
    rw [hz]
    refine K_iload (x := y) (dt_at dtL_law_c26 28 rfl) rfl ?_
    refine K_i2lw (dt_at dtL_law_c26 29 rfl) ?_
    refine K_lcmpS (dt_at dtL_law_c26 30 rfl) (wr_64 y) ?_
    refine K_if_eq (tgt := 1748) (dt_at dtL_law_c26 31 rfl) (by decide) ⟨by decide, by decide⟩ (fun _ => ?_) (fun z7 => (z7 rfl).elim)
    refine K_goto (tgt := 2595) (dt_at dtL_law_c26 34 rfl) (by decide) ?_
    refine K_widen (nc2 := nc + 8) (ns2 := ns + 48) (show nc + 1 + 0 + 0 ≤ nc + 8 by omega) (show ns + 6 + 0 + 0 ≤ ns + 48 by omega) ?_
    exact K_pk [2, 3, 4, 5, 6] (ls' := LwS i) rfl (kk A' h10 (CI_FC I' F) V')
set_option maxHeartbeats 4000000 in
set_option maxRecDepth 100000 in
theorem lw_c27 {h : HP} {A : AS} {i : Int} {nc ns L : Nat} {xs : Nat → Int32} (hL : L ≤ 3072) (h0 : 0 ≤ i) (h1 : i + 6 ≤ L) (hnc : nc + 8 ≤ 601024) (hns : ns + 48 ≤ 7293034) (I : CI h A) (V : MV h A) (kk : ∀ A' h', CI h' A' → MV h' A' → K mL_law (GL L xs) ZL (nc + 8) (ns + 48) 2595 (LwS i) [] h') : K mL_law (GL L xs) ZL nc ns 1751 (LwS i) [] h := by
  obtain ⟨Q1, s1, q0⟩ := pair_trains I (xv_i xs (i + 1)) (xv_i xs (i + 2)) (xv_i xs (i + 3))
  have q : PQ mX12_trains [vi (xv xs (i + 1)), vi (xv xs (i + 2)), vi (xv xs (i + 3))] cNS h A Q1 := q0
  refine K_aload_n (a := 30) (dt_at dtL_law_c27 0 rfl) rfl rfl ?_
  refine K_aload_nS (a := 50) (dt_at dtL_law_c27 1 rfl) rfl rfl ?_
  refine K_iload (x := i) (dt_at dtL_law_c27 2 rfl) rfl ?_
  refine K_iconst (dt_at dtL_law_c27 3 rfl) ?_
  refine K_iadd (dt_at dtL_law_c27 4 rfl) ?_
  refine K_sld (dt_at dtL_law_c27 5 rfl) (by omega) (by omega) (by omega) ?_
  refine K_aload_nS (a := 50) (dt_at dtL_law_c27 6 rfl) rfl rfl ?_
  refine K_iload (x := i) (dt_at dtL_law_c27 7 rfl) rfl ?_
  refine K_iconst (dt_at dtL_law_c27 8 rfl) ?_
  refine K_iadd (dt_at dtL_law_c27 9 rfl) ?_
  refine K_sld (dt_at dtL_law_c27 10 rfl) (by omega) (by omega) (by omega) ?_
  refine K_aload_nS (a := 50) (dt_at dtL_law_c27 11 rfl) rfl rfl ?_
  refine K_iload (x := i) (dt_at dtL_law_c27 12 rfl) rfl ?_
  refine K_iconst (dt_at dtL_law_c27 13 rfl) ?_
  refine K_iadd (dt_at dtL_law_c27 14 rfl) ?_
  refine K_sld (dt_at dtL_law_c27 15 rfl) (by omega) (by omega) (by omega) ?_
  refine K_aload_n (a := 29) (dt_at dtL_law_c27 16 rfl) rfl rfl ?_
  refine K_callH (M' := mL_trains) (hh := hL_trains) (As := [vr 30, vi (xv xs (i + 1)), vi (xv xs (i + 2)), vi (xv xs (i + 3)), vr 29]) (st := []) (dt_at dtL_law_c27 17 rfl) (sL_trains s1 (PQ_ok q)) wL_L_216 vL_trains rfl npL_trains (by decide) (by decide) (Nat.le_of_ble_eq_true rfl) (show nc + 3 ≤ 601024 by omega) (show ns + 18 ≤ 7293034 by omega) GL_E (fun v9 h9 hq => ?_) (fun E h9 hq => (lawPx hq).elim)
  obtain ⟨A', kq, y, rfl, hk2, I', s2, ho⟩ := lawP cNS_b V q hq
  refine K_istore (ls' := [(5, vi kq), (0, vs 51), (1, vr 30), (2, vr 0), (3, vr 29), (4, vi i)]) (dt_at dtL_law_c27 18 rfl) (by decide) rfl ?_
  refine K_aload_n (a := 0) (dt_at dtL_law_c27 19 rfl) rfl rfl ?_
  refine K_aload_nS (a := 50) (dt_at dtL_law_c27 20 rfl) rfl rfl ?_
  refine K_iload (x := i) (dt_at dtL_law_c27 21 rfl) rfl ?_
  refine K_iconst (dt_at dtL_law_c27 22 rfl) ?_
  refine K_iadd (dt_at dtL_law_c27 23 rfl) ?_
  refine K_sld (dt_at dtL_law_c27 24 rfl) (by omega) (by omega) (by omega) ?_
  refine K_aload_nS (a := 50) (dt_at dtL_law_c27 25 rfl) rfl rfl ?_
  refine K_iload (x := i) (dt_at dtL_law_c27 26 rfl) rfl ?_
  refine K_iconst (dt_at dtL_law_c27 27 rfl) ?_
  refine K_iadd (dt_at dtL_law_c27 28 rfl) ?_
  refine K_sld (dt_at dtL_law_c27 29 rfl) (by omega) (by omega) (by omega) ?_
  refine K_aload_nS (a := 50) (dt_at dtL_law_c27 30 rfl) rfl rfl ?_
  refine K_iload (x := i) (dt_at dtL_law_c27 31 rfl) rfl ?_
  refine K_iconst (dt_at dtL_law_c27 32 rfl) ?_
  refine K_iadd (dt_at dtL_law_c27 33 rfl) ?_
  refine K_sld (dt_at dtL_law_c27 34 rfl) (by omega) (by omega) (by omega) ?_
  refine K_callV (M' := mX12_trains) (a := 0) (ci := 12) (As := [vi (xv xs (i + 1)), vi (xv xs (i + 2)), vi (xv xs (i + 3))]) (st := []) (dt_at dtL_law_c27 35 rfl) s2 (show TT 0 = (0, 12) from rfl) rfl wL_L_218 vX12_trains rfl npX12_trains (by decide) (by decide) (Nat.le_of_ble_eq_true rfl) (show nc + 3 + 0 ≤ 601024 by omega) (show ns + 18 + 0 ≤ 7293034 by omega) GL_E (fun v9 h10 hq => ?_) (fun E h9 hq => by cases hq.1)
  obtain ⟨e1, V', F, ht⟩ := hq
  cases e1
  refine K_istore (ls' := [(6, vi y), (5, vi kq), (0, vs 51), (1, vr 30), (2, vr 0), (3, vr 29), (4, vi i)]) (dt_at dtL_law_c27 36 rfl) (by decide) rfl ?_
  refine K_aload_n (a := 0) (dt_at dtL_law_c27 37 rfl) rfl rfl ?_
  refine K_callV (M' := mX12_thrown) (a := 0) (ci := 12) (As := []) (st := []) (dt_at dtL_law_c27 38 rfl) sX12_thrown (show TT 0 = (0, 12) from rfl) rfl wL_L_129 vX12_thrown rfl npX12_thrown (by decide) (by decide) (Nat.le_of_ble_eq_true rfl) (show nc + 3 + 0 + 0 ≤ 601024 by omega) (show ns + 18 + 0 + 0 ≤ 7293034 by omega) GL_E (fun v9 h11 hq => ?_) (fun E h9 hq => by cases hq.1)
  obtain ⟨e1, e2⟩ := hq
  cases e1
  rw [e2, ht]
  refine K_iload (x := kq) (dt_at dtL_law_c27 39 rfl) rfl ?_
  refine K_icmp_same (tgt := 1811) (dt_at dtL_law_c27 40 rfl) (by decide) ?_
  refine K_iload (x := kq) (dt_at dtL_law_c27 43 rfl) rfl ?_
  refine K_if_ne (tgt := 1828) (dt_at dtL_law_c27 44 rfl) (by decide) hk2 (fun z9 => ?_) (fun z9 => ?_)
  · skip
    refine K_goto (tgt := 2595) (dt_at dtL_law_c27 54 rfl) (by decide) ?_
    refine K_widen (nc2 := nc + 8) (ns2 := ns + 48) (show nc + 3 + 0 + 0 ≤ nc + 8 by omega) (show ns + 18 + 0 + 0 ≤ ns + 48 by omega) ?_
    exact K_pk [2, 3, 4, 5, 6] (ls' := LwS i) rfl (kk A' h10 (CI_FC I' F) V')
  · have z8 : kq = 0 := z9
    have hz : hA h10 29 0 = wr y := by rw [F.1 29 (by omega)]; exact ho z8
    refine K_aload_n (a := 29) (dt_at dtL_law_c27 45 rfl) rfl rfl ?_
    refine K_iconst (dt_at dtL_law_c27 46 rfl) ?_
    refine K_lald (a := 29) (n := 1) (dt_at dtL_law_c27 47 rfl) rfl (by decide) (by decide) ?_
    rw [hz]
    refine K_iload (x := y) (dt_at dtL_law_c27 48 rfl) rfl ?_
    refine K_i2lw (dt_at dtL_law_c27 49 rfl) ?_
    refine K_lcmpS (dt_at dtL_law_c27 50 rfl) (wr_64 y) ?_
    refine K_if_eq (tgt := 1828) (dt_at dtL_law_c27 51 rfl) (by decide) ⟨by decide, by decide⟩ (fun _ => ?_) (fun z7 => (z7 rfl).elim)
    refine K_goto (tgt := 2595) (dt_at dtL_law_c27 54 rfl) (by decide) ?_
    refine K_widen (nc2 := nc + 8) (ns2 := ns + 48) (show nc + 3 + 0 + 0 ≤ nc + 8 by omega) (show ns + 18 + 0 + 0 ≤ ns + 48 by omega) ?_
    exact K_pk [2, 3, 4, 5, 6] (ls' := LwS i) rfl (kk A' h10 (CI_FC I' F) V')
set_option maxHeartbeats 4000000 in
set_option maxRecDepth 100000 in
theorem lw_c28 {h : HP} {A : AS} {i : Int} {nc ns L : Nat} {xs : Nat → Int32} (hL : L ≤ 3072) (h0 : 0 ≤ i) (h1 : i + 6 ≤ L) (hnc : nc + 8 ≤ 601024) (hns : ns + 48 ≤ 7293034) (I : CI h A) (V : MV h A) (kk : ∀ A' h', CI h' A' → MV h' A' → K mL_law (GL L xs) ZL (nc + 8) (ns + 48) 2595 (LwS i) [] h') : K mL_law (GL L xs) ZL nc ns 1831 (LwS i) [] h := by
  obtain ⟨Q1, s1, q0⟩ := pair_game I (xv_i xs (i + 1)) (xv_i xs (i + 2)) (xv_i xs (i + 3))
  have q : PQ mX12_game [vi (xv xs (i + 1)), vi (xv xs (i + 2)), vi (xv xs (i + 3))] cNS h A Q1 := q0
  refine K_aload_n (a := 30) (dt_at dtL_law_c28 0 rfl) rfl rfl ?_
  refine K_aload_nS (a := 50) (dt_at dtL_law_c28 1 rfl) rfl rfl ?_
  refine K_iload (x := i) (dt_at dtL_law_c28 2 rfl) rfl ?_
  refine K_iconst (dt_at dtL_law_c28 3 rfl) ?_
  refine K_iadd (dt_at dtL_law_c28 4 rfl) ?_
  refine K_sld (dt_at dtL_law_c28 5 rfl) (by omega) (by omega) (by omega) ?_
  refine K_aload_nS (a := 50) (dt_at dtL_law_c28 6 rfl) rfl rfl ?_
  refine K_iload (x := i) (dt_at dtL_law_c28 7 rfl) rfl ?_
  refine K_iconst (dt_at dtL_law_c28 8 rfl) ?_
  refine K_iadd (dt_at dtL_law_c28 9 rfl) ?_
  refine K_sld (dt_at dtL_law_c28 10 rfl) (by omega) (by omega) (by omega) ?_
  refine K_aload_nS (a := 50) (dt_at dtL_law_c28 11 rfl) rfl rfl ?_
  refine K_iload (x := i) (dt_at dtL_law_c28 12 rfl) rfl ?_
  refine K_iconst (dt_at dtL_law_c28 13 rfl) ?_
  refine K_iadd (dt_at dtL_law_c28 14 rfl) ?_
  refine K_sld (dt_at dtL_law_c28 15 rfl) (by omega) (by omega) (by omega) ?_
  refine K_aload_n (a := 29) (dt_at dtL_law_c28 16 rfl) rfl rfl ?_
  refine K_callH (M' := mL_game) (hh := hL_game) (As := [vr 30, vi (xv xs (i + 1)), vi (xv xs (i + 2)), vi (xv xs (i + 3)), vr 29]) (st := []) (dt_at dtL_law_c28 17 rfl) (sL_game s1 (PQ_ok q)) wL_L_219 vL_game rfl npL_game (by decide) (by decide) (Nat.le_of_ble_eq_true rfl) (show nc + 4 ≤ 601024 by omega) (show ns + 24 ≤ 7293034 by omega) GL_E (fun v9 h9 hq => ?_) (fun E h9 hq => (lawPx hq).elim)
  obtain ⟨A', kq, y, rfl, hk2, I', s2, ho⟩ := lawP cNS_b V q hq
  refine K_istore (ls' := [(5, vi kq), (0, vs 51), (1, vr 30), (2, vr 0), (3, vr 29), (4, vi i)]) (dt_at dtL_law_c28 18 rfl) (by decide) rfl ?_
  refine K_aload_n (a := 0) (dt_at dtL_law_c28 19 rfl) rfl rfl ?_
  refine K_aload_nS (a := 50) (dt_at dtL_law_c28 20 rfl) rfl rfl ?_
  refine K_iload (x := i) (dt_at dtL_law_c28 21 rfl) rfl ?_
  refine K_iconst (dt_at dtL_law_c28 22 rfl) ?_
  refine K_iadd (dt_at dtL_law_c28 23 rfl) ?_
  refine K_sld (dt_at dtL_law_c28 24 rfl) (by omega) (by omega) (by omega) ?_
  refine K_aload_nS (a := 50) (dt_at dtL_law_c28 25 rfl) rfl rfl ?_
  refine K_iload (x := i) (dt_at dtL_law_c28 26 rfl) rfl ?_
  refine K_iconst (dt_at dtL_law_c28 27 rfl) ?_
  refine K_iadd (dt_at dtL_law_c28 28 rfl) ?_
  refine K_sld (dt_at dtL_law_c28 29 rfl) (by omega) (by omega) (by omega) ?_
  refine K_aload_nS (a := 50) (dt_at dtL_law_c28 30 rfl) rfl rfl ?_
  refine K_iload (x := i) (dt_at dtL_law_c28 31 rfl) rfl ?_
  refine K_iconst (dt_at dtL_law_c28 32 rfl) ?_
  refine K_iadd (dt_at dtL_law_c28 33 rfl) ?_
  refine K_sld (dt_at dtL_law_c28 34 rfl) (by omega) (by omega) (by omega) ?_
  refine K_callV (M' := mX12_game) (a := 0) (ci := 12) (As := [vi (xv xs (i + 1)), vi (xv xs (i + 2)), vi (xv xs (i + 3))]) (st := []) (dt_at dtL_law_c28 35 rfl) s2 (show TT 0 = (0, 12) from rfl) rfl wL_L_221 vX12_game rfl npX12_game (by decide) (by decide) (Nat.le_of_ble_eq_true rfl) (show nc + 4 + 0 ≤ 601024 by omega) (show ns + 24 + 0 ≤ 7293034 by omega) GL_E (fun v9 h10 hq => ?_) (fun E h9 hq => by cases hq.1)
  obtain ⟨e1, V', F, ht⟩ := hq
  cases e1
  refine K_istore (ls' := [(6, vi y), (5, vi kq), (0, vs 51), (1, vr 30), (2, vr 0), (3, vr 29), (4, vi i)]) (dt_at dtL_law_c28 36 rfl) (by decide) rfl ?_
  refine K_aload_n (a := 0) (dt_at dtL_law_c28 37 rfl) rfl rfl ?_
  refine K_callV (M' := mX12_thrown) (a := 0) (ci := 12) (As := []) (st := []) (dt_at dtL_law_c28 38 rfl) sX12_thrown (show TT 0 = (0, 12) from rfl) rfl wL_L_129 vX12_thrown rfl npX12_thrown (by decide) (by decide) (Nat.le_of_ble_eq_true rfl) (show nc + 4 + 0 + 0 ≤ 601024 by omega) (show ns + 24 + 0 + 0 ≤ 7293034 by omega) GL_E (fun v9 h11 hq => ?_) (fun E h9 hq => by cases hq.1)
  obtain ⟨e1, e2⟩ := hq
  cases e1
  rw [e2, ht]
  refine K_iload (x := kq) (dt_at dtL_law_c28 39 rfl) rfl ?_
  refine K_icmp_same (tgt := 1891) (dt_at dtL_law_c28 40 rfl) (by decide) ?_
  refine K_iload (x := kq) (dt_at dtL_law_c28 43 rfl) rfl ?_
  refine K_if_ne (tgt := 1908) (dt_at dtL_law_c28 44 rfl) (by decide) hk2 (fun z9 => ?_) (fun z9 => ?_)
  · skip
    refine K_goto (tgt := 2595) (dt_at dtL_law_c28 54 rfl) (by decide) ?_
    refine K_widen (nc2 := nc + 8) (ns2 := ns + 48) (show nc + 4 + 0 + 0 ≤ nc + 8 by omega) (show ns + 24 + 0 + 0 ≤ ns + 48 by omega) ?_
    exact K_pk [2, 3, 4, 5, 6] (ls' := LwS i) rfl (kk A' h10 (CI_FC I' F) V')
  · have z8 : kq = 0 := z9
    have hz : hA h10 29 0 = wr y := by rw [F.1 29 (by omega)]; exact ho z8
    refine K_aload_n (a := 29) (dt_at dtL_law_c28 45 rfl) rfl rfl ?_
    refine K_iconst (dt_at dtL_law_c28 46 rfl) ?_
    refine K_lald (a := 29) (n := 1) (dt_at dtL_law_c28 47 rfl) rfl (by decide) (by decide) ?_
    rw [hz]
    refine K_iload (x := y) (dt_at dtL_law_c28 48 rfl) rfl ?_
    refine K_i2lw (dt_at dtL_law_c28 49 rfl) ?_
    refine K_lcmpS (dt_at dtL_law_c28 50 rfl) (wr_64 y) ?_
    refine K_if_eq (tgt := 1908) (dt_at dtL_law_c28 51 rfl) (by decide) ⟨by decide, by decide⟩ (fun _ => ?_) (fun z7 => (z7 rfl).elim)
    refine K_goto (tgt := 2595) (dt_at dtL_law_c28 54 rfl) (by decide) ?_
    refine K_widen (nc2 := nc + 8) (ns2 := ns + 48) (show nc + 4 + 0 + 0 ≤ nc + 8 by omega) (show ns + 24 + 0 + 0 ≤ ns + 48 by omega) ?_
    exact K_pk [2, 3, 4, 5, 6] (ls' := LwS i) rfl (kk A' h10 (CI_FC I' F) V')
set_option maxHeartbeats 4000000 in
set_option maxRecDepth 100000 in
theorem lw_c29 {h : HP} {A : AS} {i : Int} {nc ns L : Nat} {xs : Nat → Int32} (hL : L ≤ 3072) (h0 : 0 ≤ i) (h1 : i + 6 ≤ L) (hnc : nc + 8 ≤ 601024) (hns : ns + 48 ≤ 7293034) (I : CI h A) (V : MV h A) (kk : ∀ A' h', CI h' A' → MV h' A' → K mL_law (GL L xs) ZL (nc + 8) (ns + 48) 2595 (LwS i) [] h') : K mL_law (GL L xs) ZL nc ns 1911 (LwS i) [] h := by
  obtain ⟨Q1, s1, q0⟩ := pair_years I (xv_i xs (i + 1)) (xv_i xs (i + 2)) (xv_i xs (i + 3))
  have q : PQ mX12_years [vi (xv xs (i + 1)), vi (xv xs (i + 2)), vi (xv xs (i + 3))] cNS h A Q1 := q0
  refine K_aload_n (a := 30) (dt_at dtL_law_c29 0 rfl) rfl rfl ?_
  refine K_aload_nS (a := 50) (dt_at dtL_law_c29 1 rfl) rfl rfl ?_
  refine K_iload (x := i) (dt_at dtL_law_c29 2 rfl) rfl ?_
  refine K_iconst (dt_at dtL_law_c29 3 rfl) ?_
  refine K_iadd (dt_at dtL_law_c29 4 rfl) ?_
  refine K_sld (dt_at dtL_law_c29 5 rfl) (by omega) (by omega) (by omega) ?_
  refine K_aload_nS (a := 50) (dt_at dtL_law_c29 6 rfl) rfl rfl ?_
  refine K_iload (x := i) (dt_at dtL_law_c29 7 rfl) rfl ?_
  refine K_iconst (dt_at dtL_law_c29 8 rfl) ?_
  refine K_iadd (dt_at dtL_law_c29 9 rfl) ?_
  refine K_sld (dt_at dtL_law_c29 10 rfl) (by omega) (by omega) (by omega) ?_
  refine K_aload_nS (a := 50) (dt_at dtL_law_c29 11 rfl) rfl rfl ?_
  refine K_iload (x := i) (dt_at dtL_law_c29 12 rfl) rfl ?_
  refine K_iconst (dt_at dtL_law_c29 13 rfl) ?_
  refine K_iadd (dt_at dtL_law_c29 14 rfl) ?_
  refine K_sld (dt_at dtL_law_c29 15 rfl) (by omega) (by omega) (by omega) ?_
  refine K_aload_n (a := 29) (dt_at dtL_law_c29 16 rfl) rfl rfl ?_
  refine K_callH (M' := mL_years) (hh := hL_years) (As := [vr 30, vi (xv xs (i + 1)), vi (xv xs (i + 2)), vi (xv xs (i + 3)), vr 29]) (st := []) (dt_at dtL_law_c29 17 rfl) (sL_years s1 (PQ_ok q)) wL_L_222 vL_years rfl npL_years (by decide) (by decide) (Nat.le_of_ble_eq_true rfl) (show nc + 2 ≤ 601024 by omega) (show ns + 12 ≤ 7293034 by omega) GL_E (fun v9 h9 hq => ?_) (fun E h9 hq => (lawPx hq).elim)
  obtain ⟨A', kq, y, rfl, hk2, I', s2, ho⟩ := lawP cNS_b V q hq
  refine K_istore (ls' := [(5, vi kq), (0, vs 51), (1, vr 30), (2, vr 0), (3, vr 29), (4, vi i)]) (dt_at dtL_law_c29 18 rfl) (by decide) rfl ?_
  refine K_aload_n (a := 0) (dt_at dtL_law_c29 19 rfl) rfl rfl ?_
  refine K_aload_nS (a := 50) (dt_at dtL_law_c29 20 rfl) rfl rfl ?_
  refine K_iload (x := i) (dt_at dtL_law_c29 21 rfl) rfl ?_
  refine K_iconst (dt_at dtL_law_c29 22 rfl) ?_
  refine K_iadd (dt_at dtL_law_c29 23 rfl) ?_
  refine K_sld (dt_at dtL_law_c29 24 rfl) (by omega) (by omega) (by omega) ?_
  refine K_aload_nS (a := 50) (dt_at dtL_law_c29 25 rfl) rfl rfl ?_
  refine K_iload (x := i) (dt_at dtL_law_c29 26 rfl) rfl ?_
  refine K_iconst (dt_at dtL_law_c29 27 rfl) ?_
  refine K_iadd (dt_at dtL_law_c29 28 rfl) ?_
  refine K_sld (dt_at dtL_law_c29 29 rfl) (by omega) (by omega) (by omega) ?_
  refine K_aload_nS (a := 50) (dt_at dtL_law_c29 30 rfl) rfl rfl ?_
  refine K_iload (x := i) (dt_at dtL_law_c29 31 rfl) rfl ?_
  refine K_iconst (dt_at dtL_law_c29 32 rfl) ?_
  refine K_iadd (dt_at dtL_law_c29 33 rfl) ?_
  refine K_sld (dt_at dtL_law_c29 34 rfl) (by omega) (by omega) (by omega) ?_
  refine K_callV (M' := mX12_years) (a := 0) (ci := 12) (As := [vi (xv xs (i + 1)), vi (xv xs (i + 2)), vi (xv xs (i + 3))]) (st := []) (dt_at dtL_law_c29 35 rfl) s2 (show TT 0 = (0, 12) from rfl) rfl wL_L_224 vX12_years rfl npX12_years (by decide) (by decide) (Nat.le_of_ble_eq_true rfl) (show nc + 2 + 0 ≤ 601024 by omega) (show ns + 12 + 0 ≤ 7293034 by omega) GL_E (fun v9 h10 hq => ?_) (fun E h9 hq => by cases hq.1)
  obtain ⟨e1, V', F, ht⟩ := hq
  cases e1
  refine K_istore (ls' := [(6, vi y), (5, vi kq), (0, vs 51), (1, vr 30), (2, vr 0), (3, vr 29), (4, vi i)]) (dt_at dtL_law_c29 36 rfl) (by decide) rfl ?_
  refine K_aload_n (a := 0) (dt_at dtL_law_c29 37 rfl) rfl rfl ?_
  refine K_callV (M' := mX12_thrown) (a := 0) (ci := 12) (As := []) (st := []) (dt_at dtL_law_c29 38 rfl) sX12_thrown (show TT 0 = (0, 12) from rfl) rfl wL_L_129 vX12_thrown rfl npX12_thrown (by decide) (by decide) (Nat.le_of_ble_eq_true rfl) (show nc + 2 + 0 + 0 ≤ 601024 by omega) (show ns + 12 + 0 + 0 ≤ 7293034 by omega) GL_E (fun v9 h11 hq => ?_) (fun E h9 hq => by cases hq.1)
  obtain ⟨e1, e2⟩ := hq
  cases e1
  rw [e2, ht]
  refine K_iload (x := kq) (dt_at dtL_law_c29 39 rfl) rfl ?_
  refine K_icmp_same (tgt := 1971) (dt_at dtL_law_c29 40 rfl) (by decide) ?_
  refine K_iload (x := kq) (dt_at dtL_law_c29 43 rfl) rfl ?_
  refine K_if_ne (tgt := 1988) (dt_at dtL_law_c29 44 rfl) (by decide) hk2 (fun z9 => ?_) (fun z9 => ?_)
  · skip
    refine K_goto (tgt := 2595) (dt_at dtL_law_c29 54 rfl) (by decide) ?_
    refine K_widen (nc2 := nc + 8) (ns2 := ns + 48) (show nc + 2 + 0 + 0 ≤ nc + 8 by omega) (show ns + 12 + 0 + 0 ≤ ns + 48 by omega) ?_
    exact K_pk [2, 3, 4, 5, 6] (ls' := LwS i) rfl (kk A' h10 (CI_FC I' F) V')
  · have z8 : kq = 0 := z9
    have hz : hA h10 29 0 = wr y := by rw [F.1 29 (by omega)]; exact ho z8
    refine K_aload_n (a := 29) (dt_at dtL_law_c29 45 rfl) rfl rfl ?_
    refine K_iconst (dt_at dtL_law_c29 46 rfl) ?_
    refine K_lald (a := 29) (n := 1) (dt_at dtL_law_c29 47 rfl) rfl (by decide) (by decide) ?_
    rw [hz]
    refine K_iload (x := y) (dt_at dtL_law_c29 48 rfl) rfl ?_
    refine K_i2lw (dt_at dtL_law_c29 49 rfl) ?_
    refine K_lcmpS (dt_at dtL_law_c29 50 rfl) (wr_64 y) ?_
    refine K_if_eq (tgt := 1988) (dt_at dtL_law_c29 51 rfl) (by decide) ⟨by decide, by decide⟩ (fun _ => ?_) (fun z7 => (z7 rfl).elim)
    refine K_goto (tgt := 2595) (dt_at dtL_law_c29 54 rfl) (by decide) ?_
    refine K_widen (nc2 := nc + 8) (ns2 := ns + 48) (show nc + 2 + 0 + 0 ≤ nc + 8 by omega) (show ns + 12 + 0 + 0 ≤ ns + 48 by omega) ?_
    exact K_pk [2, 3, 4, 5, 6] (ls' := LwS i) rfl (kk A' h10 (CI_FC I' F) V')
set_option maxHeartbeats 4000000 in
set_option maxRecDepth 100000 in
theorem lw_c30 {h : HP} {A : AS} {i : Int} {nc ns L : Nat} {xs : Nat → Int32} (hL : L ≤ 3072) (h0 : 0 ≤ i) (h1 : i + 6 ≤ L) (hnc : nc + 8 ≤ 601024) (hns : ns + 48 ≤ 7293034) (I : CI h A) (V : MV h A) (kk : ∀ A' h', CI h' A' → MV h' A' → K mL_law (GL L xs) ZL (nc + 8) (ns + 48) 2595 (LwS i) [] h') : K mL_law (GL L xs) ZL nc ns 1991 (LwS i) [] h := by
  obtain ⟨Q1, s1, q0⟩ := pair_trips I (xv_i xs (i + 1)) (xv_i xs (i + 2)) (xv_i xs (i + 3))
  have q : PQ mX12_trips [vi (xv xs (i + 1)), vi (xv xs (i + 2)), vi (xv xs (i + 3))] cNS h A Q1 := q0
  refine K_aload_n (a := 30) (dt_at dtL_law_c30 0 rfl) rfl rfl ?_
  refine K_aload_nS (a := 50) (dt_at dtL_law_c30 1 rfl) rfl rfl ?_
  refine K_iload (x := i) (dt_at dtL_law_c30 2 rfl) rfl ?_
  refine K_iconst (dt_at dtL_law_c30 3 rfl) ?_
  refine K_iadd (dt_at dtL_law_c30 4 rfl) ?_
  refine K_sld (dt_at dtL_law_c30 5 rfl) (by omega) (by omega) (by omega) ?_
  refine K_aload_nS (a := 50) (dt_at dtL_law_c30 6 rfl) rfl rfl ?_
  refine K_iload (x := i) (dt_at dtL_law_c30 7 rfl) rfl ?_
  refine K_iconst (dt_at dtL_law_c30 8 rfl) ?_
  refine K_iadd (dt_at dtL_law_c30 9 rfl) ?_
  refine K_sld (dt_at dtL_law_c30 10 rfl) (by omega) (by omega) (by omega) ?_
  refine K_aload_nS (a := 50) (dt_at dtL_law_c30 11 rfl) rfl rfl ?_
  refine K_iload (x := i) (dt_at dtL_law_c30 12 rfl) rfl ?_
  refine K_iconst (dt_at dtL_law_c30 13 rfl) ?_
  refine K_iadd (dt_at dtL_law_c30 14 rfl) ?_
  refine K_sld (dt_at dtL_law_c30 15 rfl) (by omega) (by omega) (by omega) ?_
  refine K_aload_n (a := 29) (dt_at dtL_law_c30 16 rfl) rfl rfl ?_
  refine K_callH (M' := mL_trips) (hh := hL_trips) (As := [vr 30, vi (xv xs (i + 1)), vi (xv xs (i + 2)), vi (xv xs (i + 3)), vr 29]) (st := []) (dt_at dtL_law_c30 17 rfl) (sL_trips s1 (PQ_ok q)) wL_L_225 vL_trips rfl npL_trips (by decide) (by decide) (Nat.le_of_ble_eq_true rfl) (show nc + 3 ≤ 601024 by omega) (show ns + 18 ≤ 7293034 by omega) GL_E (fun v9 h9 hq => ?_) (fun E h9 hq => (lawPx hq).elim)
  obtain ⟨A', kq, y, rfl, hk2, I', s2, ho⟩ := lawP cNS_b V q hq
  refine K_istore (ls' := [(5, vi kq), (0, vs 51), (1, vr 30), (2, vr 0), (3, vr 29), (4, vi i)]) (dt_at dtL_law_c30 18 rfl) (by decide) rfl ?_
  refine K_aload_n (a := 0) (dt_at dtL_law_c30 19 rfl) rfl rfl ?_
  refine K_aload_nS (a := 50) (dt_at dtL_law_c30 20 rfl) rfl rfl ?_
  refine K_iload (x := i) (dt_at dtL_law_c30 21 rfl) rfl ?_
  refine K_iconst (dt_at dtL_law_c30 22 rfl) ?_
  refine K_iadd (dt_at dtL_law_c30 23 rfl) ?_
  refine K_sld (dt_at dtL_law_c30 24 rfl) (by omega) (by omega) (by omega) ?_
  refine K_aload_nS (a := 50) (dt_at dtL_law_c30 25 rfl) rfl rfl ?_
  refine K_iload (x := i) (dt_at dtL_law_c30 26 rfl) rfl ?_
  refine K_iconst (dt_at dtL_law_c30 27 rfl) ?_
  refine K_iadd (dt_at dtL_law_c30 28 rfl) ?_
  refine K_sld (dt_at dtL_law_c30 29 rfl) (by omega) (by omega) (by omega) ?_
  refine K_aload_nS (a := 50) (dt_at dtL_law_c30 30 rfl) rfl rfl ?_
  refine K_iload (x := i) (dt_at dtL_law_c30 31 rfl) rfl ?_
  refine K_iconst (dt_at dtL_law_c30 32 rfl) ?_
  refine K_iadd (dt_at dtL_law_c30 33 rfl) ?_
  refine K_sld (dt_at dtL_law_c30 34 rfl) (by omega) (by omega) (by omega) ?_
  refine K_callV (M' := mX12_trips) (a := 0) (ci := 12) (As := [vi (xv xs (i + 1)), vi (xv xs (i + 2)), vi (xv xs (i + 3))]) (st := []) (dt_at dtL_law_c30 35 rfl) s2 (show TT 0 = (0, 12) from rfl) rfl wL_L_227 vX12_trips rfl npX12_trips (by decide) (by decide) (Nat.le_of_ble_eq_true rfl) (show nc + 3 + 0 ≤ 601024 by omega) (show ns + 18 + 0 ≤ 7293034 by omega) GL_E (fun v9 h10 hq => ?_) (fun E h9 hq => by cases hq.1)
  obtain ⟨e1, V', F, ht⟩ := hq
  cases e1
  refine K_istore (ls' := [(6, vi y), (5, vi kq), (0, vs 51), (1, vr 30), (2, vr 0), (3, vr 29), (4, vi i)]) (dt_at dtL_law_c30 36 rfl) (by decide) rfl ?_
  refine K_aload_n (a := 0) (dt_at dtL_law_c30 37 rfl) rfl rfl ?_
  refine K_callV (M' := mX12_thrown) (a := 0) (ci := 12) (As := []) (st := []) (dt_at dtL_law_c30 38 rfl) sX12_thrown (show TT 0 = (0, 12) from rfl) rfl wL_L_129 vX12_thrown rfl npX12_thrown (by decide) (by decide) (Nat.le_of_ble_eq_true rfl) (show nc + 3 + 0 + 0 ≤ 601024 by omega) (show ns + 18 + 0 + 0 ≤ 7293034 by omega) GL_E (fun v9 h11 hq => ?_) (fun E h9 hq => by cases hq.1)
  obtain ⟨e1, e2⟩ := hq
  cases e1
  rw [e2, ht]
  refine K_iload (x := kq) (dt_at dtL_law_c30 39 rfl) rfl ?_
  refine K_icmp_same (tgt := 2051) (dt_at dtL_law_c30 40 rfl) (by decide) ?_
  refine K_iload (x := kq) (dt_at dtL_law_c30 43 rfl) rfl ?_
  refine K_if_ne (tgt := 2068) (dt_at dtL_law_c30 44 rfl) (by decide) hk2 (fun z9 => ?_) (fun z9 => ?_)
  · skip
    refine K_goto (tgt := 2595) (dt_at dtL_law_c30 54 rfl) (by decide) ?_
    refine K_widen (nc2 := nc + 8) (ns2 := ns + 48) (show nc + 3 + 0 + 0 ≤ nc + 8 by omega) (show ns + 18 + 0 + 0 ≤ ns + 48 by omega) ?_
    exact K_pk [2, 3, 4, 5, 6] (ls' := LwS i) rfl (kk A' h10 (CI_FC I' F) V')
  · have z8 : kq = 0 := z9
    have hz : hA h10 29 0 = wr y := by rw [F.1 29 (by omega)]; exact ho z8
    refine K_aload_n (a := 29) (dt_at dtL_law_c30 45 rfl) rfl rfl ?_
    refine K_iconst (dt_at dtL_law_c30 46 rfl) ?_
    refine K_lald (a := 29) (n := 1) (dt_at dtL_law_c30 47 rfl) rfl (by decide) (by decide) ?_
    rw [hz]
    refine K_iload (x := y) (dt_at dtL_law_c30 48 rfl) rfl ?_
    refine K_i2lw (dt_at dtL_law_c30 49 rfl) ?_
    refine K_lcmpS (dt_at dtL_law_c30 50 rfl) (wr_64 y) ?_
    refine K_if_eq (tgt := 2068) (dt_at dtL_law_c30 51 rfl) (by decide) ⟨by decide, by decide⟩ (fun _ => ?_) (fun z7 => (z7 rfl).elim)
    refine K_goto (tgt := 2595) (dt_at dtL_law_c30 54 rfl) (by decide) ?_
    refine K_widen (nc2 := nc + 8) (ns2 := ns + 48) (show nc + 3 + 0 + 0 ≤ nc + 8 by omega) (show ns + 18 + 0 + 0 ≤ ns + 48 by omega) ?_
    exact K_pk [2, 3, 4, 5, 6] (ls' := LwS i) rfl (kk A' h10 (CI_FC I' F) V')
set_option maxHeartbeats 4000000 in
set_option maxRecDepth 100000 in
theorem lw_c31 {h : HP} {A : AS} {i : Int} {nc ns L : Nat} {xs : Nat → Int32} (hL : L ≤ 3072) (h0 : 0 ≤ i) (h1 : i + 6 ≤ L) (hnc : nc + 8 ≤ 601024) (hns : ns + 48 ≤ 7293034) (I : CI h A) (V : MV h A) (kk : ∀ A' h', CI h' A' → MV h' A' → K mL_law (GL L xs) ZL (nc + 8) (ns + 48) 2595 (LwS i) [] h') : K mL_law (GL L xs) ZL nc ns 2071 (LwS i) [] h := by
  obtain ⟨Q1, s1, q0⟩ := pair_together I (xv_i xs (i + 1)) (xv_i xs (i + 2)) (xv_i xs (i + 3))
  have q : PQ mX12_together [vi (xv xs (i + 1)), vi (xv xs (i + 2)), vi (xv xs (i + 3))] cNS h A Q1 := q0
  refine K_aload_n (a := 30) (dt_at dtL_law_c31 0 rfl) rfl rfl ?_
  refine K_aload_nS (a := 50) (dt_at dtL_law_c31 1 rfl) rfl rfl ?_
  refine K_iload (x := i) (dt_at dtL_law_c31 2 rfl) rfl ?_
  refine K_iconst (dt_at dtL_law_c31 3 rfl) ?_
  refine K_iadd (dt_at dtL_law_c31 4 rfl) ?_
  refine K_sld (dt_at dtL_law_c31 5 rfl) (by omega) (by omega) (by omega) ?_
  refine K_aload_nS (a := 50) (dt_at dtL_law_c31 6 rfl) rfl rfl ?_
  refine K_iload (x := i) (dt_at dtL_law_c31 7 rfl) rfl ?_
  refine K_iconst (dt_at dtL_law_c31 8 rfl) ?_
  refine K_iadd (dt_at dtL_law_c31 9 rfl) ?_
  refine K_sld (dt_at dtL_law_c31 10 rfl) (by omega) (by omega) (by omega) ?_
  refine K_aload_nS (a := 50) (dt_at dtL_law_c31 11 rfl) rfl rfl ?_
  refine K_iload (x := i) (dt_at dtL_law_c31 12 rfl) rfl ?_
  refine K_iconst (dt_at dtL_law_c31 13 rfl) ?_
  refine K_iadd (dt_at dtL_law_c31 14 rfl) ?_
  refine K_sld (dt_at dtL_law_c31 15 rfl) (by omega) (by omega) (by omega) ?_
  refine K_aload_n (a := 29) (dt_at dtL_law_c31 16 rfl) rfl rfl ?_
  refine K_callH (M' := mL_together) (hh := hL_together) (As := [vr 30, vi (xv xs (i + 1)), vi (xv xs (i + 2)), vi (xv xs (i + 3)), vr 29]) (st := []) (dt_at dtL_law_c31 17 rfl) (sL_together s1 (PQ_ok q)) wL_L_228 vL_together rfl npL_together (by decide) (by decide) (Nat.le_of_ble_eq_true rfl) (show nc + 3 ≤ 601024 by omega) (show ns + 18 ≤ 7293034 by omega) GL_E (fun v9 h9 hq => ?_) (fun E h9 hq => (lawPx hq).elim)
  obtain ⟨A', kq, y, rfl, hk2, I', s2, ho⟩ := lawP cNS_b V q hq
  refine K_istore (ls' := [(5, vi kq), (0, vs 51), (1, vr 30), (2, vr 0), (3, vr 29), (4, vi i)]) (dt_at dtL_law_c31 18 rfl) (by decide) rfl ?_
  refine K_aload_n (a := 0) (dt_at dtL_law_c31 19 rfl) rfl rfl ?_
  refine K_aload_nS (a := 50) (dt_at dtL_law_c31 20 rfl) rfl rfl ?_
  refine K_iload (x := i) (dt_at dtL_law_c31 21 rfl) rfl ?_
  refine K_iconst (dt_at dtL_law_c31 22 rfl) ?_
  refine K_iadd (dt_at dtL_law_c31 23 rfl) ?_
  refine K_sld (dt_at dtL_law_c31 24 rfl) (by omega) (by omega) (by omega) ?_
  refine K_aload_nS (a := 50) (dt_at dtL_law_c31 25 rfl) rfl rfl ?_
  refine K_iload (x := i) (dt_at dtL_law_c31 26 rfl) rfl ?_
  refine K_iconst (dt_at dtL_law_c31 27 rfl) ?_
  refine K_iadd (dt_at dtL_law_c31 28 rfl) ?_
  refine K_sld (dt_at dtL_law_c31 29 rfl) (by omega) (by omega) (by omega) ?_
  refine K_aload_nS (a := 50) (dt_at dtL_law_c31 30 rfl) rfl rfl ?_
  refine K_iload (x := i) (dt_at dtL_law_c31 31 rfl) rfl ?_
  refine K_iconst (dt_at dtL_law_c31 32 rfl) ?_
  refine K_iadd (dt_at dtL_law_c31 33 rfl) ?_
  refine K_sld (dt_at dtL_law_c31 34 rfl) (by omega) (by omega) (by omega) ?_
  refine K_callV (M' := mX12_together) (a := 0) (ci := 12) (As := [vi (xv xs (i + 1)), vi (xv xs (i + 2)), vi (xv xs (i + 3))]) (st := []) (dt_at dtL_law_c31 35 rfl) s2 (show TT 0 = (0, 12) from rfl) rfl wL_L_230 vX12_together rfl npX12_together (by decide) (by decide) (Nat.le_of_ble_eq_true rfl) (show nc + 3 + 0 ≤ 601024 by omega) (show ns + 18 + 0 ≤ 7293034 by omega) GL_E (fun v9 h10 hq => ?_) (fun E h9 hq => by cases hq.1)
  obtain ⟨e1, V', F, ht⟩ := hq
  cases e1
  refine K_istore (ls' := [(6, vi y), (5, vi kq), (0, vs 51), (1, vr 30), (2, vr 0), (3, vr 29), (4, vi i)]) (dt_at dtL_law_c31 36 rfl) (by decide) rfl ?_
  refine K_aload_n (a := 0) (dt_at dtL_law_c31 37 rfl) rfl rfl ?_
  refine K_callV (M' := mX12_thrown) (a := 0) (ci := 12) (As := []) (st := []) (dt_at dtL_law_c31 38 rfl) sX12_thrown (show TT 0 = (0, 12) from rfl) rfl wL_L_129 vX12_thrown rfl npX12_thrown (by decide) (by decide) (Nat.le_of_ble_eq_true rfl) (show nc + 3 + 0 + 0 ≤ 601024 by omega) (show ns + 18 + 0 + 0 ≤ 7293034 by omega) GL_E (fun v9 h11 hq => ?_) (fun E h9 hq => by cases hq.1)
  obtain ⟨e1, e2⟩ := hq
  cases e1
  rw [e2, ht]
  refine K_iload (x := kq) (dt_at dtL_law_c31 39 rfl) rfl ?_
  refine K_icmp_same (tgt := 2131) (dt_at dtL_law_c31 40 rfl) (by decide) ?_
  refine K_iload (x := kq) (dt_at dtL_law_c31 43 rfl) rfl ?_
  refine K_if_ne (tgt := 2148) (dt_at dtL_law_c31 44 rfl) (by decide) hk2 (fun z9 => ?_) (fun z9 => ?_)
  · skip
    refine K_goto (tgt := 2595) (dt_at dtL_law_c31 54 rfl) (by decide) ?_
    refine K_widen (nc2 := nc + 8) (ns2 := ns + 48) (show nc + 3 + 0 + 0 ≤ nc + 8 by omega) (show ns + 18 + 0 + 0 ≤ ns + 48 by omega) ?_
    exact K_pk [2, 3, 4, 5, 6] (ls' := LwS i) rfl (kk A' h10 (CI_FC I' F) V')
  · have z8 : kq = 0 := z9
    have hz : hA h10 29 0 = wr y := by rw [F.1 29 (by omega)]; exact ho z8
    refine K_aload_n (a := 29) (dt_at dtL_law_c31 45 rfl) rfl rfl ?_
    refine K_iconst (dt_at dtL_law_c31 46 rfl) ?_
    refine K_lald (a := 29) (n := 1) (dt_at dtL_law_c31 47 rfl) rfl (by decide) (by decide) ?_
    rw [hz]
    refine K_iload (x := y) (dt_at dtL_law_c31 48 rfl) rfl ?_
    refine K_i2lw (dt_at dtL_law_c31 49 rfl) ?_
    refine K_lcmpS (dt_at dtL_law_c31 50 rfl) (wr_64 y) ?_
    refine K_if_eq (tgt := 2148) (dt_at dtL_law_c31 51 rfl) (by decide) ⟨by decide, by decide⟩ (fun _ => ?_) (fun z7 => (z7 rfl).elim)
    refine K_goto (tgt := 2595) (dt_at dtL_law_c31 54 rfl) (by decide) ?_
    refine K_widen (nc2 := nc + 8) (ns2 := ns + 48) (show nc + 3 + 0 + 0 ≤ nc + 8 by omega) (show ns + 18 + 0 + 0 ≤ ns + 48 by omega) ?_
    exact K_pk [2, 3, 4, 5, 6] (ls' := LwS i) rfl (kk A' h10 (CI_FC I' F) V')
set_option maxHeartbeats 4000000 in
set_option maxRecDepth 100000 in
theorem lw_c32 {h : HP} {A : AS} {i : Int} {nc ns L : Nat} {xs : Nat → Int32} (hL : L ≤ 3072) (h0 : 0 ≤ i) (h1 : i + 6 ≤ L) (hnc : nc + 8 ≤ 601024) (hns : ns + 48 ≤ 7293034) (I : CI h A) (V : MV h A) (kk : ∀ A' h', CI h' A' → MV h' A' → K mL_law (GL L xs) ZL (nc + 8) (ns + 48) 2595 (LwS i) [] h') : K mL_law (GL L xs) ZL nc ns 2151 (LwS i) [] h := by
  obtain ⟨Q1, s1, q0⟩ := pair_awayBoth I (xv_i xs (i + 1)) (xv_i xs (i + 2)) (xv_i xs (i + 3))
  have q : PQ mX12_awayBoth [vi (xv xs (i + 1)), vi (xv xs (i + 2)), vi (xv xs (i + 3))] cNS h A Q1 := q0
  refine K_aload_n (a := 30) (dt_at dtL_law_c32 0 rfl) rfl rfl ?_
  refine K_aload_nS (a := 50) (dt_at dtL_law_c32 1 rfl) rfl rfl ?_
  refine K_iload (x := i) (dt_at dtL_law_c32 2 rfl) rfl ?_
  refine K_iconst (dt_at dtL_law_c32 3 rfl) ?_
  refine K_iadd (dt_at dtL_law_c32 4 rfl) ?_
  refine K_sld (dt_at dtL_law_c32 5 rfl) (by omega) (by omega) (by omega) ?_
  refine K_aload_nS (a := 50) (dt_at dtL_law_c32 6 rfl) rfl rfl ?_
  refine K_iload (x := i) (dt_at dtL_law_c32 7 rfl) rfl ?_
  refine K_iconst (dt_at dtL_law_c32 8 rfl) ?_
  refine K_iadd (dt_at dtL_law_c32 9 rfl) ?_
  refine K_sld (dt_at dtL_law_c32 10 rfl) (by omega) (by omega) (by omega) ?_
  refine K_aload_nS (a := 50) (dt_at dtL_law_c32 11 rfl) rfl rfl ?_
  refine K_iload (x := i) (dt_at dtL_law_c32 12 rfl) rfl ?_
  refine K_iconst (dt_at dtL_law_c32 13 rfl) ?_
  refine K_iadd (dt_at dtL_law_c32 14 rfl) ?_
  refine K_sld (dt_at dtL_law_c32 15 rfl) (by omega) (by omega) (by omega) ?_
  refine K_aload_n (a := 29) (dt_at dtL_law_c32 16 rfl) rfl rfl ?_
  refine K_callH (M' := mL_awayBoth) (hh := hL_awayBoth) (As := [vr 30, vi (xv xs (i + 1)), vi (xv xs (i + 2)), vi (xv xs (i + 3)), vr 29]) (st := []) (dt_at dtL_law_c32 17 rfl) (sL_awayBoth s1 (PQ_ok q)) wL_L_231 vL_awayBoth rfl npL_awayBoth (by decide) (by decide) (Nat.le_of_ble_eq_true rfl) (show nc + 3 ≤ 601024 by omega) (show ns + 18 ≤ 7293034 by omega) GL_E (fun v9 h9 hq => ?_) (fun E h9 hq => (lawPx hq).elim)
  obtain ⟨A', kq, y, rfl, hk2, I', s2, ho⟩ := lawP cNS_b V q hq
  refine K_istore (ls' := [(5, vi kq), (0, vs 51), (1, vr 30), (2, vr 0), (3, vr 29), (4, vi i)]) (dt_at dtL_law_c32 18 rfl) (by decide) rfl ?_
  refine K_aload_n (a := 0) (dt_at dtL_law_c32 19 rfl) rfl rfl ?_
  refine K_aload_nS (a := 50) (dt_at dtL_law_c32 20 rfl) rfl rfl ?_
  refine K_iload (x := i) (dt_at dtL_law_c32 21 rfl) rfl ?_
  refine K_iconst (dt_at dtL_law_c32 22 rfl) ?_
  refine K_iadd (dt_at dtL_law_c32 23 rfl) ?_
  refine K_sld (dt_at dtL_law_c32 24 rfl) (by omega) (by omega) (by omega) ?_
  refine K_aload_nS (a := 50) (dt_at dtL_law_c32 25 rfl) rfl rfl ?_
  refine K_iload (x := i) (dt_at dtL_law_c32 26 rfl) rfl ?_
  refine K_iconst (dt_at dtL_law_c32 27 rfl) ?_
  refine K_iadd (dt_at dtL_law_c32 28 rfl) ?_
  refine K_sld (dt_at dtL_law_c32 29 rfl) (by omega) (by omega) (by omega) ?_
  refine K_aload_nS (a := 50) (dt_at dtL_law_c32 30 rfl) rfl rfl ?_
  refine K_iload (x := i) (dt_at dtL_law_c32 31 rfl) rfl ?_
  refine K_iconst (dt_at dtL_law_c32 32 rfl) ?_
  refine K_iadd (dt_at dtL_law_c32 33 rfl) ?_
  refine K_sld (dt_at dtL_law_c32 34 rfl) (by omega) (by omega) (by omega) ?_
  refine K_callV (M' := mX12_awayBoth) (a := 0) (ci := 12) (As := [vi (xv xs (i + 1)), vi (xv xs (i + 2)), vi (xv xs (i + 3))]) (st := []) (dt_at dtL_law_c32 35 rfl) s2 (show TT 0 = (0, 12) from rfl) rfl wL_L_233 vX12_awayBoth rfl npX12_awayBoth (by decide) (by decide) (Nat.le_of_ble_eq_true rfl) (show nc + 3 + 0 ≤ 601024 by omega) (show ns + 18 + 0 ≤ 7293034 by omega) GL_E (fun v9 h10 hq => ?_) (fun E h9 hq => by cases hq.1)
  obtain ⟨e1, V', F, ht⟩ := hq
  cases e1
  refine K_istore (ls' := [(6, vi y), (5, vi kq), (0, vs 51), (1, vr 30), (2, vr 0), (3, vr 29), (4, vi i)]) (dt_at dtL_law_c32 36 rfl) (by decide) rfl ?_
  refine K_aload_n (a := 0) (dt_at dtL_law_c32 37 rfl) rfl rfl ?_
  refine K_callV (M' := mX12_thrown) (a := 0) (ci := 12) (As := []) (st := []) (dt_at dtL_law_c32 38 rfl) sX12_thrown (show TT 0 = (0, 12) from rfl) rfl wL_L_129 vX12_thrown rfl npX12_thrown (by decide) (by decide) (Nat.le_of_ble_eq_true rfl) (show nc + 3 + 0 + 0 ≤ 601024 by omega) (show ns + 18 + 0 + 0 ≤ 7293034 by omega) GL_E (fun v9 h11 hq => ?_) (fun E h9 hq => by cases hq.1)
  obtain ⟨e1, e2⟩ := hq
  cases e1
  rw [e2, ht]
  refine K_iload (x := kq) (dt_at dtL_law_c32 39 rfl) rfl ?_
  refine K_icmp_same (tgt := 2211) (dt_at dtL_law_c32 40 rfl) (by decide) ?_
  refine K_iload (x := kq) (dt_at dtL_law_c32 43 rfl) rfl ?_
  refine K_if_ne (tgt := 2228) (dt_at dtL_law_c32 44 rfl) (by decide) hk2 (fun z9 => ?_) (fun z9 => ?_)
  · skip
    refine K_goto (tgt := 2595) (dt_at dtL_law_c32 54 rfl) (by decide) ?_
    refine K_widen (nc2 := nc + 8) (ns2 := ns + 48) (show nc + 3 + 0 + 0 ≤ nc + 8 by omega) (show ns + 18 + 0 + 0 ≤ ns + 48 by omega) ?_
    exact K_pk [2, 3, 4, 5, 6] (ls' := LwS i) rfl (kk A' h10 (CI_FC I' F) V')
  · have z8 : kq = 0 := z9
    have hz : hA h10 29 0 = wr y := by rw [F.1 29 (by omega)]; exact ho z8
    refine K_aload_n (a := 29) (dt_at dtL_law_c32 45 rfl) rfl rfl ?_
    refine K_iconst (dt_at dtL_law_c32 46 rfl) ?_
    refine K_lald (a := 29) (n := 1) (dt_at dtL_law_c32 47 rfl) rfl (by decide) (by decide) ?_
    rw [hz]
    refine K_iload (x := y) (dt_at dtL_law_c32 48 rfl) rfl ?_
    refine K_i2lw (dt_at dtL_law_c32 49 rfl) ?_
    refine K_lcmpS (dt_at dtL_law_c32 50 rfl) (wr_64 y) ?_
    refine K_if_eq (tgt := 2228) (dt_at dtL_law_c32 51 rfl) (by decide) ⟨by decide, by decide⟩ (fun _ => ?_) (fun z7 => (z7 rfl).elim)
    refine K_goto (tgt := 2595) (dt_at dtL_law_c32 54 rfl) (by decide) ?_
    refine K_widen (nc2 := nc + 8) (ns2 := ns + 48) (show nc + 3 + 0 + 0 ≤ nc + 8 by omega) (show ns + 18 + 0 + 0 ≤ ns + 48 by omega) ?_
    exact K_pk [2, 3, 4, 5, 6] (ls' := LwS i) rfl (kk A' h10 (CI_FC I' F) V')
set_option maxHeartbeats 4000000 in
set_option maxRecDepth 100000 in
theorem lw_c33 {h : HP} {A : AS} {i : Int} {nc ns L : Nat} {xs : Nat → Int32} (hL : L ≤ 3072) (h0 : 0 ≤ i) (h1 : i + 6 ≤ L) (hnc : nc + 8 ≤ 601024) (hns : ns + 48 ≤ 7293034) (I : CI h A) (V : MV h A) (kk : ∀ A' h', CI h' A' → MV h' A' → K mL_law (GL L xs) ZL (nc + 8) (ns + 48) 2595 (LwS i) [] h') : K mL_law (GL L xs) ZL nc ns 2231 (LwS i) [] h := by
  obtain ⟨Q1, s1, q0⟩ := pair_alone I (xv_i xs (i + 1))
  have q : PQ mX12_alone [vi (xv xs (i + 1))] cIA h A Q1 := q0
  refine K_aload_n (a := 30) (dt_at dtL_law_c33 0 rfl) rfl rfl ?_
  refine K_aload_nS (a := 50) (dt_at dtL_law_c33 1 rfl) rfl rfl ?_
  refine K_iload (x := i) (dt_at dtL_law_c33 2 rfl) rfl ?_
  refine K_iconst (dt_at dtL_law_c33 3 rfl) ?_
  refine K_iadd (dt_at dtL_law_c33 4 rfl) ?_
  refine K_sld (dt_at dtL_law_c33 5 rfl) (by omega) (by omega) (by omega) ?_
  refine K_aload_n (a := 29) (dt_at dtL_law_c33 6 rfl) rfl rfl ?_
  refine K_callH (M' := mL_alone) (hh := hL_alone) (As := [vr 30, vi (xv xs (i + 1)), vr 29]) (st := []) (dt_at dtL_law_c33 7 rfl) (sL_alone s1 (PQ_ok q)) wL_L_234 vL_alone rfl npL_alone (by decide) (by decide) (Nat.le_of_ble_eq_true rfl) (show nc + 1 ≤ 601024 by omega) (show ns + 6 ≤ 7293034 by omega) GL_E (fun v9 h9 hq => ?_) (fun E h9 hq => (lawPx hq).elim)
  obtain ⟨A', kq, y, rfl, hk2, I', s2, ho⟩ := lawP cIA_b V q hq
  refine K_istore (ls' := [(5, vi kq), (0, vs 51), (1, vr 30), (2, vr 0), (3, vr 29), (4, vi i)]) (dt_at dtL_law_c33 8 rfl) (by decide) rfl ?_
  refine K_aload_n (a := 0) (dt_at dtL_law_c33 9 rfl) rfl rfl ?_
  refine K_aload_nS (a := 50) (dt_at dtL_law_c33 10 rfl) rfl rfl ?_
  refine K_iload (x := i) (dt_at dtL_law_c33 11 rfl) rfl ?_
  refine K_iconst (dt_at dtL_law_c33 12 rfl) ?_
  refine K_iadd (dt_at dtL_law_c33 13 rfl) ?_
  refine K_sld (dt_at dtL_law_c33 14 rfl) (by omega) (by omega) (by omega) ?_
  refine K_callV (M' := mX12_alone) (a := 0) (ci := 12) (As := [vi (xv xs (i + 1))]) (st := []) (dt_at dtL_law_c33 15 rfl) s2 (show TT 0 = (0, 12) from rfl) rfl wL_L_236 vX12_alone rfl npX12_alone (by decide) (by decide) (Nat.le_of_ble_eq_true rfl) (show nc + 1 + 0 ≤ 601024 by omega) (show ns + 6 + 0 ≤ 7293034 by omega) GL_E (fun v9 h10 hq => ?_) (fun E h9 hq => by cases hq.1)
  obtain ⟨e1, V', F, ht⟩ := hq
  cases e1
  refine K_istore (ls' := [(6, vi y), (5, vi kq), (0, vs 51), (1, vr 30), (2, vr 0), (3, vr 29), (4, vi i)]) (dt_at dtL_law_c33 16 rfl) (by decide) rfl ?_
  refine K_aload_n (a := 0) (dt_at dtL_law_c33 17 rfl) rfl rfl ?_
  refine K_callV (M' := mX12_thrown) (a := 0) (ci := 12) (As := []) (st := []) (dt_at dtL_law_c33 18 rfl) sX12_thrown (show TT 0 = (0, 12) from rfl) rfl wL_L_129 vX12_thrown rfl npX12_thrown (by decide) (by decide) (Nat.le_of_ble_eq_true rfl) (show nc + 1 + 0 + 0 ≤ 601024 by omega) (show ns + 6 + 0 + 0 ≤ 7293034 by omega) GL_E (fun v9 h11 hq => ?_) (fun E h9 hq => by cases hq.1)
  obtain ⟨e1, e2⟩ := hq
  cases e1
  rw [e2, ht]
  refine K_iload (x := kq) (dt_at dtL_law_c33 19 rfl) rfl ?_
  refine K_icmp_same (tgt := 2267) (dt_at dtL_law_c33 20 rfl) (by decide) ?_
  refine K_iload (x := kq) (dt_at dtL_law_c33 23 rfl) rfl ?_
  refine K_if_ne (tgt := 2284) (dt_at dtL_law_c33 24 rfl) (by decide) hk2 (fun z9 => ?_) (fun z9 => ?_)
  · skip
    refine K_goto (tgt := 2595) (dt_at dtL_law_c33 34 rfl) (by decide) ?_
    refine K_widen (nc2 := nc + 8) (ns2 := ns + 48) (show nc + 1 + 0 + 0 ≤ nc + 8 by omega) (show ns + 6 + 0 + 0 ≤ ns + 48 by omega) ?_
    exact K_pk [2, 3, 4, 5, 6] (ls' := LwS i) rfl (kk A' h10 (CI_FC I' F) V')
  · have z8 : kq = 0 := z9
    have hz : hA h10 29 0 = wr y := by rw [F.1 29 (by omega)]; exact ho z8
    refine K_aload_n (a := 29) (dt_at dtL_law_c33 25 rfl) rfl rfl ?_
    refine K_iconst (dt_at dtL_law_c33 26 rfl) ?_
    refine K_lald (a := 29) (n := 1) (dt_at dtL_law_c33 27 rfl) rfl (by decide) (by decide) ?_
    rw [hz]
    refine K_iload (x := y) (dt_at dtL_law_c33 28 rfl) rfl ?_
    refine K_i2lw (dt_at dtL_law_c33 29 rfl) ?_
    refine K_lcmpS (dt_at dtL_law_c33 30 rfl) (wr_64 y) ?_
    refine K_if_eq (tgt := 2284) (dt_at dtL_law_c33 31 rfl) (by decide) ⟨by decide, by decide⟩ (fun _ => ?_) (fun z7 => (z7 rfl).elim)
    refine K_goto (tgt := 2595) (dt_at dtL_law_c33 34 rfl) (by decide) ?_
    refine K_widen (nc2 := nc + 8) (ns2 := ns + 48) (show nc + 1 + 0 + 0 ≤ nc + 8 by omega) (show ns + 6 + 0 + 0 ≤ ns + 48 by omega) ?_
    exact K_pk [2, 3, 4, 5, 6] (ls' := LwS i) rfl (kk A' h10 (CI_FC I' F) V')
set_option maxHeartbeats 4000000 in
set_option maxRecDepth 100000 in
theorem lw_c34 {h : HP} {A : AS} {i : Int} {nc ns L : Nat} {xs : Nat → Int32} (hL : L ≤ 3072) (h0 : 0 ≤ i) (h1 : i + 6 ≤ L) (hnc : nc + 8 ≤ 601024) (hns : ns + 48 ≤ 7293034) (I : CI h A) (V : MV h A) (kk : ∀ A' h', CI h' A' → MV h' A' → K mL_law (GL L xs) ZL (nc + 8) (ns + 48) 2595 (LwS i) [] h') : K mL_law (GL L xs) ZL nc ns 2287 (LwS i) [] h := by
  obtain ⟨Q1, s1, q0⟩ := pair_least I (xv_i xs (i + 1)) (xv_i xs (i + 2))
  have q : PQ mX12_least [vi (xv xs (i + 1)), vi (xv xs (i + 2))] cNS h A Q1 := q0
  refine K_aload_n (a := 30) (dt_at dtL_law_c34 0 rfl) rfl rfl ?_
  refine K_aload_nS (a := 50) (dt_at dtL_law_c34 1 rfl) rfl rfl ?_
  refine K_iload (x := i) (dt_at dtL_law_c34 2 rfl) rfl ?_
  refine K_iconst (dt_at dtL_law_c34 3 rfl) ?_
  refine K_iadd (dt_at dtL_law_c34 4 rfl) ?_
  refine K_sld (dt_at dtL_law_c34 5 rfl) (by omega) (by omega) (by omega) ?_
  refine K_aload_nS (a := 50) (dt_at dtL_law_c34 6 rfl) rfl rfl ?_
  refine K_iload (x := i) (dt_at dtL_law_c34 7 rfl) rfl ?_
  refine K_iconst (dt_at dtL_law_c34 8 rfl) ?_
  refine K_iadd (dt_at dtL_law_c34 9 rfl) ?_
  refine K_sld (dt_at dtL_law_c34 10 rfl) (by omega) (by omega) (by omega) ?_
  refine K_aload_n (a := 29) (dt_at dtL_law_c34 11 rfl) rfl rfl ?_
  refine K_callH (M' := mL_least) (hh := hL_least) (As := [vr 30, vi (xv xs (i + 1)), vi (xv xs (i + 2)), vr 29]) (st := []) (dt_at dtL_law_c34 12 rfl) (sL_least s1 (PQ_ok q)) wL_L_237 vL_least rfl npL_least (by decide) (by decide) (Nat.le_of_ble_eq_true rfl) (show nc + 2 ≤ 601024 by omega) (show ns + 12 ≤ 7293034 by omega) GL_E (fun v9 h9 hq => ?_) (fun E h9 hq => (lawPx hq).elim)
  obtain ⟨A', kq, y, rfl, hk2, I', s2, ho⟩ := lawP cNS_b V q hq
  refine K_istore (ls' := [(5, vi kq), (0, vs 51), (1, vr 30), (2, vr 0), (3, vr 29), (4, vi i)]) (dt_at dtL_law_c34 13 rfl) (by decide) rfl ?_
  refine K_aload_n (a := 0) (dt_at dtL_law_c34 14 rfl) rfl rfl ?_
  refine K_aload_nS (a := 50) (dt_at dtL_law_c34 15 rfl) rfl rfl ?_
  refine K_iload (x := i) (dt_at dtL_law_c34 16 rfl) rfl ?_
  refine K_iconst (dt_at dtL_law_c34 17 rfl) ?_
  refine K_iadd (dt_at dtL_law_c34 18 rfl) ?_
  refine K_sld (dt_at dtL_law_c34 19 rfl) (by omega) (by omega) (by omega) ?_
  refine K_aload_nS (a := 50) (dt_at dtL_law_c34 20 rfl) rfl rfl ?_
  refine K_iload (x := i) (dt_at dtL_law_c34 21 rfl) rfl ?_
  refine K_iconst (dt_at dtL_law_c34 22 rfl) ?_
  refine K_iadd (dt_at dtL_law_c34 23 rfl) ?_
  refine K_sld (dt_at dtL_law_c34 24 rfl) (by omega) (by omega) (by omega) ?_
  refine K_callV (M' := mX12_least) (a := 0) (ci := 12) (As := [vi (xv xs (i + 1)), vi (xv xs (i + 2))]) (st := []) (dt_at dtL_law_c34 25 rfl) s2 (show TT 0 = (0, 12) from rfl) rfl wL_L_239 vX12_least rfl npX12_least (by decide) (by decide) (Nat.le_of_ble_eq_true rfl) (show nc + 2 + 0 ≤ 601024 by omega) (show ns + 12 + 0 ≤ 7293034 by omega) GL_E (fun v9 h10 hq => ?_) (fun E h9 hq => by cases hq.1)
  obtain ⟨e1, V', F, ht⟩ := hq
  cases e1
  refine K_istore (ls' := [(6, vi y), (5, vi kq), (0, vs 51), (1, vr 30), (2, vr 0), (3, vr 29), (4, vi i)]) (dt_at dtL_law_c34 26 rfl) (by decide) rfl ?_
  refine K_aload_n (a := 0) (dt_at dtL_law_c34 27 rfl) rfl rfl ?_
  refine K_callV (M' := mX12_thrown) (a := 0) (ci := 12) (As := []) (st := []) (dt_at dtL_law_c34 28 rfl) sX12_thrown (show TT 0 = (0, 12) from rfl) rfl wL_L_129 vX12_thrown rfl npX12_thrown (by decide) (by decide) (Nat.le_of_ble_eq_true rfl) (show nc + 2 + 0 + 0 ≤ 601024 by omega) (show ns + 12 + 0 + 0 ≤ 7293034 by omega) GL_E (fun v9 h11 hq => ?_) (fun E h9 hq => by cases hq.1)
  obtain ⟨e1, e2⟩ := hq
  cases e1
  rw [e2, ht]
  refine K_iload (x := kq) (dt_at dtL_law_c34 29 rfl) rfl ?_
  refine K_icmp_same (tgt := 2335) (dt_at dtL_law_c34 30 rfl) (by decide) ?_
  refine K_iload (x := kq) (dt_at dtL_law_c34 33 rfl) rfl ?_
  refine K_if_ne (tgt := 2352) (dt_at dtL_law_c34 34 rfl) (by decide) hk2 (fun z9 => ?_) (fun z9 => ?_)
  · skip
    refine K_goto (tgt := 2595) (dt_at dtL_law_c34 44 rfl) (by decide) ?_
    refine K_widen (nc2 := nc + 8) (ns2 := ns + 48) (show nc + 2 + 0 + 0 ≤ nc + 8 by omega) (show ns + 12 + 0 + 0 ≤ ns + 48 by omega) ?_
    exact K_pk [2, 3, 4, 5, 6] (ls' := LwS i) rfl (kk A' h10 (CI_FC I' F) V')
  · have z8 : kq = 0 := z9
    have hz : hA h10 29 0 = wr y := by rw [F.1 29 (by omega)]; exact ho z8
    refine K_aload_n (a := 29) (dt_at dtL_law_c34 35 rfl) rfl rfl ?_
    refine K_iconst (dt_at dtL_law_c34 36 rfl) ?_
    refine K_lald (a := 29) (n := 1) (dt_at dtL_law_c34 37 rfl) rfl (by decide) (by decide) ?_
    rw [hz]
    refine K_iload (x := y) (dt_at dtL_law_c34 38 rfl) rfl ?_
    refine K_i2lw (dt_at dtL_law_c34 39 rfl) ?_
    refine K_lcmpS (dt_at dtL_law_c34 40 rfl) (wr_64 y) ?_
    refine K_if_eq (tgt := 2352) (dt_at dtL_law_c34 41 rfl) (by decide) ⟨by decide, by decide⟩ (fun _ => ?_) (fun z7 => (z7 rfl).elim)
    refine K_goto (tgt := 2595) (dt_at dtL_law_c34 44 rfl) (by decide) ?_
    refine K_widen (nc2 := nc + 8) (ns2 := ns + 48) (show nc + 2 + 0 + 0 ≤ nc + 8 by omega) (show ns + 12 + 0 + 0 ≤ ns + 48 by omega) ?_
    exact K_pk [2, 3, 4, 5, 6] (ls' := LwS i) rfl (kk A' h10 (CI_FC I' F) V')
set_option maxHeartbeats 4000000 in
set_option maxRecDepth 100000 in
theorem lw_c35 {h : HP} {A : AS} {i : Int} {nc ns L : Nat} {xs : Nat → Int32} (hL : L ≤ 3072) (h0 : 0 ≤ i) (h1 : i + 6 ≤ L) (hnc : nc + 8 ≤ 601024) (hns : ns + 48 ≤ 7293034) (I : CI h A) (V : MV h A) (kk : ∀ A' h', CI h' A' → MV h' A' → K mL_law (GL L xs) ZL (nc + 8) (ns + 48) 2595 (LwS i) [] h') : K mL_law (GL L xs) ZL nc ns 2355 (LwS i) [] h := by
  obtain ⟨Q1, s1, q0⟩ := pair_near I (xv_i xs (i + 1)) (xv_i xs (i + 2))
  have q : PQ mX12_near [vi (xv xs (i + 1)), vi (xv xs (i + 2))] cN1 h A Q1 := q0
  refine K_aload_n (a := 30) (dt_at dtL_law_c35 0 rfl) rfl rfl ?_
  refine K_aload_nS (a := 50) (dt_at dtL_law_c35 1 rfl) rfl rfl ?_
  refine K_iload (x := i) (dt_at dtL_law_c35 2 rfl) rfl ?_
  refine K_iconst (dt_at dtL_law_c35 3 rfl) ?_
  refine K_iadd (dt_at dtL_law_c35 4 rfl) ?_
  refine K_sld (dt_at dtL_law_c35 5 rfl) (by omega) (by omega) (by omega) ?_
  refine K_aload_nS (a := 50) (dt_at dtL_law_c35 6 rfl) rfl rfl ?_
  refine K_iload (x := i) (dt_at dtL_law_c35 7 rfl) rfl ?_
  refine K_iconst (dt_at dtL_law_c35 8 rfl) ?_
  refine K_iadd (dt_at dtL_law_c35 9 rfl) ?_
  refine K_sld (dt_at dtL_law_c35 10 rfl) (by omega) (by omega) (by omega) ?_
  refine K_aload_n (a := 29) (dt_at dtL_law_c35 11 rfl) rfl rfl ?_
  refine K_callH (M' := mL_near) (hh := hL_near) (As := [vr 30, vi (xv xs (i + 1)), vi (xv xs (i + 2)), vr 29]) (st := []) (dt_at dtL_law_c35 12 rfl) (sL_near s1 (PQ_ok q)) wL_L_240 vL_near rfl npL_near (by decide) (by decide) (Nat.le_of_ble_eq_true rfl) (show nc + 2 ≤ 601024 by omega) (show ns + 12 ≤ 7293034 by omega) GL_E (fun v9 h9 hq => ?_) (fun E h9 hq => (lawPx hq).elim)
  obtain ⟨A', kq, y, rfl, hk2, I', s2, ho⟩ := lawP cN1_b V q hq
  refine K_istore (ls' := [(5, vi kq), (0, vs 51), (1, vr 30), (2, vr 0), (3, vr 29), (4, vi i)]) (dt_at dtL_law_c35 13 rfl) (by decide) rfl ?_
  refine K_aload_n (a := 0) (dt_at dtL_law_c35 14 rfl) rfl rfl ?_
  refine K_aload_nS (a := 50) (dt_at dtL_law_c35 15 rfl) rfl rfl ?_
  refine K_iload (x := i) (dt_at dtL_law_c35 16 rfl) rfl ?_
  refine K_iconst (dt_at dtL_law_c35 17 rfl) ?_
  refine K_iadd (dt_at dtL_law_c35 18 rfl) ?_
  refine K_sld (dt_at dtL_law_c35 19 rfl) (by omega) (by omega) (by omega) ?_
  refine K_aload_nS (a := 50) (dt_at dtL_law_c35 20 rfl) rfl rfl ?_
  refine K_iload (x := i) (dt_at dtL_law_c35 21 rfl) rfl ?_
  refine K_iconst (dt_at dtL_law_c35 22 rfl) ?_
  refine K_iadd (dt_at dtL_law_c35 23 rfl) ?_
  refine K_sld (dt_at dtL_law_c35 24 rfl) (by omega) (by omega) (by omega) ?_
  refine K_callV (M' := mX12_near) (a := 0) (ci := 12) (As := [vi (xv xs (i + 1)), vi (xv xs (i + 2))]) (st := []) (dt_at dtL_law_c35 25 rfl) s2 (show TT 0 = (0, 12) from rfl) rfl wL_L_242 vX12_near rfl npX12_near (by decide) (by decide) (Nat.le_of_ble_eq_true rfl) (show nc + 2 + 0 ≤ 601024 by omega) (show ns + 12 + 0 ≤ 7293034 by omega) GL_E (fun v9 h10 hq => ?_) (fun E h9 hq => by cases hq.1)
  obtain ⟨e1, V', F, ht⟩ := hq
  cases e1
  refine K_istore (ls' := [(6, vi y), (5, vi kq), (0, vs 51), (1, vr 30), (2, vr 0), (3, vr 29), (4, vi i)]) (dt_at dtL_law_c35 26 rfl) (by decide) rfl ?_
  refine K_aload_n (a := 0) (dt_at dtL_law_c35 27 rfl) rfl rfl ?_
  refine K_callV (M' := mX12_thrown) (a := 0) (ci := 12) (As := []) (st := []) (dt_at dtL_law_c35 28 rfl) sX12_thrown (show TT 0 = (0, 12) from rfl) rfl wL_L_129 vX12_thrown rfl npX12_thrown (by decide) (by decide) (Nat.le_of_ble_eq_true rfl) (show nc + 2 + 0 + 0 ≤ 601024 by omega) (show ns + 12 + 0 + 0 ≤ 7293034 by omega) GL_E (fun v9 h11 hq => ?_) (fun E h9 hq => by cases hq.1)
  obtain ⟨e1, e2⟩ := hq
  cases e1
  rw [e2, ht]
  refine K_iload (x := kq) (dt_at dtL_law_c35 29 rfl) rfl ?_
  refine K_icmp_same (tgt := 2403) (dt_at dtL_law_c35 30 rfl) (by decide) ?_
  refine K_iload (x := kq) (dt_at dtL_law_c35 33 rfl) rfl ?_
  refine K_if_ne (tgt := 2420) (dt_at dtL_law_c35 34 rfl) (by decide) hk2 (fun z9 => ?_) (fun z9 => ?_)
  · skip
    refine K_goto (tgt := 2595) (dt_at dtL_law_c35 44 rfl) (by decide) ?_
    refine K_widen (nc2 := nc + 8) (ns2 := ns + 48) (show nc + 2 + 0 + 0 ≤ nc + 8 by omega) (show ns + 12 + 0 + 0 ≤ ns + 48 by omega) ?_
    exact K_pk [2, 3, 4, 5, 6] (ls' := LwS i) rfl (kk A' h10 (CI_FC I' F) V')
  · have z8 : kq = 0 := z9
    have hz : hA h10 29 0 = wr y := by rw [F.1 29 (by omega)]; exact ho z8
    refine K_aload_n (a := 29) (dt_at dtL_law_c35 35 rfl) rfl rfl ?_
    refine K_iconst (dt_at dtL_law_c35 36 rfl) ?_
    refine K_lald (a := 29) (n := 1) (dt_at dtL_law_c35 37 rfl) rfl (by decide) (by decide) ?_
    rw [hz]
    refine K_iload (x := y) (dt_at dtL_law_c35 38 rfl) rfl ?_
    refine K_i2lw (dt_at dtL_law_c35 39 rfl) ?_
    refine K_lcmpS (dt_at dtL_law_c35 40 rfl) (wr_64 y) ?_
    refine K_if_eq (tgt := 2420) (dt_at dtL_law_c35 41 rfl) (by decide) ⟨by decide, by decide⟩ (fun _ => ?_) (fun z7 => (z7 rfl).elim)
    refine K_goto (tgt := 2595) (dt_at dtL_law_c35 44 rfl) (by decide) ?_
    refine K_widen (nc2 := nc + 8) (ns2 := ns + 48) (show nc + 2 + 0 + 0 ≤ nc + 8 by omega) (show ns + 12 + 0 + 0 ≤ ns + 48 by omega) ?_
    exact K_pk [2, 3, 4, 5, 6] (ls' := LwS i) rfl (kk A' h10 (CI_FC I' F) V')
set_option maxHeartbeats 4000000 in
set_option maxRecDepth 100000 in
theorem lw_c36 {h : HP} {A : AS} {i : Int} {nc ns L : Nat} {xs : Nat → Int32} (hL : L ≤ 3072) (h0 : 0 ≤ i) (h1 : i + 6 ≤ L) (hnc : nc + 8 ≤ 601024) (hns : ns + 48 ≤ 7293034) (I : CI h A) (V : MV h A) (kk : ∀ A' h', CI h' A' → MV h' A' → K mL_law (GL L xs) ZL (nc + 8) (ns + 48) 2595 (LwS i) [] h') : K mL_law (GL L xs) ZL nc ns 2423 (LwS i) [] h := by
  obtain ⟨Q1, s1, q0⟩ := pair_load I (xv_i xs (i + 1)) (xv_i xs (i + 2))
  have q : PQ mX12_load [vi (xv xs (i + 1)), vi (xv xs (i + 2))] cNS h A Q1 := q0
  refine K_aload_n (a := 30) (dt_at dtL_law_c36 0 rfl) rfl rfl ?_
  refine K_aload_nS (a := 50) (dt_at dtL_law_c36 1 rfl) rfl rfl ?_
  refine K_iload (x := i) (dt_at dtL_law_c36 2 rfl) rfl ?_
  refine K_iconst (dt_at dtL_law_c36 3 rfl) ?_
  refine K_iadd (dt_at dtL_law_c36 4 rfl) ?_
  refine K_sld (dt_at dtL_law_c36 5 rfl) (by omega) (by omega) (by omega) ?_
  refine K_aload_nS (a := 50) (dt_at dtL_law_c36 6 rfl) rfl rfl ?_
  refine K_iload (x := i) (dt_at dtL_law_c36 7 rfl) rfl ?_
  refine K_iconst (dt_at dtL_law_c36 8 rfl) ?_
  refine K_iadd (dt_at dtL_law_c36 9 rfl) ?_
  refine K_sld (dt_at dtL_law_c36 10 rfl) (by omega) (by omega) (by omega) ?_
  refine K_aload_n (a := 29) (dt_at dtL_law_c36 11 rfl) rfl rfl ?_
  refine K_callH (M' := mL_load) (hh := hL_load) (As := [vr 30, vi (xv xs (i + 1)), vi (xv xs (i + 2)), vr 29]) (st := []) (dt_at dtL_law_c36 12 rfl) (sL_load s1 (PQ_ok q)) wL_L_243 vL_load rfl npL_load (by decide) (by decide) (Nat.le_of_ble_eq_true rfl) (show nc + 2 ≤ 601024 by omega) (show ns + 12 ≤ 7293034 by omega) GL_E (fun v9 h9 hq => ?_) (fun E h9 hq => (lawPx hq).elim)
  obtain ⟨A', kq, y, rfl, hk2, I', s2, ho⟩ := lawP cNS_b V q hq
  refine K_istore (ls' := [(5, vi kq), (0, vs 51), (1, vr 30), (2, vr 0), (3, vr 29), (4, vi i)]) (dt_at dtL_law_c36 13 rfl) (by decide) rfl ?_
  refine K_aload_n (a := 0) (dt_at dtL_law_c36 14 rfl) rfl rfl ?_
  refine K_aload_nS (a := 50) (dt_at dtL_law_c36 15 rfl) rfl rfl ?_
  refine K_iload (x := i) (dt_at dtL_law_c36 16 rfl) rfl ?_
  refine K_iconst (dt_at dtL_law_c36 17 rfl) ?_
  refine K_iadd (dt_at dtL_law_c36 18 rfl) ?_
  refine K_sld (dt_at dtL_law_c36 19 rfl) (by omega) (by omega) (by omega) ?_
  refine K_aload_nS (a := 50) (dt_at dtL_law_c36 20 rfl) rfl rfl ?_
  refine K_iload (x := i) (dt_at dtL_law_c36 21 rfl) rfl ?_
  refine K_iconst (dt_at dtL_law_c36 22 rfl) ?_
  refine K_iadd (dt_at dtL_law_c36 23 rfl) ?_
  refine K_sld (dt_at dtL_law_c36 24 rfl) (by omega) (by omega) (by omega) ?_
  refine K_callV (M' := mX12_load) (a := 0) (ci := 12) (As := [vi (xv xs (i + 1)), vi (xv xs (i + 2))]) (st := []) (dt_at dtL_law_c36 25 rfl) s2 (show TT 0 = (0, 12) from rfl) rfl wL_L_245 vX12_load rfl npX12_load (by decide) (by decide) (Nat.le_of_ble_eq_true rfl) (show nc + 2 + 0 ≤ 601024 by omega) (show ns + 12 + 0 ≤ 7293034 by omega) GL_E (fun v9 h10 hq => ?_) (fun E h9 hq => by cases hq.1)
  obtain ⟨e1, V', F, ht⟩ := hq
  cases e1
  refine K_istore (ls' := [(6, vi y), (5, vi kq), (0, vs 51), (1, vr 30), (2, vr 0), (3, vr 29), (4, vi i)]) (dt_at dtL_law_c36 26 rfl) (by decide) rfl ?_
  refine K_aload_n (a := 0) (dt_at dtL_law_c36 27 rfl) rfl rfl ?_
  refine K_callV (M' := mX12_thrown) (a := 0) (ci := 12) (As := []) (st := []) (dt_at dtL_law_c36 28 rfl) sX12_thrown (show TT 0 = (0, 12) from rfl) rfl wL_L_129 vX12_thrown rfl npX12_thrown (by decide) (by decide) (Nat.le_of_ble_eq_true rfl) (show nc + 2 + 0 + 0 ≤ 601024 by omega) (show ns + 12 + 0 + 0 ≤ 7293034 by omega) GL_E (fun v9 h11 hq => ?_) (fun E h9 hq => by cases hq.1)
  obtain ⟨e1, e2⟩ := hq
  cases e1
  rw [e2, ht]
  refine K_iload (x := kq) (dt_at dtL_law_c36 29 rfl) rfl ?_
  refine K_icmp_same (tgt := 2471) (dt_at dtL_law_c36 30 rfl) (by decide) ?_
  refine K_iload (x := kq) (dt_at dtL_law_c36 33 rfl) rfl ?_
  refine K_if_ne (tgt := 2488) (dt_at dtL_law_c36 34 rfl) (by decide) hk2 (fun z9 => ?_) (fun z9 => ?_)
  · skip
    refine K_goto (tgt := 2595) (dt_at dtL_law_c36 44 rfl) (by decide) ?_
    refine K_widen (nc2 := nc + 8) (ns2 := ns + 48) (show nc + 2 + 0 + 0 ≤ nc + 8 by omega) (show ns + 12 + 0 + 0 ≤ ns + 48 by omega) ?_
    exact K_pk [2, 3, 4, 5, 6] (ls' := LwS i) rfl (kk A' h10 (CI_FC I' F) V')
  · have z8 : kq = 0 := z9
    have hz : hA h10 29 0 = wr y := by rw [F.1 29 (by omega)]; exact ho z8
    refine K_aload_n (a := 29) (dt_at dtL_law_c36 35 rfl) rfl rfl ?_
    refine K_iconst (dt_at dtL_law_c36 36 rfl) ?_
    refine K_lald (a := 29) (n := 1) (dt_at dtL_law_c36 37 rfl) rfl (by decide) (by decide) ?_
    rw [hz]
    refine K_iload (x := y) (dt_at dtL_law_c36 38 rfl) rfl ?_
    refine K_i2lw (dt_at dtL_law_c36 39 rfl) ?_
    refine K_lcmpS (dt_at dtL_law_c36 40 rfl) (wr_64 y) ?_
    refine K_if_eq (tgt := 2488) (dt_at dtL_law_c36 41 rfl) (by decide) ⟨by decide, by decide⟩ (fun _ => ?_) (fun z7 => (z7 rfl).elim)
    refine K_goto (tgt := 2595) (dt_at dtL_law_c36 44 rfl) (by decide) ?_
    refine K_widen (nc2 := nc + 8) (ns2 := ns + 48) (show nc + 2 + 0 + 0 ≤ nc + 8 by omega) (show ns + 12 + 0 + 0 ≤ ns + 48 by omega) ?_
    exact K_pk [2, 3, 4, 5, 6] (ls' := LwS i) rfl (kk A' h10 (CI_FC I' F) V')
set_option maxHeartbeats 4000000 in
set_option maxRecDepth 100000 in
theorem lw_c37 {h : HP} {A : AS} {i : Int} {nc ns L : Nat} {xs : Nat → Int32} (hL : L ≤ 3072) (h0 : 0 ≤ i) (h1 : i + 6 ≤ L) (hnc : nc + 8 ≤ 601024) (hns : ns + 48 ≤ 7293034) (I : CI h A) (V : MV h A) (kk : ∀ A' h', CI h' A' → MV h' A' → K mL_law (GL L xs) ZL (nc + 8) (ns + 48) 2595 (LwS i) [] h') : K mL_law (GL L xs) ZL nc ns 2491 (LwS i) [] h := by
  obtain ⟨Q1, s1, q0⟩ := pair_without I (xv_i xs (i + 1)) (xv_i xs (i + 2)) (xv_i xs (i + 3))
  have q : PQ mX12_without [vi (xv xs (i + 1)), vi (xv xs (i + 2)), vi (xv xs (i + 3))] cNS h A Q1 := q0
  refine K_aload_n (a := 30) (dt_at dtL_law_c37 0 rfl) rfl rfl ?_
  refine K_aload_nS (a := 50) (dt_at dtL_law_c37 1 rfl) rfl rfl ?_
  refine K_iload (x := i) (dt_at dtL_law_c37 2 rfl) rfl ?_
  refine K_iconst (dt_at dtL_law_c37 3 rfl) ?_
  refine K_iadd (dt_at dtL_law_c37 4 rfl) ?_
  refine K_sld (dt_at dtL_law_c37 5 rfl) (by omega) (by omega) (by omega) ?_
  refine K_aload_nS (a := 50) (dt_at dtL_law_c37 6 rfl) rfl rfl ?_
  refine K_iload (x := i) (dt_at dtL_law_c37 7 rfl) rfl ?_
  refine K_iconst (dt_at dtL_law_c37 8 rfl) ?_
  refine K_iadd (dt_at dtL_law_c37 9 rfl) ?_
  refine K_sld (dt_at dtL_law_c37 10 rfl) (by omega) (by omega) (by omega) ?_
  refine K_aload_nS (a := 50) (dt_at dtL_law_c37 11 rfl) rfl rfl ?_
  refine K_iload (x := i) (dt_at dtL_law_c37 12 rfl) rfl ?_
  refine K_iconst (dt_at dtL_law_c37 13 rfl) ?_
  refine K_iadd (dt_at dtL_law_c37 14 rfl) ?_
  refine K_sld (dt_at dtL_law_c37 15 rfl) (by omega) (by omega) (by omega) ?_
  refine K_aload_n (a := 29) (dt_at dtL_law_c37 16 rfl) rfl rfl ?_
  refine K_callH (M' := mL_without) (hh := hL_without) (As := [vr 30, vi (xv xs (i + 1)), vi (xv xs (i + 2)), vi (xv xs (i + 3)), vr 29]) (st := []) (dt_at dtL_law_c37 17 rfl) (sL_without s1 (PQ_ok q)) wL_L_246 vL_without rfl npL_without (by decide) (by decide) (Nat.le_of_ble_eq_true rfl) (show nc + 3 ≤ 601024 by omega) (show ns + 18 ≤ 7293034 by omega) GL_E (fun v9 h9 hq => ?_) (fun E h9 hq => (lawPx hq).elim)
  obtain ⟨A', kq, y, rfl, hk2, I', s2, ho⟩ := lawP cNS_b V q hq
  refine K_istore (ls' := [(5, vi kq), (0, vs 51), (1, vr 30), (2, vr 0), (3, vr 29), (4, vi i)]) (dt_at dtL_law_c37 18 rfl) (by decide) rfl ?_
  refine K_aload_n (a := 0) (dt_at dtL_law_c37 19 rfl) rfl rfl ?_
  refine K_aload_nS (a := 50) (dt_at dtL_law_c37 20 rfl) rfl rfl ?_
  refine K_iload (x := i) (dt_at dtL_law_c37 21 rfl) rfl ?_
  refine K_iconst (dt_at dtL_law_c37 22 rfl) ?_
  refine K_iadd (dt_at dtL_law_c37 23 rfl) ?_
  refine K_sld (dt_at dtL_law_c37 24 rfl) (by omega) (by omega) (by omega) ?_
  refine K_aload_nS (a := 50) (dt_at dtL_law_c37 25 rfl) rfl rfl ?_
  refine K_iload (x := i) (dt_at dtL_law_c37 26 rfl) rfl ?_
  refine K_iconst (dt_at dtL_law_c37 27 rfl) ?_
  refine K_iadd (dt_at dtL_law_c37 28 rfl) ?_
  refine K_sld (dt_at dtL_law_c37 29 rfl) (by omega) (by omega) (by omega) ?_
  refine K_aload_nS (a := 50) (dt_at dtL_law_c37 30 rfl) rfl rfl ?_
  refine K_iload (x := i) (dt_at dtL_law_c37 31 rfl) rfl ?_
  refine K_iconst (dt_at dtL_law_c37 32 rfl) ?_
  refine K_iadd (dt_at dtL_law_c37 33 rfl) ?_
  refine K_sld (dt_at dtL_law_c37 34 rfl) (by omega) (by omega) (by omega) ?_
  refine K_callV (M' := mX12_without) (a := 0) (ci := 12) (As := [vi (xv xs (i + 1)), vi (xv xs (i + 2)), vi (xv xs (i + 3))]) (st := []) (dt_at dtL_law_c37 35 rfl) s2 (show TT 0 = (0, 12) from rfl) rfl wL_L_248 vX12_without rfl npX12_without (by decide) (by decide) (Nat.le_of_ble_eq_true rfl) (show nc + 3 + 0 ≤ 601024 by omega) (show ns + 18 + 0 ≤ 7293034 by omega) GL_E (fun v9 h10 hq => ?_) (fun E h9 hq => by cases hq.1)
  obtain ⟨e1, V', F, ht⟩ := hq
  cases e1
  refine K_istore (ls' := [(6, vi y), (5, vi kq), (0, vs 51), (1, vr 30), (2, vr 0), (3, vr 29), (4, vi i)]) (dt_at dtL_law_c37 36 rfl) (by decide) rfl ?_
  refine K_aload_n (a := 0) (dt_at dtL_law_c37 37 rfl) rfl rfl ?_
  refine K_callV (M' := mX12_thrown) (a := 0) (ci := 12) (As := []) (st := []) (dt_at dtL_law_c37 38 rfl) sX12_thrown (show TT 0 = (0, 12) from rfl) rfl wL_L_129 vX12_thrown rfl npX12_thrown (by decide) (by decide) (Nat.le_of_ble_eq_true rfl) (show nc + 3 + 0 + 0 ≤ 601024 by omega) (show ns + 18 + 0 + 0 ≤ 7293034 by omega) GL_E (fun v9 h11 hq => ?_) (fun E h9 hq => by cases hq.1)
  obtain ⟨e1, e2⟩ := hq
  cases e1
  rw [e2, ht]
  refine K_iload (x := kq) (dt_at dtL_law_c37 39 rfl) rfl ?_
  refine K_icmp_same (tgt := 2551) (dt_at dtL_law_c37 40 rfl) (by decide) ?_
  refine K_iload (x := kq) (dt_at dtL_law_c37 43 rfl) rfl ?_
  refine K_if_ne (tgt := 2568) (dt_at dtL_law_c37 44 rfl) (by decide) hk2 (fun z9 => ?_) (fun z9 => ?_)
  · skip
    refine K_goto (tgt := 2595) (dt_at dtL_law_c37 54 rfl) (by decide) ?_
    refine K_widen (nc2 := nc + 8) (ns2 := ns + 48) (show nc + 3 + 0 + 0 ≤ nc + 8 by omega) (show ns + 18 + 0 + 0 ≤ ns + 48 by omega) ?_
    exact K_pk [2, 3, 4, 5, 6] (ls' := LwS i) rfl (kk A' h10 (CI_FC I' F) V')
  · have z8 : kq = 0 := z9
    have hz : hA h10 29 0 = wr y := by rw [F.1 29 (by omega)]; exact ho z8
    refine K_aload_n (a := 29) (dt_at dtL_law_c37 45 rfl) rfl rfl ?_
    refine K_iconst (dt_at dtL_law_c37 46 rfl) ?_
    refine K_lald (a := 29) (n := 1) (dt_at dtL_law_c37 47 rfl) rfl (by decide) (by decide) ?_
    rw [hz]
    refine K_iload (x := y) (dt_at dtL_law_c37 48 rfl) rfl ?_
    refine K_i2lw (dt_at dtL_law_c37 49 rfl) ?_
    refine K_lcmpS (dt_at dtL_law_c37 50 rfl) (wr_64 y) ?_
    refine K_if_eq (tgt := 2568) (dt_at dtL_law_c37 51 rfl) (by decide) ⟨by decide, by decide⟩ (fun _ => ?_) (fun z7 => (z7 rfl).elim)
    refine K_goto (tgt := 2595) (dt_at dtL_law_c37 54 rfl) (by decide) ?_
    refine K_widen (nc2 := nc + 8) (ns2 := ns + 48) (show nc + 3 + 0 + 0 ≤ nc + 8 by omega) (show ns + 18 + 0 + 0 ≤ ns + 48 by omega) ?_
    exact K_pk [2, 3, 4, 5, 6] (ls' := LwS i) rfl (kk A' h10 (CI_FC I' F) V')
set_option maxHeartbeats 4000000 in
set_option maxRecDepth 100000 in
theorem lw_c38 {h : HP} {A : AS} {i : Int} {nc ns L : Nat} {xs : Nat → Int32} (hL : L ≤ 3072) (h0 : 0 ≤ i) (h1 : i + 6 ≤ L) (hnc : nc + 8 ≤ 601024) (hns : ns + 48 ≤ 7293034) (I : CI h A) (V : MV h A) (kk : ∀ A' h', CI h' A' → MV h' A' → K mL_law (GL L xs) ZL (nc + 8) (ns + 48) 2595 (LwS i) [] h') : K mL_law (GL L xs) ZL nc ns 2571 (LwS i) [] h := by
  obtain ⟨A', s1, q⟩ := pair_image I
  refine K_aload_n (a := 30) (dt_at dtL_law_c38 0 rfl) rfl rfl ?_
  refine K_callV (M' := mX11_image) (a := 30) (ci := 11) (As := []) (st := []) (dt_at dtL_law_c38 1 rfl) s1 (show TT 30 = (0, 11) from rfl) rfl wL_L_249 vX11_image rfl npX11_image (by decide) (by decide) (Nat.le_of_ble_eq_true rfl) (show nc + 0 ≤ 601024 by omega) (show ns + 0 ≤ 7293034 by omega) GL_E (fun v9 h9 hq => ?_) (fun E h9 hq => by cases hq.1)
  obtain ⟨e1, I', F9⟩ := hq
  cases e1
  refine K_aload_n (a := 0) (dt_at dtL_law_c38 2 rfl) rfl rfl ?_
  refine K_callV (M' := mX12_image) (a := 0) (ci := 12) (As := []) (st := []) (dt_at dtL_law_c38 3 rfl) (q h9 (MV_FM V F9)) (show TT 0 = (0, 12) from rfl) rfl wL_L_252 vX12_image rfl npX12_image (by decide) (by decide) (Nat.le_of_ble_eq_true rfl) (show nc + 0 + 0 ≤ 601024 by omega) (show ns + 0 + 0 ≤ 7293034 by omega) GL_E (fun v9 h10 hq => ?_) (fun E h9 hq => by cases hq.1)
  obtain ⟨e1, V', F, ht⟩ := hq
  cases e1
  refine K_goto (tgt := 2595) (dt_at dtL_law_c38 4 rfl) (by decide) ?_
  refine K_widen (nc2 := nc + 8) (ns2 := ns + 48) (show nc + 0 + 0 ≤ nc + 8 by omega) (show ns + 0 + 0 ≤ ns + 48 by omega) ?_
  exact K_pk [0, 1, 2, 3, 4] (ls' := LwS i) rfl (kk A' h10 (CI_FC I' F) V')
set_option maxHeartbeats 4000000 in
set_option maxRecDepth 100000 in
theorem lw_c39 {h : HP} {A : AS} {i : Int} {nc ns L : Nat} {xs : Nat → Int32} (hL : L ≤ 3072) (h0 : 0 ≤ i) (h1 : i + 6 ≤ L) (hnc : nc + 8 ≤ 601024) (hns : ns + 48 ≤ 7293034) (I : CI h A) (V : MV h A) (kk : ∀ A' h', CI h' A' → MV h' A' → K mL_law (GL L xs) ZL (nc + 8) (ns + 48) 2595 (LwS i) [] h') : K mL_law (GL L xs) ZL nc ns 2582 (LwS i) [] h := by
  obtain ⟨Q1, s1, q0⟩ := pair_restore I 
  have q : PQ mX12_restore [] c00 h A Q1 := q0
  refine K_aload_n (a := 30) (dt_at dtL_law_c39 0 rfl) rfl rfl ?_
  refine K_callV (M' := mX11_restore) (a := 30) (ci := 11) (As := []) (st := []) (dt_at dtL_law_c39 1 rfl) s1 (show TT 30 = (0, 11) from rfl) rfl wL_L_253 vX11_restore rfl npX11_restore (by decide) (by decide) (Nat.le_of_ble_eq_true rfl) (show nc + 0 ≤ 601024 by omega) (show ns + 0 ≤ 7293034 by omega) GL_E (fun v9 h9 hq => ?_) (fun E h9 hq => (lawDx q hq).elim)
  obtain ⟨A', y, rfl, I', s2⟩ := lawD V q hq
  refine K_aload_n (a := 0) (dt_at dtL_law_c39 2 rfl) rfl rfl ?_
  refine K_callV (M' := mX12_restore) (a := 0) (ci := 12) (As := []) (st := [vi y]) (dt_at dtL_law_c39 3 rfl) s2 (show TT 0 = (0, 12) from rfl) rfl wL_L_257 vX12_restore rfl npX12_restore (by decide) (by decide) (Nat.le_of_ble_eq_true rfl) (show nc + 0 + 0 ≤ 601024 by omega) (show ns + 0 + 0 ≤ 7293034 by omega) GL_E (fun v9 h10 hq => ?_) (fun E h9 hq => by cases hq.1)
  obtain ⟨e1, V', F, ht⟩ := hq
  cases e1
  refine K_icmp_same (tgt := 2595) (dt_at dtL_law_c39 4 rfl) (by decide) ?_
  refine K_widen (nc2 := nc + 8) (ns2 := ns + 48) (show nc + 0 + 0 ≤ nc + 8 by omega) (show ns + 0 + 0 ≤ ns + 48 by omega) ?_
  exact K_pk [0, 1, 2, 3, 4] (ls' := LwS i) rfl (kk A' h10 (CI_FC I' F) V')
set_option maxHeartbeats 4000000 in
set_option maxRecDepth 100000 in
theorem lw_step {h : HP} {A : AS} {i : Int} {nc ns L : Nat} {xs : Nat → Int32} (hL : L ≤ 3072) (h0 : 0 ≤ i) (h1 : i + 6 ≤ L) (hnc : nc + 8 ≤ 601024) (hns : ns + 48 ≤ 7293034) (I : CI h A) (V : MV h A) (kk : ∀ A' h', CI h' A' → MV h' A' → K mL_law (GL L xs) ZL (nc + 8) (ns + 48) 2595 (LwS i) [] h') : K mL_law (GL L xs) ZL nc ns 33 (LwS i) [] h := by
  refine K_aload_nS (a := 50) (dt_at dtL_law_hd 6 rfl) rfl rfl ?_
  refine K_iload (x := i) (dt_at dtL_law_hd 7 rfl) rfl ?_
  refine K_sld (dt_at dtL_law_hd 8 rfl) (by omega) (by omega) (by omega) ?_
  refine K_bipush (dt_at dtL_law_hd 9 rfl) (by decide) ?_
  refine K_iand (dt_at dtL_law_hd 10 rfl) ?_
  have hb : i32 (bAnd (xv xs i) 63) := bAnd_i _ _
  generalize bAnd (xv xs i) 63 = x at hb ⊢
  by_cases hx : 0 ≤ x ∧ x ≤ 39
  · have h40 : x = 0 ∨ x = 1 ∨ x = 2 ∨ x = 3 ∨ x = 4 ∨ x = 5 ∨ x = 6 ∨ x = 7 ∨ x = 8 ∨ x = 9 ∨ x = 10 ∨ x = 11 ∨ x = 12 ∨ x = 13 ∨ x = 14 ∨ x = 15 ∨ x = 16 ∨ x = 17 ∨ x = 18 ∨ x = 19 ∨ x = 20 ∨ x = 21 ∨ x = 22 ∨ x = 23 ∨ x = 24 ∨ x = 25 ∨ x = 26 ∨ x = 27 ∨ x = 28 ∨ x = 29 ∨ x = 30 ∨ x = 31 ∨ x = 32 ∨ x = 33 ∨ x = 34 ∨ x = 35 ∨ x = 36 ∨ x = 37 ∨ x = 38 ∨ x = 39 := by omega
    rcases h40 with rfl | rfl | rfl | rfl | rfl | rfl | rfl | rfl | rfl | rfl | rfl | rfl | rfl | rfl | rfl | rfl | rfl | rfl | rfl | rfl | rfl | rfl | rfl | rfl | rfl | rfl | rfl | rfl | rfl | rfl | rfl | rfl | rfl | rfl | rfl | rfl | rfl | rfl | rfl | rfl
    · exact K_tableIn (tgt := 216) (dt_at dtL_law_hd 11 rfl) ⟨by decide, by decide⟩ (by decide) (by decide) rfl (by decide) (lw_c0 hL h0 h1 hnc hns I V kk)
    · exact K_tableIn (tgt := 289) (dt_at dtL_law_hd 11 rfl) ⟨by decide, by decide⟩ (by decide) (by decide) rfl (by decide) (lw_c1 hL h0 h1 hnc hns I V kk)
    · exact K_tableIn (tgt := 345) (dt_at dtL_law_hd 11 rfl) ⟨by decide, by decide⟩ (by decide) (by decide) rfl (by decide) (lw_c2 hL h0 h1 hnc hns I V kk)
    · exact K_tableIn (tgt := 358) (dt_at dtL_law_hd 11 rfl) ⟨by decide, by decide⟩ (by decide) (by decide) rfl (by decide) (lw_c3 hL h0 h1 hnc hns I V kk)
    · exact K_tableIn (tgt := 414) (dt_at dtL_law_hd 11 rfl) ⟨by decide, by decide⟩ (by decide) (by decide) rfl (by decide) (lw_c4 hL h0 h1 hnc hns I V kk)
    · exact K_tableIn (tgt := 482) (dt_at dtL_law_hd 11 rfl) ⟨by decide, by decide⟩ (by decide) (by decide) rfl (by decide) (lw_c5 hL h0 h1 hnc hns I V kk)
    · exact K_tableIn (tgt := 550) (dt_at dtL_law_hd 11 rfl) ⟨by decide, by decide⟩ (by decide) (by decide) rfl (by decide) (lw_c6 hL h0 h1 hnc hns I V kk)
    · exact K_tableIn (tgt := 618) (dt_at dtL_law_hd 11 rfl) ⟨by decide, by decide⟩ (by decide) (by decide) rfl (by decide) (lw_c7 hL h0 h1 hnc hns I V kk)
    · exact K_tableIn (tgt := 643) (dt_at dtL_law_hd 11 rfl) ⟨by decide, by decide⟩ (by decide) (by decide) rfl (by decide) (lw_c8 hL h0 h1 hnc hns I V kk)
    · exact K_tableIn (tgt := 718) (dt_at dtL_law_hd 11 rfl) ⟨by decide, by decide⟩ (by decide) (by decide) rfl (by decide) (lw_c9 hL h0 h1 hnc hns I V kk)
    · exact K_tableIn (tgt := 786) (dt_at dtL_law_hd 11 rfl) ⟨by decide, by decide⟩ (by decide) (by decide) rfl (by decide) (lw_c10 hL h0 h1 hnc hns I V kk)
    · exact K_tableIn (tgt := 854) (dt_at dtL_law_hd 11 rfl) ⟨by decide, by decide⟩ (by decide) (by decide) rfl (by decide) (lw_c11 hL h0 h1 hnc hns I V kk)
    · exact K_tableIn (tgt := 922) (dt_at dtL_law_hd 11 rfl) ⟨by decide, by decide⟩ (by decide) (by decide) rfl (by decide) (lw_c12 hL h0 h1 hnc hns I V kk)
    · exact K_tableIn (tgt := 935) (dt_at dtL_law_hd 11 rfl) ⟨by decide, by decide⟩ (by decide) (by decide) rfl (by decide) (lw_c13 hL h0 h1 hnc hns I V kk)
    · exact K_tableIn (tgt := 1015) (dt_at dtL_law_hd 11 rfl) ⟨by decide, by decide⟩ (by decide) (by decide) rfl (by decide) (lw_c14 hL h0 h1 hnc hns I V kk)
    · exact K_tableIn (tgt := 1095) (dt_at dtL_law_hd 11 rfl) ⟨by decide, by decide⟩ (by decide) (by decide) rfl (by decide) (lw_c15 hL h0 h1 hnc hns I V kk)
    · exact K_tableIn (tgt := 1163) (dt_at dtL_law_hd 11 rfl) ⟨by decide, by decide⟩ (by decide) (by decide) rfl (by decide) (lw_c16 hL h0 h1 hnc hns I V kk)
    · exact K_tableIn (tgt := 1231) (dt_at dtL_law_hd 11 rfl) ⟨by decide, by decide⟩ (by decide) (by decide) rfl (by decide) (lw_c17 hL h0 h1 hnc hns I V kk)
    · exact K_tableIn (tgt := 1287) (dt_at dtL_law_hd 11 rfl) ⟨by decide, by decide⟩ (by decide) (by decide) rfl (by decide) (lw_c18 hL h0 h1 hnc hns I V kk)
    · exact K_tableIn (tgt := 1343) (dt_at dtL_law_hd 11 rfl) ⟨by decide, by decide⟩ (by decide) (by decide) rfl (by decide) (lw_c19 hL h0 h1 hnc hns I V kk)
    · exact K_tableIn (tgt := 1399) (dt_at dtL_law_hd 11 rfl) ⟨by decide, by decide⟩ (by decide) (by decide) rfl (by decide) (lw_c20 hL h0 h1 hnc hns I V kk)
    · exact K_tableIn (tgt := 1467) (dt_at dtL_law_hd 11 rfl) ⟨by decide, by decide⟩ (by decide) (by decide) rfl (by decide) (lw_c21 hL h0 h1 hnc hns I V kk)
    · exact K_tableIn (tgt := 1480) (dt_at dtL_law_hd 11 rfl) ⟨by decide, by decide⟩ (by decide) (by decide) rfl (by decide) (lw_c22 hL h0 h1 hnc hns I V kk)
    · exact K_tableIn (tgt := 1536) (dt_at dtL_law_hd 11 rfl) ⟨by decide, by decide⟩ (by decide) (by decide) rfl (by decide) (lw_c23 hL h0 h1 hnc hns I V kk)
    · exact K_tableIn (tgt := 1628) (dt_at dtL_law_hd 11 rfl) ⟨by decide, by decide⟩ (by decide) (by decide) rfl (by decide) (lw_c24 hL h0 h1 hnc hns I V kk)
    · exact K_tableIn (tgt := 1639) (dt_at dtL_law_hd 11 rfl) ⟨by decide, by decide⟩ (by decide) (by decide) rfl (by decide) (lw_c25 hL h0 h1 hnc hns I V kk)
    · exact K_tableIn (tgt := 1695) (dt_at dtL_law_hd 11 rfl) ⟨by decide, by decide⟩ (by decide) (by decide) rfl (by decide) (lw_c26 hL h0 h1 hnc hns I V kk)
    · exact K_tableIn (tgt := 1751) (dt_at dtL_law_hd 11 rfl) ⟨by decide, by decide⟩ (by decide) (by decide) rfl (by decide) (lw_c27 hL h0 h1 hnc hns I V kk)
    · exact K_tableIn (tgt := 1831) (dt_at dtL_law_hd 11 rfl) ⟨by decide, by decide⟩ (by decide) (by decide) rfl (by decide) (lw_c28 hL h0 h1 hnc hns I V kk)
    · exact K_tableIn (tgt := 1911) (dt_at dtL_law_hd 11 rfl) ⟨by decide, by decide⟩ (by decide) (by decide) rfl (by decide) (lw_c29 hL h0 h1 hnc hns I V kk)
    · exact K_tableIn (tgt := 1991) (dt_at dtL_law_hd 11 rfl) ⟨by decide, by decide⟩ (by decide) (by decide) rfl (by decide) (lw_c30 hL h0 h1 hnc hns I V kk)
    · exact K_tableIn (tgt := 2071) (dt_at dtL_law_hd 11 rfl) ⟨by decide, by decide⟩ (by decide) (by decide) rfl (by decide) (lw_c31 hL h0 h1 hnc hns I V kk)
    · exact K_tableIn (tgt := 2151) (dt_at dtL_law_hd 11 rfl) ⟨by decide, by decide⟩ (by decide) (by decide) rfl (by decide) (lw_c32 hL h0 h1 hnc hns I V kk)
    · exact K_tableIn (tgt := 2231) (dt_at dtL_law_hd 11 rfl) ⟨by decide, by decide⟩ (by decide) (by decide) rfl (by decide) (lw_c33 hL h0 h1 hnc hns I V kk)
    · exact K_tableIn (tgt := 2287) (dt_at dtL_law_hd 11 rfl) ⟨by decide, by decide⟩ (by decide) (by decide) rfl (by decide) (lw_c34 hL h0 h1 hnc hns I V kk)
    · exact K_tableIn (tgt := 2355) (dt_at dtL_law_hd 11 rfl) ⟨by decide, by decide⟩ (by decide) (by decide) rfl (by decide) (lw_c35 hL h0 h1 hnc hns I V kk)
    · exact K_tableIn (tgt := 2423) (dt_at dtL_law_hd 11 rfl) ⟨by decide, by decide⟩ (by decide) (by decide) rfl (by decide) (lw_c36 hL h0 h1 hnc hns I V kk)
    · exact K_tableIn (tgt := 2491) (dt_at dtL_law_hd 11 rfl) ⟨by decide, by decide⟩ (by decide) (by decide) rfl (by decide) (lw_c37 hL h0 h1 hnc hns I V kk)
    · exact K_tableIn (tgt := 2571) (dt_at dtL_law_hd 11 rfl) ⟨by decide, by decide⟩ (by decide) (by decide) rfl (by decide) (lw_c38 hL h0 h1 hnc hns I V kk)
    · exact K_tableIn (tgt := 2582) (dt_at dtL_law_hd 11 rfl) ⟨by decide, by decide⟩ (by decide) (by decide) rfl (by decide) (lw_c39 hL h0 h1 hnc hns I V kk)
  · refine K_tableOut (tgt := 2595) (dt_at dtL_law_hd 11 rfl) hb (by omega) (by decide) ?_
    exact K_widen (nc2 := nc + 8) (ns2 := ns + 48) (by omega) (by omega) (kk A h I V)
set_option maxHeartbeats 4000000 in
set_option maxRecDepth 100000 in
theorem lw_loop {L : Nat} {xs : Nat → Int32} (hL : L ≤ 3072) : ∀ (n k : Nat), k + n = 513 → ∀ (h : HP) (A : AS), CI h A → MV h A → K mL_law (GL L xs) ZL (1000 + 8 * k) (7000000 + 48 * k) 23 (LwS ((6 * k : Nat) : Int)) [] h
  | n, k, hkn, h, A, I, V => by
    refine K_iload (x := ((6 * k : Nat) : Int)) (dt_at dtL_law_hd 0 rfl) rfl ?_
    refine K_aload_nS (a := 50) (dt_at dtL_law_hd 1 rfl) rfl rfl ?_
    refine K_slen (dt_at dtL_law_hd 2 rfl) ?_
    refine K_bipush (dt_at dtL_law_hd 3 rfl) (by decide) ?_
    refine K_isub (dt_at dtL_law_hd 4 rfl) ?_
    refine K_icmp_gt (tgt := 2601) (dt_at dtL_law_hd 5 rfl) (by decide) ⟨by omega, by omega⟩ ⟨by omega, by omega⟩ (fun z => ?_) (fun z => ?_)
    · refine K_iconst (dt_at dtL_law_tl 2 rfl) ?_
      exact K_lend (dt_at dtL_law_tl 3 rfl) (by omega) (by omega)
    · cases n with
      | zero => omega
      | succ n =>
        refine lw_step hL (by omega) (by omega) (by omega) (by omega) I V (fun A' h' I' V' => ?_)
        refine K_iinc (x := ((6 * k : Nat) : Int)) (ls' := [(4, vi (((6 * k : Nat) : Int) + 6)), (0, vs 51), (1, vr 30), (2, vr 0), (3, vr 29)]) (dt_at dtL_law_tl 0 rfl) rfl (by decide) rfl ?_
        refine K_goto (tgt := 23) (dt_at dtL_law_tl 1 rfl) (by decide) ?_
        refine K_pk [1, 2, 3, 4, 0] (ls' := LwS (((6 * k : Nat) : Int) + 6)) rfl ?_
        refine K_widen (nc2 := 1000 + 8 * (k + 1)) (ns2 := 7000000 + 48 * (k + 1)) (by omega) (by omega) ?_
        rw [show ((6 * k : Nat) : Int) + 6 = ((6 * (k + 1) : Nat) : Int) by omega]
        exact lw_loop hL n (k + 1) (by omega) h' A' I' V'

