theorem td10 (x : Nat) : (x : Int).tdiv 10 = ((x / 10 : Nat) : Int) := by
  rw [Int.tdiv_eq_ediv_of_nonneg (by omega)]; omega
theorem tm10 (x : Nat) : (x : Int).tmod 10 = ((x % 10 : Nat) : Int) := by
  rw [Int.tmod_eq_emod_of_nonneg (by omega)]; omega
theorem svF_b {S : HS} {B : Int} {N : SN} {f : Int → Int} {q k : Nat} (hB : hsW S) (hT : rT B f) (hC : rC S f) (h99 : f 0 ≤ 9999) (hq : q < sNt S) (hk : k < (gsL S N f (10 * sNp S)).length) : -1 ≤ svF S N f q k ∧ svF S N f q k ≤ 100000000 := by
  have hNt := hB.1
  obtain ⟨x, hx⟩ : ∃ y, (gsL S N f (10 * sNp S))[k]? = some y := ⟨_, List.getElem?_eq_getElem hk⟩
  unfold svF
  rw [hx]
  obtain ⟨gT, gC, g0⟩ := gsR_ok (S := S) (g := x) hT hC hB.2.1 (gsL_lt hx)
  obtain ⟨hTn, -⟩ := dysF_ok hB gT gC 10 (by rw [g0]; omega)
  exact hTn.1.1 (29 + (q : Int)) (by omega) (by omega)
theorem GV_nx {h hh : HP} {S : HS} {N : SN} {f : Int → Int} {k : Nat} (v : GV h hh S N f k (sNt S)) : GV h hh S N f (k + 1) 0 := by
  refine ⟨v.1, v.2.1, fun q hq => ?_⟩
  have := v.2.2 q hq
  rw [if_pos hq] at this
  rw [if_neg (Nat.not_lt_zero q)]
  exact this
theorem GV_add {h g g' : HP} {S : HS} {N : SN} {f : Int → Int} {k m : Nat} (v : GV h g S N f k m) (hm : m < sNt S) (hN : sNt S ≤ 6) (p1 : hA g' 116 (m : Int) = ((adL (dvL (svF S N f m) k) (svF S N f m k)).length : Int)) (p2 : laR g' (110 + m) (adL (dvL (svF S N f m) k) (svF S N f m k))) (p3 : ∀ a, a ≠ 116 → a ≠ 110 + m → hA g' a = hA g a) (p4 : ∀ i, i ≠ (m : Int) → hA g' 116 i = hA g 116 i) (p5 : hI g' = hI g) (p6 : hR g' = hR g) : GV h g' S N f k (m + 1) := by
  refine ⟨GI_fr v.1 (FS_un v.1.1 (fun a h1 h2 => p3 a h1 (by omega)) p5 p6) (by rw [p5]) (p3 108 (by decide) (by omega)), by rw [p5]; exact v.2.1, fun q hq => ?_⟩
  by_cases z : q = m
  · subst z
    rw [if_pos (by omega)]
    exact ⟨p1, p2⟩
  · have := v.2.2 q hq
    rw [show (if q < m + 1 then k + 1 else k) = (if q < m then k + 1 else k) by
      by_cases z2 : q < m
      · rw [if_pos z2, if_pos (by omega)]
      · rw [if_neg z2, if_neg (by omega)]]
    refine ⟨by rw [p4 _ (by omega)]; exact this.1, fun j x hj => ?_⟩
    rw [p3 _ (by omega) (by omega)]
    exact this.2 j x hj
theorem GV_fr {h g g' : HP} {S : HS} {N : SN} {f : Int → Int} {k m : Nat} (v : GV h g S N f k m) (hN : sNt S ≤ 6) (F : FS h g') (h1 : hI g' 100 4 = hI g 100 4) (h5 : hI g' 100 5 = hI g 100 5) (ha : ∀ a, a = 108 ∨ a = 116 ∨ (110 ≤ a ∧ a ≤ 115) → hA g' a = hA g a) : GV h g' S N f k m := by
  refine ⟨GI_fr v.1 F h1 (ha 108 (by omega)), by rw [h5]; exact v.2.1, fun q hq => ⟨by rw [ha 116 (by omega)]; exact (v.2.2 q hq).1, fun j x hj => ?_⟩⟩
  rw [ha _ (by omega)]
  exact (v.2.2 q hq).2 j x hj
def mX2_compareStocks : MI := (yX2_compareStocks, cX2_compareStocks, 5, none, rmK 7 0)
def tX2_compareStocks : List (Nat × Instr × Nat) := [(0, .aload_n 0, 1), (1, .aload_n 1, 1), (2, .getfield 79, 3), (5, .putfield 27, 3), (8, .iconst 0, 1), (9, .istore_n 3, 1), (10, .iload_n 3, 1), (11, .aload_n 0, 1), (12, .getfield 27, 3), (15, .if_icmp .ge 16, 3), (18, .aload_n 0, 1), (19, .getfield 20, 3), (22, .iload_n 3, 1), (23, .iconst 0, 1), (24, .iastore, 1), (25, .iinc 3 1, 3), (28, .goto (-18), 3), (31, .iconst 0, 1), (32, .istore_n 3, 1), (33, .iload_n 3, 1), (34, .aload_n 0, 1), (35, .getfield 23, 3), (38, .if_icmp .ge 91, 3), (41, .aload_n 0, 1), (42, .getfield 35, 3), (45, .aload_n 1, 1), (46, .aload_n 2, 1), (47, .invokevirtual 39, 3), (50, .aload_n 0, 1), (51, .getfield 35, 3), (54, .getfield 53, 3), (57, .aload_n 0, 1), (58, .getfield 9, 3), (61, .iload_n 3, 1), (62, .iaload, 1), (63, .bipush 10, 2), (65, .idiv, 1), (66, .aload_n 0, 1), (67, .getfield 9, 3), (70, .iload_n 3, 1), (71, .iaload, 1), (72, .bipush 10, 2), (74, .irem, 1), (75, .invokevirtual 75, 3), (78, .aload_n 0, 1), (79, .getfield 35, 3), (82, .bipush 10, 2), (84, .invokevirtual 80, 3), (87, .iconst 0, 1), (88, .istore 4, 2), (90, .iload 4, 2), (92, .aload_n 0, 1), (93, .getfield 27, 3), (96, .if_icmp .ge 27, 3), (99, .aload_n 0, 1), (100, .iload 4, 2), (102, .aload_n 0, 1), (103, .getfield 35, 3), (106, .getfield 53, 3), (109, .iload 4, 2), (111, .invokevirtual 84, 3), (114, .invokevirtual 87, 3), (117, .iinc 4 1, 3), (120, .goto (-30), 3), (123, .iinc 3 1, 3), (126, .goto (-93), 3), (129, .return_, 1)]
theorem dtX2_compareStocks : tX2_compareStocks.all (fun q => decide (decode cX2_compareStocks q.1 = .ok (q.2.1, q.2.2))) = true := by decide +kernel
theorem npX2_compareStocks : (parseMethodDescriptor (mY mX2_compareStocks).desc).map (fun d => d.parameters.length) = some 2 := by decide +kernel
theorem vX2_compareStocks : mV mX2_compareStocks := ⟨wI_X2_compareStocks, wS_X2_compareStocks, wN_X2, wC_X2_compareStocks, by decide +kernel, by decide +kernel⟩
set_option maxHeartbeats 4000000 in
set_option maxRecDepth 100000 in
theorem la_X2_compareStocks {Z : CT → State → Prop} {h : HP} {t : Nat} {S : HS} {B : Int} {f : Int → Int} {N : SN} (u0 : GU h t S B f N) (kx : ∀ h2, GV h h2 S N f 0 0 → K mX2_compareStocks GK Z 0 0 31 [(0, vr 100), (1, vr t), (2, vr 66)] [] h2) : ∀ (d k : Nat) (hh : HP), k + d = sNt S → GI h hh (gsL S N f (10 * sNp S)) → hI hh 100 5 = (sNt S : Int) → (∀ j : Nat, j < k → hA hh 116 (j : Int) = 0) → K mX2_compareStocks GK Z 0 0 10 [(3, vi (k : Int)), (0, vr 100), (1, vr t), (2, vr 66)] [] hh := by
  intro d
  induction d with
  | zero =>
    intro k hh hk Ih i5h zj
    have u := GU_FS u0 Ih.1
    have c := u.1
    have ht := c.1
    have hH := TTt ht
    have hB := c.2.2.2.1
    have hNt := hB.1
    have hNp := hB.2.1
    have hT := c.2.2.2.2.2.1
    have hC := c.2.2.2.2.2.2.1
    have h99 := c.2.2.2.2.2.2.2.1
    have G := c.2.2.2.2.2.2.2.2
    have hf0 := hT.2.2.2.1
    refine K_iload_n (dt_at dtX2_compareStocks 6 rfl) rfl rfl ?_
    refine K_aload_n (dt_at dtX2_compareStocks 7 rfl) rfl rfl ?_
    refine K_get (a := 100) (ci := 2) (k := 5) (v := vi (sNt S : Int)) (dt_at dtX2_compareStocks 8 rfl) (show TT 100 = (0, 2) from rfl) rfl (by decide) wF_X2_27 (by show vi (hI hh 100 5) = vi (sNt S : Int); rw [i5h]) ?_
    refine K_icmp_ge (tgt := 31) (dt_at dtX2_compareStocks 9 rfl) (by decide) (by first | assumption | exact ⟨by omega, by omega⟩) (by first | assumption | exact ⟨by omega, by omega⟩) (fun c1 => ?_) (fun c1 => absurd c1 (by omega))
    exact K_pk [1, 2, 3] rfl (kx hh ⟨Ih, i5h, fun q hq => ⟨by rw [if_neg (Nat.not_lt_zero q)]; exact zj q (by omega), fun j x hj => by rw [if_neg (Nat.not_lt_zero q)] at hj; cases hj⟩⟩)
  | succ d ih =>
    intro k hh hk Ih i5h zj
    have u := GU_FS u0 Ih.1
    have c := u.1
    have ht := c.1
    have hH := TTt ht
    have hB := c.2.2.2.1
    have hNt := hB.1
    have hNp := hB.2.1
    have hT := c.2.2.2.2.2.1
    have hC := c.2.2.2.2.2.2.1
    have h99 := c.2.2.2.2.2.2.2.1
    have G := c.2.2.2.2.2.2.2.2
    have hf0 := hT.2.2.2.1
    refine K_iload_n (dt_at dtX2_compareStocks 6 rfl) rfl rfl ?_
    refine K_aload_n (dt_at dtX2_compareStocks 7 rfl) rfl rfl ?_
    refine K_get (a := 100) (ci := 2) (k := 5) (v := vi (sNt S : Int)) (dt_at dtX2_compareStocks 8 rfl) (show TT 100 = (0, 2) from rfl) rfl (by decide) wF_X2_27 (by show vi (hI hh 100 5) = vi (sNt S : Int); rw [i5h]) ?_
    refine K_icmp_ge (tgt := 31) (dt_at dtX2_compareStocks 9 rfl) (by decide) (by first | assumption | exact ⟨by omega, by omega⟩) (by first | assumption | exact ⟨by omega, by omega⟩) (fun c1 => absurd c1 (by omega)) (fun c1 => ?_)
    refine K_aload_n (dt_at dtX2_compareStocks 10 rfl) rfl rfl ?_
    refine K_get (a := 100) (ci := 2) (k := 3) (v := vr 116) (dt_at dtX2_compareStocks 11 rfl) (show TT 100 = (0, 2) from rfl) rfl (by decide) wF_X2_20 rfl ?_
    refine K_iload_n (dt_at dtX2_compareStocks 12 rfl) rfl rfl ?_
    refine K_iconst (dt_at dtX2_compareStocks 13 rfl) ?_
    refine K_iast (dt_at dtX2_compareStocks 14 rfl) (show TT 116 = (1, 6) from rfl) (by omega) (by omega) ?_
    obtain ⟨hq1, eq1⟩ : ∃ z, z = sA hh 116 (k : Int) 0 := ⟨_, rfl⟩
    rw [← eq1]
    obtain ⟨aq1, fq1, iq1, rq1⟩ := sA_fx eq1
    refine K_iinc (ls' := [(3, vi ((k : Int) + 1)), (0, vr 100), (1, vr t), (2, vr 66)]) (dt_at dtX2_compareStocks 15 rfl) rfl (by decide) rfl ?_
    refine K_goto (tgt := 10) (dt_at dtX2_compareStocks 16 rfl) (by decide) ?_
    exact K_pk [0, 1, 2, 3] rfl (ih (k + 1) hq1 (by omega) (GI_fr Ih (FS_un Ih.1 (fun a h1 h2 => fq1 a h1) iq1 rq1) (by rw [iq1]) (fq1 108 (by decide))) (by rw [iq1]; exact i5h) (fun j hj => by rw [aq1]; unfold upI; by_cases z : (j : Int) = (k : Int); rw [if_pos z]; rw [if_neg z]; exact zj j (by omega)))
set_option maxHeartbeats 4000000 in
set_option maxRecDepth 100000 in
theorem lc_X2_compareStocks {Z : CT → State → Prop} {h : HP} {t : Nat} {S : HS} {B : Int} {f : Int → Int} {N : SN} {e x : Nat} (u0 : GU h t S B f N) (he : e < (gsL S N f (10 * sNp S)).length) (hx : (gsL S N f (10 * sNp S))[e]? = some x) (kx : ∀ h2, GV h h2 S N f e (sNt S) → K mX2_compareStocks GK Z 0 0 123 [(3, vi (e : Int)), (0, vr 100), (1, vr t), (2, vr 66)] [] h2) : ∀ (d k : Nat) (hh : HP), k + d = sNt S → GV h hh S N f e k → hA hh 103 = (dysF S (gsR f x) 10) → K mX2_compareStocks GK Z 0 0 90 [(4, vi (k : Int)), (3, vi (e : Int)), (0, vr 100), (1, vr t), (2, vr 66)] [] hh := by
  intro d
  induction d with
  | zero =>
    intro k hh hk Vh rh
    have u := GU_FS u0 Vh.1.1
    have c := u.1
    have ht := c.1
    have hH := TTt ht
    have hB := c.2.2.2.1
    have hNt := hB.1
    have hNp := hB.2.1
    have hT := c.2.2.2.2.2.1
    have hC := c.2.2.2.2.2.2.1
    have h99 := c.2.2.2.2.2.2.2.1
    have G := c.2.2.2.2.2.2.2.2
    have hf0 := hT.2.2.2.1
    have ek : k = sNt S := by omega
    have hl := gsL_len (S := S) (N := N) (f := f) (10 * sNp S)
    refine K_iload (dt_at dtX2_compareStocks 50 rfl) rfl ?_
    refine K_aload_n (dt_at dtX2_compareStocks 51 rfl) rfl rfl ?_
    refine K_get (a := 100) (ci := 2) (k := 5) (v := vi (sNt S : Int)) (dt_at dtX2_compareStocks 52 rfl) (show TT 100 = (0, 2) from rfl) rfl (by decide) wF_X2_27 (by show vi (hI hh 100 5) = vi (sNt S : Int); rw [Vh.2.1]) ?_
    refine K_icmp_ge (tgt := 123) (dt_at dtX2_compareStocks 53 rfl) (by decide) (by first | assumption | exact ⟨by omega, by omega⟩) (by first | assumption | exact ⟨by omega, by omega⟩) (fun c1 => ?_) (fun c1 => absurd c1 (by omega))
    exact K_pk [1, 2, 3, 4] rfl (kx hh (by rw [← ek]; exact Vh))
  | succ d ih =>
    intro k hh hk Vh rh
    have u := GU_FS u0 Vh.1.1
    have c := u.1
    have ht := c.1
    have hH := TTt ht
    have hB := c.2.2.2.1
    have hNt := hB.1
    have hNp := hB.2.1
    have hT := c.2.2.2.2.2.1
    have hC := c.2.2.2.2.2.2.1
    have h99 := c.2.2.2.2.2.2.2.1
    have G := c.2.2.2.2.2.2.2.2
    have hf0 := hT.2.2.2.1
    have hl := gsL_len (S := S) (N := N) (f := f) (10 * sNp S)
    refine K_iload (dt_at dtX2_compareStocks 50 rfl) rfl ?_
    refine K_aload_n (dt_at dtX2_compareStocks 51 rfl) rfl rfl ?_
    refine K_get (a := 100) (ci := 2) (k := 5) (v := vi (sNt S : Int)) (dt_at dtX2_compareStocks 52 rfl) (show TT 100 = (0, 2) from rfl) rfl (by decide) wF_X2_27 (by show vi (hI hh 100 5) = vi (sNt S : Int); rw [Vh.2.1]) ?_
    refine K_icmp_ge (tgt := 123) (dt_at dtX2_compareStocks 53 rfl) (by decide) (by first | assumption | exact ⟨by omega, by omega⟩) (by first | assumption | exact ⟨by omega, by omega⟩) (fun c1 => absurd c1 (by omega)) (fun c1 => ?_)
    refine K_aload_n (dt_at dtX2_compareStocks 54 rfl) rfl rfl ?_
    refine K_iload (dt_at dtX2_compareStocks 55 rfl) rfl ?_
    refine K_aload_n (dt_at dtX2_compareStocks 56 rfl) rfl rfl ?_
    refine K_get (a := 100) (ci := 2) (k := 0) (v := vr 101) (dt_at dtX2_compareStocks 57 rfl) (show TT 100 = (0, 2) from rfl) rfl (by decide) wF_X2_35 rfl ?_
    refine K_get (a := 101) (ci := 10) (k := 0) (v := vr 102) (dt_at dtX2_compareStocks 58 rfl) (show TT 101 = (0, 10) from rfl) rfl (by decide) wF_X2_53 rfl ?_
    refine K_iload (dt_at dtX2_compareStocks 59 rfl) rfl ?_
    refine K_callV (M' := mX8_stock) (a := 102) (ci := 8) (As := [vi (k : Int)]) (st := [vi (k : Int), vr 100]) (dt_at dtX2_compareStocks 60 rfl) (sX8_stock (a := 102) rfl ⟨by omega, by omega⟩) (show TT 102 = (0, 8) from rfl) rfl wL_X2_84 vX8_stock rfl npX8_stock (by decide) (by decide) (Nat.le_of_ble_eq_true rfl) (by decide) (by decide) GK_E (fun v9 h9 hq => ?_) (fun E h9 hq => by cases hq.1)
    obtain ⟨e9, e8⟩ := hq
    cases e9
    rw [e8]
    show K mX2_compareStocks _ _ 0 0 114 [(4, vi (k : Int)), (3, vi (e : Int)), (0, vr 100), (1, vr t), (2, vr 66)] [vi (hA hh (102 + 1) (29 + (k : Int))), vi (k : Int), vr 100] hh
    rw [show hA hh (102 + 1) (29 + (k : Int)) = svF S N f k e by rw [show hA hh (102 + 1) = (dysF S (gsR f x) 10) from rh]; unfold svF; rw [hx]; rfl]
    refine K_callV (M' := mX2_addIfUnlike) (a := 100) (ci := 2) (As := [vi (k : Int), vi (svF S N f k e)]) (st := []) (dt_at dtX2_compareStocks 61 rfl) (sX2_addIfUnlike (q := k) (L := dvL (svF S N f k) e) (x := svF S N f k e) (by omega) (by have := (Vh.2.2 k (by omega)).1; rw [if_neg (Nat.lt_irrefl k)] at this; exact this) (by have := dvL_len (svF S N f k) e; omega) (by have := (Vh.2.2 k (by omega)).2; rw [if_neg (Nat.lt_irrefl k)] at this; rw [show 109 + 1 + (k : Int).toNat = 110 + k by omega]; exact this) (dvL_in e (fun j hj => by have := svF_b (q := k) (k := j) (N := N) hB hT hC h99 (by omega) (by omega); exact ⟨by omega, by omega⟩)) (by have := svF_b (q := k) (k := e) (N := N) hB hT hC h99 (by omega) (by omega); exact ⟨by omega, by omega⟩)) (show TT 100 = (0, 2) from rfl) rfl wL_X2_87 vX2_addIfUnlike rfl npX2_addIfUnlike (by decide) (by decide) (Nat.le_of_ble_eq_true rfl) (by decide) (by decide) GK_E (fun v9 hc1 hq => ?_) (fun E h9 hq => by cases hq.1)
    have hqq2 := hq
    obtain ⟨e9q2, ⟨p1, p2⟩, p3, p4, p5, p6⟩ := hqq2
    cases e9q2
    show K mX2_compareStocks _ _ 0 0 117 [(4, vi (k : Int)), (3, vi (e : Int)), (0, vr 100), (1, vr t), (2, vr 66)] [] hc1
    refine K_iinc (ls' := [(4, vi ((k : Int) + 1)), (3, vi (e : Int)), (0, vr 100), (1, vr t), (2, vr 66)]) (dt_at dtX2_compareStocks 62 rfl) rfl (by decide) rfl ?_
    refine K_goto (tgt := 90) (dt_at dtX2_compareStocks 63 rfl) (by decide) ?_
    exact K_pk [0, 1, 2, 3, 4] rfl (ih (k + 1) hc1 (by omega) (GV_add Vh (by omega) hNt p1 p2 p3 p4 p5 p6) (by rw [p3 103 (by decide) (by omega)]; exact rh))
set_option maxHeartbeats 4000000 in
set_option maxRecDepth 100000 in
theorem lb_X2_compareStocks {Q : AO → HP → Prop} {h : HP} {t : Nat} {S : HS} {B : Int} {f : Int → Int} {N : SN} (u0 : GU h t S B f N) (hQ : ∀ h2, GV h h2 S N f (gsL S N f (10 * sNp S)).length 0 → Q (.inl none) h2) : ∀ (d k : Nat) (hh : HP), k + d = (gsL S N f (10 * sNp S)).length → GV h hh S N f k 0 → K mX2_compareStocks GK (ZK Q 0 0) 0 0 33 [(3, vi (k : Int)), (0, vr 100), (1, vr t), (2, vr 66)] [] hh := by
  intro d
  induction d with
  | zero =>
    intro k hh hk Vh
    have u := GU_FS u0 Vh.1.1
    have c := u.1
    have ht := c.1
    have hH := TTt ht
    have hB := c.2.2.2.1
    have hNt := hB.1
    have hNp := hB.2.1
    have hT := c.2.2.2.2.2.1
    have hC := c.2.2.2.2.2.2.1
    have h99 := c.2.2.2.2.2.2.2.1
    have G := c.2.2.2.2.2.2.2.2
    have hf0 := hT.2.2.2.1
    have hl := gsL_len (S := S) (N := N) (f := f) (10 * sNp S)
    have ek : k = (gsL S N f (10 * sNp S)).length := by omega
    refine K_iload_n (dt_at dtX2_compareStocks 19 rfl) rfl rfl ?_
    refine K_aload_n (dt_at dtX2_compareStocks 20 rfl) rfl rfl ?_
    refine K_get (a := 100) (ci := 2) (k := 4) (v := vi ((gsL S N f (10 * sNp S)).length : Int)) (dt_at dtX2_compareStocks 21 rfl) (show TT 100 = (0, 2) from rfl) rfl (by decide) wF_X2_23 (by show vi (hI hh 100 4) = vi ((gsL S N f (10 * sNp S)).length : Int); rw [Vh.1.2.1]) ?_
    refine K_icmp_ge (tgt := 129) (dt_at dtX2_compareStocks 22 rfl) (by decide) (by first | assumption | exact ⟨by omega, by omega⟩) (by first | assumption | exact ⟨by omega, by omega⟩) (fun c1 => ?_) (fun c1 => absurd c1 (by omega))
    exact K_vret (dt_at dtX2_compareStocks 66 rfl) rfl (by decide) (by decide) (hQ hh (by rw [← ek]; exact Vh))
  | succ d ih =>
    intro k hh hk Vh
    have u := GU_FS u0 Vh.1.1
    have c := u.1
    have ht := c.1
    have hH := TTt ht
    have hB := c.2.2.2.1
    have hNt := hB.1
    have hNp := hB.2.1
    have hT := c.2.2.2.2.2.1
    have hC := c.2.2.2.2.2.2.1
    have h99 := c.2.2.2.2.2.2.2.1
    have G := c.2.2.2.2.2.2.2.2
    have hf0 := hT.2.2.2.1
    have hl := gsL_len (S := S) (N := N) (f := f) (10 * sNp S)
    obtain ⟨x, hx⟩ : ∃ y, (gsL S N f (10 * sNp S))[k]? = some y := ⟨_, List.getElem?_eq_getElem (show k < (gsL S N f (10 * sNp S)).length by omega)⟩
    have hx2 := gsL_lt hx
    refine K_iload_n (dt_at dtX2_compareStocks 19 rfl) rfl rfl ?_
    refine K_aload_n (dt_at dtX2_compareStocks 20 rfl) rfl rfl ?_
    refine K_get (a := 100) (ci := 2) (k := 4) (v := vi ((gsL S N f (10 * sNp S)).length : Int)) (dt_at dtX2_compareStocks 21 rfl) (show TT 100 = (0, 2) from rfl) rfl (by decide) wF_X2_23 (by show vi (hI hh 100 4) = vi ((gsL S N f (10 * sNp S)).length : Int); rw [Vh.1.2.1]) ?_
    refine K_icmp_ge (tgt := 129) (dt_at dtX2_compareStocks 22 rfl) (by decide) (by first | assumption | exact ⟨by omega, by omega⟩) (by first | assumption | exact ⟨by omega, by omega⟩) (fun c1 => absurd c1 (by omega)) (fun c1 => ?_)
    refine K_aload_n (dt_at dtX2_compareStocks 23 rfl) rfl rfl ?_
    refine K_get (a := 100) (ci := 2) (k := 0) (v := vr 101) (dt_at dtX2_compareStocks 24 rfl) (show TT 100 = (0, 2) from rfl) rfl (by decide) wF_X2_35 rfl ?_
    refine K_aload_n (dt_at dtX2_compareStocks 25 rfl) rfl rfl ?_
    refine K_aload_n (dt_at dtX2_compareStocks 26 rfl) rfl rfl ?_
    refine K_callV (M' := mX10_begin) (a := 101) (ci := 10) (As := [vr t, vr 66]) (st := []) (dt_at dtX2_compareStocks 27 rfl) (sX10_begin (w := 101) (t := t) (a := 66) (Or.inr rfl) ht (by decide) (by decide)) (show TT 101 = (0, 10) from rfl) rfl wL_X2_39 vX10_begin rfl npX10_begin (by decide) (by decide) (Nat.le_of_ble_eq_true rfl) (by decide) (by decide) GK_E (fun v9 hc1 hq => ?_) (fun E h9 hq => by cases hq.1)
    have hqq2 := hq
    obtain ⟨e9q2, b1, b2, b3, b4, b5, b6, b7⟩ := hqq2
    obtain ⟨F1, X, P1⟩ := BG_ok (w := 101) (Or.inr rfl) ht c.2.2.1 hB G b1 b2 b3 b4 b5 b6 b7
    rw [c.2.2.2.2.1] at P1
    have fd1 : hA hc1 108 (k : Int) = (x : Int) := by rw [b1 108 (by decide) (by decide)]; exact Vh.1.2.2 k x hx
    cases e9q2
    show K mX2_compareStocks _ _ 0 0 50 [(3, vi (k : Int)), (0, vr 100), (1, vr t), (2, vr 66)] [] hc1
    refine K_aload_n (dt_at dtX2_compareStocks 28 rfl) rfl rfl ?_
    refine K_get (a := 100) (ci := 2) (k := 0) (v := vr 101) (dt_at dtX2_compareStocks 29 rfl) (show TT 100 = (0, 2) from rfl) rfl (by decide) wF_X2_35 rfl ?_
    refine K_get (a := 101) (ci := 10) (k := 0) (v := vr 102) (dt_at dtX2_compareStocks 30 rfl) (show TT 101 = (0, 10) from rfl) rfl (by decide) wF_X2_53 rfl ?_
    refine K_aload_n (dt_at dtX2_compareStocks 31 rfl) rfl rfl ?_
    refine K_get (a := 100) (ci := 2) (k := 1) (v := vr 108) (dt_at dtX2_compareStocks 32 rfl) (show TT 100 = (0, 2) from rfl) rfl (by decide) wF_X2_9 rfl ?_
    refine K_iload_n (dt_at dtX2_compareStocks 33 rfl) rfl rfl ?_
    refine K_iald (dt_at dtX2_compareStocks 34 rfl) (show TT 108 = (1, 70) from rfl) (by omega) (by omega) ?_
    rw [fd1]
    refine K_bipush (dt_at dtX2_compareStocks 35 rfl) (by decide) ?_
    refine K_idiv (dt_at dtX2_compareStocks 36 rfl) ⟨by omega, by omega⟩ (by first | assumption | exact ⟨by omega, by omega⟩) (by omega) ?_
    refine K_aload_n (dt_at dtX2_compareStocks 37 rfl) rfl rfl ?_
    refine K_get (a := 100) (ci := 2) (k := 1) (v := vr 108) (dt_at dtX2_compareStocks 38 rfl) (show TT 100 = (0, 2) from rfl) rfl (by decide) wF_X2_9 rfl ?_
    refine K_iload_n (dt_at dtX2_compareStocks 39 rfl) rfl rfl ?_
    refine K_iald (dt_at dtX2_compareStocks 40 rfl) (show TT 108 = (1, 70) from rfl) (by omega) (by omega) ?_
    rw [fd1]
    refine K_bipush (dt_at dtX2_compareStocks 41 rfl) (by decide) ?_
    refine K_irem (dt_at dtX2_compareStocks 42 rfl) ⟨by omega, by omega⟩ (by first | assumption | exact ⟨by omega, by omega⟩) (by omega) ?_
    refine K_callV (M' := mX8_setFond) (a := 102) (ci := 8) (As := [vi ((x : Int).tdiv 10), vi ((x : Int).tmod 10)]) (st := []) (dt_at dtX2_compareStocks 43 rfl) (sX8_setFond (a := 102) rfl (by rw [td10]; omega) (by rw [tm10]; exact ⟨by omega, by omega⟩)) (show TT 102 = (0, 8) from rfl) rfl wL_X2_75 vX8_setFond rfl npX8_setFond (by decide) (by decide) (Nat.le_of_ble_eq_true rfl) (by decide) (by decide) GK_E (fun v9 hc3 hq => ?_) (fun E h9 hq => by cases hq.1)
    have hqq4 := hq
    obtain ⟨e9q4, e8q4⟩ := hqq4
    obtain ⟨hfq4, frq4, hiq4, hrq4⟩ := sA_fx e8q4
    rw [td10, tm10, show max 0 (min 9 ((x % 10 : Nat) : Int)) = ((x % 10 : Nat) : Int) by omega, show hA hc1 (102 + 1) = f from P1.2.1] at hfq4
    have P2 : PW hc1 hc3 101 t (gsR f x) (fun _ => 0) 0 := ⟨WK_A X P1.1 (Or.inl rfl) frq4 hiq4 hrq4, hfq4, by rw [frq4 _ (by decide)]; exact P1.2.2.1, by rw [hiq4]; exact P1.2.2.2⟩
    have FF2 := FS_tr F1 (WK_FS X P2.1 F1.2.2.2)
    obtain ⟨gT, gC, g0⟩ := gsR_ok (S := S) (g := x) hT hC hNp (by omega)
    cases e9q4
    show K mX2_compareStocks _ _ 0 0 78 [(3, vi (k : Int)), (0, vr 100), (1, vr t), (2, vr 66)] [] hc3
    refine K_aload_n (dt_at dtX2_compareStocks 44 rfl) rfl rfl ?_
    refine K_get (a := 100) (ci := 2) (k := 0) (v := vr 101) (dt_at dtX2_compareStocks 45 rfl) (show TT 100 = (0, 2) from rfl) rfl (by decide) wF_X2_35 rfl ?_
    refine K_bipush (dt_at dtX2_compareStocks 46 rfl) (by decide) ?_
    refine K_callV (M' := mX10_pass) (a := 101) (ci := 10) (As := [vi 10]) (st := []) (dt_at dtX2_compareStocks 47 rfl) (sX10_pass (n := 10) X P2 gT gC (by omega)) (show TT 101 = (0, 10) from rfl) rfl wL_X2_80 vX10_pass rfl npX10_pass (by decide) (by decide) (Nat.le_of_ble_eq_true rfl) (by decide) (by decide) GK_E (fun v9 hc5 hq => ?_) (fun E h9 hq => by cases hq.1)
    have hqq6 := hq
    obtain ⟨e9q6, P3⟩ := hqq6
    have F3 := FS_tr F1 (WK_FS X P3.1 F1.2.2.2)
    have V3 : GV h hc5 S N f k 0 := GV_fr Vh hNt (FS_tr Vh.1.1 F3) (by rw [P3.1.2.2.1 100 4 (Or.inl (by decide)), b5 100 4 (Or.inl (by decide))]) (by rw [P3.1.2.2.1 100 5 (Or.inl (by decide)), b5 100 5 (Or.inl (by decide))]) (fun a ha => (WK_at ht (Or.inr rfl) P3.1 ha).trans (b1 a (by omega) (by omega)))
    cases e9q6
    show K mX2_compareStocks _ _ 0 0 87 [(3, vi (k : Int)), (0, vr 100), (1, vr t), (2, vr 66)] [] hc5
    refine K_iconst (dt_at dtX2_compareStocks 48 rfl) ?_
    refine K_istore (ls' := [(4, vi 0), (3, vi (k : Int)), (0, vr 100), (1, vr t), (2, vr 66)]) (dt_at dtX2_compareStocks 49 rfl) (by decide) rfl ?_
    refine K_pk [0, 1, 2, 3, 4] rfl (lc_X2_compareStocks u0 (e := k) (x := x) (by omega) hx (fun h4 V4 => ?_) (sNt S) 0 hc5 (by omega) V3 P3.2.1)
    refine K_iinc (ls' := [(3, vi ((k : Int) + 1)), (0, vr 100), (1, vr t), (2, vr 66)]) (dt_at dtX2_compareStocks 64 rfl) rfl (by decide) rfl ?_
    refine K_goto (tgt := 33) (dt_at dtX2_compareStocks 65 rfl) (by decide) ?_
    exact K_pk [0, 1, 2, 3] rfl (ih (k + 1) h4 (by omega) (GV_nx V4))
theorem GI_5 {h g g' : HP} {L : List Nat} {x : Int} (I : GI h g L) (e : g' = sI g 100 5 x) : GI h g' L := by
  obtain ⟨a2, f2, i2, r2⟩ := sI_fx e
  refine GI_fr I ⟨fun a ha => by rw [i2]; exact I.1.1 a ha, fun a k ha => ?_, fun a k ha => by rw [r2]; exact I.1.2.2.1 a k ha, by unfold G32; rw [i2, r2]; exact I.1.2.2.2⟩ (f2 _ _ (by decide)) (by rw [i2])
  rw [f2 a k (by
    by_cases z : a = 100
    · exact Or.inr (fun z2 => by rw [z, z2] at ha; cases ha)
    · exact Or.inl z)]
  exact I.1.2.1 a k ha
set_option maxHeartbeats 4000000 in
set_option maxRecDepth 100000 in
theorem sX2_compareStocks {h : HP} {t : Nat} {S : HS} {B : Int} {f : Int → Int} {N : SN} {h2 : HP} (u0 : GU h t S B f N) (I0 : GI h h2 (gsL S N f (10 * sNp S))) : SpecK mX2_compareStocks [vr 100, vr t, vr 66] h2 (fun o h' => o = .inl none ∧ GV h h' S N f (gsL S N f (10 * sNp S)).length 0) := by
  refine Spec_of (by decide +kernel) (Nat.le_of_ble_eq_true rfl) ?_
  have u := GU_FS u0 I0.1
  have c := u.1
  have ht := c.1
  have hH := TTt ht
  have hB := c.2.2.2.1
  have hNt := hB.1
  have hNp := hB.2.1
  have hT := c.2.2.2.2.2.1
  have hC := c.2.2.2.2.2.2.1
  have h99 := c.2.2.2.2.2.2.2.1
  have G := c.2.2.2.2.2.2.2.2
  have hf0 := hT.2.2.2.1
  refine K_aload_n (dt_at dtX2_compareStocks 0 rfl) rfl rfl ?_
  refine K_aload_n (dt_at dtX2_compareStocks 1 rfl) rfl rfl ?_
  refine K_get (a := t) (ci := 3) (k := 10) (v := vi (sNt S : Int)) (dt_at dtX2_compareStocks 2 rfl) hH rfl (by decide) wF_X2_79 (by show vi (hI h2 t 10) = vi (sNt S : Int); rw [c.2.2.1.2.1.1]) ?_
  refine K_putI (a := 100) (ci := 2) (k := 5) (dt_at dtX2_compareStocks 3 rfl) (show TT 100 = (0, 2) from rfl) rfl (by decide) wF_X2_27 rfl (Or.inl rfl) rfl rfl ?_
  obtain ⟨hq1, eq1⟩ : ∃ z, z = sI h2 100 5 (sNt S : Int) := ⟨_, rfl⟩
  rw [← eq1]
  obtain ⟨iq1, fq1, aq1, rq1⟩ := sI_fx eq1
  refine K_iconst (dt_at dtX2_compareStocks 4 rfl) ?_
  refine K_istore_n (ls' := [(3, vi 0), (0, vr 100), (1, vr t), (2, vr 66)]) (dt_at dtX2_compareStocks 5 rfl) rfl (by decide) rfl ?_
  refine K_pk [0, 1, 2, 3] rfl (la_X2_compareStocks u0 (fun h3 V3 => ?_) (sNt S) 0 hq1 (by omega) (GI_5 I0 eq1) iq1 (fun j hj => absurd hj (Nat.not_lt_zero j)))
  refine K_iconst (dt_at dtX2_compareStocks 17 rfl) ?_
  refine K_istore_n (ls' := [(3, vi 0), (0, vr 100), (1, vr t), (2, vr 66)]) (dt_at dtX2_compareStocks 18 rfl) rfl (by decide) rfl ?_
  exact K_pk [0, 1, 2, 3] rfl (lb_X2_compareStocks u0 (fun h4 q_ => ⟨rfl, q_⟩) (gsL S N f (10 * sNp S)).length 0 h3 (by omega) V3)
def mX2_mostUnlike : MI := (yX2_mostUnlike, cX2_mostUnlike, 3, (some .int), rmK 1 0)
def tX2_mostUnlike : List (Nat × Instr × Nat) := [(0, .iconst (-1), 1), (1, .istore_n 1, 1), (2, .iconst 0, 1), (3, .istore_n 2, 1), (4, .iload_n 2, 1), (5, .aload_n 0, 1), (6, .getfield 27, 3), (9, .if_icmp .ge 40, 3), (12, .aload_n 0, 1), (13, .getfield 20, 3), (16, .iload_n 2, 1), (17, .iaload, 1), (18, .ifCond .le 25, 3), (21, .iload_n 1, 1), (22, .iconst (-1), 1), (23, .if_icmp .eq 18, 3), (26, .aload_n 0, 1), (27, .getfield 20, 3), (30, .iload_n 2, 1), (31, .iaload, 1), (32, .aload_n 0, 1), (33, .getfield 20, 3), (36, .iload_n 1, 1), (37, .iaload, 1), (38, .if_icmp .le 5, 3), (41, .iload_n 2, 1), (42, .istore_n 1, 1), (43, .iinc 2 1, 3), (46, .goto (-42), 3), (49, .iload_n 1, 1), (50, .ireturn, 1)]
theorem dtX2_mostUnlike : tX2_mostUnlike.all (fun q => decide (decode cX2_mostUnlike q.1 = .ok (q.2.1, q.2.2))) = true := by decide +kernel
theorem npX2_mostUnlike : (parseMethodDescriptor (mY mX2_mostUnlike).desc).map (fun d => d.parameters.length) = some 0 := by decide +kernel
theorem vX2_mostUnlike : mV mX2_mostUnlike := ⟨wI_X2_mostUnlike, wS_X2_mostUnlike, wN_X2, wC_X2_mostUnlike, by decide +kernel, by decide +kernel⟩
set_option maxHeartbeats 4000000 in
set_option maxRecDepth 100000 in
theorem lp_X2_mostUnlike {Z : CT → State → Prop} {h : HP} {n : Nat} {U : Nat → Int} (h5 : hI h 100 5 = (n : Int)) (hn : n ≤ 6) (hU : ∀ q : Nat, q < n → hA h 116 (q : Int) = U q ∧ 0 ≤ U q ∧ U q ≤ 70) (kx : K mX2_mostUnlike GK Z 0 0 49 [(2, vi (n : Int)), (1, vi (selN (fun k v => decide (0 < U k) && (decide (v = -1) || decide (U v.toNat < U k))) n)), (0, vr 100)] [] h) : ∀ (d k : Nat), k + d = n → K mX2_mostUnlike GK Z 0 0 4 [(2, vi (k : Int)), (1, vi (selN (fun k v => decide (0 < U k) && (decide (v = -1) || decide (U v.toNat < U k))) k)), (0, vr 100)] [] h := by
  intro d
  induction d with
  | zero =>
    intro k hk
    have ek : n = k := by omega
    subst ek
    refine K_iload_n (dt_at dtX2_mostUnlike 4 rfl) rfl rfl ?_
    refine K_aload_n (dt_at dtX2_mostUnlike 5 rfl) rfl rfl ?_
    refine K_get (a := 100) (ci := 2) (k := 5) (v := vi (n : Int)) (dt_at dtX2_mostUnlike 6 rfl) (show TT 100 = (0, 2) from rfl) rfl (by decide) wF_X2_27 (by show vi (hI h 100 5) = vi (n : Int); rw [h5]) ?_
    refine K_icmp_ge (tgt := 49) (dt_at dtX2_mostUnlike 7 rfl) (by decide) (by first | assumption | exact ⟨by omega, by omega⟩) (by first | assumption | exact ⟨by omega, by omega⟩) (fun c1 => ?_) (fun c1 => absurd c1 (by omega))
    exact K_pk [0, 1, 2] rfl kx
  | succ d ih =>
    intro k hk
    have w1 := selN_b (fun k v => decide (0 < U k) && (decide (v = -1) || decide (U v.toNat < U k))) k
    have w2 := (hU k (by omega)).2
    have w3 : 0 ≤ selN (fun k v => decide (0 < U k) && (decide (v = -1) || decide (U v.toNat < U k))) k → 0 ≤ U (selN (fun k v => decide (0 < U k) && (decide (v = -1) || decide (U v.toNat < U k))) k).toNat ∧ U (selN (fun k v => decide (0 < U k) && (decide (v = -1) || decide (U v.toNat < U k))) k).toNat ≤ 70 := fun z => (hU _ (by omega)).2
    refine K_iload_n (dt_at dtX2_mostUnlike 4 rfl) rfl rfl ?_
    refine K_aload_n (dt_at dtX2_mostUnlike 5 rfl) rfl rfl ?_
    refine K_get (a := 100) (ci := 2) (k := 5) (v := vi (n : Int)) (dt_at dtX2_mostUnlike 6 rfl) (show TT 100 = (0, 2) from rfl) rfl (by decide) wF_X2_27 (by show vi (hI h 100 5) = vi (n : Int); rw [h5]) ?_
    refine K_icmp_ge (tgt := 49) (dt_at dtX2_mostUnlike 7 rfl) (by decide) (by first | assumption | exact ⟨by omega, by omega⟩) (by first | assumption | exact ⟨by omega, by omega⟩) (fun c1 => absurd c1 (by omega)) (fun c1 => ?_)
    refine K_aload_n (dt_at dtX2_mostUnlike 8 rfl) rfl rfl ?_
    refine K_get (a := 100) (ci := 2) (k := 3) (v := vr 116) (dt_at dtX2_mostUnlike 9 rfl) (show TT 100 = (0, 2) from rfl) rfl (by decide) wF_X2_20 rfl ?_
    refine K_iload_n (dt_at dtX2_mostUnlike 10 rfl) rfl rfl ?_
    refine K_iald (dt_at dtX2_mostUnlike 11 rfl) (show TT 116 = (1, 6) from rfl) (by omega) (by omega) ?_
    rw [(hU k (by omega)).1]
    refine K_if_le (tgt := 43) (dt_at dtX2_mostUnlike 12 rfl) (by decide) (by first | assumption | exact ⟨by omega, by omega⟩) (fun c2 => ?_) (fun c2 => ?_)
    · refine K_iinc (ls' := [(2, vi ((k : Int) + 1)), (1, vi (selN (fun k v => decide (0 < U k) && (decide (v = -1) || decide (U v.toNat < U k))) k)), (0, vr 100)]) (dt_at dtX2_mostUnlike 27 rfl) rfl (by decide) rfl ?_
      refine K_goto (tgt := 4) (dt_at dtX2_mostUnlike 28 rfl) (by decide) ?_
      refine K_pk [0, 1, 2] (ls' := [(2, vi ((k : Int) + 1)), (1, vi (selN (fun k v => decide (0 < U k) && (decide (v = -1) || decide (U v.toNat < U k))) k)), (0, vr 100)]) rfl ?_
      exact K_cg (ls' := [(2, vi ((k + 1 : Nat) : Int)), (1, vi (selN (fun k v => decide (0 < U k) && (decide (v = -1) || decide (U v.toNat < U k))) (k + 1))), (0, vr 100)]) (h' := h) (by rw [selN_f (p := (fun k v => decide (0 < U k) && (decide (v = -1) || decide (U v.toNat < U k)))) (by simp only [Bool.and_eq_true, Bool.or_eq_true, Bool.and_eq_false_iff, Bool.or_eq_false_iff, decide_eq_true_eq, decide_eq_false_iff_not]; omega)]; rfl) (by rfl) (ih (k + 1) (by omega))
    · refine K_iload_n (dt_at dtX2_mostUnlike 13 rfl) rfl rfl ?_
      refine K_iconst (dt_at dtX2_mostUnlike 14 rfl) ?_
      refine K_icmp_eq (tgt := 41) (dt_at dtX2_mostUnlike 15 rfl) (by decide) (by first | assumption | exact ⟨by omega, by omega⟩) (by first | assumption | exact ⟨by omega, by omega⟩) (fun c3 => ?_) (fun c3 => ?_)
      · refine K_iload_n (dt_at dtX2_mostUnlike 25 rfl) rfl rfl ?_
        refine K_istore_n (ls' := [(1, vi (k : Int)), (2, vi (k : Int)), (0, vr 100)]) (dt_at dtX2_mostUnlike 26 rfl) rfl (by decide) rfl ?_
        refine K_iinc (ls' := [(2, vi ((k : Int) + 1)), (1, vi (k : Int)), (0, vr 100)]) (dt_at dtX2_mostUnlike 27 rfl) rfl (by decide) rfl ?_
        refine K_goto (tgt := 4) (dt_at dtX2_mostUnlike 28 rfl) (by decide) ?_
        refine K_pk [0, 1, 2] (ls' := [(2, vi ((k : Int) + 1)), (1, vi (k : Int)), (0, vr 100)]) rfl ?_
        exact K_cg (ls' := [(2, vi ((k + 1 : Nat) : Int)), (1, vi (selN (fun k v => decide (0 < U k) && (decide (v = -1) || decide (U v.toNat < U k))) (k + 1))), (0, vr 100)]) (h' := h) (by rw [selN_t (p := (fun k v => decide (0 < U k) && (decide (v = -1) || decide (U v.toNat < U k)))) (by simp only [Bool.and_eq_true, Bool.or_eq_true, Bool.and_eq_false_iff, Bool.or_eq_false_iff, decide_eq_true_eq, decide_eq_false_iff_not]; omega)]; rfl) (by rfl) (ih (k + 1) (by omega))
      · refine K_aload_n (dt_at dtX2_mostUnlike 16 rfl) rfl rfl ?_
        refine K_get (a := 100) (ci := 2) (k := 3) (v := vr 116) (dt_at dtX2_mostUnlike 17 rfl) (show TT 100 = (0, 2) from rfl) rfl (by decide) wF_X2_20 rfl ?_
        refine K_iload_n (dt_at dtX2_mostUnlike 18 rfl) rfl rfl ?_
        refine K_iald (dt_at dtX2_mostUnlike 19 rfl) (show TT 116 = (1, 6) from rfl) (by omega) (by omega) ?_
        rw [(hU k (by omega)).1]
        refine K_aload_n (dt_at dtX2_mostUnlike 20 rfl) rfl rfl ?_
        refine K_get (a := 100) (ci := 2) (k := 3) (v := vr 116) (dt_at dtX2_mostUnlike 21 rfl) (show TT 100 = (0, 2) from rfl) rfl (by decide) wF_X2_20 rfl ?_
        refine K_iload_n (dt_at dtX2_mostUnlike 22 rfl) rfl rfl ?_
        refine K_iald (dt_at dtX2_mostUnlike 23 rfl) (show TT 116 = (1, 6) from rfl) (by omega) (by omega) ?_
        rw [show hA h 116 (selN (fun k v => decide (0 < U k) && (decide (v = -1) || decide (U v.toNat < U k))) k) = U (selN (fun k v => decide (0 < U k) && (decide (v = -1) || decide (U v.toNat < U k))) k).toNat by have := (hU (selN (fun k v => decide (0 < U k) && (decide (v = -1) || decide (U v.toNat < U k))) k).toNat (by omega)).1; rw [show (((selN (fun k v => decide (0 < U k) && (decide (v = -1) || decide (U v.toNat < U k))) k).toNat : Nat) : Int) = selN (fun k v => decide (0 < U k) && (decide (v = -1) || decide (U v.toNat < U k))) k by omega] at this; exact this]
        refine K_icmp_le (tgt := 43) (dt_at dtX2_mostUnlike 24 rfl) (by decide) (by first | assumption | exact ⟨by omega, by omega⟩) (by have := w3 (by omega); exact ⟨by omega, by omega⟩) (fun c4 => ?_) (fun c4 => ?_)
        · refine K_iinc (ls' := [(2, vi ((k : Int) + 1)), (1, vi (selN (fun k v => decide (0 < U k) && (decide (v = -1) || decide (U v.toNat < U k))) k)), (0, vr 100)]) (dt_at dtX2_mostUnlike 27 rfl) rfl (by decide) rfl ?_
          refine K_goto (tgt := 4) (dt_at dtX2_mostUnlike 28 rfl) (by decide) ?_
          refine K_pk [0, 1, 2] (ls' := [(2, vi ((k : Int) + 1)), (1, vi (selN (fun k v => decide (0 < U k) && (decide (v = -1) || decide (U v.toNat < U k))) k)), (0, vr 100)]) rfl ?_
          exact K_cg (ls' := [(2, vi ((k + 1 : Nat) : Int)), (1, vi (selN (fun k v => decide (0 < U k) && (decide (v = -1) || decide (U v.toNat < U k))) (k + 1))), (0, vr 100)]) (h' := h) (by rw [selN_f (p := (fun k v => decide (0 < U k) && (decide (v = -1) || decide (U v.toNat < U k)))) (by simp only [Bool.and_eq_true, Bool.or_eq_true, Bool.and_eq_false_iff, Bool.or_eq_false_iff, decide_eq_true_eq, decide_eq_false_iff_not]; omega)]; rfl) (by rfl) (ih (k + 1) (by omega))
        · refine K_iload_n (dt_at dtX2_mostUnlike 25 rfl) rfl rfl ?_
          refine K_istore_n (ls' := [(1, vi (k : Int)), (2, vi (k : Int)), (0, vr 100)]) (dt_at dtX2_mostUnlike 26 rfl) rfl (by decide) rfl ?_
          refine K_iinc (ls' := [(2, vi ((k : Int) + 1)), (1, vi (k : Int)), (0, vr 100)]) (dt_at dtX2_mostUnlike 27 rfl) rfl (by decide) rfl ?_
          refine K_goto (tgt := 4) (dt_at dtX2_mostUnlike 28 rfl) (by decide) ?_
          refine K_pk [0, 1, 2] (ls' := [(2, vi ((k : Int) + 1)), (1, vi (k : Int)), (0, vr 100)]) rfl ?_
          exact K_cg (ls' := [(2, vi ((k + 1 : Nat) : Int)), (1, vi (selN (fun k v => decide (0 < U k) && (decide (v = -1) || decide (U v.toNat < U k))) (k + 1))), (0, vr 100)]) (h' := h) (by rw [selN_t (p := (fun k v => decide (0 < U k) && (decide (v = -1) || decide (U v.toNat < U k)))) (by simp only [Bool.and_eq_true, Bool.or_eq_true, Bool.and_eq_false_iff, Bool.or_eq_false_iff, decide_eq_true_eq, decide_eq_false_iff_not]; omega)]; rfl) (by rfl) (ih (k + 1) (by omega))
set_option maxHeartbeats 4000000 in
set_option maxRecDepth 100000 in
theorem sX2_mostUnlike {h : HP} {n : Nat} {U : Nat → Int} (h5 : hI h 100 5 = (n : Int)) (hn : n ≤ 6) (hU : ∀ q : Nat, q < n → hA h 116 (q : Int) = U q ∧ 0 ≤ U q ∧ U q ≤ 70) : SpecK mX2_mostUnlike [vr 100] h (fun o h' => o = .inl (some (vi (selN (fun k v => decide (0 < U k) && (decide (v = -1) || decide (U v.toNat < U k))) n))) ∧ h' = h) := by
  refine Spec_of (by decide +kernel) (Nat.le_of_ble_eq_true rfl) ?_
  refine K_iconst (dt_at dtX2_mostUnlike 0 rfl) ?_
  refine K_istore_n (ls' := [(1, vi (-1)), (0, vr 100)]) (dt_at dtX2_mostUnlike 1 rfl) rfl (by decide) rfl ?_
  refine K_iconst (dt_at dtX2_mostUnlike 2 rfl) ?_
  refine K_istore_n (ls' := [(2, vi 0), (1, vi (-1)), (0, vr 100)]) (dt_at dtX2_mostUnlike 3 rfl) rfl (by decide) rfl ?_
  refine K_pk [0, 1, 2] rfl (lp_X2_mostUnlike h5 hn hU ?_ n 0 (by omega))
  refine K_iload_n (dt_at dtX2_mostUnlike 29 rfl) rfl rfl ?_
  exact K_iret (dt_at dtX2_mostUnlike 30 rfl) rfl rfl (by decide) (by decide) ⟨rfl, rfl⟩
def mX2_unlikeNumbers : MI := (yX2_unlikeNumbers, cX2_unlikeNumbers, 2, (some .int), rmK 2 0)
def tX2_unlikeNumbers : List (Nat × Instr × Nat) := [(0, .aload_n 0, 1), (1, .invokevirtual 90, 3), (4, .istore_n 1, 1), (5, .iload_n 1, 1), (6, .iconst (-1), 1), (7, .if_icmp .ne 7, 3), (10, .iconst 0, 1), (11, .goto 9, 3), (14, .aload_n 0, 1), (15, .getfield 20, 3), (18, .iload_n 1, 1), (19, .iaload, 1), (20, .ireturn, 1)]
theorem dtX2_unlikeNumbers : tX2_unlikeNumbers.all (fun q => decide (decode cX2_unlikeNumbers q.1 = .ok (q.2.1, q.2.2))) = true := by decide +kernel
theorem npX2_unlikeNumbers : (parseMethodDescriptor (mY mX2_unlikeNumbers).desc).map (fun d => d.parameters.length) = some 0 := by decide +kernel
theorem vX2_unlikeNumbers : mV mX2_unlikeNumbers := ⟨wI_X2_unlikeNumbers, wS_X2_unlikeNumbers, wN_X2, wC_X2_unlikeNumbers, by decide +kernel, by decide +kernel⟩
set_option maxHeartbeats 4000000 in
set_option maxRecDepth 100000 in
theorem sX2_unlikeNumbers {h : HP} {n : Nat} {U : Nat → Int} (h5 : hI h 100 5 = (n : Int)) (hn : n ≤ 6) (hU : ∀ q : Nat, q < n → hA h 116 (q : Int) = U q ∧ 0 ≤ U q ∧ U q ≤ 70) : SpecK mX2_unlikeNumbers [vr 100] h (fun o h' => o = .inl (some (vi (if selN (fun k v => decide (0 < U k) && (decide (v = -1) || decide (U v.toNat < U k))) n = -1 then 0 else U (selN (fun k v => decide (0 < U k) && (decide (v = -1) || decide (U v.toNat < U k))) n).toNat))) ∧ h' = h) := by
  refine Spec_of (by decide +kernel) (Nat.le_of_ble_eq_true rfl) ?_
  have w1 := selN_b (fun k v => decide (0 < U k) && (decide (v = -1) || decide (U v.toNat < U k))) n
  refine K_aload_n (dt_at dtX2_unlikeNumbers 0 rfl) rfl rfl ?_
  refine K_callV (M' := mX2_mostUnlike) (a := 100) (ci := 2) (As := []) (st := []) (dt_at dtX2_unlikeNumbers 1 rfl) (sX2_mostUnlike h5 hn hU) (show TT 100 = (0, 2) from rfl) rfl wL_X2_90 vX2_mostUnlike rfl npX2_mostUnlike (by decide) (by decide) (Nat.le_of_ble_eq_true rfl) (by decide) (by decide) GK_E (fun v9 h9 hq => ?_) (fun E h9 hq => by cases hq.1)
  obtain ⟨e9, e8⟩ := hq
  cases e9
  rw [e8]
  show K mX2_unlikeNumbers _ _ 0 0 4 [(0, vr 100)] [vi (selN (fun k v => decide (0 < U k) && (decide (v = -1) || decide (U v.toNat < U k))) n)] h
  refine K_istore_n (ls' := [(1, vi (selN (fun k v => decide (0 < U k) && (decide (v = -1) || decide (U v.toNat < U k))) n)), (0, vr 100)]) (dt_at dtX2_unlikeNumbers 2 rfl) rfl (by decide) rfl ?_
  refine K_iload_n (dt_at dtX2_unlikeNumbers 3 rfl) rfl rfl ?_
  refine K_iconst (dt_at dtX2_unlikeNumbers 4 rfl) ?_
  refine K_icmp_ne (tgt := 14) (dt_at dtX2_unlikeNumbers 5 rfl) (by decide) (by first | assumption | exact ⟨by omega, by omega⟩) (by first | assumption | exact ⟨by omega, by omega⟩) (fun c1 => ?_) (fun c1 => ?_)
  · refine K_aload_n (dt_at dtX2_unlikeNumbers 8 rfl) rfl rfl ?_
    refine K_get (a := 100) (ci := 2) (k := 3) (v := vr 116) (dt_at dtX2_unlikeNumbers 9 rfl) (show TT 100 = (0, 2) from rfl) rfl (by decide) wF_X2_20 rfl ?_
    refine K_iload_n (dt_at dtX2_unlikeNumbers 10 rfl) rfl rfl ?_
    refine K_iald (dt_at dtX2_unlikeNumbers 11 rfl) (show TT 116 = (1, 6) from rfl) (by omega) (by omega) ?_
    rw [show hA h 116 (selN (fun k v => decide (0 < U k) && (decide (v = -1) || decide (U v.toNat < U k))) n) = U (selN (fun k v => decide (0 < U k) && (decide (v = -1) || decide (U v.toNat < U k))) n).toNat by have := (hU (selN (fun k v => decide (0 < U k) && (decide (v = -1) || decide (U v.toNat < U k))) n).toNat (by omega)).1; rw [show (((selN (fun k v => decide (0 < U k) && (decide (v = -1) || decide (U v.toNat < U k))) n).toNat : Nat) : Int) = selN (fun k v => decide (0 < U k) && (decide (v = -1) || decide (U v.toNat < U k))) n by omega] at this; exact this]
    exact K_iret (dt_at dtX2_unlikeNumbers 12 rfl) rfl rfl (by decide) (by decide) ⟨by rw [if_neg (by assumption)], rfl⟩
  · refine K_iconst (dt_at dtX2_unlikeNumbers 6 rfl) ?_
    refine K_goto (tgt := 20) (dt_at dtX2_unlikeNumbers 7 rfl) (by decide) ?_
    exact K_iret (dt_at dtX2_unlikeNumbers 12 rfl) rfl rfl (by decide) (by decide) ⟨by rw [if_pos (by assumption)], rfl⟩
def mX2_first : MI := (yX2_first, cX2_first, 1, (some .int), rmK 1 0)
def tX2_first : List (Nat × Instr × Nat) := [(0, .aload_n 0, 1), (1, .getfield 23, 3), (4, .ifCond .le 12, 3), (7, .aload_n 0, 1), (8, .getfield 9, 3), (11, .iconst 0, 1), (12, .iaload, 1), (13, .goto 4, 3), (16, .iconst (-1), 1), (17, .ireturn, 1)]
theorem dtX2_first : tX2_first.all (fun q => decide (decode cX2_first q.1 = .ok (q.2.1, q.2.2))) = true := by decide +kernel
theorem npX2_first : (parseMethodDescriptor (mY mX2_first).desc).map (fun d => d.parameters.length) = some 0 := by decide +kernel
theorem vX2_first : mV mX2_first := ⟨wI_X2_first, wS_X2_first, wN_X2, wC_X2_first, by decide +kernel, by decide +kernel⟩
set_option maxHeartbeats 4000000 in
set_option maxRecDepth 100000 in
theorem sX2_first {h : HP} {n : Nat} (h4 : hI h 100 4 = (n : Int)) (hn : n ≤ 70) : SpecK mX2_first [vr 100] h (fun o h' => o = .inl (some (vi (if 0 < n then hA h 108 0 else -1))) ∧ h' = h) := by
  refine Spec_of (by decide +kernel) (Nat.le_of_ble_eq_true rfl) ?_
  refine K_aload_n (dt_at dtX2_first 0 rfl) rfl rfl ?_
  refine K_get (a := 100) (ci := 2) (k := 4) (v := vi (n : Int)) (dt_at dtX2_first 1 rfl) (show TT 100 = (0, 2) from rfl) rfl (by decide) wF_X2_23 (by show vi (hI h 100 4) = vi (n : Int); rw [h4]) ?_
  refine K_if_le (tgt := 16) (dt_at dtX2_first 2 rfl) (by decide) (by first | assumption | exact ⟨by omega, by omega⟩) (fun c1 => ?_) (fun c1 => ?_)
  · refine K_iconst (dt_at dtX2_first 8 rfl) ?_
    exact K_iret (dt_at dtX2_first 9 rfl) rfl rfl (by decide) (by decide) ⟨by rw [if_neg (by omega)], rfl⟩
  · refine K_aload_n (dt_at dtX2_first 3 rfl) rfl rfl ?_
    refine K_get (a := 100) (ci := 2) (k := 1) (v := vr 108) (dt_at dtX2_first 4 rfl) (show TT 100 = (0, 2) from rfl) rfl (by decide) wF_X2_9 rfl ?_
    refine K_iconst (dt_at dtX2_first 5 rfl) ?_
    refine K_iald (dt_at dtX2_first 6 rfl) (show TT 108 = (1, 70) from rfl) (by omega) (by omega) ?_
    refine K_goto (tgt := 17) (dt_at dtX2_first 7 rfl) (by decide) ?_
    exact K_iret (dt_at dtX2_first 9 rfl) rfl rfl (by decide) (by decide) ⟨by rw [if_pos (by omega)], rfl⟩
def mX11_fonder : MI := (yX11_fonder, cX11_fonder, 2, (some .int), rmK 8 1)
def tX11_fonder : List (Nat × Instr × Nat) := [(0, .iload_n 1, 1), (1, .iconst 2, 1), (2, .invokestatic 133, 3), (5, .iload_n 1, 1), (6, .iconst 2, 1), (7, .if_icmp .ne 31, 3), (10, .aload_n 0, 1), (11, .getfield 85, 3), (14, .aload_n 0, 1), (15, .getfield 20, 3), (18, .aload_n 0, 1), (19, .getfield 39, 3), (22, .aload_n 0, 1), (23, .getfield 53, 3), (26, .invokevirtual 343, 3), (29, .ifCond .eq 7, 3), (32, .iconst 1, 1), (33, .goto 4, 3), (36, .iconst 0, 1), (37, .ireturn, 1), (38, .aload_n 0, 1), (39, .getfield 85, 3), (42, .aload_n 0, 1), (43, .getfield 20, 3), (46, .aload_n 0, 1), (47, .getfield 39, 3), (50, .aload_n 0, 1), (51, .getfield 53, 3), (54, .invokevirtual 347, 3), (57, .iload_n 1, 1), (58, .ifCond .ne 13, 3), (61, .aload_n 0, 1), (62, .getfield 85, 3), (65, .invokevirtual 351, 3), (68, .goto 10, 3), (71, .aload_n 0, 1), (72, .getfield 85, 3), (75, .invokevirtual 352, 3), (78, .ireturn, 1)]
theorem dtX11_fonder : tX11_fonder.all (fun q => decide (decode cX11_fonder q.1 = .ok (q.2.1, q.2.2))) = true := by decide +kernel
theorem npX11_fonder : (parseMethodDescriptor (mY mX11_fonder).desc).map (fun d => d.parameters.length) = some 1 := by decide +kernel
theorem vX11_fonder : mV mX11_fonder := ⟨wI_X11_fonder, wS_X11_fonder, wN_X11, wC_X11_fonder, by decide +kernel, by decide +kernel⟩
set_option maxHeartbeats 4000000 in
set_option maxRecDepth 100000 in
theorem sX11_fonder_x1 {h : HP} {t : Nat} {S : HS} {B : Int} {f : Int → Int} {w : Int} (c : CQ h t S B f) (hw : i32 w) (kn : ¬ (0 ≤ w ∧ w ≤ 2)) : SpecK mX11_fonder [vr 30, vi w] h (fun o h' => o = .inr eNS ∧ FS h h') := by
  refine Spec_of (by decide +kernel) (Nat.le_of_ble_eq_true rfl) ?_
  have ht := c.1
  have hH := TTt ht
  have hB := c.2.2.2.1
  have hNt := hB.1
  have hNp := hB.2.1
  have hT := c.2.2.2.2.2.1
  have hC := c.2.2.2.2.2.2.1
  have h99 := c.2.2.2.2.2.2.2.1
  have G := c.2.2.2.2.2.2.2.2
  have hf0 := hT.2.2.2.1
  refine K_iload_n (dt_at dtX11_fonder 0 rfl) rfl rfl ?_
  refine K_iconst (dt_at dtX11_fonder 1 rfl) ?_
  exact K_callS (M' := mX11_needWhat) (As := [vi w, vi 2]) (st := []) (dt_at dtX11_fonder 2 rfl) (sX11_needWhat_no (by assumption) ⟨by decide, by decide⟩ (by omega)) wL_X11_133 vX11_needWhat rfl npX11_needWhat (by decide) (by decide) (Nat.le_of_ble_eq_true rfl) (by decide) (by decide) GK_E (fun v9 h9 hq => by cases hq.1) (fun E h9 hq => by obtain ⟨e9, e8⟩ := hq; cases e9; rw [e8]; exact KX_out (by decide) (by decide) ⟨rfl, FS_rf G⟩)
/-- the guesses found -/
def gsA (S : HS) (N : SN) (f : Int → Int) : List Nat := gsL S N f (10 * sNp S)
def unF (S : HS) (N : SN) (f : Int → Int) (q : Nat) : Int := ((dvL (svF S N f q) (gsA S N f).length).length : Int)
set_option maxHeartbeats 4000000 in
set_option maxRecDepth 100000 in
theorem sX11_fonder_2 {h : HP} {t : Nat} {S : HS} {B : Int} {f : Int → Int} {N : SN} (u : GU h t S B f N) : SpecK mX11_fonder [vr 30, vi 2] h (fun o h' => o = .inl (some (vi (if seB S N f = true then 1 else 0))) ∧ FS h h') := by
  refine Spec_of (by decide +kernel) (Nat.le_of_ble_eq_true rfl) ?_
  have c := u.1
  have ht := c.1
  have hH := TTt ht
  have hB := c.2.2.2.1
  have hNt := hB.1
  have hNp := hB.2.1
  have hT := c.2.2.2.2.2.1
  have hC := c.2.2.2.2.2.2.1
  have h99 := c.2.2.2.2.2.2.2.1
  have G := c.2.2.2.2.2.2.2.2
  have hf0 := hT.2.2.2.1
  refine K_iload_n (dt_at dtX11_fonder 0 rfl) rfl rfl ?_
  refine K_iconst (dt_at dtX11_fonder 1 rfl) ?_
  refine K_callS (M' := mX11_needWhat) (As := [vi 2, vi 2]) (st := []) (dt_at dtX11_fonder 2 rfl) (sX11_needWhat (by first | assumption | exact ⟨by omega, by omega⟩) ⟨by decide, by decide⟩ (by omega)) wL_X11_133 vX11_needWhat rfl npX11_needWhat (by decide) (by decide) (Nat.le_of_ble_eq_true rfl) (by decide) (by decide) GK_E (fun v9 h9 hq => ?_) (fun E h9 hq => by cases hq.1)
  obtain ⟨e9, e8⟩ := hq
  cases e9
  rw [e8]
  show K mX11_fonder _ _ 1 6 5 [(0, vr 30), (1, vi 2)] [] h
  refine K_iload_n (dt_at dtX11_fonder 3 rfl) rfl rfl ?_
  refine K_iconst (dt_at dtX11_fonder 4 rfl) ?_
  refine K_icmp_ne (tgt := 38) (dt_at dtX11_fonder 5 rfl) (by decide) (by first | assumption | exact ⟨by omega, by omega⟩) (by first | assumption | exact ⟨by omega, by omega⟩) (fun c1 => absurd c1 (by omega)) (fun c1 => ?_)
  refine K_aload_n (dt_at dtX11_fonder 6 rfl) rfl rfl ?_
  refine K_get (a := 30) (ci := 11) (k := 13) (v := vr 100) (dt_at dtX11_fonder 7 rfl) (by decide) rfl (by decide) wF_X11_85 rfl ?_
  refine K_aload_n (dt_at dtX11_fonder 8 rfl) rfl rfl ?_
  refine K_get (a := 30) (ci := 11) (k := 2) (v := vr t) (dt_at dtX11_fonder 9 rfl) (by decide) rfl (by decide) wF_X11_20 (by show vr (hR h 30 2) = vr t; rw [c.2.1]) ?_
  refine K_aload_n (dt_at dtX11_fonder 10 rfl) rfl rfl ?_
  refine K_get (a := 30) (ci := 11) (k := 5) (v := vr 66) (dt_at dtX11_fonder 11 rfl) (by decide) rfl (by decide) wF_X11_39 rfl ?_
  refine K_aload_n (dt_at dtX11_fonder 12 rfl) rfl rfl ?_
  refine K_get (a := 30) (ci := 11) (k := 7) (v := vr 70) (dt_at dtX11_fonder 13 rfl) (by decide) rfl (by decide) wF_X11_53 rfl ?_
  refine K_callV (M' := mX2_isSo) (a := 100) (ci := 2) (As := [vr t, vr 66, vr 70]) (st := []) (dt_at dtX11_fonder 14 rfl) (sX2_isSo u) (show TT 100 = (0, 2) from rfl) rfl wL_X11_343 vX2_isSo rfl npX2_isSo (by decide) (by decide) (Nat.le_of_ble_eq_true rfl) (by decide) (by decide) GK_E (fun v9 hc1 hq => ?_) (fun E h9 hq => by cases hq.1)
  have hqq2 := hq
  obtain ⟨e9q2, F9⟩ := hqq2
  cases e9q2
  show K mX11_fonder _ _ 1 6 29 [(0, vr 30), (1, vi 2)] [vi (if seB S N f = true then 1 else 0)] hc1
  by_cases z2 : seB S N f = true
  · rw [if_pos z2]
    refine K_if_eq (tgt := 36) (dt_at dtX11_fonder 15 rfl) (by decide) (by first | assumption | exact ⟨by omega, by omega⟩) (fun c3 => absurd c3 (by omega)) (fun c3 => ?_)
    refine K_iconst (dt_at dtX11_fonder 16 rfl) ?_
    refine K_goto (tgt := 37) (dt_at dtX11_fonder 17 rfl) (by decide) ?_
    exact K_iret (dt_at dtX11_fonder 19 rfl) rfl rfl (by decide) (by decide) ⟨rfl, F9⟩
  · rw [if_neg z2]
    refine K_if_eq (tgt := 36) (dt_at dtX11_fonder 15 rfl) (by decide) (by first | assumption | exact ⟨by omega, by omega⟩) (fun c4 => ?_) (fun c4 => absurd c4 (by omega))
    refine K_iconst (dt_at dtX11_fonder 18 rfl) ?_
    exact K_iret (dt_at dtX11_fonder 19 rfl) rfl rfl (by decide) (by decide) ⟨rfl, F9⟩
set_option maxHeartbeats 4000000 in
set_option maxRecDepth 100000 in
theorem sX11_fonder_0 {h : HP} {t : Nat} {S : HS} {B : Int} {f : Int → Int} {N : SN} (u : GU h t S B f N) : SpecK mX11_fonder [vr 30, vi 0] h (fun o h' => o = .inl (some (vi ((gsA S N f).length : Int))) ∧ FS h h') := by
  refine Spec_of (by decide +kernel) (Nat.le_of_ble_eq_true rfl) ?_
  have c := u.1
  have ht := c.1
  have hH := TTt ht
  have hB := c.2.2.2.1
  have hNt := hB.1
  have hNp := hB.2.1
  have hT := c.2.2.2.2.2.1
  have hC := c.2.2.2.2.2.2.1
  have h99 := c.2.2.2.2.2.2.2.1
  have G := c.2.2.2.2.2.2.2.2
  have hf0 := hT.2.2.2.1
  refine K_iload_n (dt_at dtX11_fonder 0 rfl) rfl rfl ?_
  refine K_iconst (dt_at dtX11_fonder 1 rfl) ?_
  refine K_callS (M' := mX11_needWhat) (As := [vi 0, vi 2]) (st := []) (dt_at dtX11_fonder 2 rfl) (sX11_needWhat (by first | assumption | exact ⟨by omega, by omega⟩) ⟨by decide, by decide⟩ (by omega)) wL_X11_133 vX11_needWhat rfl npX11_needWhat (by decide) (by decide) (Nat.le_of_ble_eq_true rfl) (by decide) (by decide) GK_E (fun v9 h9 hq => ?_) (fun E h9 hq => by cases hq.1)
  obtain ⟨e9, e8⟩ := hq
  cases e9
  rw [e8]
  show K mX11_fonder _ _ 1 6 5 [(0, vr 30), (1, vi 0)] [] h
  refine K_iload_n (dt_at dtX11_fonder 3 rfl) rfl rfl ?_
  refine K_iconst (dt_at dtX11_fonder 4 rfl) ?_
  refine K_icmp_ne (tgt := 38) (dt_at dtX11_fonder 5 rfl) (by decide) (by first | assumption | exact ⟨by omega, by omega⟩) (by first | assumption | exact ⟨by omega, by omega⟩) (fun c1 => ?_) (fun c1 => absurd c1 (by omega))
  refine K_aload_n (dt_at dtX11_fonder 20 rfl) rfl rfl ?_
  refine K_get (a := 30) (ci := 11) (k := 13) (v := vr 100) (dt_at dtX11_fonder 21 rfl) (by decide) rfl (by decide) wF_X11_85 rfl ?_
  refine K_aload_n (dt_at dtX11_fonder 22 rfl) rfl rfl ?_
  refine K_get (a := 30) (ci := 11) (k := 2) (v := vr t) (dt_at dtX11_fonder 23 rfl) (by decide) rfl (by decide) wF_X11_20 (by show vr (hR h 30 2) = vr t; rw [c.2.1]) ?_
  refine K_aload_n (dt_at dtX11_fonder 24 rfl) rfl rfl ?_
  refine K_get (a := 30) (ci := 11) (k := 5) (v := vr 66) (dt_at dtX11_fonder 25 rfl) (by decide) rfl (by decide) wF_X11_39 rfl ?_
  refine K_aload_n (dt_at dtX11_fonder 26 rfl) rfl rfl ?_
  refine K_get (a := 30) (ci := 11) (k := 7) (v := vr 70) (dt_at dtX11_fonder 27 rfl) (by decide) rfl (by decide) wF_X11_53 rfl ?_
  refine K_callV (M' := mX2_findAll) (a := 100) (ci := 2) (As := [vr t, vr 66, vr 70]) (st := []) (dt_at dtX11_fonder 28 rfl) (sX2_findAll u) (show TT 100 = (0, 2) from rfl) rfl wL_X11_347 vX2_findAll rfl npX2_findAll (by decide) (by decide) (Nat.le_of_ble_eq_true rfl) (by decide) (by decide) GK_E (fun v9 hc1 hq => ?_) (fun E h9 hq => by cases hq.1)
  have hqq2 := hq
  obtain ⟨e9q2, G9⟩ := hqq2
  cases e9q2
  show K mX11_fonder _ _ 1 6 57 [(0, vr 30), (1, vi 0)] [] hc1
  refine K_iload_n (dt_at dtX11_fonder 29 rfl) rfl rfl ?_
  refine K_if_ne (tgt := 71) (dt_at dtX11_fonder 30 rfl) (by decide) (by first | assumption | exact ⟨by omega, by omega⟩) (fun c2 => absurd c2 (by omega)) (fun c2 => ?_)
  refine K_aload_n (dt_at dtX11_fonder 31 rfl) rfl rfl ?_
  refine K_get (a := 30) (ci := 11) (k := 13) (v := vr 100) (dt_at dtX11_fonder 32 rfl) (by decide) rfl (by decide) wF_X11_85 rfl ?_
  refine K_callV (M' := mX2_many) (a := 100) (ci := 2) (As := []) (st := []) (dt_at dtX11_fonder 33 rfl) sX2_many (show TT 100 = (0, 2) from rfl) rfl wL_X11_351 vX2_many rfl npX2_many (by decide) (by decide) (Nat.le_of_ble_eq_true rfl) (by decide) (by decide) GK_E (fun v9 h9 hq => ?_) (fun E h9 hq => by cases hq.1)
  obtain ⟨e9, e8⟩ := hq
  cases e9
  rw [e8]
  show K mX11_fonder _ _ 1 6 68 [(0, vr 30), (1, vi 0)] [vi (hI hc1 100 4)] hc1
  rw [G9.2.1]
  refine K_goto (tgt := 78) (dt_at dtX11_fonder 34 rfl) (by decide) ?_
  exact K_iret (dt_at dtX11_fonder 38 rfl) rfl rfl (by decide) (by decide) ⟨rfl, G9.1⟩
set_option maxHeartbeats 4000000 in
set_option maxRecDepth 100000 in
theorem sX11_fonder_1 {h : HP} {t : Nat} {S : HS} {B : Int} {f : Int → Int} {N : SN} (u : GU h t S B f N) : SpecK mX11_fonder [vr 30, vi 1] h (fun o h' => o = .inl (some (vi ((((gsA S N f)[0]?).map (fun x : Nat => (x : Int))).getD (-1)))) ∧ FS h h') := by
  refine Spec_of (by decide +kernel) (Nat.le_of_ble_eq_true rfl) ?_
  have c := u.1
  have ht := c.1
  have hH := TTt ht
  have hB := c.2.2.2.1
  have hNt := hB.1
  have hNp := hB.2.1
  have hT := c.2.2.2.2.2.1
  have hC := c.2.2.2.2.2.2.1
  have h99 := c.2.2.2.2.2.2.2.1
  have G := c.2.2.2.2.2.2.2.2
  have hf0 := hT.2.2.2.1
  refine K_iload_n (dt_at dtX11_fonder 0 rfl) rfl rfl ?_
  refine K_iconst (dt_at dtX11_fonder 1 rfl) ?_
  refine K_callS (M' := mX11_needWhat) (As := [vi 1, vi 2]) (st := []) (dt_at dtX11_fonder 2 rfl) (sX11_needWhat (by first | assumption | exact ⟨by omega, by omega⟩) ⟨by decide, by decide⟩ (by omega)) wL_X11_133 vX11_needWhat rfl npX11_needWhat (by decide) (by decide) (Nat.le_of_ble_eq_true rfl) (by decide) (by decide) GK_E (fun v9 h9 hq => ?_) (fun E h9 hq => by cases hq.1)
  obtain ⟨e9, e8⟩ := hq
  cases e9
  rw [e8]
  show K mX11_fonder _ _ 1 6 5 [(0, vr 30), (1, vi 1)] [] h
  refine K_iload_n (dt_at dtX11_fonder 3 rfl) rfl rfl ?_
  refine K_iconst (dt_at dtX11_fonder 4 rfl) ?_
  refine K_icmp_ne (tgt := 38) (dt_at dtX11_fonder 5 rfl) (by decide) (by first | assumption | exact ⟨by omega, by omega⟩) (by first | assumption | exact ⟨by omega, by omega⟩) (fun c1 => ?_) (fun c1 => absurd c1 (by omega))
  refine K_aload_n (dt_at dtX11_fonder 20 rfl) rfl rfl ?_
  refine K_get (a := 30) (ci := 11) (k := 13) (v := vr 100) (dt_at dtX11_fonder 21 rfl) (by decide) rfl (by decide) wF_X11_85 rfl ?_
  refine K_aload_n (dt_at dtX11_fonder 22 rfl) rfl rfl ?_
  refine K_get (a := 30) (ci := 11) (k := 2) (v := vr t) (dt_at dtX11_fonder 23 rfl) (by decide) rfl (by decide) wF_X11_20 (by show vr (hR h 30 2) = vr t; rw [c.2.1]) ?_
  refine K_aload_n (dt_at dtX11_fonder 24 rfl) rfl rfl ?_
  refine K_get (a := 30) (ci := 11) (k := 5) (v := vr 66) (dt_at dtX11_fonder 25 rfl) (by decide) rfl (by decide) wF_X11_39 rfl ?_
  refine K_aload_n (dt_at dtX11_fonder 26 rfl) rfl rfl ?_
  refine K_get (a := 30) (ci := 11) (k := 7) (v := vr 70) (dt_at dtX11_fonder 27 rfl) (by decide) rfl (by decide) wF_X11_53 rfl ?_
  refine K_callV (M' := mX2_findAll) (a := 100) (ci := 2) (As := [vr t, vr 66, vr 70]) (st := []) (dt_at dtX11_fonder 28 rfl) (sX2_findAll u) (show TT 100 = (0, 2) from rfl) rfl wL_X11_347 vX2_findAll rfl npX2_findAll (by decide) (by decide) (Nat.le_of_ble_eq_true rfl) (by decide) (by decide) GK_E (fun v9 hc1 hq => ?_) (fun E h9 hq => by cases hq.1)
  have hqq2 := hq
  obtain ⟨e9q2, G9⟩ := hqq2
  cases e9q2
  show K mX11_fonder _ _ 1 6 57 [(0, vr 30), (1, vi 1)] [] hc1
  refine K_iload_n (dt_at dtX11_fonder 29 rfl) rfl rfl ?_
  refine K_if_ne (tgt := 71) (dt_at dtX11_fonder 30 rfl) (by decide) (by first | assumption | exact ⟨by omega, by omega⟩) (fun c2 => ?_) (fun c2 => absurd c2 (by omega))
  refine K_aload_n (dt_at dtX11_fonder 35 rfl) rfl rfl ?_
  refine K_get (a := 30) (ci := 11) (k := 13) (v := vr 100) (dt_at dtX11_fonder 36 rfl) (by decide) rfl (by decide) wF_X11_85 rfl ?_
  refine K_callV (M' := mX2_first) (a := 100) (ci := 2) (As := []) (st := []) (dt_at dtX11_fonder 37 rfl) (sX2_first G9.2.1 (by have := gsL_len (S := S) (N := N) (f := f) (10 * sNp S); omega)) (show TT 100 = (0, 2) from rfl) rfl wL_X11_352 vX2_first rfl npX2_first (by decide) (by decide) (Nat.le_of_ble_eq_true rfl) (by decide) (by decide) GK_E (fun v9 h9 hq => ?_) (fun E h9 hq => by cases hq.1)
  obtain ⟨e9, e8⟩ := hq
  cases e9
  rw [e8]
  show K mX11_fonder _ _ 1 6 78 [(0, vr 30), (1, vi 1)] [vi (if 0 < (gsL S N f (10 * sNp S)).length then hA hc1 108 0 else -1)] hc1
  refine K_iret (dt_at dtX11_fonder 38 rfl) rfl rfl (by decide) (by decide) ⟨?_, G9.1⟩
  rw [show (if 0 < (gsL S N f (10 * sNp S)).length then hA hc1 108 0 else -1) = (((gsA S N f)[0]?).map (fun x : Nat => (x : Int))).getD (-1) by
    unfold gsA
    cases e0 : (gsL S N f (10 * sNp S))[0]? with
    | none => rw [if_neg (by have := List.getElem?_eq_none_iff.mp e0; omega)]; rfl
    | some x => rw [if_pos (List.getElem?_eq_some_iff.mp e0).1, show (0 : Int) = ((0 : Nat) : Int) from rfl, G9.2.2 0 x e0]; rfl]
def mX11_look : MI := (yX11_look, cX11_look, 2, (some .int), rmK 8 1)
def tX11_look : List (Nat × Instr × Nat) := [(0, .iload_n 1, 1), (1, .iconst 1, 1), (2, .invokestatic 133, 3), (5, .aload_n 0, 1), (6, .getfield 85, 3), (9, .aload_n 0, 1), (10, .getfield 20, 3), (13, .aload_n 0, 1), (14, .getfield 39, 3), (17, .aload_n 0, 1), (18, .getfield 53, 3), (21, .invokevirtual 347, 3), (24, .aload_n 0, 1), (25, .getfield 85, 3), (28, .aload_n 0, 1), (29, .getfield 20, 3), (32, .aload_n 0, 1), (33, .getfield 39, 3), (36, .invokevirtual 355, 3), (39, .iload_n 1, 1), (40, .ifCond .ne 13, 3), (43, .aload_n 0, 1), (44, .getfield 85, 3), (47, .invokevirtual 358, 3), (50, .goto 10, 3), (53, .aload_n 0, 1), (54, .getfield 85, 3), (57, .invokevirtual 361, 3), (60, .ireturn, 1)]
theorem dtX11_look : tX11_look.all (fun q => decide (decode cX11_look q.1 = .ok (q.2.1, q.2.2))) = true := by decide +kernel
theorem npX11_look : (parseMethodDescriptor (mY mX11_look).desc).map (fun d => d.parameters.length) = some 1 := by decide +kernel
theorem vX11_look : mV mX11_look := ⟨wI_X11_look, wS_X11_look, wN_X11, wC_X11_look, by decide +kernel, by decide +kernel⟩
set_option maxHeartbeats 4000000 in
set_option maxRecDepth 100000 in
theorem sX11_look_x1 {h : HP} {t : Nat} {S : HS} {B : Int} {f : Int → Int} {w : Int} (c : CQ h t S B f) (hw : i32 w) (kn : ¬ (0 ≤ w ∧ w ≤ 1)) : SpecK mX11_look [vr 30, vi w] h (fun o h' => o = .inr eNS ∧ FS h h') := by
  refine Spec_of (by decide +kernel) (Nat.le_of_ble_eq_true rfl) ?_
  have ht := c.1
  have hH := TTt ht
  have hB := c.2.2.2.1
  have hNt := hB.1
  have hNp := hB.2.1
  have hT := c.2.2.2.2.2.1
  have hC := c.2.2.2.2.2.2.1
  have h99 := c.2.2.2.2.2.2.2.1
  have G := c.2.2.2.2.2.2.2.2
  have hf0 := hT.2.2.2.1
  refine K_iload_n (dt_at dtX11_look 0 rfl) rfl rfl ?_
  refine K_iconst (dt_at dtX11_look 1 rfl) ?_
  exact K_callS (M' := mX11_needWhat) (As := [vi w, vi 1]) (st := []) (dt_at dtX11_look 2 rfl) (sX11_needWhat_no (by assumption) ⟨by decide, by decide⟩ (by omega)) wL_X11_133 vX11_needWhat rfl npX11_needWhat (by decide) (by decide) (Nat.le_of_ble_eq_true rfl) (by decide) (by decide) GK_E (fun v9 h9 hq => by cases hq.1) (fun E h9 hq => by obtain ⟨e9, e8⟩ := hq; cases e9; rw [e8]; exact KX_out (by decide) (by decide) ⟨rfl, FS_rf G⟩)
set_option maxHeartbeats 4000000 in
set_option maxRecDepth 100000 in
theorem sX11_look_0 {h : HP} {t : Nat} {S : HS} {B : Int} {f : Int → Int} {N : SN} (u : GU h t S B f N) : SpecK mX11_look [vr 30, vi 0] h (fun o h' => o = .inl (some (vi (selN (fun k v => decide (0 < unF S N f k) && (decide (v = -1) || decide (unF S N f v.toNat < unF S N f k))) (sNt S)))) ∧ FS h h') := by
  refine Spec_of (by decide +kernel) (Nat.le_of_ble_eq_true rfl) ?_
  have c := u.1
  have ht := c.1
  have hH := TTt ht
  have hB := c.2.2.2.1
  have hNt := hB.1
  have hNp := hB.2.1
  have hT := c.2.2.2.2.2.1
  have hC := c.2.2.2.2.2.2.1
  have h99 := c.2.2.2.2.2.2.2.1
  have G := c.2.2.2.2.2.2.2.2
  have hf0 := hT.2.2.2.1
  refine K_iload_n (dt_at dtX11_look 0 rfl) rfl rfl ?_
  refine K_iconst (dt_at dtX11_look 1 rfl) ?_
  refine K_callS (M' := mX11_needWhat) (As := [vi 0, vi 1]) (st := []) (dt_at dtX11_look 2 rfl) (sX11_needWhat (by first | assumption | exact ⟨by omega, by omega⟩) ⟨by decide, by decide⟩ (by omega)) wL_X11_133 vX11_needWhat rfl npX11_needWhat (by decide) (by decide) (Nat.le_of_ble_eq_true rfl) (by decide) (by decide) GK_E (fun v9 h9 hq => ?_) (fun E h9 hq => by cases hq.1)
  obtain ⟨e9, e8⟩ := hq
  cases e9
  rw [e8]
  show K mX11_look _ _ 1 6 5 [(0, vr 30), (1, vi 0)] [] h
  refine K_aload_n (dt_at dtX11_look 3 rfl) rfl rfl ?_
  refine K_get (a := 30) (ci := 11) (k := 13) (v := vr 100) (dt_at dtX11_look 4 rfl) (by decide) rfl (by decide) wF_X11_85 rfl ?_
  refine K_aload_n (dt_at dtX11_look 5 rfl) rfl rfl ?_
  refine K_get (a := 30) (ci := 11) (k := 2) (v := vr t) (dt_at dtX11_look 6 rfl) (by decide) rfl (by decide) wF_X11_20 (by show vr (hR h 30 2) = vr t; rw [c.2.1]) ?_
  refine K_aload_n (dt_at dtX11_look 7 rfl) rfl rfl ?_
  refine K_get (a := 30) (ci := 11) (k := 5) (v := vr 66) (dt_at dtX11_look 8 rfl) (by decide) rfl (by decide) wF_X11_39 rfl ?_
  refine K_aload_n (dt_at dtX11_look 9 rfl) rfl rfl ?_
  refine K_get (a := 30) (ci := 11) (k := 7) (v := vr 70) (dt_at dtX11_look 10 rfl) (by decide) rfl (by decide) wF_X11_53 rfl ?_
  refine K_callV (M' := mX2_findAll) (a := 100) (ci := 2) (As := [vr t, vr 66, vr 70]) (st := []) (dt_at dtX11_look 11 rfl) (sX2_findAll u) (show TT 100 = (0, 2) from rfl) rfl wL_X11_347 vX2_findAll rfl npX2_findAll (by decide) (by decide) (Nat.le_of_ble_eq_true rfl) (by decide) (by decide) GK_E (fun v9 hc1 hq => ?_) (fun E h9 hq => by cases hq.1)
  have hqq2 := hq
  obtain ⟨e9q2, G9⟩ := hqq2
  cases e9q2
  show K mX11_look _ _ 1 6 24 [(0, vr 30), (1, vi 0)] [] hc1
  refine K_aload_n (dt_at dtX11_look 12 rfl) rfl rfl ?_
  refine K_get (a := 30) (ci := 11) (k := 13) (v := vr 100) (dt_at dtX11_look 13 rfl) (by decide) rfl (by decide) wF_X11_85 rfl ?_
  refine K_aload_n (dt_at dtX11_look 14 rfl) rfl rfl ?_
  refine K_get (a := 30) (ci := 11) (k := 2) (v := vr t) (dt_at dtX11_look 15 rfl) (by decide) rfl (by decide) wF_X11_20 (by show vr (hR hc1 30 2) = vr t; rw [(CQ_FS c G9.1).2.1]) ?_
  refine K_aload_n (dt_at dtX11_look 16 rfl) rfl rfl ?_
  refine K_get (a := 30) (ci := 11) (k := 5) (v := vr 66) (dt_at dtX11_look 17 rfl) (by decide) rfl (by decide) wF_X11_39 rfl ?_
  refine K_callV (M' := mX2_compareStocks) (a := 100) (ci := 2) (As := [vr t, vr 66]) (st := []) (dt_at dtX11_look 18 rfl) (sX2_compareStocks u G9) (show TT 100 = (0, 2) from rfl) rfl wL_X11_355 vX2_compareStocks rfl npX2_compareStocks (by decide) (by decide) (Nat.le_of_ble_eq_true rfl) (by decide) (by decide) GK_E (fun v9 hc3 hq => ?_) (fun E h9 hq => by cases hq.1)
  have hqq4 := hq
  obtain ⟨e9q4, V9⟩ := hqq4
  have hU9 : ∀ q : Nat, q < sNt S → hA hc3 116 (q : Int) = unF S N f q ∧ 0 ≤ unF S N f q ∧ unF S N f q ≤ 70 := fun q hq => ⟨(V9.2.2 q hq).1, by unfold unF; omega, by have := dvL_len (svF S N f q) (gsA S N f).length; have := gsL_len (S := S) (N := N) (f := f) (10 * sNp S); unfold unF; unfold gsA at *; omega⟩
  cases e9q4
  show K mX11_look _ _ 1 6 39 [(0, vr 30), (1, vi 0)] [] hc3
  refine K_iload_n (dt_at dtX11_look 19 rfl) rfl rfl ?_
  refine K_if_ne (tgt := 53) (dt_at dtX11_look 20 rfl) (by decide) (by first | assumption | exact ⟨by omega, by omega⟩) (fun c1 => absurd c1 (by omega)) (fun c1 => ?_)
  refine K_aload_n (dt_at dtX11_look 21 rfl) rfl rfl ?_
  refine K_get (a := 30) (ci := 11) (k := 13) (v := vr 100) (dt_at dtX11_look 22 rfl) (by decide) rfl (by decide) wF_X11_85 rfl ?_
  refine K_callV (M' := mX2_mostUnlike) (a := 100) (ci := 2) (As := []) (st := []) (dt_at dtX11_look 23 rfl) (sX2_mostUnlike V9.2.1 hNt hU9) (show TT 100 = (0, 2) from rfl) rfl wL_X11_358 vX2_mostUnlike rfl npX2_mostUnlike (by decide) (by decide) (Nat.le_of_ble_eq_true rfl) (by decide) (by decide) GK_E (fun v9 h9 hq => ?_) (fun E h9 hq => by cases hq.1)
  obtain ⟨e9, e8⟩ := hq
  cases e9
  rw [e8]
  show K mX11_look _ _ 1 6 50 [(0, vr 30), (1, vi 0)] [vi (selN (fun k v => decide (0 < unF S N f k) && (decide (v = -1) || decide (unF S N f v.toNat < unF S N f k))) (sNt S))] hc3
  refine K_goto (tgt := 60) (dt_at dtX11_look 24 rfl) (by decide) ?_
  exact K_iret (dt_at dtX11_look 28 rfl) rfl rfl (by decide) (by decide) ⟨rfl, V9.1.1⟩
set_option maxHeartbeats 4000000 in
set_option maxRecDepth 100000 in
theorem sX11_look_1 {h : HP} {t : Nat} {S : HS} {B : Int} {f : Int → Int} {N : SN} (u : GU h t S B f N) : SpecK mX11_look [vr 30, vi 1] h (fun o h' => o = .inl (some (vi (if selN (fun k v => decide (0 < unF S N f k) && (decide (v = -1) || decide (unF S N f v.toNat < unF S N f k))) (sNt S) = -1 then 0 else unF S N f (selN (fun k v => decide (0 < unF S N f k) && (decide (v = -1) || decide (unF S N f v.toNat < unF S N f k))) (sNt S)).toNat))) ∧ FS h h') := by
  refine Spec_of (by decide +kernel) (Nat.le_of_ble_eq_true rfl) ?_
  have c := u.1
  have ht := c.1
  have hH := TTt ht
  have hB := c.2.2.2.1
  have hNt := hB.1
  have hNp := hB.2.1
  have hT := c.2.2.2.2.2.1
  have hC := c.2.2.2.2.2.2.1
  have h99 := c.2.2.2.2.2.2.2.1
  have G := c.2.2.2.2.2.2.2.2
  have hf0 := hT.2.2.2.1
  refine K_iload_n (dt_at dtX11_look 0 rfl) rfl rfl ?_
  refine K_iconst (dt_at dtX11_look 1 rfl) ?_
  refine K_callS (M' := mX11_needWhat) (As := [vi 1, vi 1]) (st := []) (dt_at dtX11_look 2 rfl) (sX11_needWhat (by first | assumption | exact ⟨by omega, by omega⟩) ⟨by decide, by decide⟩ (by omega)) wL_X11_133 vX11_needWhat rfl npX11_needWhat (by decide) (by decide) (Nat.le_of_ble_eq_true rfl) (by decide) (by decide) GK_E (fun v9 h9 hq => ?_) (fun E h9 hq => by cases hq.1)
  obtain ⟨e9, e8⟩ := hq
  cases e9
  rw [e8]
  show K mX11_look _ _ 1 6 5 [(0, vr 30), (1, vi 1)] [] h
  refine K_aload_n (dt_at dtX11_look 3 rfl) rfl rfl ?_
  refine K_get (a := 30) (ci := 11) (k := 13) (v := vr 100) (dt_at dtX11_look 4 rfl) (by decide) rfl (by decide) wF_X11_85 rfl ?_
  refine K_aload_n (dt_at dtX11_look 5 rfl) rfl rfl ?_
  refine K_get (a := 30) (ci := 11) (k := 2) (v := vr t) (dt_at dtX11_look 6 rfl) (by decide) rfl (by decide) wF_X11_20 (by show vr (hR h 30 2) = vr t; rw [c.2.1]) ?_
  refine K_aload_n (dt_at dtX11_look 7 rfl) rfl rfl ?_
  refine K_get (a := 30) (ci := 11) (k := 5) (v := vr 66) (dt_at dtX11_look 8 rfl) (by decide) rfl (by decide) wF_X11_39 rfl ?_
  refine K_aload_n (dt_at dtX11_look 9 rfl) rfl rfl ?_
  refine K_get (a := 30) (ci := 11) (k := 7) (v := vr 70) (dt_at dtX11_look 10 rfl) (by decide) rfl (by decide) wF_X11_53 rfl ?_
  refine K_callV (M' := mX2_findAll) (a := 100) (ci := 2) (As := [vr t, vr 66, vr 70]) (st := []) (dt_at dtX11_look 11 rfl) (sX2_findAll u) (show TT 100 = (0, 2) from rfl) rfl wL_X11_347 vX2_findAll rfl npX2_findAll (by decide) (by decide) (Nat.le_of_ble_eq_true rfl) (by decide) (by decide) GK_E (fun v9 hc1 hq => ?_) (fun E h9 hq => by cases hq.1)
  have hqq2 := hq
  obtain ⟨e9q2, G9⟩ := hqq2
  cases e9q2
  show K mX11_look _ _ 1 6 24 [(0, vr 30), (1, vi 1)] [] hc1
  refine K_aload_n (dt_at dtX11_look 12 rfl) rfl rfl ?_
  refine K_get (a := 30) (ci := 11) (k := 13) (v := vr 100) (dt_at dtX11_look 13 rfl) (by decide) rfl (by decide) wF_X11_85 rfl ?_
  refine K_aload_n (dt_at dtX11_look 14 rfl) rfl rfl ?_
  refine K_get (a := 30) (ci := 11) (k := 2) (v := vr t) (dt_at dtX11_look 15 rfl) (by decide) rfl (by decide) wF_X11_20 (by show vr (hR hc1 30 2) = vr t; rw [(CQ_FS c G9.1).2.1]) ?_
  refine K_aload_n (dt_at dtX11_look 16 rfl) rfl rfl ?_
  refine K_get (a := 30) (ci := 11) (k := 5) (v := vr 66) (dt_at dtX11_look 17 rfl) (by decide) rfl (by decide) wF_X11_39 rfl ?_
  refine K_callV (M' := mX2_compareStocks) (a := 100) (ci := 2) (As := [vr t, vr 66]) (st := []) (dt_at dtX11_look 18 rfl) (sX2_compareStocks u G9) (show TT 100 = (0, 2) from rfl) rfl wL_X11_355 vX2_compareStocks rfl npX2_compareStocks (by decide) (by decide) (Nat.le_of_ble_eq_true rfl) (by decide) (by decide) GK_E (fun v9 hc3 hq => ?_) (fun E h9 hq => by cases hq.1)
  have hqq4 := hq
  obtain ⟨e9q4, V9⟩ := hqq4
  have hU9 : ∀ q : Nat, q < sNt S → hA hc3 116 (q : Int) = unF S N f q ∧ 0 ≤ unF S N f q ∧ unF S N f q ≤ 70 := fun q hq => ⟨(V9.2.2 q hq).1, by unfold unF; omega, by have := dvL_len (svF S N f q) (gsA S N f).length; have := gsL_len (S := S) (N := N) (f := f) (10 * sNp S); unfold unF; unfold gsA at *; omega⟩
  cases e9q4
  show K mX11_look _ _ 1 6 39 [(0, vr 30), (1, vi 1)] [] hc3
  refine K_iload_n (dt_at dtX11_look 19 rfl) rfl rfl ?_
  refine K_if_ne (tgt := 53) (dt_at dtX11_look 20 rfl) (by decide) (by first | assumption | exact ⟨by omega, by omega⟩) (fun c1 => ?_) (fun c1 => absurd c1 (by omega))
  refine K_aload_n (dt_at dtX11_look 25 rfl) rfl rfl ?_
  refine K_get (a := 30) (ci := 11) (k := 13) (v := vr 100) (dt_at dtX11_look 26 rfl) (by decide) rfl (by decide) wF_X11_85 rfl ?_
  refine K_callV (M' := mX2_unlikeNumbers) (a := 100) (ci := 2) (As := []) (st := []) (dt_at dtX11_look 27 rfl) (sX2_unlikeNumbers V9.2.1 hNt hU9) (show TT 100 = (0, 2) from rfl) rfl wL_X11_361 vX2_unlikeNumbers rfl npX2_unlikeNumbers (by decide) (by decide) (Nat.le_of_ble_eq_true rfl) (by decide) (by decide) GK_E (fun v9 h9 hq => ?_) (fun E h9 hq => by cases hq.1)
  obtain ⟨e9, e8⟩ := hq
  cases e9
  rw [e8]
  show K mX11_look _ _ 1 6 60 [(0, vr 30), (1, vi 1)] [vi (if selN (fun k v => decide (0 < unF S N f k) && (decide (v = -1) || decide (unF S N f v.toNat < unF S N f k))) (sNt S) = -1 then 0 else unF S N f (selN (fun k v => decide (0 < unF S N f k) && (decide (v = -1) || decide (unF S N f v.toNat < unF S N f k))) (sNt S)).toNat)] hc3
  exact K_iret (dt_at dtX11_look 28 rfl) rfl rfl (by decide) (by decide) ⟨rfl, V9.1.1⟩
