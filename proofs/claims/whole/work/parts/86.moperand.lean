/-! the reference within an EXPR -/
abbrev YL : List (Nat × Nat) := [(0, 17), (0, 18), (0, 19), (0, 20), (0, 21), (0, 22), (0, 23), (0, 13), (0, 14), (0, 28), (0, 29), (0, 30), (0, 31), (0, 32)]
def YF (a : Nat) (h0 h : HP) : Prop := (∀ i : Int, i < (a : Int) → hA h 15 i = hA h0 15 i) ∧ FL [15, 16, 17] YL [] h0 h
theorem YF_tr {a : Nat} {h0 h h' : HP} {la : List Nat} {li : List (Nat × Nat)} (Y : YF a h0 h) (F : FL la li [] h h') (h1 : la.all [15, 16, 17].contains = true) (h2 : li.all YL.contains = true) (h3 : ∀ i : Int, i < (a : Int) → hA h' 15 i = hA h 15 i) : YF a h0 h' :=
  ⟨fun i hi => by rw [h3 i hi]; exact Y.1 i hi, FL_tr Y.2 (FL_up F h1 h2 rfl)⟩
def SR (c : Nat) (h0 h : HP) (tp : Int → Int) (n : Nat) (pu : Int) (a p : Nat) (L W : List Int) (T : List Bool) : Prop :=
  MGd h tp n p ∧ (hI h 0 29 = fvP pu ∧ hI h 0 30 = laV pu) ∧ (hI h 0 28 = (a : Int) + (clN L : Int) ∧ cdP (hA h 15) (a : Int) L) ∧ (WLs h W ∧ opw W) ∧ (TLt h T ∧ T.length ≤ 6) ∧ (a + clN L + W.length + 8 ≤ 2 * p + c ∧ W.length ≤ p + c) ∧ YF a h0 h
def SEr (h0 h : HP) (tp : Int → Int) (n a : Nat) (e : Int × Nat) : Prop :=
  MEr h tp n e ∧ (∃ W, WLs h W ∧ opw W ∧ W.length ≤ 800 ∧ hI h 0 28 + (W.length : Int) ≤ 1398) ∧ (a : Int) ≤ hI h 0 28 ∧ YF a h0 h
section SRS
variable {c a n p : Nat} {h0 h h' : HP} {tp : Int → Int} {pu : Int} {L W : List Int} {T : List Bool}
theorem SR_goes (S : SR c h0 h tp n pu a p L W T) (hc : c = 0 ∨ (c = 1 ∧ (tk tp n p).1 ≠ 0)) (G : MGd h' tp n (tk tp n p).2.2) (F : FL [] ML [] h h') : SR 0 h0 h' tp n pu a (tk tp n p).2.2 L W T := by
  obtain ⟨s1, ⟨s2, s3⟩, ⟨s4, s5⟩, ⟨s6, s7⟩, ⟨s8, s9⟩, ⟨b1, b2⟩, Y⟩ := S
  have hp := s1.2.2.1
  have hle : p ≤ (tk tp n p).2.2 := Nat.le_trans (tk_is (tp := tp) hp).1 (tk_is (tp := tp) hp).2.1
  have hx : c = 0 ∨ (c = 1 ∧ p < (tk tp n p).2.2) := hc.imp id (fun z => ⟨z.1, tk_lt hp z.2⟩)
  exact ⟨G, ⟨by rw [F.2.1 0 29 rfl]; exact s2, by rw [F.2.1 0 30 rfl]; exact s3⟩, ⟨by rw [F.2.1 0 28 rfl]; exact s4, by rw [F.1 15 rfl]; exact s5⟩, ⟨WL_fr s6 (F.2.1 0 31 rfl) (F.1 16 rfl), s7⟩, ⟨TLt_fr s8 (F.2.1 0 32 rfl) (F.1 17 rfl), s9⟩, ⟨by omega, by omega⟩, YF_tr Y F rfl rfl (fun i _ => by rw [F.1 15 rfl])⟩
theorem SR_push {x : Int} (S : SR 0 h0 h tp n pu a p L W T) (hx : x = 0 ∨ (-17 ≤ x ∧ x ≤ -9)) (e : hI h' 0 31 = hI h 0 31 + 1) (ea : hA h' 16 = upI (hA h 16) (hI h 0 31) (wcF x)) (F : FL [16] [(0, 31)] [] h h') : SR 1 h0 h' tp n pu a p L (x :: W) T := by
  obtain ⟨s1, ⟨s2, s3⟩, ⟨s4, s5⟩, ⟨s6, s7⟩, ⟨s8, s9⟩, ⟨b1, b2⟩, Y⟩ := S
  refine ⟨MGd_up s1 F rfl rfl, ⟨by rw [F.2.1 0 29 rfl]; exact s2, by rw [F.2.1 0 30 rfl]; exact s3⟩, ⟨by rw [F.2.1 0 28 rfl]; exact s4, by rw [F.1 15 rfl]; exact s5⟩, ⟨WL_push s6 e ea, fun y hy => ?_⟩, ⟨TLt_fr s8 (F.2.1 0 32 rfl) (F.1 17 rfl), s9⟩, ⟨by show a + clN L + (W.length + 1) + 8 ≤ _; omega, by show W.length + 1 ≤ _; omega⟩, YF_tr Y F rfl rfl (fun i _ => by rw [F.1 15 rfl])⟩
  rcases List.mem_cons.mp hy with z | z
  · rw [z]; exact hx
  · exact s7 y z
theorem SR_deep (S : SR c h0 h tp n pu a p L W T) (hT : T.length < 6) (t : TLt h' (false :: T)) (F : FL [17] [(0, 32)] [] h h') : SR c h0 h' tp n pu a p L W (false :: T) := by
  obtain ⟨s1, ⟨s2, s3⟩, ⟨s4, s5⟩, ⟨s6, s7⟩, ⟨s8, s9⟩, ⟨b1, b2⟩, Y⟩ := S
  exact ⟨MGd_up s1 F rfl rfl, ⟨by rw [F.2.1 0 29 rfl]; exact s2, by rw [F.2.1 0 30 rfl]; exact s3⟩, ⟨by rw [F.2.1 0 28 rfl]; exact s4, by rw [F.1 15 rfl]; exact s5⟩, ⟨WL_fr s6 (F.2.1 0 31 rfl) (F.1 16 rfl), s7⟩, ⟨t, by show T.length + 1 ≤ 6; omega⟩, ⟨b1, b2⟩, YF_tr Y F rfl rfl (fun i _ => by rw [F.1 15 rfl])⟩
theorem SR_test {b d : Bool} (S : SR c h0 h tp n pu a p L W (b :: T)) (e : h' = sA h 17 (hI h 0 32) (if d = true then 1 else 0)) : SR c h0 h' tp n pu a p L W (d :: T) := by
  obtain ⟨s1, ⟨s2, s3⟩, ⟨s4, s5⟩, ⟨s6, s7⟩, ⟨s8, s9⟩, ⟨b1, b2⟩, Y⟩ := S
  have F : FL [17] [] [] h h' := FL_eA e rfl
  obtain ⟨x1, x2, x3, x4⟩ := sA_fx e
  exact ⟨MGd_up s1 F rfl rfl, ⟨by rw [x3]; exact s2, by rw [x3]; exact s3⟩, ⟨by rw [x3]; exact s4, by rw [x2 15 (by decide)]; exact s5⟩, ⟨WL_fr s6 (by rw [x3]) (x2 16 (by decide)), s7⟩, ⟨TLt_set s8 (by rw [x3]) x1, s9⟩, ⟨b1, b2⟩, YF_tr Y F rfl rfl (fun i _ => by rw [x2 15 (by decide)])⟩
theorem SR_bnd (S : SR c h0 h tp n pu a p L W T) (hc : c ≤ 1) : (0 ≤ hI h 0 28 ∧ hI h 0 28 + (W.length : Int) ≤ 1393) ∧ W.length ≤ 701 ∧ (hI h 0 31 = (W.length : Int)) ∧ n ≤ 700 ∧ p ≤ n ∧ hI h 0 32 = (T.length : Int) ∧ T.length ≤ 6 := by
  obtain ⟨s1, ⟨s2, s3⟩, ⟨s4, s5⟩, ⟨s6, s7⟩, ⟨s8, s9⟩, ⟨b1, b2⟩, Y⟩ := S
  have hn := s1.1.2.1
  have hp := s1.2.2.1
  exact ⟨⟨by omega, by omega⟩, by omega, s6.1, hn, hp, s8.1, s9⟩
theorem SR_drop {s : Int} {V : List Int} (S : SR 0 h0 h tp n pu a p L (V ++ W) T) (hs : 0 ≤ s) (hV : opn s V) (D : DRo h h' V W) : SR 0 h0 h' tp n pu a p (L ++ V) W T := by
  obtain ⟨s1, ⟨s2, s3⟩, ⟨s4, s5⟩, ⟨s6, s7⟩, ⟨s8, s9⟩, ⟨b1, b2⟩, Y⟩ := S
  obtain ⟨d1, d2, d3, d4, F⟩ := D
  have hV0 := opn_up hV hs
  have ec : clN (L ++ V) = clN L + V.length := by rw [clN_ap, clN_op V hV0]
  rw [List.length_append] at b1 b2
  refine ⟨MGd_up s1 F rfl rfl, ⟨by rw [F.2.1 0 29 rfl]; exact s2, by rw [F.2.1 0 30 rfl]; exact s3⟩, ⟨by rw [d2, s4, ec]; omega, cdP_ap L V _ (cdP_cg L _ (fun i _ h2 => d3 i (by omega)) s5) ?_⟩, ⟨d1, fun x hx => s7 x (List.mem_append.mpr (Or.inr hx))⟩, ⟨TLt_fr s8 (F.2.1 0 32 rfl) (F.1 17 rfl), s9⟩, ⟨by rw [ec]; omega, by omega⟩, YF_tr Y F rfl rfl (fun i hi => d3 i (by omega))⟩
  rw [← s4]
  exact cdP_op V _ hV0 d4
theorem SR_E {e : Int × Nat} (S : SR c h0 h tp n pu a p L W T) (hc : c ≤ 1) (E : MEr h' tp n e) (F : FL [] [(0, 13), (0, 14)] [] h h') : SEr h0 h' tp n a e := by
  obtain ⟨⟨u1, u2⟩, u3, -⟩ := SR_bnd S hc
  obtain ⟨s1, ⟨s2, s3⟩, ⟨s4, s5⟩, ⟨s6, s7⟩, ⟨s8, s9⟩, ⟨b1, b2⟩, Y⟩ := S
  exact ⟨E, ⟨W, WL_fr s6 (F.2.1 0 31 rfl) (F.1 16 rfl), s7, by omega, by rw [F.2.1 0 28 rfl]; omega⟩, by rw [F.2.1 0 28 rfl]; omega, YF_tr Y F rfl rfl (fun i _ => by rw [F.1 15 rfl])⟩
def OPo (h0 h' : HP) (tp : Int → Int) (n : Nat) (pu : Int) (a : Nat) (L : List Int) : OR9 → Prop
  | .inl e => SEr h0 h' tp n a e
  | .inr (q, x, W, T) => SR 0 h0 h' tp n pu a q (L ++ [x]) W T
theorem ptF_q {q : Nat} {x : Int} (h : ptF tp n pu p = .inr (q, x)) : (tk tp n p).1 ≠ 0 ∧ q = (tk tp n p).2.2 := by
  unfold ptF at h
  by_cases c1 : (tk tp n p).1 = 2
  · rw [if_pos c1] at h
    by_cases c2 : (tk tp n p).2.1 + 4 < (tk tp n p).2.2
    · rw [if_pos c2] at h; cases h
    · rw [if_neg c2] at h
      exact ⟨by omega, (Prod.mk.inj (Sum.inr.inj h)).1.symm⟩
  · rw [if_neg c1] at h
    by_cases c2 : (tk tp n p).1 = 1
    · rw [if_pos c2] at h
      by_cases c3 : vaW tp pu (tk tp n p) = 0
      · rw [if_pos c3] at h; cases h
      · rw [if_neg c3] at h
        exact ⟨by omega, (Prod.mk.inj (Sum.inr.inj h)).1.symm⟩
    · rw [if_neg c2] at h; cases h
theorem SR_part (S : SR 0 h0 h tp n pu a p L W T) (P1 : PTo h h' tp n (ptF tp n pu p)) (P2 : PTf h h') : OPo h0 h' tp n pu a L (ptO W T (ptF tp n pu p)) := by
  obtain ⟨⟨u1, u2⟩, u3, -⟩ := SR_bnd S (by omega)
  obtain ⟨s1, ⟨s2, s3⟩, ⟨s4, s5⟩, ⟨s6, s7⟩, ⟨s8, s9⟩, ⟨b1, b2⟩, Y⟩ := S
  obtain ⟨f1, F⟩ := P2
  rcases hu : ptF tp n pu p with e | ⟨q, x⟩
  · rw [hu] at P1
    obtain ⟨p1, p2, p3⟩ := P1
    exact ⟨p1, ⟨W, WL_fr s6 (F.2.1 0 31 rfl) (F.1 16 rfl), s7, by omega, by omega⟩, by omega, YF_tr Y F rfl rfl (fun i hi => f1 i (by omega))⟩
  · rw [hu] at P1
    obtain ⟨p1, p2, p3, p4⟩ := P1
    obtain ⟨q1, q2⟩ := ptF_q hu
    have hl := tk_lt s1.2.2.1 q1
    rw [← q2] at hl
    have ec : clN (L ++ [x]) = clN L + 2 := by
      rw [clN_ap]
      show clN L + ((if -8 ≤ x then 2 else 1) + 0) = _
      rw [if_pos p3.1]
    refine ⟨p1, ⟨by rw [F.2.1 0 29 rfl]; exact s2, by rw [F.2.1 0 30 rfl]; exact s3⟩, ⟨by rw [p2, s4, ec]; omega, cdP_ap L [x] _ (cdP_cg L _ (fun i _ h2 => f1 i (by omega)) s5) ?_⟩, ⟨WL_fr s6 (F.2.1 0 31 rfl) (F.1 16 rfl), s7⟩, ⟨TLt_fr s8 (F.2.1 0 32 rfl) (F.1 17 rfl), s9⟩, ⟨by rw [ec]; omega, by omega⟩, YF_tr Y F rfl rfl (fun i hi => f1 i (by omega))⟩
    rw [← s4]
    show if 0 ≤ x then hA h' 15 (hI h 0 28) = 1 ∧ hA h' 15 (hI h 0 28 + 1) = x ∧ True else if -8 ≤ x then hA h' 15 (hI h 0 28) = 2 ∧ hA h' 15 (hI h 0 28 + 1) = vkF x ∧ True else _
    by_cases c0 : 0 ≤ x
    · rw [if_pos c0] at p4 ⊢
      exact ⟨p4.1, p4.2, trivial⟩
    · rw [if_neg c0] at p4 ⊢
      rw [if_pos p3.1]
      exact ⟨p4.1, p4.2, trivial⟩
theorem SR_close {b : Bool} {h1 : HP} (S : SR 0 h0 h1 tp n pu a p L (0 :: W) (b :: T)) (e1 : hI h 0 31 = hI h1 0 31 - 1) (e2 : hI h 0 32 = hI h1 0 32 - 1) (F : FL [] [(0, 31), (0, 32)] [] h1 h) : SR 0 h0 h tp n pu a p L W T := by
  obtain ⟨s1, ⟨s2, s3⟩, ⟨s4, s5⟩, ⟨s6, s7⟩, ⟨s8, s9⟩, ⟨b1, b2⟩, Y⟩ := S
  have hw := (WL_hd s6).1
  have b1 : a + clN L + (W.length + 1) + 8 ≤ 2 * p + 0 := b1
  have b2 : W.length + 1 ≤ p + 0 := b2
  have s9 : T.length + 1 ≤ 6 := s9
  exact ⟨MGd_up s1 F rfl rfl, ⟨by rw [F.2.1 0 29 rfl]; exact s2, by rw [F.2.1 0 30 rfl]; exact s3⟩, ⟨by rw [F.2.1 0 28 rfl]; exact s4, by rw [F.1 15 rfl]; exact s5⟩, ⟨WL_tl s6 (by omega) (F.1 16 rfl), fun x hx => s7 x (List.mem_cons_of_mem _ hx)⟩, ⟨TLt_pop s8 e2 (F.1 17 rfl), by omega⟩, ⟨by omega, by omega⟩, YF_tr Y F rfl rfl (fun i _ => by rw [F.1 15 rfl])⟩
end SRS
def mX12_operand : MI := (yX12_operand, cX12_operand, 5, none, rmK 5 0)
def tX12_operand : List (Nat × Instr × Nat) := [(0, .iload_n 1, 1), (1, .istore_n 2, 1), (2, .iconst 1, 1), (3, .istore_n 3, 1), (4, .iload_n 3, 1), (5, .ifCond .eq 115, 3), (8, .aload_n 0, 1), (9, .invokevirtual 164, 3), (12, .ifCond .eq 108, 3), (15, .iconst 0, 1), (16, .istore 4, 2), (18, .aload_n 0, 1), (19, .invokevirtual 164, 3), (22, .ifCond .eq 53, 3), (25, .iload_n 2, 1), (26, .ifCond .eq 49, 3), (29, .aload_n 0, 1), (30, .invokevirtual 189, 3), (33, .bipush 15, 2), (35, .if_icmp .ne 40, 3), (38, .iload 4, 2), (40, .bipush 6, 2), (42, .if_icmp .ne 8, 3), (45, .aload_n 0, 1), (46, .iconst 2, 1), (47, .invokevirtual 171, 3), (50, .iinc 4 1, 3), (53, .aload_n 0, 1), (54, .invokevirtual 164, 3), (57, .ifCond .ne 6, 3), (60, .goto (-42), 3), (63, .aload_n 0, 1), (64, .iconst 3, 1), (65, .invokevirtual 205, 3), (68, .aload_n 0, 1), (69, .invokevirtual 168, 3), (72, .goto (-54), 3), (75, .aload_n 0, 1), (76, .invokevirtual 164, 3), (79, .ifCond .eq 16, 3), (82, .aload_n 0, 1), (83, .bipush 40, 2), (85, .invokevirtual 202, 3), (88, .ifCond .eq 7, 3), (91, .iconst 1, 1), (92, .goto 4, 3), (95, .iconst 0, 1), (96, .istore_n 3, 1), (97, .iload_n 3, 1), (98, .ifCond .eq 19, 3), (101, .aload_n 0, 1), (102, .bipush 14, 2), (104, .invokevirtual 205, 3), (107, .aload_n 0, 1), (108, .invokevirtual 168, 3), (111, .aload_n 0, 1), (112, .invokevirtual 208, 3), (115, .iconst 1, 1), (116, .istore_n 2, 1), (117, .goto (-113), 3), (120, .aload_n 0, 1), (121, .invokevirtual 211, 3), (124, .return_, 1)]
theorem dtX12_operand : tX12_operand.all (fun q => decide (decode cX12_operand q.1 = .ok (q.2.1, q.2.2))) = true := by decide +kernel
theorem npX12_operand : (parseMethodDescriptor (mY mX12_operand).desc).map (fun d => d.parameters.length) = some 1 := by decide +kernel
theorem vX12_operand : mV mX12_operand := ⟨wI_X12_operand, wS_X12_operand, wN_X12, wC_X12_operand, by decide +kernel, by decide +kernel⟩
set_option maxHeartbeats 4000000 in
set_option maxRecDepth 100000 in
theorem tail_75 {h0 : HP} {tp : Int → Int} {n : Nat} {pu : Int} {a : Nat} {L : List Int} {p : Nat} {W : List Int} {T : List Bool} {b cq nt : Int} {hh : HP} {Q : AO → HP → Prop} (hpu : pu = 0 ∨ pu = 1) (S : SR 0 h0 hh tp n pu a p L W T) (ka : ¬ Sg tp (tk tp n p) 40 → ∀ h', OPo h0 h' tp n pu a L (ptO W T (ptF tp n pu p)) → Q (.inl none) h') (kb : Sg tp (tk tp n p) 40 → ¬ T.length < 6 → ∀ h', SEr h0 h' tp n a (erP tp n (tk tp n p).2.2) → Q (.inl none) h') (kc : Sg tp (tk tp n p) 40 → T.length < 6 → ∀ h1, SR 0 h0 h1 tp n pu a (tk tp n p).2.2 L (0 :: W) (false :: T) → K mX12_operand GK (ZK Q 0 0) 0 0 18 [(4, vi 0), (3, vi 1), (2, vi 1), (0, vr 0), (1, vi b)] [] h1) : K mX12_operand GK (ZK Q 0 0) 0 0 75 [(4, vi cq), (3, vi 1), (2, vi nt), (0, vr 0), (1, vi b)] [] hh := by
  refine K_aload_n (dt_at dtX12_operand 37 rfl) rfl rfl ?_
  refine K_callV (M' := mX12_isGood) (a := 0) (ci := 12) (As := []) (st := []) (dt_at dtX12_operand 38 rfl) (good_t S.1.2.2.2.1) (show TT 0 = (0, 12) from rfl) rfl wL_X12_164 vX12_isGood rfl npX12_isGood (by decide) (by decide) (Nat.le_of_ble_eq_true rfl) (by decide) (by decide) GK_E (fun v9 h9 hq => ?_) (fun E h9 hq => by cases hq.1)
  obtain ⟨e9, e8⟩ := hq
  cases e9
  rw [e8]
  show K mX12_operand _ _ 0 0 79 [(4, vi cq), (3, vi 1), (2, vi nt), (0, vr 0), (1, vi b)] [vi 1] hh
  refine K_if_eq (tgt := 95) (dt_at dtX12_operand 39 rfl) (by decide) (by first | assumption | exact ⟨by omega, by omega⟩) (fun c1 => absurd c1 (by omega)) (fun c1 => ?_)
  refine K_aload_n (dt_at dtX12_operand 40 rfl) rfl rfl ?_
  refine K_bipush (dt_at dtX12_operand 41 rfl) (by decide) ?_
  refine K_callV (M' := mX12_isSign) (a := 0) (ci := 12) (As := [vi 40]) (st := []) (dt_at dtX12_operand 42 rfl) (sg_g (c := 40) S.1 ⟨by decide, by decide⟩) (show TT 0 = (0, 12) from rfl) rfl wL_X12_202 vX12_isSign rfl npX12_isSign (by decide) (by decide) (Nat.le_of_ble_eq_true rfl) (by decide) (by decide) GK_E (fun v9 h9 hq => ?_) (fun E h9 hq => by cases hq.1)
  obtain ⟨e9, e8⟩ := hq
  cases e9
  rw [e8]
  show K mX12_operand _ _ 0 0 88 [(4, vi cq), (3, vi 1), (2, vi nt), (0, vr 0), (1, vi b)] [vi (if Sg tp (tk tp n p) 40 then 1 else 0)] hh
  by_cases z2 : Sg tp (tk tp n p) 40
  · rw [if_pos z2]
    refine K_if_eq (tgt := 95) (dt_at dtX12_operand 43 rfl) (by decide) (by first | assumption | exact ⟨by omega, by omega⟩) (fun c3 => absurd c3 (by omega)) (fun c3 => ?_)
    have hsg : Sg tp (tk tp n p) 40 := by assumption
    have hnz : (tk tp n p).1 ≠ 0 := by have := hsg.1; omega
    refine K_iconst (dt_at dtX12_operand 44 rfl) ?_
    refine K_goto (tgt := 96) (dt_at dtX12_operand 45 rfl) (by decide) ?_
    refine K_istore_n (ls' := [(3, vi 1), (4, vi cq), (2, vi nt), (0, vr 0), (1, vi b)]) (dt_at dtX12_operand 47 rfl) rfl (by decide) rfl ?_
    refine K_iload_n (dt_at dtX12_operand 48 rfl) rfl rfl ?_
    refine K_if_eq (tgt := 117) (dt_at dtX12_operand 49 rfl) (by decide) (by first | assumption | exact ⟨by omega, by omega⟩) (fun c4 => absurd c4 (by omega)) (fun c4 => ?_)
    refine K_aload_n (dt_at dtX12_operand 50 rfl) rfl rfl ?_
    refine K_bipush (dt_at dtX12_operand 51 rfl) (by decide) ?_
    refine K_callV (M' := mX12_waitsFor) (a := 0) (ci := 12) (As := [vi 14]) (st := []) (dt_at dtX12_operand 52 rfl) (sX12_waitsFor (v := 14) (by have := SR_bnd S (by omega); omega)) (show TT 0 = (0, 12) from rfl) rfl wL_X12_205 vX12_waitsFor rfl npX12_waitsFor (by decide) (by decide) (Nat.le_of_ble_eq_true rfl) (by decide) (by decide) GK_E (fun v9 h9 hq => ?_) (fun E h9 hq => by cases hq.1)
    obtain ⟨e9, e8⟩ := hq
    cases e9
    rw [e8]
    show K mX12_operand _ _ 0 0 107 [(3, vi 1), (4, vi cq), (2, vi nt), (0, vr 0), (1, vi b)] [] (sI (sA hh 16 (hI hh 0 31) 14) 0 31 (hI hh 0 31 + 1))
    obtain ⟨hq1, eq1⟩ : ∃ z, z = sA hh 16 (hI hh 0 31) 14 := ⟨_, rfl⟩
    rw [← eq1]
    obtain ⟨aq1, fq1, iq1, rq1⟩ := sA_fx eq1
    obtain ⟨hq2, eq2⟩ : ∃ z, z = sI hq1 0 31 (hI hh 0 31 + 1) := ⟨_, rfl⟩
    rw [← eq2]
    obtain ⟨iq2, fq2, aq2, rq2⟩ := sI_fx eq2
    have Sq2 := SR_push (x := 0) S (Or.inl rfl) iq2 (by rw [aq2, aq1, wcF_0]) (FL_tr (FL_eA eq1 rfl : FL [16] [(0, 31)] [] hh hq1) (FL_eI eq2 rfl))
    refine K_aload_n (dt_at dtX12_operand 53 rfl) rfl rfl ?_
    refine K_callV (M' := mX12_goes) (a := 0) (ci := 12) (As := []) (st := []) (dt_at dtX12_operand 54 rfl) (goes_g Sq2.1) (show TT 0 = (0, 12) from rfl) rfl wL_X12_168 vX12_goes rfl npX12_goes (by decide) (by decide) (Nat.le_of_ble_eq_true rfl) (by decide) (by decide) GK_E (fun v9 hc3 hq => ?_) (fun E h9 hq => by cases hq.1)
    have hqq4 := hq
    obtain ⟨e9q4, Aq4, Gq4⟩ := hqq4
    have Sq4 := SR_goes Sq2 (Or.inr ⟨rfl, hnz⟩) Aq4 Gq4
    cases e9q4
    show K mX12_operand _ _ 0 0 111 [(3, vi 1), (4, vi cq), (2, vi nt), (0, vr 0), (1, vi b)] [] hc3
    refine K_aload_n (dt_at dtX12_operand 55 rfl) rfl rfl ?_
    by_cases hT : T.length < 6
    · refine K_callV (M' := mX12_deeper) (a := 0) (ci := 12) (As := []) (st := []) (dt_at dtX12_operand 56 rfl) (deeper_t Sq4.2.2.2.2.1.1 hT) (show TT 0 = (0, 12) from rfl) rfl wL_X12_208 vX12_deeper rfl npX12_deeper (by decide) (by decide) (Nat.le_of_ble_eq_true rfl) (by decide) (by decide) GK_E (fun v9 hc5 hq => ?_) (fun E h9 hq => by cases hq.1)
      have hqq6 := hq
      obtain ⟨e9q6, tq6, Gq6⟩ := hqq6
      have Sq6 := SR_deep Sq4 hT tq6 Gq6
      cases e9q6
      show K mX12_operand _ _ 0 0 115 [(3, vi 1), (4, vi cq), (2, vi nt), (0, vr 0), (1, vi b)] [] hc5
      refine K_iconst (dt_at dtX12_operand 57 rfl) ?_
      refine K_istore_n (ls' := [(2, vi 1), (3, vi 1), (4, vi cq), (0, vr 0), (1, vi b)]) (dt_at dtX12_operand 58 rfl) rfl (by decide) rfl ?_
      refine K_goto (tgt := 4) (dt_at dtX12_operand 59 rfl) (by decide) ?_
      refine K_iload_n (dt_at dtX12_operand 4 rfl) rfl rfl ?_
      refine K_if_eq (tgt := 120) (dt_at dtX12_operand 5 rfl) (by decide) (by first | assumption | exact ⟨by omega, by omega⟩) (fun c5 => absurd c5 (by omega)) (fun c5 => ?_)
      refine K_aload_n (dt_at dtX12_operand 6 rfl) rfl rfl ?_
      refine K_callV (M' := mX12_isGood) (a := 0) (ci := 12) (As := []) (st := []) (dt_at dtX12_operand 7 rfl) (good_t Sq6.1.2.2.2.1) (show TT 0 = (0, 12) from rfl) rfl wL_X12_164 vX12_isGood rfl npX12_isGood (by decide) (by decide) (Nat.le_of_ble_eq_true rfl) (by decide) (by decide) GK_E (fun v9 h9 hq => ?_) (fun E h9 hq => by cases hq.1)
      obtain ⟨e9, e8⟩ := hq
      cases e9
      rw [e8]
      show K mX12_operand _ _ 0 0 12 [(2, vi 1), (3, vi 1), (4, vi cq), (0, vr 0), (1, vi b)] [vi 1] hc5
      refine K_if_eq (tgt := 120) (dt_at dtX12_operand 8 rfl) (by decide) (by first | assumption | exact ⟨by omega, by omega⟩) (fun c6 => absurd c6 (by omega)) (fun c6 => ?_)
      refine K_iconst (dt_at dtX12_operand 9 rfl) ?_
      refine K_istore (ls' := [(4, vi 0), (2, vi 1), (3, vi 1), (0, vr 0), (1, vi b)]) (dt_at dtX12_operand 10 rfl) (by decide) rfl ?_
      exact K_pk [0, 2, 1, 3, 4] (ls' := [(4, vi 0), (3, vi 1), (2, vi 1), (0, vr 0), (1, vi b)]) rfl (kc hsg hT _ Sq6)
    · refine K_callV (M' := mX12_deeper) (a := 0) (ci := 12) (As := []) (st := []) (dt_at dtX12_operand 56 rfl) (deeper_f Sq4.1 Sq4.2.2.2.2.1.1 (by have := SR_bnd Sq4 (by omega); omega)) (show TT 0 = (0, 12) from rfl) rfl wL_X12_208 vX12_deeper rfl npX12_deeper (by decide) (by decide) (Nat.le_of_ble_eq_true rfl) (by decide) (by decide) GK_E (fun v9 hc7 hq => ?_) (fun E h9 hq => by cases hq.1)
      have hqq8 := hq
      obtain ⟨e9q8, Eq8, Gq8⟩ := hqq8
      have Xq8 := SR_E Sq4 (by omega) Eq8 Gq8
      cases e9q8
      show K mX12_operand _ _ 0 0 115 [(3, vi 1), (4, vi cq), (2, vi nt), (0, vr 0), (1, vi b)] [] hc7
      refine K_iconst (dt_at dtX12_operand 57 rfl) ?_
      refine K_istore_n (ls' := [(2, vi 1), (3, vi 1), (4, vi cq), (0, vr 0), (1, vi b)]) (dt_at dtX12_operand 58 rfl) rfl (by decide) rfl ?_
      refine K_goto (tgt := 4) (dt_at dtX12_operand 59 rfl) (by decide) ?_
      refine K_iload_n (dt_at dtX12_operand 4 rfl) rfl rfl ?_
      refine K_if_eq (tgt := 120) (dt_at dtX12_operand 5 rfl) (by decide) (by first | assumption | exact ⟨by omega, by omega⟩) (fun c7 => absurd c7 (by omega)) (fun c7 => ?_)
      refine K_aload_n (dt_at dtX12_operand 6 rfl) rfl rfl ?_
      refine K_callV (M' := mX12_isGood) (a := 0) (ci := 12) (As := []) (st := []) (dt_at dtX12_operand 7 rfl) (good_f Xq8.1.2.2.2.1 Xq8.1.2.2.1) (show TT 0 = (0, 12) from rfl) rfl wL_X12_164 vX12_isGood rfl npX12_isGood (by decide) (by decide) (Nat.le_of_ble_eq_true rfl) (by decide) (by decide) GK_E (fun v9 h9 hq => ?_) (fun E h9 hq => by cases hq.1)
      obtain ⟨e9, e8⟩ := hq
      cases e9
      rw [e8]
      show K mX12_operand _ _ 0 0 12 [(2, vi 1), (3, vi 1), (4, vi cq), (0, vr 0), (1, vi b)] [vi 0] hc7
      refine K_if_eq (tgt := 120) (dt_at dtX12_operand 8 rfl) (by decide) (by first | assumption | exact ⟨by omega, by omega⟩) (fun c8 => ?_) (fun c8 => absurd c8 (by omega))
      refine K_aload_n (dt_at dtX12_operand 60 rfl) rfl rfl ?_
      refine K_callV (M' := mX12_part) (a := 0) (ci := 12) (As := []) (st := []) (dt_at dtX12_operand 61 rfl) (part_e Xq8.1) (show TT 0 = (0, 12) from rfl) rfl wL_X12_211 vX12_part rfl npX12_part (by decide) (by decide) (Nat.le_of_ble_eq_true rfl) (by decide) (by decide) GK_E (fun v9 h9 hq => ?_) (fun E h9 hq => by cases hq.1)
      obtain ⟨e9, e8⟩ := hq
      cases e9
      rw [e8]
      show K mX12_operand _ _ 0 0 124 [(2, vi 1), (3, vi 1), (4, vi cq), (0, vr 0), (1, vi b)] [] hc7
      exact K_vret (dt_at dtX12_operand 62 rfl) rfl (by decide) (by decide) (kb hsg hT _ Xq8)
  · rw [if_neg z2]
    refine K_if_eq (tgt := 95) (dt_at dtX12_operand 43 rfl) (by decide) (by first | assumption | exact ⟨by omega, by omega⟩) (fun c9 => ?_) (fun c9 => absurd c9 (by omega))
    have nsg : ¬ Sg tp (tk tp n p) 40 := by assumption
    refine K_iconst (dt_at dtX12_operand 46 rfl) ?_
    refine K_istore_n (ls' := [(3, vi 0), (4, vi cq), (2, vi nt), (0, vr 0), (1, vi b)]) (dt_at dtX12_operand 47 rfl) rfl (by decide) rfl ?_
    refine K_iload_n (dt_at dtX12_operand 48 rfl) rfl rfl ?_
    refine K_if_eq (tgt := 117) (dt_at dtX12_operand 49 rfl) (by decide) (by first | assumption | exact ⟨by omega, by omega⟩) (fun c10 => ?_) (fun c10 => absurd c10 (by omega))
    refine K_goto (tgt := 4) (dt_at dtX12_operand 59 rfl) (by decide) ?_
    refine K_iload_n (dt_at dtX12_operand 4 rfl) rfl rfl ?_
    refine K_if_eq (tgt := 120) (dt_at dtX12_operand 5 rfl) (by decide) (by first | assumption | exact ⟨by omega, by omega⟩) (fun c11 => ?_) (fun c11 => absurd c11 (by omega))
    refine K_aload_n (dt_at dtX12_operand 60 rfl) rfl rfl ?_
    refine K_callV (M' := mX12_part) (a := 0) (ci := 12) (As := []) (st := []) (dt_at dtX12_operand 61 rfl) (part_K S.1 hpu S.2.1.1 S.2.1.2 (by have := SR_bnd S (by omega); omega)) (show TT 0 = (0, 12) from rfl) rfl wL_X12_211 vX12_part rfl npX12_part (by decide) (by decide) (Nat.le_of_ble_eq_true rfl) (by decide) (by decide) GK_E (fun v9 hc9 hq => ?_) (fun E h9 hq => by cases hq.1)
    have hqq10 := hq
    obtain ⟨e9q10, Pq10, Gq10⟩ := hqq10
    cases e9q10
    show K mX12_operand _ _ 0 0 124 [(3, vi 0), (4, vi cq), (2, vi nt), (0, vr 0), (1, vi b)] [] hc9
    exact K_vret (dt_at dtX12_operand 62 rfl) rfl (by decide) (by decide) (ka nsg _ (SR_part S Pq10 Gq10))
set_option maxHeartbeats 4000000 in
set_option maxRecDepth 100000 in
theorem lp_operand {h0 : HP} {tp : Int → Int} {n : Nat} {pu : Int} {a : Nat} {L : List Int} {b : Int} (hpu : pu = 0 ∨ pu = 1) : ∀ (f k p : Nat) (W : List Int) (T : List Bool) (hh : HP), SR 0 h0 hh tp n pu a p L W T → n - p < f → k ≤ 6 → K mX12_operand GK (ZK (fun o h' => o = .inl none ∧ OPo h0 h' tp n pu a L (opP tp n pu f k p W T)) 0 0) 0 0 18 [(4, vi (k : Int)), (3, vi 1), (2, vi 1), (0, vr 0), (1, vi b)] [] hh := by
  intro f
  induction f with
  | zero =>
    intro k p W T hh S hf hk9
    omega
  | succ f ih =>
    intro k p W T hh S hf hk9
    have hbn := SR_bnd S (by omega)
    by_cases hw : isWb tp (tk tp n p) 4 = true
    · have hkw := kwF_15 hw
      have hnz : (tk tp n p).1 ≠ 0 := isWb_0 hw
      have hlt := tk_lt S.1.2.2.1 hnz
      have hle := tk_e (tp := tp) S.1.2.2.1
      refine K_aload_n (dt_at dtX12_operand 11 rfl) rfl rfl ?_
      refine K_callV (M' := mX12_isGood) (a := 0) (ci := 12) (As := []) (st := []) (dt_at dtX12_operand 12 rfl) (good_t S.1.2.2.2.1) (show TT 0 = (0, 12) from rfl) rfl wL_X12_164 vX12_isGood rfl npX12_isGood (by decide) (by decide) (Nat.le_of_ble_eq_true rfl) (by decide) (by decide) GK_E (fun v9 h9 hq => ?_) (fun E h9 hq => by cases hq.1)
      obtain ⟨e9, e8⟩ := hq
      cases e9
      rw [e8]
      show K mX12_operand _ _ 0 0 22 [(4, vi (k : Int)), (3, vi 1), (2, vi 1), (0, vr 0), (1, vi b)] [vi 1] hh
      refine K_if_eq (tgt := 75) (dt_at dtX12_operand 13 rfl) (by decide) (by first | assumption | exact ⟨by omega, by omega⟩) (fun c1 => absurd c1 (by omega)) (fun c1 => ?_)
      refine K_iload_n (dt_at dtX12_operand 14 rfl) rfl rfl ?_
      refine K_if_eq (tgt := 75) (dt_at dtX12_operand 15 rfl) (by decide) (by first | assumption | exact ⟨by omega, by omega⟩) (fun c2 => absurd c2 (by omega)) (fun c2 => ?_)
      refine K_aload_n (dt_at dtX12_operand 16 rfl) rfl rfl ?_
      refine K_callV (M' := mX12_knownWord) (a := 0) (ci := 12) (As := []) (st := []) (dt_at dtX12_operand 17 rfl) (kw_g S.1) (show TT 0 = (0, 12) from rfl) rfl wL_X12_189 vX12_knownWord rfl npX12_knownWord (by decide) (by decide) (Nat.le_of_ble_eq_true rfl) (by decide) (by decide) GK_E (fun v9 h9 hq => ?_) (fun E h9 hq => by cases hq.1)
      obtain ⟨e9, e8⟩ := hq
      cases e9
      rw [e8]
      show K mX12_operand _ _ 0 0 33 [(4, vi (k : Int)), (3, vi 1), (2, vi 1), (0, vr 0), (1, vi b)] [vi (kwF tp (tk tp n p))] hh
      rw [hkw]
      refine K_bipush (dt_at dtX12_operand 18 rfl) (by decide) ?_
      refine K_icmp_ne (tgt := 75) (dt_at dtX12_operand 19 rfl) (by decide) (by first | assumption | exact ⟨by omega, by omega⟩) (by first | assumption | exact ⟨by omega, by omega⟩) (fun c3 => absurd c3 (by omega)) (fun c3 => ?_)
      refine K_iload (dt_at dtX12_operand 20 rfl) rfl ?_
      refine K_bipush (dt_at dtX12_operand 21 rfl) (by decide) ?_
      refine K_icmp_ne (tgt := 50) (dt_at dtX12_operand 22 rfl) (by decide) (by first | assumption | exact ⟨by omega, by omega⟩) (by first | assumption | exact ⟨by omega, by omega⟩) (fun c4 => ?_) (fun c4 => ?_)
      · refine K_iinc (ls' := [(4, vi ((k : Int) + 1)), (3, vi 1), (2, vi 1), (0, vr 0), (1, vi b)]) (dt_at dtX12_operand 26 rfl) rfl (by decide) rfl ?_
        refine K_aload_n (dt_at dtX12_operand 27 rfl) rfl rfl ?_
        refine K_callV (M' := mX12_isGood) (a := 0) (ci := 12) (As := []) (st := []) (dt_at dtX12_operand 28 rfl) (good_t S.1.2.2.2.1) (show TT 0 = (0, 12) from rfl) rfl wL_X12_164 vX12_isGood rfl npX12_isGood (by decide) (by decide) (Nat.le_of_ble_eq_true rfl) (by decide) (by decide) GK_E (fun v9 h9 hq => ?_) (fun E h9 hq => by cases hq.1)
        obtain ⟨e9, e8⟩ := hq
        cases e9
        rw [e8]
        show K mX12_operand _ _ 0 0 57 [(4, vi ((k : Int) + 1)), (3, vi 1), (2, vi 1), (0, vr 0), (1, vi b)] [vi 1] hh
        refine K_if_ne (tgt := 63) (dt_at dtX12_operand 29 rfl) (by decide) (by first | assumption | exact ⟨by omega, by omega⟩) (fun c5 => ?_) (fun c5 => absurd c5 (by omega))
        refine K_aload_n (dt_at dtX12_operand 31 rfl) rfl rfl ?_
        refine K_iconst (dt_at dtX12_operand 32 rfl) ?_
        refine K_callV (M' := mX12_waitsFor) (a := 0) (ci := 12) (As := [vi 3]) (st := []) (dt_at dtX12_operand 33 rfl) (sX12_waitsFor (v := 3) (by have := SR_bnd S (by omega); omega)) (show TT 0 = (0, 12) from rfl) rfl wL_X12_205 vX12_waitsFor rfl npX12_waitsFor (by decide) (by decide) (Nat.le_of_ble_eq_true rfl) (by decide) (by decide) GK_E (fun v9 h9 hq => ?_) (fun E h9 hq => by cases hq.1)
        obtain ⟨e9, e8⟩ := hq
        cases e9
        rw [e8]
        show K mX12_operand _ _ 0 0 68 [(4, vi ((k : Int) + 1)), (3, vi 1), (2, vi 1), (0, vr 0), (1, vi b)] [] (sI (sA hh 16 (hI hh 0 31) 3) 0 31 (hI hh 0 31 + 1))
        obtain ⟨hq1, eq1⟩ : ∃ z, z = sA hh 16 (hI hh 0 31) 3 := ⟨_, rfl⟩
        rw [← eq1]
        obtain ⟨aq1, fq1, iq1, rq1⟩ := sA_fx eq1
        obtain ⟨hq2, eq2⟩ : ∃ z, z = sI hq1 0 31 (hI hh 0 31 + 1) := ⟨_, rfl⟩
        rw [← eq2]
        obtain ⟨iq2, fq2, aq2, rq2⟩ := sI_fx eq2
        have Sq2 := SR_push (x := (-9)) S (Or.inr (by decide)) iq2 (by rw [aq2, aq1, show wcF (-9) = 3 from rfl]) (FL_tr (FL_eA eq1 rfl : FL [16] [(0, 31)] [] hh hq1) (FL_eI eq2 rfl))
        refine K_aload_n (dt_at dtX12_operand 34 rfl) rfl rfl ?_
        refine K_callV (M' := mX12_goes) (a := 0) (ci := 12) (As := []) (st := []) (dt_at dtX12_operand 35 rfl) (goes_g Sq2.1) (show TT 0 = (0, 12) from rfl) rfl wL_X12_168 vX12_goes rfl npX12_goes (by decide) (by decide) (Nat.le_of_ble_eq_true rfl) (by decide) (by decide) GK_E (fun v9 hc3 hq => ?_) (fun E h9 hq => by cases hq.1)
        have hqq4 := hq
        obtain ⟨e9q4, Aq4, Gq4⟩ := hqq4
        have Sq4 := SR_goes Sq2 (Or.inr ⟨rfl, hnz⟩) Aq4 Gq4
        cases e9q4
        show K mX12_operand _ _ 0 0 72 [(4, vi ((k : Int) + 1)), (3, vi 1), (2, vi 1), (0, vr 0), (1, vi b)] [] hc3
        refine K_goto (tgt := 18) (dt_at dtX12_operand 36 rfl) (by decide) ?_
        rw [opP_n (by omega) hw]
        exact K_pk [0, 1, 2, 3, 4] (ls' := [(4, vi ((k + 1 : Nat) : Int)), (3, vi 1), (2, vi 1), (0, vr 0), (1, vi b)]) rfl (ih (k + 1) _ _ _ _ Sq4 (by omega) (by omega))
      · refine K_aload_n (dt_at dtX12_operand 23 rfl) rfl rfl ?_
        refine K_iconst (dt_at dtX12_operand 24 rfl) ?_
        refine K_callV (M' := mX12_wrong) (a := 0) (ci := 12) (As := [vi 2]) (st := []) (dt_at dtX12_operand 25 rfl) (wrong_g (k := 2) S.1 (by omega)) (show TT 0 = (0, 12) from rfl) rfl wL_X12_171 vX12_wrong rfl npX12_wrong (by decide) (by decide) (Nat.le_of_ble_eq_true rfl) (by decide) (by decide) GK_E (fun v9 hc5 hq => ?_) (fun E h9 hq => by cases hq.1)
        have hqq6 := hq
        obtain ⟨e9q6, Eq6, Gq6⟩ := hqq6
        have Xq6 := SR_E S (by omega) Eq6 Gq6
        cases e9q6
        show K mX12_operand _ _ 0 0 50 [(4, vi (k : Int)), (3, vi 1), (2, vi 1), (0, vr 0), (1, vi b)] [] hc5
        refine K_iinc (ls' := [(4, vi ((k : Int) + 1)), (3, vi 1), (2, vi 1), (0, vr 0), (1, vi b)]) (dt_at dtX12_operand 26 rfl) rfl (by decide) rfl ?_
        refine K_aload_n (dt_at dtX12_operand 27 rfl) rfl rfl ?_
        refine K_callV (M' := mX12_isGood) (a := 0) (ci := 12) (As := []) (st := []) (dt_at dtX12_operand 28 rfl) (good_f Xq6.1.2.2.2.1 Xq6.1.2.2.1) (show TT 0 = (0, 12) from rfl) rfl wL_X12_164 vX12_isGood rfl npX12_isGood (by decide) (by decide) (Nat.le_of_ble_eq_true rfl) (by decide) (by decide) GK_E (fun v9 h9 hq => ?_) (fun E h9 hq => by cases hq.1)
        obtain ⟨e9, e8⟩ := hq
        cases e9
        rw [e8]
        show K mX12_operand _ _ 0 0 57 [(4, vi ((k : Int) + 1)), (3, vi 1), (2, vi 1), (0, vr 0), (1, vi b)] [vi 0] hc5
        refine K_if_ne (tgt := 63) (dt_at dtX12_operand 29 rfl) (by decide) (by first | assumption | exact ⟨by omega, by omega⟩) (fun c6 => absurd c6 (by omega)) (fun c6 => ?_)
        refine K_goto (tgt := 18) (dt_at dtX12_operand 30 rfl) (by decide) ?_
        refine K_aload_n (dt_at dtX12_operand 11 rfl) rfl rfl ?_
        refine K_callV (M' := mX12_isGood) (a := 0) (ci := 12) (As := []) (st := []) (dt_at dtX12_operand 12 rfl) (good_f Xq6.1.2.2.2.1 Xq6.1.2.2.1) (show TT 0 = (0, 12) from rfl) rfl wL_X12_164 vX12_isGood rfl npX12_isGood (by decide) (by decide) (Nat.le_of_ble_eq_true rfl) (by decide) (by decide) GK_E (fun v9 h9 hq => ?_) (fun E h9 hq => by cases hq.1)
        obtain ⟨e9, e8⟩ := hq
        cases e9
        rw [e8]
        show K mX12_operand _ _ 0 0 22 [(4, vi ((k : Int) + 1)), (3, vi 1), (2, vi 1), (0, vr 0), (1, vi b)] [vi 0] hc5
        refine K_if_eq (tgt := 75) (dt_at dtX12_operand 13 rfl) (by decide) (by first | assumption | exact ⟨by omega, by omega⟩) (fun c7 => ?_) (fun c7 => absurd c7 (by omega))
        refine K_aload_n (dt_at dtX12_operand 37 rfl) rfl rfl ?_
        refine K_callV (M' := mX12_isGood) (a := 0) (ci := 12) (As := []) (st := []) (dt_at dtX12_operand 38 rfl) (good_f Xq6.1.2.2.2.1 Xq6.1.2.2.1) (show TT 0 = (0, 12) from rfl) rfl wL_X12_164 vX12_isGood rfl npX12_isGood (by decide) (by decide) (Nat.le_of_ble_eq_true rfl) (by decide) (by decide) GK_E (fun v9 h9 hq => ?_) (fun E h9 hq => by cases hq.1)
        obtain ⟨e9, e8⟩ := hq
        cases e9
        rw [e8]
        show K mX12_operand _ _ 0 0 79 [(4, vi ((k : Int) + 1)), (3, vi 1), (2, vi 1), (0, vr 0), (1, vi b)] [vi 0] hc5
        refine K_if_eq (tgt := 95) (dt_at dtX12_operand 39 rfl) (by decide) (by first | assumption | exact ⟨by omega, by omega⟩) (fun c8 => ?_) (fun c8 => absurd c8 (by omega))
        refine K_iconst (dt_at dtX12_operand 46 rfl) ?_
        refine K_istore_n (ls' := [(3, vi 0), (4, vi ((k : Int) + 1)), (2, vi 1), (0, vr 0), (1, vi b)]) (dt_at dtX12_operand 47 rfl) rfl (by decide) rfl ?_
        refine K_iload_n (dt_at dtX12_operand 48 rfl) rfl rfl ?_
        refine K_if_eq (tgt := 117) (dt_at dtX12_operand 49 rfl) (by decide) (by first | assumption | exact ⟨by omega, by omega⟩) (fun c9 => ?_) (fun c9 => absurd c9 (by omega))
        refine K_goto (tgt := 4) (dt_at dtX12_operand 59 rfl) (by decide) ?_
        refine K_iload_n (dt_at dtX12_operand 4 rfl) rfl rfl ?_
        refine K_if_eq (tgt := 120) (dt_at dtX12_operand 5 rfl) (by decide) (by first | assumption | exact ⟨by omega, by omega⟩) (fun c10 => ?_) (fun c10 => absurd c10 (by omega))
        refine K_aload_n (dt_at dtX12_operand 60 rfl) rfl rfl ?_
        refine K_callV (M' := mX12_part) (a := 0) (ci := 12) (As := []) (st := []) (dt_at dtX12_operand 61 rfl) (part_e Xq6.1) (show TT 0 = (0, 12) from rfl) rfl wL_X12_211 vX12_part rfl npX12_part (by decide) (by decide) (Nat.le_of_ble_eq_true rfl) (by decide) (by decide) GK_E (fun v9 h9 hq => ?_) (fun E h9 hq => by cases hq.1)
        obtain ⟨e9, e8⟩ := hq
        cases e9
        rw [e8]
        show K mX12_operand _ _ 0 0 124 [(3, vi 0), (4, vi ((k : Int) + 1)), (2, vi 1), (0, vr 0), (1, vi b)] [] hc5
        have hk6 : k = 6 := by omega
        rw [hk6, opP_6 hw]
        exact K_vret (dt_at dtX12_operand 62 rfl) rfl (by decide) (by decide) ⟨rfl, Xq6⟩
    · have hkw : kwF tp (tk tp n p) ≠ 15 := fun z => hw (kwI_15 z)
      have hkb := kwF_b tp (tk tp n p)
      refine K_aload_n (dt_at dtX12_operand 11 rfl) rfl rfl ?_
      refine K_callV (M' := mX12_isGood) (a := 0) (ci := 12) (As := []) (st := []) (dt_at dtX12_operand 12 rfl) (good_t S.1.2.2.2.1) (show TT 0 = (0, 12) from rfl) rfl wL_X12_164 vX12_isGood rfl npX12_isGood (by decide) (by decide) (Nat.le_of_ble_eq_true rfl) (by decide) (by decide) GK_E (fun v9 h9 hq => ?_) (fun E h9 hq => by cases hq.1)
      obtain ⟨e9, e8⟩ := hq
      cases e9
      rw [e8]
      show K mX12_operand _ _ 0 0 22 [(4, vi (k : Int)), (3, vi 1), (2, vi 1), (0, vr 0), (1, vi b)] [vi 1] hh
      refine K_if_eq (tgt := 75) (dt_at dtX12_operand 13 rfl) (by decide) (by first | assumption | exact ⟨by omega, by omega⟩) (fun c1 => absurd c1 (by omega)) (fun c1 => ?_)
      refine K_iload_n (dt_at dtX12_operand 14 rfl) rfl rfl ?_
      refine K_if_eq (tgt := 75) (dt_at dtX12_operand 15 rfl) (by decide) (by first | assumption | exact ⟨by omega, by omega⟩) (fun c2 => absurd c2 (by omega)) (fun c2 => ?_)
      refine K_aload_n (dt_at dtX12_operand 16 rfl) rfl rfl ?_
      refine K_callV (M' := mX12_knownWord) (a := 0) (ci := 12) (As := []) (st := []) (dt_at dtX12_operand 17 rfl) (kw_g S.1) (show TT 0 = (0, 12) from rfl) rfl wL_X12_189 vX12_knownWord rfl npX12_knownWord (by decide) (by decide) (Nat.le_of_ble_eq_true rfl) (by decide) (by decide) GK_E (fun v9 h9 hq => ?_) (fun E h9 hq => by cases hq.1)
      obtain ⟨e9, e8⟩ := hq
      cases e9
      rw [e8]
      show K mX12_operand _ _ 0 0 33 [(4, vi (k : Int)), (3, vi 1), (2, vi 1), (0, vr 0), (1, vi b)] [vi (kwF tp (tk tp n p))] hh
      refine K_bipush (dt_at dtX12_operand 18 rfl) (by decide) ?_
      refine K_icmp_ne (tgt := 75) (dt_at dtX12_operand 19 rfl) (by decide) ⟨by omega, by omega⟩ (by first | assumption | exact ⟨by omega, by omega⟩) (fun c3 => ?_) (fun c3 => absurd c3 (by omega))
      refine K_pk [0, 1, 2, 3, 4] (ls' := [(4, vi (k : Int)), (3, vi 1), (2, vi 1), (0, vr 0), (1, vi b)]) rfl (tail_75 hpu S (fun hs h' o => ⟨rfl, by rw [opP_p (fun z => hw z.2) hs]; exact o⟩) (fun hs ht h' o => ⟨rfl, by rw [opP_x (fun z => hw z.2) hs ht]; exact o⟩) (fun hs ht h1 S1 => ?_))
      have hnz : (tk tp n p).1 ≠ 0 := by have := hs.1; omega
      have hlt := tk_lt S.1.2.2.1 hnz
      have hle := tk_e (tp := tp) S.1.2.2.1
      rw [opP_o (fun z => hw z.2) hs ht]
      exact ih 0 _ _ _ _ S1 (by omega) (by omega)
set_option maxHeartbeats 4000000 in
set_option maxRecDepth 100000 in
theorem operand_1 {h0 : HP} {tp : Int → Int} {n : Nat} {pu : Int} {a : Nat} {L : List Int} {p f : Nat} {W : List Int} {T : List Bool} {hh : HP} (hpu : pu = 0 ∨ pu = 1) (S : SR 0 h0 hh tp n pu a p L W T) (hf : n - p < f) : SpecK mX12_operand [vr 0, vi 1] hh (fun o h' => o = .inl none ∧ OPo h0 h' tp n pu a L (opP tp n pu f 0 p W T)) := by
  refine Spec_of (by decide +kernel) (Nat.le_of_ble_eq_true rfl) ?_
  refine K_iload_n (dt_at dtX12_operand 0 rfl) rfl rfl ?_
  refine K_istore_n (ls' := [(2, vi 1), (0, vr 0), (1, vi 1)]) (dt_at dtX12_operand 1 rfl) rfl (by decide) rfl ?_
  refine K_iconst (dt_at dtX12_operand 2 rfl) ?_
  refine K_istore_n (ls' := [(3, vi 1), (2, vi 1), (0, vr 0), (1, vi 1)]) (dt_at dtX12_operand 3 rfl) rfl (by decide) rfl ?_
  refine K_iload_n (dt_at dtX12_operand 4 rfl) rfl rfl ?_
  refine K_if_eq (tgt := 120) (dt_at dtX12_operand 5 rfl) (by decide) (by first | assumption | exact ⟨by omega, by omega⟩) (fun c1 => absurd c1 (by omega)) (fun c1 => ?_)
  refine K_aload_n (dt_at dtX12_operand 6 rfl) rfl rfl ?_
  refine K_callV (M' := mX12_isGood) (a := 0) (ci := 12) (As := []) (st := []) (dt_at dtX12_operand 7 rfl) (good_t S.1.2.2.2.1) (show TT 0 = (0, 12) from rfl) rfl wL_X12_164 vX12_isGood rfl npX12_isGood (by decide) (by decide) (Nat.le_of_ble_eq_true rfl) (by decide) (by decide) GK_E (fun v9 h9 hq => ?_) (fun E h9 hq => by cases hq.1)
  obtain ⟨e9, e8⟩ := hq
  cases e9
  rw [e8]
  show K mX12_operand _ _ 0 0 12 [(3, vi 1), (2, vi 1), (0, vr 0), (1, vi 1)] [vi 1] hh
  refine K_if_eq (tgt := 120) (dt_at dtX12_operand 8 rfl) (by decide) (by first | assumption | exact ⟨by omega, by omega⟩) (fun c2 => absurd c2 (by omega)) (fun c2 => ?_)
  refine K_iconst (dt_at dtX12_operand 9 rfl) ?_
  refine K_istore (ls' := [(4, vi 0), (3, vi 1), (2, vi 1), (0, vr 0), (1, vi 1)]) (dt_at dtX12_operand 10 rfl) (by decide) rfl ?_
  exact K_pk [0, 1, 2, 3, 4] (ls' := [(4, vi ((0 : Nat) : Int)), (3, vi 1), (2, vi 1), (0, vr 0), (1, vi 1)]) rfl (lp_operand hpu f 0 p W T hh S hf (by omega))
set_option maxHeartbeats 4000000 in
set_option maxRecDepth 100000 in
theorem operand_0 {h0 : HP} {tp : Int → Int} {n : Nat} {pu : Int} {a : Nat} {L : List Int} {p f : Nat} {W : List Int} {T : List Bool} {hh : HP} (hpu : pu = 0 ∨ pu = 1) (S : SR 0 h0 hh tp n pu a p L W T) (hf : n - p < f) : SpecK mX12_operand [vr 0, vi 0] hh (fun o h' => o = .inl none ∧ OPo h0 h' tp n pu a L (opP tp n pu f 7 p W T)) := by
  refine Spec_of (by decide +kernel) (Nat.le_of_ble_eq_true rfl) ?_
  refine K_iload_n (dt_at dtX12_operand 0 rfl) rfl rfl ?_
  refine K_istore_n (ls' := [(2, vi 0), (0, vr 0), (1, vi 0)]) (dt_at dtX12_operand 1 rfl) rfl (by decide) rfl ?_
  refine K_iconst (dt_at dtX12_operand 2 rfl) ?_
  refine K_istore_n (ls' := [(3, vi 1), (2, vi 0), (0, vr 0), (1, vi 0)]) (dt_at dtX12_operand 3 rfl) rfl (by decide) rfl ?_
  refine K_iload_n (dt_at dtX12_operand 4 rfl) rfl rfl ?_
  refine K_if_eq (tgt := 120) (dt_at dtX12_operand 5 rfl) (by decide) (by first | assumption | exact ⟨by omega, by omega⟩) (fun c1 => absurd c1 (by omega)) (fun c1 => ?_)
  refine K_aload_n (dt_at dtX12_operand 6 rfl) rfl rfl ?_
  refine K_callV (M' := mX12_isGood) (a := 0) (ci := 12) (As := []) (st := []) (dt_at dtX12_operand 7 rfl) (good_t S.1.2.2.2.1) (show TT 0 = (0, 12) from rfl) rfl wL_X12_164 vX12_isGood rfl npX12_isGood (by decide) (by decide) (Nat.le_of_ble_eq_true rfl) (by decide) (by decide) GK_E (fun v9 h9 hq => ?_) (fun E h9 hq => by cases hq.1)
  obtain ⟨e9, e8⟩ := hq
  cases e9
  rw [e8]
  show K mX12_operand _ _ 0 0 12 [(3, vi 1), (2, vi 0), (0, vr 0), (1, vi 0)] [vi 1] hh
  refine K_if_eq (tgt := 120) (dt_at dtX12_operand 8 rfl) (by decide) (by first | assumption | exact ⟨by omega, by omega⟩) (fun c2 => absurd c2 (by omega)) (fun c2 => ?_)
  refine K_iconst (dt_at dtX12_operand 9 rfl) ?_
  refine K_istore (ls' := [(4, vi 0), (3, vi 1), (2, vi 0), (0, vr 0), (1, vi 0)]) (dt_at dtX12_operand 10 rfl) (by decide) rfl ?_
  refine K_aload_n (dt_at dtX12_operand 11 rfl) rfl rfl ?_
  refine K_callV (M' := mX12_isGood) (a := 0) (ci := 12) (As := []) (st := []) (dt_at dtX12_operand 12 rfl) (good_t S.1.2.2.2.1) (show TT 0 = (0, 12) from rfl) rfl wL_X12_164 vX12_isGood rfl npX12_isGood (by decide) (by decide) (Nat.le_of_ble_eq_true rfl) (by decide) (by decide) GK_E (fun v9 h9 hq => ?_) (fun E h9 hq => by cases hq.1)
  obtain ⟨e9, e8⟩ := hq
  cases e9
  rw [e8]
  show K mX12_operand _ _ 0 0 22 [(4, vi 0), (3, vi 1), (2, vi 0), (0, vr 0), (1, vi 0)] [vi 1] hh
  refine K_if_eq (tgt := 75) (dt_at dtX12_operand 13 rfl) (by decide) (by first | assumption | exact ⟨by omega, by omega⟩) (fun c3 => absurd c3 (by omega)) (fun c3 => ?_)
  refine K_iload_n (dt_at dtX12_operand 14 rfl) rfl rfl ?_
  refine K_if_eq (tgt := 75) (dt_at dtX12_operand 15 rfl) (by decide) (by first | assumption | exact ⟨by omega, by omega⟩) (fun c4 => ?_) (fun c4 => absurd c4 (by omega))
  obtain ⟨f, rfl⟩ : ∃ g, f = g + 1 := ⟨f - 1, by omega⟩
  refine K_pk [0, 1, 2, 3, 4] (ls' := [(4, vi 0), (3, vi 1), (2, vi 0), (0, vr 0), (1, vi 0)]) rfl (tail_75 hpu S (fun hs h' o => ⟨rfl, by rw [opP_p (fun z => absurd z.1 (by decide)) hs]; exact o⟩) (fun hs ht h' o => ⟨rfl, by rw [opP_x (fun z => absurd z.1 (by decide)) hs ht]; exact o⟩) (fun hs ht h1 S1 => ?_))
  have hnz : (tk tp n p).1 ≠ 0 := by have := hs.1; omega
  have hlt := tk_lt S.1.2.2.1 hnz
  have hle := tk_e (tp := tp) S.1.2.2.1
  rw [opP_o (fun z => absurd z.1 (by decide)) hs ht]
  exact lp_operand hpu f 0 _ _ _ h1 S1 (by omega) (by omega)
def mX12_closes : MI := (yX12_closes, cX12_closes, 1, none, rmK 3 0)
def tX12_closes : List (Nat × Instr × Nat) := [(0, .aload_n 0, 1), (1, .iconst 0, 1), (2, .invokevirtual 214, 3), (5, .aload_n 0, 1), (6, .dup, 1), (7, .getfield 177, 3), (10, .iconst 1, 1), (11, .isub, 1), (12, .putfield 177, 3), (15, .aload_n 0, 1), (16, .dup, 1), (17, .getfield 199, 3), (20, .iconst 1, 1), (21, .isub, 1), (22, .putfield 199, 3), (25, .aload_n 0, 1), (26, .invokevirtual 168, 3), (29, .return_, 1)]
theorem dtX12_closes : tX12_closes.all (fun q => decide (decode cX12_closes q.1 = .ok (q.2.1, q.2.2))) = true := by decide +kernel
theorem npX12_closes : (parseMethodDescriptor (mY mX12_closes).desc).map (fun d => d.parameters.length) = some 0 := by decide +kernel
theorem vX12_closes : mV mX12_closes := ⟨wI_X12_closes, wS_X12_closes, wN_X12, wC_X12_closes, by decide +kernel, by decide +kernel⟩
set_option maxHeartbeats 4000000 in
set_option maxRecDepth 100000 in
theorem closes_K {h0 : HP} {tp : Int → Int} {n : Nat} {pu : Int} {a : Nat} {L : List Int} {p : Nat} {V W : List Int} {b : Bool} {T : List Bool} {hh : HP} (S : SR 0 h0 hh tp n pu a p L (V ++ 0 :: W) (b :: T)) (hV : opn 1 V) : SpecK mX12_closes [vr 0] hh (fun o h' => o = .inl none ∧ SR 0 h0 h' tp n pu a (tk tp n p).2.2 (L ++ V) W T) := by
  refine Spec_of (by decide +kernel) (Nat.le_of_ble_eq_true rfl) ?_
  have hbn := SR_bnd S (by omega)
  have hlV : (V ++ 0 :: W).length = V.length + (W.length + 1) := by rw [List.length_append]; rfl
  refine K_aload_n (dt_at dtX12_closes 0 rfl) rfl rfl ?_
  refine K_iconst (dt_at dtX12_closes 1 rfl) ?_
  refine K_callV (M' := mX12_drops) (a := 0) (ci := 12) (As := [vi 0]) (st := []) (dt_at dtX12_closes 2 rfl) (drops_K (s := 0) (V := V) (W := 0 :: W) ⟨by decide, by decide⟩ (Or.inl rfl) (fun x hx => S.2.2.2.1.2 x (List.mem_append.mpr (Or.inr hx))) (opn_up hV (by omega)) S.2.2.2.1.1 (by omega) (by omega) (by omega)) (show TT 0 = (0, 12) from rfl) rfl wL_X12_214 vX12_drops rfl npX12_drops (by decide) (by decide) (Nat.le_of_ble_eq_true rfl) (by decide) (by decide) GK_E (fun v9 hc1 hq => ?_) (fun E h9 hq => by cases hq.1)
  have hqq2 := hq
  obtain ⟨e9q2, Dq2⟩ := hqq2
  have Sq2 := SR_drop S (by omega) (opn_up hV (by omega : (0 : Int) ≤ _)) Dq2
  cases e9q2
  show K mX12_closes _ _ 0 0 5 [(0, vr 0)] [] hc1
  refine K_aload_n (dt_at dtX12_closes 3 rfl) rfl rfl ?_
  refine K_dup (dt_at dtX12_closes 4 rfl) rfl ?_
  refine K_get (a := 0) (ci := 12) (k := 31) (v := vi (hI hc1 0 31)) (dt_at dtX12_closes 5 rfl) (show TT 0 = (0, 12) from rfl) rfl (by decide) wF_X12_177 rfl ?_
  refine K_iconst (dt_at dtX12_closes 6 rfl) ?_
  refine K_isub (dt_at dtX12_closes 7 rfl) ?_
  refine K_putI (a := 0) (ci := 12) (k := 31) (dt_at dtX12_closes 8 rfl) (show TT 0 = (0, 12) from rfl) rfl (by decide) wF_X12_177 rfl (Or.inl rfl) rfl rfl ?_
  obtain ⟨hq3, eq3⟩ : ∃ z, z = sI hc1 0 31 ((hI hc1 0 31) - 1) := ⟨_, rfl⟩
  rw [← eq3]
  obtain ⟨iq3, fq3, aq3, rq3⟩ := sI_fx eq3
  refine K_aload_n (dt_at dtX12_closes 9 rfl) rfl rfl ?_
  refine K_dup (dt_at dtX12_closes 10 rfl) rfl ?_
  refine K_get (a := 0) (ci := 12) (k := 32) (v := vi (hI hc1 0 32)) (dt_at dtX12_closes 11 rfl) (show TT 0 = (0, 12) from rfl) rfl (by decide) wF_X12_199 (by show vi (hI hq3 0 32) = vi (hI hc1 0 32); rw [(fq3 0 32 (by omega))]) ?_
  refine K_iconst (dt_at dtX12_closes 12 rfl) ?_
  refine K_isub (dt_at dtX12_closes 13 rfl) ?_
  refine K_putI (a := 0) (ci := 12) (k := 32) (dt_at dtX12_closes 14 rfl) (show TT 0 = (0, 12) from rfl) rfl (by decide) wF_X12_199 rfl (Or.inl rfl) rfl rfl ?_
  obtain ⟨hq4, eq4⟩ : ∃ z, z = sI hq3 0 32 ((hI hc1 0 32) - 1) := ⟨_, rfl⟩
  rw [← eq4]
  obtain ⟨iq4, fq4, aq4, rq4⟩ := sI_fx eq4
  refine K_aload_n (dt_at dtX12_closes 15 rfl) rfl rfl ?_
  have S9 := SR_close (h := hq4) Sq2 (by rw [(fq4 0 31 (by omega)), iq3]) (by rw [iq4]) (FL_tr (FL_tr (FL_rf : FL [] [(0, 31), (0, 32)] [] hc1 hc1) (FL_eI eq3 rfl)) (FL_eI eq4 rfl))
  refine K_callV (M' := mX12_goes) (a := 0) (ci := 12) (As := []) (st := []) (dt_at dtX12_closes 16 rfl) (goes_g S9.1) (show TT 0 = (0, 12) from rfl) rfl wL_X12_168 vX12_goes rfl npX12_goes (by decide) (by decide) (Nat.le_of_ble_eq_true rfl) (by decide) (by decide) GK_E (fun v9 hc5 hq => ?_) (fun E h9 hq => by cases hq.1)
  have hqq6 := hq
  obtain ⟨e9q6, Aq6, Gq6⟩ := hqq6
  have Sq6 := SR_goes S9 (Or.inl rfl) Aq6 Gq6
  cases e9q6
  show K mX12_closes _ _ 0 0 29 [(0, vr 0)] [] hc5
  exact K_vret (dt_at dtX12_closes 17 rfl) rfl (by decide) (by decide) ⟨rfl, Sq6⟩
