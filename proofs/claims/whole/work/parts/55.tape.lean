def mX11_tapeNumber : MI := (yX11_tapeNumber, cX11_tapeNumber, 3, none, rmK 1 0)
def tX11_tapeNumber : List (Nat × Instr × Nat) := [(0, .bipush 24, 2), (2, .istore_n 2, 1), (3, .iload_n 2, 1), (4, .ifCond .lt 32, 3), (7, .aload_n 0, 1), (8, .getfield 9, 3), (11, .aload_n 0, 1), (12, .getfield 96, 3), (15, .iload_n 1, 1), (16, .iload_n 2, 1), (17, .iushr, 1), (18, .i2b, 1), (19, .bastore, 1), (20, .aload_n 0, 1), (21, .dup, 1), (22, .getfield 96, 3), (25, .iconst 1, 1), (26, .iadd, 1), (27, .putfield 96, 3), (30, .iinc 2 (-8), 3), (33, .goto (-30), 3), (36, .return_, 1)]
theorem dtX11_tapeNumber : tX11_tapeNumber.all (fun q => decide (decode cX11_tapeNumber q.1 = .ok (q.2.1, q.2.2))) = true := by decide +kernel
theorem npX11_tapeNumber : (parseMethodDescriptor (mY mX11_tapeNumber).desc).map (fun d => d.parameters.length) = some 1 := by decide +kernel
theorem vX11_tapeNumber : mV mX11_tapeNumber := ⟨wI_X11_tapeNumber, wS_X11_tapeNumber, wN_X11, wC_X11_tapeNumber, by decide +kernel, by decide +kernel⟩
def lyB (g : Int → Int) (n v : Int) : Int → Int := upI (upI (upI (upI g n (bI8 (bUshr v 24))) (n + 1) (bI8 (bUshr v 16))) (n + 1 + 1) (bI8 (bUshr v 8))) (n + 1 + 1 + 1) (bI8 (bUshr v 0))
theorem lyB_at {g tp : Int → Int} {n v i : Int} (h : i < n → (0 ≤ tp i ∧ tp i < 256) ∧ g i = sb (tp i)) (hi : i < n + 4) (h0 : 0 ≤ n) : (0 ≤ ly4 tp n v i ∧ ly4 tp n v i < 256) ∧ lyB g n v i = sb (ly4 tp n v i) := by
  unfold ly4 lyB upI
  by_cases a : i = n + 1 + 1 + 1
  · rw [if_pos a, if_pos a, by_0]; exact ⟨b255 _, rfl⟩
  · rw [if_neg a, if_neg a]
    by_cases b : i = n + 1 + 1
    · rw [if_pos b, if_pos b, by_8]; exact ⟨b255 _, rfl⟩
    · rw [if_neg b, if_neg b]
      by_cases c : i = n + 1
      · rw [if_pos c, if_pos c, by_16]; exact ⟨b255 _, rfl⟩
      · rw [if_neg c, if_neg c]
        by_cases d : i = n
        · rw [if_pos d, if_pos d, by_24]; exact ⟨b255 _, rfl⟩
        · rw [if_neg d, if_neg d]; exact h (by omega)
theorem bI8_b (x : Int) : -128 ≤ bI8 x ∧ bI8 x < 128 := by
  unfold bI8
  rw [Int8.toInt_toInt32]
  have h1 := Int8.le_toInt (Int32.ofInt x).toInt8
  have h2 := Int8.toInt_lt (Int32.ofInt x).toInt8
  omega
theorem n31 {a : Nat} (h : [31].contains a = false) : a ≠ 31 := by intro e; subst e; cases h
theorem n3015 {a k : Nat} (h : [((30 : Nat), (15 : Nat))].contains (a, k) = false) : a ≠ 30 ∨ k ≠ 15 := by
  by_cases e : a = 30
  · refine Or.inr (fun w => ?_)
    subst e w
    cases h
  · exact Or.inl e
set_option maxHeartbeats 4000000 in
set_option maxRecDepth 100000 in
theorem sX11_tapeNumber {h : HP} {n v : Int} (e15 : hI h 30 15 = n) (hn : 0 ≤ n ∧ n ≤ 696) : SpecK mX11_tapeNumber [vr 30, vi v] h (fun o h' => o = .inl none ∧ hA h' 31 = lyB (hA h 31) n v ∧ hI h' 30 15 = n + 1 + 1 + 1 + 1 ∧ FL [31] [(30, 15)] [] h h') := by
  refine Spec_of (by decide +kernel) (Nat.le_of_ble_eq_true rfl) ?_
  have bb24 := bI8_b (bUshr v 24)
  have bb16 := bI8_b (bUshr v 16)
  have bb8 := bI8_b (bUshr v 8)
  have bb0 := bI8_b (bUshr v 0)
  refine K_bipush (dt_at dtX11_tapeNumber 0 rfl) (by decide) ?_
  refine K_istore_n (ls' := [(2, vi 24), (0, vr 30), (1, vi v)]) (dt_at dtX11_tapeNumber 1 rfl) rfl (by decide) rfl ?_
  refine K_iload_n (dt_at dtX11_tapeNumber 2 rfl) rfl rfl ?_
  refine K_if_lt (tgt := 36) (dt_at dtX11_tapeNumber 3 rfl) (by decide) (by first | assumption | exact ⟨by omega, by omega⟩) (fun c1 => absurd c1 (by omega)) (fun c1 => ?_)
  refine K_aload_n (dt_at dtX11_tapeNumber 4 rfl) rfl rfl ?_
  refine K_get (a := 30) (ci := 11) (k := 0) (v := vr 31) (dt_at dtX11_tapeNumber 5 rfl) (show TT 30 = (0, 11) from rfl) rfl (by decide) wF_X11_9 rfl ?_
  refine K_aload_n (dt_at dtX11_tapeNumber 6 rfl) rfl rfl ?_
  refine K_get (a := 30) (ci := 11) (k := 15) (v := vi n) (dt_at dtX11_tapeNumber 7 rfl) (show TT 30 = (0, 11) from rfl) rfl (by decide) wF_X11_96 (by show vi (hI h 30 15) = vi n; rw [e15]) ?_
  refine K_iload_n (dt_at dtX11_tapeNumber 8 rfl) rfl rfl ?_
  refine K_iload_n (dt_at dtX11_tapeNumber 9 rfl) rfl rfl ?_
  refine K_iushr (dt_at dtX11_tapeNumber 10 rfl) ?_
  refine K_i2b (dt_at dtX11_tapeNumber 11 rfl) ?_
  refine K_bast (dt_at dtX11_tapeNumber 12 rfl) (show TT 31 = (2, 700) from rfl) (by omega) (by omega) (by omega) ?_
  obtain ⟨hq1, eq1⟩ : ∃ z, z = sA h 31 n (bI8 (bUshr v 24)) := ⟨_, rfl⟩
  rw [← eq1]
  obtain ⟨aq1, fq1, iq1, rq1⟩ := sA_fx eq1
  refine K_aload_n (dt_at dtX11_tapeNumber 13 rfl) rfl rfl ?_
  refine K_dup (dt_at dtX11_tapeNumber 14 rfl) rfl ?_
  refine K_get (a := 30) (ci := 11) (k := 15) (v := vi n) (dt_at dtX11_tapeNumber 15 rfl) (show TT 30 = (0, 11) from rfl) rfl (by decide) wF_X11_96 (by show vi (hI hq1 30 15) = vi n; rw [iq1, e15]) ?_
  refine K_iconst (dt_at dtX11_tapeNumber 16 rfl) ?_
  refine K_iadd (dt_at dtX11_tapeNumber 17 rfl) ?_
  refine K_putI (a := 30) (ci := 11) (k := 15) (dt_at dtX11_tapeNumber 18 rfl) (show TT 30 = (0, 11) from rfl) rfl (by decide) wF_X11_96 rfl (Or.inl rfl) rfl rfl ?_
  obtain ⟨hq2, eq2⟩ : ∃ z, z = sI hq1 30 15 (n + 1) := ⟨_, rfl⟩
  rw [← eq2]
  obtain ⟨iq2, fq2, aq2, rq2⟩ := sI_fx eq2
  refine K_iinc (ls' := [(2, vi (24 + (-8))), (0, vr 30), (1, vi v)]) (dt_at dtX11_tapeNumber 19 rfl) rfl (by decide) rfl ?_
  refine K_goto (tgt := 3) (dt_at dtX11_tapeNumber 20 rfl) (by decide) ?_
  refine K_cg (ls' := [(2, vi 16), (0, vr 30), (1, vi v)]) (h' := hq2) (by rw [show ((24 + (-8)) : Int) = 16 by decide]) rfl ?_
  refine K_iload_n (dt_at dtX11_tapeNumber 2 rfl) rfl rfl ?_
  refine K_if_lt (tgt := 36) (dt_at dtX11_tapeNumber 3 rfl) (by decide) (by first | assumption | exact ⟨by omega, by omega⟩) (fun c2 => absurd c2 (by omega)) (fun c2 => ?_)
  refine K_aload_n (dt_at dtX11_tapeNumber 4 rfl) rfl rfl ?_
  refine K_get (a := 30) (ci := 11) (k := 0) (v := vr 31) (dt_at dtX11_tapeNumber 5 rfl) (show TT 30 = (0, 11) from rfl) rfl (by decide) wF_X11_9 rfl ?_
  refine K_aload_n (dt_at dtX11_tapeNumber 6 rfl) rfl rfl ?_
  refine K_get (a := 30) (ci := 11) (k := 15) (v := vi (n + 1)) (dt_at dtX11_tapeNumber 7 rfl) (show TT 30 = (0, 11) from rfl) rfl (by decide) wF_X11_96 (by show vi (hI hq2 30 15) = vi (n + 1); rw [iq2]) ?_
  refine K_iload_n (dt_at dtX11_tapeNumber 8 rfl) rfl rfl ?_
  refine K_iload_n (dt_at dtX11_tapeNumber 9 rfl) rfl rfl ?_
  refine K_iushr (dt_at dtX11_tapeNumber 10 rfl) ?_
  refine K_i2b (dt_at dtX11_tapeNumber 11 rfl) ?_
  refine K_bast (dt_at dtX11_tapeNumber 12 rfl) (show TT 31 = (2, 700) from rfl) (by omega) (by omega) (by omega) ?_
  obtain ⟨hq3, eq3⟩ : ∃ z, z = sA hq2 31 (n + 1) (bI8 (bUshr v 16)) := ⟨_, rfl⟩
  rw [← eq3]
  obtain ⟨aq3, fq3, iq3, rq3⟩ := sA_fx eq3
  rw [aq2, aq1] at aq3
  refine K_aload_n (dt_at dtX11_tapeNumber 13 rfl) rfl rfl ?_
  refine K_dup (dt_at dtX11_tapeNumber 14 rfl) rfl ?_
  refine K_get (a := 30) (ci := 11) (k := 15) (v := vi (n + 1)) (dt_at dtX11_tapeNumber 15 rfl) (show TT 30 = (0, 11) from rfl) rfl (by decide) wF_X11_96 (by show vi (hI hq3 30 15) = vi (n + 1); rw [iq3, iq2]) ?_
  refine K_iconst (dt_at dtX11_tapeNumber 16 rfl) ?_
  refine K_iadd (dt_at dtX11_tapeNumber 17 rfl) ?_
  refine K_putI (a := 30) (ci := 11) (k := 15) (dt_at dtX11_tapeNumber 18 rfl) (show TT 30 = (0, 11) from rfl) rfl (by decide) wF_X11_96 rfl (Or.inl rfl) rfl rfl ?_
  obtain ⟨hq4, eq4⟩ : ∃ z, z = sI hq3 30 15 ((n + 1) + 1) := ⟨_, rfl⟩
  rw [← eq4]
  obtain ⟨iq4, fq4, aq4, rq4⟩ := sI_fx eq4
  refine K_iinc (ls' := [(2, vi (16 + (-8))), (0, vr 30), (1, vi v)]) (dt_at dtX11_tapeNumber 19 rfl) rfl (by decide) rfl ?_
  refine K_goto (tgt := 3) (dt_at dtX11_tapeNumber 20 rfl) (by decide) ?_
  refine K_cg (ls' := [(2, vi 8), (0, vr 30), (1, vi v)]) (h' := hq4) (by rw [show ((16 + (-8)) : Int) = 8 by decide]) rfl ?_
  refine K_iload_n (dt_at dtX11_tapeNumber 2 rfl) rfl rfl ?_
  refine K_if_lt (tgt := 36) (dt_at dtX11_tapeNumber 3 rfl) (by decide) (by first | assumption | exact ⟨by omega, by omega⟩) (fun c3 => absurd c3 (by omega)) (fun c3 => ?_)
  refine K_aload_n (dt_at dtX11_tapeNumber 4 rfl) rfl rfl ?_
  refine K_get (a := 30) (ci := 11) (k := 0) (v := vr 31) (dt_at dtX11_tapeNumber 5 rfl) (show TT 30 = (0, 11) from rfl) rfl (by decide) wF_X11_9 rfl ?_
  refine K_aload_n (dt_at dtX11_tapeNumber 6 rfl) rfl rfl ?_
  refine K_get (a := 30) (ci := 11) (k := 15) (v := vi ((n + 1) + 1)) (dt_at dtX11_tapeNumber 7 rfl) (show TT 30 = (0, 11) from rfl) rfl (by decide) wF_X11_96 (by show vi (hI hq4 30 15) = vi ((n + 1) + 1); rw [iq4]) ?_
  refine K_iload_n (dt_at dtX11_tapeNumber 8 rfl) rfl rfl ?_
  refine K_iload_n (dt_at dtX11_tapeNumber 9 rfl) rfl rfl ?_
  refine K_iushr (dt_at dtX11_tapeNumber 10 rfl) ?_
  refine K_i2b (dt_at dtX11_tapeNumber 11 rfl) ?_
  refine K_bast (dt_at dtX11_tapeNumber 12 rfl) (show TT 31 = (2, 700) from rfl) (by omega) (by omega) (by omega) ?_
  obtain ⟨hq5, eq5⟩ : ∃ z, z = sA hq4 31 ((n + 1) + 1) (bI8 (bUshr v 8)) := ⟨_, rfl⟩
  rw [← eq5]
  obtain ⟨aq5, fq5, iq5, rq5⟩ := sA_fx eq5
  rw [aq4, aq3] at aq5
  refine K_aload_n (dt_at dtX11_tapeNumber 13 rfl) rfl rfl ?_
  refine K_dup (dt_at dtX11_tapeNumber 14 rfl) rfl ?_
  refine K_get (a := 30) (ci := 11) (k := 15) (v := vi ((n + 1) + 1)) (dt_at dtX11_tapeNumber 15 rfl) (show TT 30 = (0, 11) from rfl) rfl (by decide) wF_X11_96 (by show vi (hI hq5 30 15) = vi ((n + 1) + 1); rw [iq5, iq4]) ?_
  refine K_iconst (dt_at dtX11_tapeNumber 16 rfl) ?_
  refine K_iadd (dt_at dtX11_tapeNumber 17 rfl) ?_
  refine K_putI (a := 30) (ci := 11) (k := 15) (dt_at dtX11_tapeNumber 18 rfl) (show TT 30 = (0, 11) from rfl) rfl (by decide) wF_X11_96 rfl (Or.inl rfl) rfl rfl ?_
  obtain ⟨hq6, eq6⟩ : ∃ z, z = sI hq5 30 15 (((n + 1) + 1) + 1) := ⟨_, rfl⟩
  rw [← eq6]
  obtain ⟨iq6, fq6, aq6, rq6⟩ := sI_fx eq6
  refine K_iinc (ls' := [(2, vi (8 + (-8))), (0, vr 30), (1, vi v)]) (dt_at dtX11_tapeNumber 19 rfl) rfl (by decide) rfl ?_
  refine K_goto (tgt := 3) (dt_at dtX11_tapeNumber 20 rfl) (by decide) ?_
  refine K_cg (ls' := [(2, vi 0), (0, vr 30), (1, vi v)]) (h' := hq6) (by rw [show ((8 + (-8)) : Int) = 0 by decide]) rfl ?_
  refine K_iload_n (dt_at dtX11_tapeNumber 2 rfl) rfl rfl ?_
  refine K_if_lt (tgt := 36) (dt_at dtX11_tapeNumber 3 rfl) (by decide) (by first | assumption | exact ⟨by omega, by omega⟩) (fun c4 => absurd c4 (by omega)) (fun c4 => ?_)
  refine K_aload_n (dt_at dtX11_tapeNumber 4 rfl) rfl rfl ?_
  refine K_get (a := 30) (ci := 11) (k := 0) (v := vr 31) (dt_at dtX11_tapeNumber 5 rfl) (show TT 30 = (0, 11) from rfl) rfl (by decide) wF_X11_9 rfl ?_
  refine K_aload_n (dt_at dtX11_tapeNumber 6 rfl) rfl rfl ?_
  refine K_get (a := 30) (ci := 11) (k := 15) (v := vi (((n + 1) + 1) + 1)) (dt_at dtX11_tapeNumber 7 rfl) (show TT 30 = (0, 11) from rfl) rfl (by decide) wF_X11_96 (by show vi (hI hq6 30 15) = vi (((n + 1) + 1) + 1); rw [iq6]) ?_
  refine K_iload_n (dt_at dtX11_tapeNumber 8 rfl) rfl rfl ?_
  refine K_iload_n (dt_at dtX11_tapeNumber 9 rfl) rfl rfl ?_
  refine K_iushr (dt_at dtX11_tapeNumber 10 rfl) ?_
  refine K_i2b (dt_at dtX11_tapeNumber 11 rfl) ?_
  refine K_bast (dt_at dtX11_tapeNumber 12 rfl) (show TT 31 = (2, 700) from rfl) (by omega) (by omega) (by omega) ?_
  obtain ⟨hq7, eq7⟩ : ∃ z, z = sA hq6 31 (((n + 1) + 1) + 1) (bI8 (bUshr v 0)) := ⟨_, rfl⟩
  rw [← eq7]
  obtain ⟨aq7, fq7, iq7, rq7⟩ := sA_fx eq7
  rw [aq6, aq5] at aq7
  refine K_aload_n (dt_at dtX11_tapeNumber 13 rfl) rfl rfl ?_
  refine K_dup (dt_at dtX11_tapeNumber 14 rfl) rfl ?_
  refine K_get (a := 30) (ci := 11) (k := 15) (v := vi (((n + 1) + 1) + 1)) (dt_at dtX11_tapeNumber 15 rfl) (show TT 30 = (0, 11) from rfl) rfl (by decide) wF_X11_96 (by show vi (hI hq7 30 15) = vi (((n + 1) + 1) + 1); rw [iq7, iq6]) ?_
  refine K_iconst (dt_at dtX11_tapeNumber 16 rfl) ?_
  refine K_iadd (dt_at dtX11_tapeNumber 17 rfl) ?_
  refine K_putI (a := 30) (ci := 11) (k := 15) (dt_at dtX11_tapeNumber 18 rfl) (show TT 30 = (0, 11) from rfl) rfl (by decide) wF_X11_96 rfl (Or.inl rfl) rfl rfl ?_
  obtain ⟨hq8, eq8⟩ : ∃ z, z = sI hq7 30 15 ((((n + 1) + 1) + 1) + 1) := ⟨_, rfl⟩
  rw [← eq8]
  obtain ⟨iq8, fq8, aq8, rq8⟩ := sI_fx eq8
  refine K_iinc (ls' := [(2, vi (0 + (-8))), (0, vr 30), (1, vi v)]) (dt_at dtX11_tapeNumber 19 rfl) rfl (by decide) rfl ?_
  refine K_goto (tgt := 3) (dt_at dtX11_tapeNumber 20 rfl) (by decide) ?_
  refine K_cg (ls' := [(2, vi (-8)), (0, vr 30), (1, vi v)]) (h' := hq8) (by rw [show ((0 + (-8)) : Int) = (-8) by decide]) rfl ?_
  refine K_iload_n (dt_at dtX11_tapeNumber 2 rfl) rfl rfl ?_
  refine K_if_lt (tgt := 36) (dt_at dtX11_tapeNumber 3 rfl) (by decide) (by first | assumption | exact ⟨by omega, by omega⟩) (fun c5 => ?_) (fun c5 => absurd c5 (by omega))
  exact K_vret (dt_at dtX11_tapeNumber 21 rfl) rfl (by decide) (by decide) ⟨rfl, by rw [aq8, aq7]; rfl, by rw [iq8], ⟨fun a_ z0_ => by have z_ := n31 z0_; rw [aq8, (fq7 a_ (by omega)), aq6, (fq5 a_ (by omega)), aq4, (fq3 a_ (by omega)), aq2, (fq1 a_ (by omega))], fun a_ k_ z0_ => by have z_ := n3015 z0_; rw [(fq8 a_ k_ (by omega)), iq7, (fq6 a_ k_ (by omega)), iq5, (fq4 a_ k_ (by omega)), iq3, (fq2 a_ k_ (by omega)), iq1], fun a_ k_ _ => by rw [rq8, rq7, rq6, rq5, rq4, rq3, rq2, rq1]⟩⟩
def mX11_feed : MI := (yX11_feed, cX11_feed, 6, (some .int), rmK 2 0)
def tX11_feed : List (Nat × Instr × Nat) := [(0, .aload_n 0, 1), (1, .getfield 96, 3), (4, .bipush 20, 2), (6, .iadd, 1), (7, .sipush 700, 3), (10, .if_icmp .le 5, 3), (13, .iconst (-1), 1), (14, .ireturn, 1), (15, .aload_n 0, 1), (16, .iload_n 1, 1), (17, .invokevirtual 107, 3), (20, .aload_n 0, 1), (21, .iload_n 2, 1), (22, .invokevirtual 107, 3), (25, .aload_n 0, 1), (26, .iload_n 3, 1), (27, .invokevirtual 107, 3), (30, .aload_n 0, 1), (31, .iload 4, 2), (33, .invokevirtual 107, 3), (36, .aload_n 0, 1), (37, .iload 5, 2), (39, .invokevirtual 107, 3), (42, .aload_n 0, 1), (43, .getfield 96, 3), (46, .ireturn, 1)]
theorem dtX11_feed : tX11_feed.all (fun q => decide (decode cX11_feed q.1 = .ok (q.2.1, q.2.2))) = true := by decide +kernel
theorem npX11_feed : (parseMethodDescriptor (mY mX11_feed).desc).map (fun d => d.parameters.length) = some 5 := by decide +kernel
theorem vX11_feed : mV mX11_feed := ⟨wI_X11_feed, wS_X11_feed, wN_X11, wC_X11_feed, by decide +kernel, by decide +kernel⟩
set_option maxHeartbeats 4000000 in
set_option maxRecDepth 100000 in
theorem sX11_feed_no {h : HP} {S : HS} {v : SV} {im : Option SV} {tp : Int → Int} {nt : Nat} {rf : Int × Int × Int} {fl : Int} {a b c d e : Int} (J : CI h (S, v, im, tp, nt, rf, fl)) (no : 680 < nt) : SpecK mX11_feed [vr 30, vi a, vi b, vi c, vi d, vi e] h (fun o h' => o = .inl (some (vi (-1))) ∧ CI h' (S, v, im, tp, nt, rf, fl) ∧ FM h h') := by
  refine Spec_of (by decide +kernel) (Nat.le_of_ble_eq_true rfl) ?_
  obtain ⟨t, ht, i2, i3, i4, i5, i6, i7, i8, i9, i10⟩ := id J
  obtain ⟨t1, t2, t3, t4, t5⟩ := id i10
  have e15 : hI h 30 15 = (nt : Int) := t1
  have t2 : nt ≤ 700 := t2
  refine K_aload_n (dt_at dtX11_feed 0 rfl) rfl rfl ?_
  refine K_get (a := 30) (ci := 11) (k := 15) (v := vi (nt : Int)) (dt_at dtX11_feed 1 rfl) (show TT 30 = (0, 11) from rfl) rfl (by decide) wF_X11_96 (by show vi (hI h 30 15) = vi (nt : Int); rw [e15]) ?_
  refine K_bipush (dt_at dtX11_feed 2 rfl) (by decide) ?_
  refine K_iadd (dt_at dtX11_feed 3 rfl) ?_
  refine K_sipush (dt_at dtX11_feed 4 rfl) (by decide) ?_
  refine K_icmp_le (tgt := 15) (dt_at dtX11_feed 5 rfl) (by decide) (by first | assumption | exact ⟨by omega, by omega⟩) (by first | assumption | exact ⟨by omega, by omega⟩) (fun c1 => absurd c1 (by omega)) (fun c1 => ?_)
  refine K_iconst (dt_at dtX11_feed 6 rfl) ?_
  exact K_iret (dt_at dtX11_feed 7 rfl) rfl rfl (by decide) (by decide) ⟨rfl, J, FM_rf⟩
theorem CI_tape {h h' : HP} {S : HS} {v : SV} {im : Option SV} {tp tp' : Int → Int} {nt nt' : Nat} {rf : Int × Int × Int} {fl : Int} (J : CI h (S, v, im, tp, nt, rf, fl)) (F : FL [31] [(30, 15)] [] h h') (h1 : hI h' 30 15 = (nt' : Int)) (h2 : nt' ≤ 700) (h3 : ∀ i : Int, 0 ≤ i → i < nt' → (0 ≤ tp' i ∧ tp' i < 256) ∧ hA h' 31 i = sb (tp' i)) : CI h' (S, v, im, tp', nt', rf, fl) ∧ FM h h' := by
  obtain ⟨t, ht, i2, i3, i4, i5, i6, i7, i8, i9, ⟨t1, t2, t3, t4, t5⟩⟩ := J
  have f1 : ∀ a, a ≠ 31 → hA h' a = hA h a := fun a ha => F.1 a (by simp [ha])
  have f2 : ∀ a k, (a ≠ 30 ∨ k ≠ 15) → hI h' a k = hI h a k := fun a k ha => F.2.1 a k (by simp; omega)
  have f3 : ∀ a k, hR h' a k = hR h a k := fun a k => F.2.2 a k rfl
  have ht2 : 33 ≤ t := by omega
  have hS : cHS h' t S := by
    obtain ⟨⟨k1, k2, k3, k4, k5⟩, ⟨k6, k7⟩, k8, k9⟩ := i4
    exact ⟨⟨by rw [f1 _ (by omega)]; exact k1, by rw [f1 _ (by omega)]; exact k2, by rw [f1 _ (by omega)]; exact k3, by rw [f1 _ (by omega)]; exact k4, by rw [f1 _ (by omega)]; exact k5⟩, ⟨by rw [f2 _ _ (by omega)]; exact k6, by rw [f2 _ _ (by omega)]; exact k7⟩, rlR_FS k8 (f2 _ _ (by omega)) (f2 _ _ (by omega)) (f1 _ (by omega)), rlR_FS k9 (f2 _ _ (by omega)) (f2 _ _ (by omega)) (f1 _ (by omega))⟩
  refine ⟨⟨t, ht, by rw [f3]; exact i2, by rw [f3]; exact i3, hS, i5, G32_FL F i6 rfl rfl,
    svR_fr i7 (f1 _ (by omega)) (f2 _ _ (by omega)) (f2 _ _ (by omega)) (f1 _ (by omega)) (f2 _ _ (by omega)) (f1 _ (by omega)) (f1 _ (by omega)) (f1 _ (by omega)) (f1 _ (by omega)), i8,
    imR_fr i9 (f2 _ _ (by omega)) (f1 _ (by omega)) (f2 _ _ (by omega)) (f2 _ _ (by omega)) (f1 _ (by omega)) (f2 _ _ (by omega)) (f1 _ (by omega)) (f1 _ (by omega)) (f1 _ (by omega)) (f1 _ (by omega)),
    h1, h2, h3, by rw [f1 32 (by omega)]; exact t4, by rw [f2 30 16 (by omega)]; exact t5⟩, ?_⟩
  exact ⟨fun a ha => f1 a (by omega), fun k => f2 0 k (by omega), fun k => f3 0 k⟩
set_option maxHeartbeats 4000000 in
set_option maxRecDepth 100000 in
theorem sX11_feed {h : HP} {S : HS} {v : SV} {im : Option SV} {tp : Int → Int} {nt : Nat} {rf : Int × Int × Int} {fl : Int} {a b c d e : Int} (J : CI h (S, v, im, tp, nt, rf, fl)) (ok : nt ≤ 680) : SpecK mX11_feed [vr 30, vi a, vi b, vi c, vi d, vi e] h (fun o h' => o = .inl (some (vi ((nt + 20 : Nat) : Int))) ∧ CI h' (S, v, im, (fdF tp nt a b c d e), nt + 20, rf, fl) ∧ FM h h') := by
  refine Spec_of (by decide +kernel) (Nat.le_of_ble_eq_true rfl) ?_
  obtain ⟨t, ht, i2, i3, i4, i5, i6, i7, i8, i9, i10⟩ := id J
  obtain ⟨t1, t2, t3, t4, t5⟩ := id i10
  have e15 : hI h 30 15 = (nt : Int) := t1
  refine K_aload_n (dt_at dtX11_feed 0 rfl) rfl rfl ?_
  refine K_get (a := 30) (ci := 11) (k := 15) (v := vi (nt : Int)) (dt_at dtX11_feed 1 rfl) (show TT 30 = (0, 11) from rfl) rfl (by decide) wF_X11_96 (by show vi (hI h 30 15) = vi (nt : Int); rw [e15]) ?_
  refine K_bipush (dt_at dtX11_feed 2 rfl) (by decide) ?_
  refine K_iadd (dt_at dtX11_feed 3 rfl) ?_
  refine K_sipush (dt_at dtX11_feed 4 rfl) (by decide) ?_
  refine K_icmp_le (tgt := 15) (dt_at dtX11_feed 5 rfl) (by decide) (by first | assumption | exact ⟨by omega, by omega⟩) (by first | assumption | exact ⟨by omega, by omega⟩) (fun c1 => ?_) (fun c1 => absurd c1 (by omega))
  refine K_aload_n (dt_at dtX11_feed 8 rfl) rfl rfl ?_
  refine K_iload_n (dt_at dtX11_feed 9 rfl) rfl rfl ?_
  refine K_callV (M' := mX11_tapeNumber) (a := 30) (ci := 11) (As := [vi a]) (st := []) (dt_at dtX11_feed 10 rfl) (sX11_tapeNumber (n := (nt : Int)) (by rw [e15]) (by omega)) (show TT 30 = (0, 11) from rfl) rfl wL_X11_107 vX11_tapeNumber rfl npX11_tapeNumber (by decide) (by decide) (Nat.le_of_ble_eq_true rfl) (by decide) (by decide) GK_E (fun v9 hc1 hq => ?_) (fun E h9 hq => by cases hq.1)
  have hqq2 := hq
  obtain ⟨e9q2, y1q2, y2q2, y3q2⟩ := hqq2
  have y6q2 : hI hc1 30 15 = (nt : Int) + 4 := by rw [y2q2]; omega
  cases e9q2
  show K mX11_feed _ _ 0 0 20 [(0, vr 30), (1, vi a), (2, vi b), (3, vi c), (4, vi d), (5, vi e)] [] hc1
  refine K_aload_n (dt_at dtX11_feed 11 rfl) rfl rfl ?_
  refine K_iload_n (dt_at dtX11_feed 12 rfl) rfl rfl ?_
  refine K_callV (M' := mX11_tapeNumber) (a := 30) (ci := 11) (As := [vi b]) (st := []) (dt_at dtX11_feed 13 rfl) (sX11_tapeNumber (n := ((nt : Int) + 4)) (by rw [y6q2]) (by omega)) (show TT 30 = (0, 11) from rfl) rfl wL_X11_107 vX11_tapeNumber rfl npX11_tapeNumber (by decide) (by decide) (Nat.le_of_ble_eq_true rfl) (by decide) (by decide) GK_E (fun v9 hc3 hq => ?_) (fun E h9 hq => by cases hq.1)
  have hqq4 := hq
  obtain ⟨e9q4, y1q4, y2q4, y3q4⟩ := hqq4
  have y6q4 : hI hc3 30 15 = (nt : Int) + 8 := by rw [y2q4]; omega
  cases e9q4
  show K mX11_feed _ _ 0 0 25 [(0, vr 30), (1, vi a), (2, vi b), (3, vi c), (4, vi d), (5, vi e)] [] hc3
  refine K_aload_n (dt_at dtX11_feed 14 rfl) rfl rfl ?_
  refine K_iload_n (dt_at dtX11_feed 15 rfl) rfl rfl ?_
  refine K_callV (M' := mX11_tapeNumber) (a := 30) (ci := 11) (As := [vi c]) (st := []) (dt_at dtX11_feed 16 rfl) (sX11_tapeNumber (n := ((nt : Int) + 8)) (by rw [y6q4]) (by omega)) (show TT 30 = (0, 11) from rfl) rfl wL_X11_107 vX11_tapeNumber rfl npX11_tapeNumber (by decide) (by decide) (Nat.le_of_ble_eq_true rfl) (by decide) (by decide) GK_E (fun v9 hc5 hq => ?_) (fun E h9 hq => by cases hq.1)
  have hqq6 := hq
  obtain ⟨e9q6, y1q6, y2q6, y3q6⟩ := hqq6
  have y6q6 : hI hc5 30 15 = (nt : Int) + 12 := by rw [y2q6]; omega
  cases e9q6
  show K mX11_feed _ _ 0 0 30 [(0, vr 30), (1, vi a), (2, vi b), (3, vi c), (4, vi d), (5, vi e)] [] hc5
  refine K_aload_n (dt_at dtX11_feed 17 rfl) rfl rfl ?_
  refine K_iload (dt_at dtX11_feed 18 rfl) rfl ?_
  refine K_callV (M' := mX11_tapeNumber) (a := 30) (ci := 11) (As := [vi d]) (st := []) (dt_at dtX11_feed 19 rfl) (sX11_tapeNumber (n := ((nt : Int) + 12)) (by rw [y6q6]) (by omega)) (show TT 30 = (0, 11) from rfl) rfl wL_X11_107 vX11_tapeNumber rfl npX11_tapeNumber (by decide) (by decide) (Nat.le_of_ble_eq_true rfl) (by decide) (by decide) GK_E (fun v9 hc7 hq => ?_) (fun E h9 hq => by cases hq.1)
  have hqq8 := hq
  obtain ⟨e9q8, y1q8, y2q8, y3q8⟩ := hqq8
  have y6q8 : hI hc7 30 15 = (nt : Int) + 16 := by rw [y2q8]; omega
  cases e9q8
  show K mX11_feed _ _ 0 0 36 [(0, vr 30), (1, vi a), (2, vi b), (3, vi c), (4, vi d), (5, vi e)] [] hc7
  refine K_aload_n (dt_at dtX11_feed 20 rfl) rfl rfl ?_
  refine K_iload (dt_at dtX11_feed 21 rfl) rfl ?_
  refine K_callV (M' := mX11_tapeNumber) (a := 30) (ci := 11) (As := [vi e]) (st := []) (dt_at dtX11_feed 22 rfl) (sX11_tapeNumber (n := ((nt : Int) + 16)) (by rw [y6q8]) (by omega)) (show TT 30 = (0, 11) from rfl) rfl wL_X11_107 vX11_tapeNumber rfl npX11_tapeNumber (by decide) (by decide) (Nat.le_of_ble_eq_true rfl) (by decide) (by decide) GK_E (fun v9 hc9 hq => ?_) (fun E h9 hq => by cases hq.1)
  have hqq10 := hq
  obtain ⟨e9q10, y1q10, y2q10, y3q10⟩ := hqq10
  have y6q10 : hI hc9 30 15 = (nt : Int) + 20 := by rw [y2q10]; omega
  cases e9q10
  show K mX11_feed _ _ 0 0 42 [(0, vr 30), (1, vi a), (2, vi b), (3, vi c), (4, vi d), (5, vi e)] [] hc9
  refine K_aload_n (dt_at dtX11_feed 23 rfl) rfl rfl ?_
  refine K_get (a := 30) (ci := 11) (k := 15) (v := vi ((nt : Int) + 20)) (dt_at dtX11_feed 24 rfl) (show TT 30 = (0, 11) from rfl) rfl (by decide) wF_X11_96 (by show vi (hI hc9 30 15) = vi ((nt : Int) + 20); rw [y6q10]) ?_
  have F9 : FL [31] [(30, 15)] [] h hc9 := FL_tr (FL_tr (FL_tr (FL_tr y3q2 y3q4) y3q6) y3q8) y3q10
  have e31 : hA hc9 31 = lyB (lyB (lyB (lyB (lyB (hA h 31) (nt : Int) a) ((nt : Int) + 4) b) ((nt : Int) + 8) c) ((nt : Int) + 12) d) ((nt : Int) + 16) e := by rw [y1q10, y1q8, y1q6, y1q4, y1q2]
  obtain ⟨J9, M9⟩ := CI_tape J F9 (nt' := nt + 20) (tp' := fdF tp nt a b c d e) (by rw [y6q10]; omega) (by omega) (fun i i0 i1 => by rw [e31]; unfold fdF; exact lyB_at (fun _ => lyB_at (fun _ => lyB_at (fun _ => lyB_at (fun _ => lyB_at (fun z => t3 i i0 z) (by omega) (by omega)) (by omega) (by omega)) (by omega) (by omega)) (by omega) (by omega)) (by omega) (by omega))
  exact K_iret (dt_at dtX11_feed 25 rfl) rfl rfl (by decide) (by decide) ⟨by rw [show (nt : Int) + 20 = ((nt + 20 : Nat) : Int) by omega], J9, M9⟩
