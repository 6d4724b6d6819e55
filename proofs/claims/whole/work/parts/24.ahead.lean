/-! the class as it is asked: a house told, a row now -/
def CQ (h : HP) (t : Nat) (S : HS) (B : Int) (f : Int → Int) : Prop := (t = 33 ∨ t = 48) ∧ hR h 30 2 = t ∧ cHS h t S ∧ hsW S ∧ hA h 67 = f ∧ rT B f ∧ rC S f ∧ f 0 ≤ 9999 ∧ G32 h
theorem CQ_FS {h h' : HP} {t : Nat} {S : HS} {B : Int} {f : Int → Int} (c : CQ h t S B f) (F : FS h h') : CQ h' t S B f := by
  obtain ⟨c1, c2, c3, c4, c5, c6, c7, c8, c9⟩ := c
  exact ⟨c1, by rw [F.2.2.1 30 2 rfl]; exact c2, cHS_FS c1 F c3, c4, by rw [F.1 67 rfl]; exact c5, c6, c7, c8, F.2.2.2⟩
/-- behind a walk's begin -/
theorem BG_ok {h h1 : HP} {w t : Nat} {S : HS} {g : Int → Int} (hw : w = 84 ∨ w = 101) (ht : t = 33 ∨ t = 48) (hS : cHS h t S) (hB : hsW S) (G : G32 h) (b1 : ∀ b, b ≠ w + 1 + 1 → b ≠ w + 4 → hA h1 b = hA h b) (b2 : hA h1 (w + 1 + 1) = g) (b3 : hA h1 (w + 4) = (fun _ => 0)) (b4 : hI h1 w 6 = 0) (b5 : ∀ b k, (b ≠ w ∨ k ≠ 6) → hI h1 b k = hI h b k) (b6 : hR h1 w 5 = t) (b7 : ∀ b k, (b ≠ w ∨ k ≠ 5) → hR h1 b k = hR h b k) :
    FS h h1 ∧ WX h1 w t S ∧ PW h1 h1 w t g (fun _ => 0) 0 := by
  have fs : FS h h1 := by
    refine ⟨fun a ha => ?_, fun a k ha => ?_, fun a k ha => ?_, ?_⟩
    · have q : ∀ b, scA b = true → a ≠ b := fun b hb e => by rw [e, hb] at ha; cases ha
      rcases hw with rfl | rfl <;> exact b1 a (q _ rfl) (q _ rfl)
    · refine b5 a k ?_
      by_cases e : a = w
      · refine Or.inr (fun e2 => ?_)
        subst e; subst e2
        rcases hw with rfl | rfl <;> cases ha
      · exact Or.inl e
    · refine b7 a k ?_
      by_cases e : a = w
      · refine Or.inr (fun e2 => ?_)
        subst e; subst e2
        rcases hw with rfl | rfl <;> cases ha
      · exact Or.inl e
    · obtain ⟨g1, g2, g3, g4, g5, g6, g7⟩ := G
      refine ⟨?_, ?_, ?_, ?_, ?_, ?_, ?_⟩
      · rw [b1 _ (by omega) (by omega)]; exact g1
      · rw [b1 _ (by omega) (by omega)]; exact g2
      · rw [b1 _ (by omega) (by omega)]; exact g3
      · rw [b1 _ (by omega) (by omega)]; exact g4
      · rw [b1 _ (by omega) (by omega)]; exact g5
      · rw [b1 _ (by omega) (by omega)]; exact g6
      · rw [b7 84 3 (Or.inr (by decide)), b7 84 4 (Or.inr (by decide))]; exact g7
  exact ⟨fs, ⟨hw, ht, b6, cHS_FS ht fs hS, hB⟩, WK_rf hw ht fs.2.2.2, b2, b3, b4⟩
/-- the walk's heap behind n days -/
def AH (h h' : HP) (S : HS) (f : Int → Int) (n : Nat) : Prop := FS h h' ∧ hA h' 86 = dysF S f n ∧ hA h' 88 = trD S f (fun _ => 0) n ∧ hI h' 84 6 = emD S f 0 n
theorem AH_of {h h1 h2 : HP} {t n : Nat} {S : HS} {f : Int → Int} (F : FS h h1) (X : WX h1 84 t S) (P2 : PW h1 h2 84 t (dysF S f n) (trD S f (fun _ => 0) n) (emD S f 0 n)) : AH h h2 S f n := ⟨FS_tr F (WK_FS X P2.1 F.2.2.2), P2.2.1, P2.2.2.1, P2.2.2.2⟩

def mX11_ahead : MI := (yX11_ahead, cX11_ahead, 2, (some (.object "PackedCases$State")), rmK 7 0)
def tX11_ahead : List (Nat × Instr × Nat) := [(0, .aload_n 0, 1), (1, .getfield 69, 3), (4, .aload_n 0, 1), (5, .getfield 20, 3), (8, .aload_n 0, 1), (9, .getfield 39, 3), (12, .invokevirtual 286, 3), (15, .aload_n 0, 1), (16, .getfield 69, 3), (19, .iload_n 1, 1), (20, .invokevirtual 322, 3), (23, .aload_n 0, 1), (24, .getfield 69, 3), (27, .getfield 291, 3), (30, .areturn, 1)]
theorem dtX11_ahead : tX11_ahead.all (fun q => decide (decode cX11_ahead q.1 = .ok (q.2.1, q.2.2))) = true := by decide +kernel
theorem npX11_ahead : (parseMethodDescriptor (mY mX11_ahead).desc).map (fun d => d.parameters.length) = some 1 := by decide +kernel
theorem vX11_ahead : mV mX11_ahead := ⟨wI_X11_ahead, wS_X11_ahead, wN_X11, wC_X11_ahead, by decide +kernel, by decide +kernel⟩
set_option maxHeartbeats 4000000 in
set_option maxRecDepth 100000 in
theorem sX11_ahead {h : HP} {t : Nat} {S : HS} {B : Int} {f : Int → Int} {n : Nat} (c : CQ h t S B f) (hn : n ≤ 100) : SpecK mX11_ahead [vr 30, vi (n : Int)] h (fun o h' => o = .inl (some (vr 85)) ∧ AH h h' S f n) := by
  refine Spec_of (by decide +kernel) (Nat.le_of_ble_eq_true rfl) ?_
  have ht := c.1
  have hH := TTt ht
  have hB := c.2.2.2.1
  have hNt := hB.1
  have hNp := hB.2.1
  have hT := c.2.2.2.2.2.1
  have hC := c.2.2.2.2.2.2.1
  have h99 := c.2.2.2.2.2.2.2.1
  have G := c.2.2.2.2.2.2.2.2
  have hf0 := hT.2.2.2.1
  refine K_aload_n (dt_at dtX11_ahead 0 rfl) rfl rfl ?_
  refine K_get (a := 30) (ci := 11) (k := 11) (v := vr 84) (dt_at dtX11_ahead 1 rfl) (by decide) rfl (by decide) wF_X11_69 rfl ?_
  refine K_aload_n (dt_at dtX11_ahead 2 rfl) rfl rfl ?_
  refine K_get (a := 30) (ci := 11) (k := 2) (v := vr t) (dt_at dtX11_ahead 3 rfl) (by decide) rfl (by decide) wF_X11_20 (by show vr (hR h 30 2) = vr t; rw [c.2.1]) ?_
  refine K_aload_n (dt_at dtX11_ahead 4 rfl) rfl rfl ?_
  refine K_get (a := 30) (ci := 11) (k := 5) (v := vr 66) (dt_at dtX11_ahead 5 rfl) (by decide) rfl (by decide) wF_X11_39 rfl ?_
  refine K_callV (M' := mX10_begin) (a := 84) (ci := 10) (As := [vr t, vr 66]) (st := []) (dt_at dtX11_ahead 6 rfl) (sX10_begin (w := 84) (t := t) (a := 66) (Or.inl rfl) ht (by decide) (by decide)) (show TT 84 = (0, 10) from rfl) rfl wL_X11_286 vX10_begin rfl npX10_begin (by decide) (by decide) (Nat.le_of_ble_eq_true rfl) (by decide) (by decide) GK_E (fun v9 hc1 hq => ?_) (fun E h9 hq => by cases hq.1)
  have hqq2 := hq
  obtain ⟨e9q2, b1, b2, b3, b4, b5, b6, b7⟩ := hqq2
  obtain ⟨F1, X, P1⟩ := BG_ok (w := 84) (Or.inl rfl) ht c.2.2.1 hB G b1 b2 b3 b4 b5 b6 b7
  rw [c.2.2.2.2.1] at P1
  cases e9q2
  show K mX11_ahead _ _ 0 0 15 [(0, vr 30), (1, vi (n : Int))] [] hc1
  refine K_aload_n (dt_at dtX11_ahead 7 rfl) rfl rfl ?_
  refine K_get (a := 30) (ci := 11) (k := 11) (v := vr 84) (dt_at dtX11_ahead 8 rfl) (by decide) rfl (by decide) wF_X11_69 rfl ?_
  refine K_iload_n (dt_at dtX11_ahead 9 rfl) rfl rfl ?_
  refine K_callV (M' := mX10_pass) (a := 84) (ci := 10) (As := [vi (n : Int)]) (st := []) (dt_at dtX11_ahead 10 rfl) (sX10_pass X P1 hT hC (by omega)) (show TT 84 = (0, 10) from rfl) rfl wL_X11_322 vX10_pass rfl npX10_pass (by decide) (by decide) (Nat.le_of_ble_eq_true rfl) (by decide) (by decide) GK_E (fun v9 hc3 hq => ?_) (fun E h9 hq => by cases hq.1)
  have hqq4 := hq
  obtain ⟨e9q4, P2⟩ := hqq4
  have A2 := AH_of F1 X P2
  cases e9q4
  show K mX11_ahead _ _ 0 0 23 [(0, vr 30), (1, vi (n : Int))] [] hc3
  refine K_aload_n (dt_at dtX11_ahead 11 rfl) rfl rfl ?_
  refine K_get (a := 30) (ci := 11) (k := 11) (v := vr 84) (dt_at dtX11_ahead 12 rfl) (by decide) rfl (by decide) wF_X11_69 rfl ?_
  refine K_get (a := 84) (ci := 10) (k := 0) (v := vr 85) (dt_at dtX11_ahead 13 rfl) (show TT 84 = (0, 10) from rfl) rfl (by decide) wF_X11_291 rfl ?_
  exact K_aret (dt_at dtX11_ahead 14 rfl) rfl (by decide) (by decide) ⟨rfl, A2⟩
def mX11_cupboard : MI := (yX11_cupboard, cX11_cupboard, 3, (some .int), rmK 8 2)
def tX11_cupboard : List (Nat × Instr × Nat) := [(0, .aload_n 0, 1), (1, .iload_n 1, 1), (2, .invokevirtual 172, 3), (5, .iload_n 2, 1), (6, .iconst 0, 1), (7, .bipush 100, 2), (9, .invokestatic 111, 3), (12, .aload_n 0, 1), (13, .iload_n 2, 1), (14, .invokevirtual 234, 3), (17, .iload_n 1, 1), (18, .invokevirtual 181, 3), (21, .ireturn, 1)]
theorem dtX11_cupboard : tX11_cupboard.all (fun q => decide (decode cX11_cupboard q.1 = .ok (q.2.1, q.2.2))) = true := by decide +kernel
theorem npX11_cupboard : (parseMethodDescriptor (mY mX11_cupboard).desc).map (fun d => d.parameters.length) = some 2 := by decide +kernel
theorem vX11_cupboard : mV mX11_cupboard := ⟨wI_X11_cupboard, wS_X11_cupboard, wN_X11, wC_X11_cupboard, by decide +kernel, by decide +kernel⟩
set_option maxHeartbeats 4000000 in
set_option maxRecDepth 100000 in
theorem sX11_cupboard_x1 {h : HP} {t : Nat} {S : HS} {B : Int} {f : Int → Int} {q : Int} {d : Int} (c : CQ h t S B f) (hq : i32 q) (hd : i32 d) (kn : ¬ (0 ≤ q ∧ q < sNt S)) : SpecK mX11_cupboard [vr 30, vi q, vi d] h (fun o h' => o = .inr eNS ∧ FS h h') := by
  refine Spec_of (by decide +kernel) (Nat.le_of_ble_eq_true rfl) ?_
  have ht := c.1
  have hH := TTt ht
  have hB := c.2.2.2.1
  have hNt := hB.1
  have hNp := hB.2.1
  have hT := c.2.2.2.2.2.1
  have hC := c.2.2.2.2.2.2.1
  have h99 := c.2.2.2.2.2.2.2.1
  have G := c.2.2.2.2.2.2.2.2
  have hf0 := hT.2.2.2.1
  refine K_aload_n (dt_at dtX11_cupboard 0 rfl) rfl rfl ?_
  refine K_iload_n (dt_at dtX11_cupboard 1 rfl) rfl rfl ?_
  exact K_callV (M' := mX11_needThing) (a := 30) (ci := 11) (As := [vi q]) (st := []) (dt_at dtX11_cupboard 2 rfl) (sX11_needThing_no hH c.2.1 c.2.2.1.2.1.1 hNt (by assumption) (by omega)) (by decide) rfl wL_X11_172 vX11_needThing rfl npX11_needThing (by decide) (by decide) (Nat.le_of_ble_eq_true rfl) (by decide) (by decide) GK_E (fun v9 h9 hq => by cases hq.1) (fun E h9 hq => by obtain ⟨e9, e8⟩ := hq; cases e9; rw [e8]; exact KX_out (by decide) (by decide) ⟨rfl, FS_rf G⟩)
set_option maxHeartbeats 4000000 in
set_option maxRecDepth 100000 in
theorem sX11_cupboard_x2 {h : HP} {t : Nat} {S : HS} {B : Int} {f : Int → Int} {q : Int} {d : Int} (c : CQ h t S B f) (hq : i32 q) (hd : i32 d) (k0 : 0 ≤ q ∧ q < sNt S) (kn : ¬ (0 ≤ d ∧ d ≤ 100)) : SpecK mX11_cupboard [vr 30, vi q, vi d] h (fun o h' => o = .inr eIA ∧ FS h h') := by
  refine Spec_of (by decide +kernel) (Nat.le_of_ble_eq_true rfl) ?_
  have ht := c.1
  have hH := TTt ht
  have hB := c.2.2.2.1
  have hNt := hB.1
  have hNp := hB.2.1
  have hT := c.2.2.2.2.2.1
  have hC := c.2.2.2.2.2.2.1
  have h99 := c.2.2.2.2.2.2.2.1
  have G := c.2.2.2.2.2.2.2.2
  have hf0 := hT.2.2.2.1
  refine K_aload_n (dt_at dtX11_cupboard 0 rfl) rfl rfl ?_
  refine K_iload_n (dt_at dtX11_cupboard 1 rfl) rfl rfl ?_
  refine K_callV (M' := mX11_needThing) (a := 30) (ci := 11) (As := [vi q]) (st := []) (dt_at dtX11_cupboard 2 rfl) (sX11_needThing hH c.2.1 c.2.2.1.2.1.1 hNt (by first | assumption | exact ⟨by omega, by omega⟩) (by omega)) (by decide) rfl wL_X11_172 vX11_needThing rfl npX11_needThing (by decide) (by decide) (Nat.le_of_ble_eq_true rfl) (by decide) (by decide) GK_E (fun v9 h9 hq => ?_) (fun E h9 hq => by cases hq.1)
  obtain ⟨e9, e8⟩ := hq
  cases e9
  rw [e8]
  show K mX11_cupboard _ _ 1 6 5 [(0, vr 30), (1, vi q), (2, vi d)] [] h
  refine K_iload_n (dt_at dtX11_cupboard 3 rfl) rfl rfl ?_
  refine K_iconst (dt_at dtX11_cupboard 4 rfl) ?_
  refine K_bipush (dt_at dtX11_cupboard 5 rfl) (by decide) ?_
  exact K_callS (M' := mX11_needBetween) (As := [vi d, vi 0, vi 100]) (st := []) (dt_at dtX11_cupboard 6 rfl) (sX11_needBetween_no (by assumption) ⟨by decide, by decide⟩ ⟨by decide, by decide⟩ (by omega)) wL_X11_111 vX11_needBetween rfl npX11_needBetween (by decide) (by decide) (Nat.le_of_ble_eq_true rfl) (by decide) (by decide) GK_E (fun v9 h9 hq => by cases hq.1) (fun E h9 hq => by obtain ⟨e9, e8⟩ := hq; cases e9; rw [e8]; exact KX_out (by decide) (by decide) ⟨rfl, FS_rf G⟩)
set_option maxHeartbeats 4000000 in
set_option maxRecDepth 100000 in
theorem sX11_cupboard {h : HP} {t : Nat} {S : HS} {B : Int} {f : Int → Int} {q : Int} {n : Nat} (c : CQ h t S B f) (hq : 0 ≤ q ∧ q < sNt S) (hn : n ≤ 100) : SpecK mX11_cupboard [vr 30, vi q, vi (n : Int)] h (fun o h' => o = .inl (some (vi ((dysF S f n) (29 + q)))) ∧ FS h h') := by
  refine Spec_of (by decide +kernel) (Nat.le_of_ble_eq_true rfl) ?_
  have ht := c.1
  have hH := TTt ht
  have hB := c.2.2.2.1
  have hNt := hB.1
  have hNp := hB.2.1
  have hT := c.2.2.2.2.2.1
  have hC := c.2.2.2.2.2.2.1
  have h99 := c.2.2.2.2.2.2.2.1
  have G := c.2.2.2.2.2.2.2.2
  have hf0 := hT.2.2.2.1
  obtain ⟨hTn, hCn, h0n⟩ := dysF_ok hB hT hC n (by omega)
  refine K_aload_n (dt_at dtX11_cupboard 0 rfl) rfl rfl ?_
  refine K_iload_n (dt_at dtX11_cupboard 1 rfl) rfl rfl ?_
  refine K_callV (M' := mX11_needThing) (a := 30) (ci := 11) (As := [vi q]) (st := []) (dt_at dtX11_cupboard 2 rfl) (sX11_needThing hH c.2.1 c.2.2.1.2.1.1 hNt (by first | assumption | exact ⟨by omega, by omega⟩) (by omega)) (by decide) rfl wL_X11_172 vX11_needThing rfl npX11_needThing (by decide) (by decide) (Nat.le_of_ble_eq_true rfl) (by decide) (by decide) GK_E (fun v9 h9 hq => ?_) (fun E h9 hq => by cases hq.1)
  obtain ⟨e9, e8⟩ := hq
  cases e9
  rw [e8]
  show K mX11_cupboard _ _ 1 6 5 [(0, vr 30), (1, vi q), (2, vi (n : Int))] [] h
  refine K_iload_n (dt_at dtX11_cupboard 3 rfl) rfl rfl ?_
  refine K_iconst (dt_at dtX11_cupboard 4 rfl) ?_
  refine K_bipush (dt_at dtX11_cupboard 5 rfl) (by decide) ?_
  refine K_callS (M' := mX11_needBetween) (As := [vi (n : Int), vi 0, vi 100]) (st := []) (dt_at dtX11_cupboard 6 rfl) (sX11_needBetween (by first | assumption | exact ⟨by omega, by omega⟩) ⟨by decide, by decide⟩ ⟨by decide, by decide⟩ (by omega)) wL_X11_111 vX11_needBetween rfl npX11_needBetween (by decide) (by decide) (Nat.le_of_ble_eq_true rfl) (by decide) (by decide) GK_E (fun v9 h9 hq => ?_) (fun E h9 hq => by cases hq.1)
  obtain ⟨e9, e8⟩ := hq
  cases e9
  rw [e8]
  show K mX11_cupboard _ _ 2 12 12 [(0, vr 30), (1, vi q), (2, vi (n : Int))] [] h
  refine K_aload_n (dt_at dtX11_cupboard 7 rfl) rfl rfl ?_
  refine K_iload_n (dt_at dtX11_cupboard 8 rfl) rfl rfl ?_
  refine K_callV (M' := mX11_ahead) (a := 30) (ci := 11) (As := [vi (n : Int)]) (st := []) (dt_at dtX11_cupboard 9 rfl) (sX11_ahead c hn) (by decide) rfl wL_X11_234 vX11_ahead rfl npX11_ahead (by decide) (by decide) (Nat.le_of_ble_eq_true rfl) (by decide) (by decide) GK_E (fun v9 hc1 hq => ?_) (fun E h9 hq => by cases hq.1)
  have hqq2 := hq
  obtain ⟨e9q2, Aq2⟩ := hqq2
  have cq2 := CQ_FS c Aq2.1
  cases e9q2
  show K mX11_cupboard _ _ 2 12 17 [(0, vr 30), (1, vi q), (2, vi (n : Int))] [vr 85] hc1
  refine K_iload_n (dt_at dtX11_cupboard 10 rfl) rfl rfl ?_
  refine K_callV (M' := mX8_stock) (a := 85) (ci := 8) (As := [vi q]) (st := []) (dt_at dtX11_cupboard 11 rfl) (sX8_stock (a := 85) (by decide) ⟨by omega, by omega⟩) (by decide) rfl wL_X11_181 vX8_stock rfl npX8_stock (by decide) (by decide) (Nat.le_of_ble_eq_true rfl) (by decide) (by decide) GK_E (fun v9 h9 hq => ?_) (fun E h9 hq => by cases hq.1)
  obtain ⟨e9, e8⟩ := hq
  cases e9
  rw [e8]
  show K mX11_cupboard _ _ 2 12 21 [(0, vr 30), (1, vi q), (2, vi (n : Int))] [vi (hA hc1 (85 + 1) (29 + q))] hc1
  rw [show hA hc1 (85 + 1) = (dysF S f n) from Aq2.2.1]
  exact K_iret (dt_at dtX11_cupboard 12 rfl) rfl rfl (by decide) (by decide) ⟨rfl, Aq2.1⟩
def mX11_packed : MI := (yX11_packed, cX11_packed, 4, (some .int), rmK 8 3)
def tX11_packed : List (Nat × Instr × Nat) := [(0, .aload_n 0, 1), (1, .iload_n 1, 1), (2, .invokevirtual 184, 3), (5, .aload_n 0, 1), (6, .iload_n 2, 1), (7, .invokevirtual 172, 3), (10, .iload_n 3, 1), (11, .iconst 0, 1), (12, .bipush 100, 2), (14, .invokestatic 111, 3), (17, .aload_n 0, 1), (18, .iload_n 3, 1), (19, .invokevirtual 234, 3), (22, .iload_n 1, 1), (23, .iload_n 2, 1), (24, .invokevirtual 218, 3), (27, .ireturn, 1)]
theorem dtX11_packed : tX11_packed.all (fun q => decide (decode cX11_packed q.1 = .ok (q.2.1, q.2.2))) = true := by decide +kernel
theorem npX11_packed : (parseMethodDescriptor (mY mX11_packed).desc).map (fun d => d.parameters.length) = some 3 := by decide +kernel
theorem vX11_packed : mV mX11_packed := ⟨wI_X11_packed, wS_X11_packed, wN_X11, wC_X11_packed, by decide +kernel, by decide +kernel⟩
set_option maxHeartbeats 4000000 in
set_option maxRecDepth 100000 in
theorem sX11_packed_x1 {h : HP} {t : Nat} {S : HS} {B : Int} {f : Int → Int} {p : Int} {q : Int} {d : Int} (c : CQ h t S B f) (hp : i32 p) (hq : i32 q) (hd : i32 d) (kn : ¬ (0 ≤ p ∧ p < sNp S)) : SpecK mX11_packed [vr 30, vi p, vi q, vi d] h (fun o h' => o = .inr eNS ∧ FS h h') := by
  refine Spec_of (by decide +kernel) (Nat.le_of_ble_eq_true rfl) ?_
  have ht := c.1
  have hH := TTt ht
  have hB := c.2.2.2.1
  have hNt := hB.1
  have hNp := hB.2.1
  have hT := c.2.2.2.2.2.1
  have hC := c.2.2.2.2.2.2.1
  have h99 := c.2.2.2.2.2.2.2.1
  have G := c.2.2.2.2.2.2.2.2
  have hf0 := hT.2.2.2.1
  refine K_aload_n (dt_at dtX11_packed 0 rfl) rfl rfl ?_
  refine K_iload_n (dt_at dtX11_packed 1 rfl) rfl rfl ?_
  exact K_callV (M' := mX11_needPerson) (a := 30) (ci := 11) (As := [vi p]) (st := []) (dt_at dtX11_packed 2 rfl) (sX11_needPerson_no hH c.2.1 c.2.2.1.2.1.2 hNp (by assumption) (by omega)) (by decide) rfl wL_X11_184 vX11_needPerson rfl npX11_needPerson (by decide) (by decide) (Nat.le_of_ble_eq_true rfl) (by decide) (by decide) GK_E (fun v9 h9 hq => by cases hq.1) (fun E h9 hq => by obtain ⟨e9, e8⟩ := hq; cases e9; rw [e8]; exact KX_out (by decide) (by decide) ⟨rfl, FS_rf G⟩)
set_option maxHeartbeats 4000000 in
set_option maxRecDepth 100000 in
theorem sX11_packed_x2 {h : HP} {t : Nat} {S : HS} {B : Int} {f : Int → Int} {p : Int} {q : Int} {d : Int} (c : CQ h t S B f) (hp : i32 p) (hq : i32 q) (hd : i32 d) (k0 : 0 ≤ p ∧ p < sNp S) (kn : ¬ (0 ≤ q ∧ q < sNt S)) : SpecK mX11_packed [vr 30, vi p, vi q, vi d] h (fun o h' => o = .inr eNS ∧ FS h h') := by
  refine Spec_of (by decide +kernel) (Nat.le_of_ble_eq_true rfl) ?_
  have ht := c.1
  have hH := TTt ht
  have hB := c.2.2.2.1
  have hNt := hB.1
  have hNp := hB.2.1
  have hT := c.2.2.2.2.2.1
  have hC := c.2.2.2.2.2.2.1
  have h99 := c.2.2.2.2.2.2.2.1
  have G := c.2.2.2.2.2.2.2.2
  have hf0 := hT.2.2.2.1
  refine K_aload_n (dt_at dtX11_packed 0 rfl) rfl rfl ?_
  refine K_iload_n (dt_at dtX11_packed 1 rfl) rfl rfl ?_
  refine K_callV (M' := mX11_needPerson) (a := 30) (ci := 11) (As := [vi p]) (st := []) (dt_at dtX11_packed 2 rfl) (sX11_needPerson hH c.2.1 c.2.2.1.2.1.2 hNp (by first | assumption | exact ⟨by omega, by omega⟩) (by omega)) (by decide) rfl wL_X11_184 vX11_needPerson rfl npX11_needPerson (by decide) (by decide) (Nat.le_of_ble_eq_true rfl) (by decide) (by decide) GK_E (fun v9 h9 hq => ?_) (fun E h9 hq => by cases hq.1)
  obtain ⟨e9, e8⟩ := hq
  cases e9
  rw [e8]
  show K mX11_packed _ _ 1 6 5 [(0, vr 30), (1, vi p), (2, vi q), (3, vi d)] [] h
  refine K_aload_n (dt_at dtX11_packed 3 rfl) rfl rfl ?_
  refine K_iload_n (dt_at dtX11_packed 4 rfl) rfl rfl ?_
  exact K_callV (M' := mX11_needThing) (a := 30) (ci := 11) (As := [vi q]) (st := []) (dt_at dtX11_packed 5 rfl) (sX11_needThing_no hH c.2.1 c.2.2.1.2.1.1 hNt (by assumption) (by omega)) (by decide) rfl wL_X11_172 vX11_needThing rfl npX11_needThing (by decide) (by decide) (Nat.le_of_ble_eq_true rfl) (by decide) (by decide) GK_E (fun v9 h9 hq => by cases hq.1) (fun E h9 hq => by obtain ⟨e9, e8⟩ := hq; cases e9; rw [e8]; exact KX_out (by decide) (by decide) ⟨rfl, FS_rf G⟩)
set_option maxHeartbeats 4000000 in
set_option maxRecDepth 100000 in
theorem sX11_packed_x3 {h : HP} {t : Nat} {S : HS} {B : Int} {f : Int → Int} {p : Int} {q : Int} {d : Int} (c : CQ h t S B f) (hp : i32 p) (hq : i32 q) (hd : i32 d) (k0 : 0 ≤ p ∧ p < sNp S) (k1 : 0 ≤ q ∧ q < sNt S) (kn : ¬ (0 ≤ d ∧ d ≤ 100)) : SpecK mX11_packed [vr 30, vi p, vi q, vi d] h (fun o h' => o = .inr eIA ∧ FS h h') := by
  refine Spec_of (by decide +kernel) (Nat.le_of_ble_eq_true rfl) ?_
  have ht := c.1
  have hH := TTt ht
  have hB := c.2.2.2.1
  have hNt := hB.1
  have hNp := hB.2.1
  have hT := c.2.2.2.2.2.1
  have hC := c.2.2.2.2.2.2.1
  have h99 := c.2.2.2.2.2.2.2.1
  have G := c.2.2.2.2.2.2.2.2
  have hf0 := hT.2.2.2.1
  refine K_aload_n (dt_at dtX11_packed 0 rfl) rfl rfl ?_
  refine K_iload_n (dt_at dtX11_packed 1 rfl) rfl rfl ?_
  refine K_callV (M' := mX11_needPerson) (a := 30) (ci := 11) (As := [vi p]) (st := []) (dt_at dtX11_packed 2 rfl) (sX11_needPerson hH c.2.1 c.2.2.1.2.1.2 hNp (by first | assumption | exact ⟨by omega, by omega⟩) (by omega)) (by decide) rfl wL_X11_184 vX11_needPerson rfl npX11_needPerson (by decide) (by decide) (Nat.le_of_ble_eq_true rfl) (by decide) (by decide) GK_E (fun v9 h9 hq => ?_) (fun E h9 hq => by cases hq.1)
  obtain ⟨e9, e8⟩ := hq
  cases e9
  rw [e8]
  show K mX11_packed _ _ 1 6 5 [(0, vr 30), (1, vi p), (2, vi q), (3, vi d)] [] h
  refine K_aload_n (dt_at dtX11_packed 3 rfl) rfl rfl ?_
  refine K_iload_n (dt_at dtX11_packed 4 rfl) rfl rfl ?_
  refine K_callV (M' := mX11_needThing) (a := 30) (ci := 11) (As := [vi q]) (st := []) (dt_at dtX11_packed 5 rfl) (sX11_needThing hH c.2.1 c.2.2.1.2.1.1 hNt (by first | assumption | exact ⟨by omega, by omega⟩) (by omega)) (by decide) rfl wL_X11_172 vX11_needThing rfl npX11_needThing (by decide) (by decide) (Nat.le_of_ble_eq_true rfl) (by decide) (by decide) GK_E (fun v9 h9 hq => ?_) (fun E h9 hq => by cases hq.1)
  obtain ⟨e9, e8⟩ := hq
  cases e9
  rw [e8]
  show K mX11_packed _ _ 2 12 10 [(0, vr 30), (1, vi p), (2, vi q), (3, vi d)] [] h
  refine K_iload_n (dt_at dtX11_packed 6 rfl) rfl rfl ?_
  refine K_iconst (dt_at dtX11_packed 7 rfl) ?_
  refine K_bipush (dt_at dtX11_packed 8 rfl) (by decide) ?_
  exact K_callS (M' := mX11_needBetween) (As := [vi d, vi 0, vi 100]) (st := []) (dt_at dtX11_packed 9 rfl) (sX11_needBetween_no (by assumption) ⟨by decide, by decide⟩ ⟨by decide, by decide⟩ (by omega)) wL_X11_111 vX11_needBetween rfl npX11_needBetween (by decide) (by decide) (Nat.le_of_ble_eq_true rfl) (by decide) (by decide) GK_E (fun v9 h9 hq => by cases hq.1) (fun E h9 hq => by obtain ⟨e9, e8⟩ := hq; cases e9; rw [e8]; exact KX_out (by decide) (by decide) ⟨rfl, FS_rf G⟩)
set_option maxHeartbeats 4000000 in
set_option maxRecDepth 100000 in
theorem sX11_packed {h : HP} {t : Nat} {S : HS} {B : Int} {f : Int → Int} {p q : Int} {n : Nat} (c : CQ h t S B f) (hp : 0 ≤ p ∧ p < sNp S) (hq : 0 ≤ q ∧ q < sNt S) (hn : n ≤ 100) : SpecK mX11_packed [vr 30, vi p, vi q, vi (n : Int)] h (fun o h' => o = .inl (some (vi ((dysF S f n) (35 + (dysF S f n) (8 + p) * 6 + q)))) ∧ FS h h') := by
  refine Spec_of (by decide +kernel) (Nat.le_of_ble_eq_true rfl) ?_
  have ht := c.1
  have hH := TTt ht
  have hB := c.2.2.2.1
  have hNt := hB.1
  have hNp := hB.2.1
  have hT := c.2.2.2.2.2.1
  have hC := c.2.2.2.2.2.2.1
  have h99 := c.2.2.2.2.2.2.2.1
  have G := c.2.2.2.2.2.2.2.2
  have hf0 := hT.2.2.2.1
  obtain ⟨hTn, hCn, h0n⟩ := dysF_ok hB hT hC n (by omega)
  refine K_aload_n (dt_at dtX11_packed 0 rfl) rfl rfl ?_
  refine K_iload_n (dt_at dtX11_packed 1 rfl) rfl rfl ?_
  refine K_callV (M' := mX11_needPerson) (a := 30) (ci := 11) (As := [vi p]) (st := []) (dt_at dtX11_packed 2 rfl) (sX11_needPerson hH c.2.1 c.2.2.1.2.1.2 hNp (by first | assumption | exact ⟨by omega, by omega⟩) (by omega)) (by decide) rfl wL_X11_184 vX11_needPerson rfl npX11_needPerson (by decide) (by decide) (Nat.le_of_ble_eq_true rfl) (by decide) (by decide) GK_E (fun v9 h9 hq => ?_) (fun E h9 hq => by cases hq.1)
  obtain ⟨e9, e8⟩ := hq
  cases e9
  rw [e8]
  show K mX11_packed _ _ 1 6 5 [(0, vr 30), (1, vi p), (2, vi q), (3, vi (n : Int))] [] h
  refine K_aload_n (dt_at dtX11_packed 3 rfl) rfl rfl ?_
  refine K_iload_n (dt_at dtX11_packed 4 rfl) rfl rfl ?_
  refine K_callV (M' := mX11_needThing) (a := 30) (ci := 11) (As := [vi q]) (st := []) (dt_at dtX11_packed 5 rfl) (sX11_needThing hH c.2.1 c.2.2.1.2.1.1 hNt (by first | assumption | exact ⟨by omega, by omega⟩) (by omega)) (by decide) rfl wL_X11_172 vX11_needThing rfl npX11_needThing (by decide) (by decide) (Nat.le_of_ble_eq_true rfl) (by decide) (by decide) GK_E (fun v9 h9 hq => ?_) (fun E h9 hq => by cases hq.1)
  obtain ⟨e9, e8⟩ := hq
  cases e9
  rw [e8]
  show K mX11_packed _ _ 2 12 10 [(0, vr 30), (1, vi p), (2, vi q), (3, vi (n : Int))] [] h
  refine K_iload_n (dt_at dtX11_packed 6 rfl) rfl rfl ?_
  refine K_iconst (dt_at dtX11_packed 7 rfl) ?_
  refine K_bipush (dt_at dtX11_packed 8 rfl) (by decide) ?_
  refine K_callS (M' := mX11_needBetween) (As := [vi (n : Int), vi 0, vi 100]) (st := []) (dt_at dtX11_packed 9 rfl) (sX11_needBetween (by first | assumption | exact ⟨by omega, by omega⟩) ⟨by decide, by decide⟩ ⟨by decide, by decide⟩ (by omega)) wL_X11_111 vX11_needBetween rfl npX11_needBetween (by decide) (by decide) (Nat.le_of_ble_eq_true rfl) (by decide) (by decide) GK_E (fun v9 h9 hq => ?_) (fun E h9 hq => by cases hq.1)
  obtain ⟨e9, e8⟩ := hq
  cases e9
  rw [e8]
  show K mX11_packed _ _ 3 18 17 [(0, vr 30), (1, vi p), (2, vi q), (3, vi (n : Int))] [] h
  refine K_aload_n (dt_at dtX11_packed 10 rfl) rfl rfl ?_
  refine K_iload_n (dt_at dtX11_packed 11 rfl) rfl rfl ?_
  refine K_callV (M' := mX11_ahead) (a := 30) (ci := 11) (As := [vi (n : Int)]) (st := []) (dt_at dtX11_packed 12 rfl) (sX11_ahead c hn) (by decide) rfl wL_X11_234 vX11_ahead rfl npX11_ahead (by decide) (by decide) (Nat.le_of_ble_eq_true rfl) (by decide) (by decide) GK_E (fun v9 hc1 hq => ?_) (fun E h9 hq => by cases hq.1)
  have hqq2 := hq
  obtain ⟨e9q2, Aq2⟩ := hqq2
  have cq2 := CQ_FS c Aq2.1
  cases e9q2
  show K mX11_packed _ _ 3 18 22 [(0, vr 30), (1, vi p), (2, vi q), (3, vi (n : Int))] [vr 85] hc1
  refine K_iload_n (dt_at dtX11_packed 13 rfl) rfl rfl ?_
  refine K_iload_n (dt_at dtX11_packed 14 rfl) rfl rfl ?_
  refine K_callV (M' := mX8_pieces) (a := 85) (ci := 8) (As := [vi p, vi q]) (st := []) (dt_at dtX11_packed 15 rfl) (sX8_pieces (a := 85) (by decide) ⟨by omega, by omega⟩ ⟨by omega, by omega⟩ (by rw [show hA hc1 (85 + 1) = (dysF S f n) from Aq2.2.1]; exact (hTn.1.2 p (by omega) (by omega)).2.1)) (by decide) rfl wL_X11_218 vX8_pieces rfl npX8_pieces (by decide) (by decide) (Nat.le_of_ble_eq_true rfl) (by decide) (by decide) GK_E (fun v9 h9 hq => ?_) (fun E h9 hq => by cases hq.1)
  obtain ⟨e9, e8⟩ := hq
  cases e9
  rw [e8]
  show K mX11_packed _ _ 3 18 27 [(0, vr 30), (1, vi p), (2, vi q), (3, vi (n : Int))] [vi (hA hc1 (85 + 1) (35 + (hA hc1 (85 + 1) (8 + p)) * 6 + q))] hc1
  rw [show hA hc1 (85 + 1) = (dysF S f n) from Aq2.2.1]
  exact K_iret (dt_at dtX11_packed 16 rfl) rfl rfl (by decide) (by decide) ⟨rfl, Aq2.1⟩
