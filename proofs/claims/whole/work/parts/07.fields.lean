/-! fields and arrays -/
def tyT : Nat → (Nat → FieldType)
  | 0 => tyX0
  | 1 => tyX1
  | 2 => tyX2
  | 3 => tyX3
  | 4 => tyX4
  | 5 => tyX5
  | 6 => tyX6
  | 7 => tyX7
  | 8 => tyX8
  | 9 => tyX9
  | 10 => tyX10
  | 11 => tyX11
  | _ => tyX12
theorem cl_ok {ci : Nat} {q : vw_C} (h : vwCl[ci]? = some q) : ci < 13 ∧ q.2.2 = nF ci ∧ (∀ w ∈ u_ws q.1 q.2.1 q.2.2, w ∈ gw) ∧ (∀ k, k < q.2.2 → parseFieldDescriptor (q.2.1 k).2.2.1 = some (tyT ci k)) ∧ (∀ a, a < q.2.2 → ∀ b, b < q.2.2 → a ≠ b → (q.2.1 a).2.1 ≠ (q.2.1 b).2.1) := by
  match ci, h with
  | 0, h => cases h; exact ⟨by decide, by decide, wU_X0, tyX0_ok, nmX0⟩
  | 1, h => cases h; exact ⟨by decide, by decide, wU_X1, tyX1_ok, nmX1⟩
  | 2, h => cases h; exact ⟨by decide, by decide, wU_X2, tyX2_ok, nmX2⟩
  | 3, h => cases h; exact ⟨by decide, by decide, wU_X3, tyX3_ok, nmX3⟩
  | 4, h => cases h; exact ⟨by decide, by decide, wU_X4, tyX4_ok, nmX4⟩
  | 5, h => cases h; exact ⟨by decide, by decide, wU_X5, tyX5_ok, nmX5⟩
  | 6, h => cases h; exact ⟨by decide, by decide, wU_X6, tyX6_ok, nmX6⟩
  | 7, h => cases h; exact ⟨by decide, by decide, wU_X7, tyX7_ok, nmX7⟩
  | 8, h => cases h; exact ⟨by decide, by decide, wU_X8, tyX8_ok, nmX8⟩
  | 9, h => cases h; exact ⟨by decide, by decide, wU_X9, tyX9_ok, nmX9⟩
  | 10, h => cases h; exact ⟨by decide, by decide, wU_X10, tyX10_ok, nmX10⟩
  | 11, h => cases h; exact ⟨by decide, by decide, wU_X11, tyX11_ok, nmX11⟩
  | 12, h => cases h; exact ⟨by decide, by decide, wU_X12, tyX12_ok, nmX12⟩
  | n + 13, h => simp [vwCl] at h
theorem cv_fv (as ad ad' : Nat → Nat) (h : HP) (a ci k : Nat) : cv as ad (fv h a ci k) = cv as ad' (fv h a ci k) := by
  unfold fv
  split <;> rfl
theorem en_obj {as : Nat → Nat} {C : Nat → ClassId} {h : HP} {a ci : Nat} (hT : TT a = (0, ci)) : en as C h a = .inr (ci, (List.range (nF ci)).map (fun k => cv as (fun _ => 0) (fv h a ci k))) := by
  unfold en
  rw [hT]
  try rfl
theorem fl_at {as ad : Nat → Nat} {h : HP} {a ci k : Nat} (hk : k < nF ci) : ((List.range (nF ci)).map (fun k => cv as (fun _ => 0) (fv h a ci k)))[k]? = some (cv as ad (fv h a ci k)) := by
  rw [List.getElem?_map, List.getElem?_range hk, cv_fv as ad (fun _ => 0)]
  rfl
theorem fl_set {as ad : Nat → Nat} {h h' : HP} {a ci k : Nat} {v : AV} (hk : k < nF ci) (hv : fv h' a ci k = v) (ho : ∀ j, j ≠ k → fv h' a ci j = fv h a ci j) : ((List.range (nF ci)).map (fun k => cv as (fun _ => 0) (fv h a ci k))).set k (cv as ad v) = (List.range (nF ci)).map (fun k => cv as (fun _ => 0) (fv h' a ci k)) := by
  apply List.ext_getElem?
  intro j
  rcases Nat.lt_or_ge j (nF ci) with q | q
  · rw [fl_at (ad := ad) (h := h') q, List.getElem?_set]
    by_cases e1 : k = j
    · subst e1
      rw [if_pos rfl, if_pos (by simp; exact hk), hv]
    · rw [if_neg e1, fl_at (ad := ad) (h := h) q, ho j (fun z => e1 z.symm)]
  · rw [List.getElem?_eq_none (by simp; exact q), List.getElem?_eq_none (by simp; exact q)]
theorem fv_I {h : HP} {a ci k : Nat} (hk : (fk ci k).1 = 0 ∨ (fk ci k).1 = 4) (x : Int) : fv (sI h a k x) a ci k = vi x := by
  unfold fv
  rcases hk with hk | hk <;> rw [hk] <;> simp [hI, sI]
theorem fv_L {h : HP} {a ci k : Nat} (hk : (fk ci k).1 = 1) (x : Int) : fv (sI h a k x) a ci k = vl x := by
  unfold fv
  rw [hk]
  simp [hI, sI]
theorem fv_R {h : HP} {a ci k : Nat} (hk : (fk ci k).1 = 3) (b : Nat) : fv (sR h a k b) a ci k = vr b := by
  unfold fv
  rw [hk]
  simp [hR, sR]
theorem fv_Io {h : HP} {a b ci j k : Nat} {x : Int} (ho : b ≠ a ∨ j ≠ k) : fv (sI h a k x) b ci j = fv h b ci j := by
  have e1 : hI (sI h a k x) b j = hI h b j := by
    show (if b = a ∧ j = k then x else h.1 b j) = h.1 b j
    rw [if_neg (fun z => by rcases ho with q | q; exact q z.1; exact q z.2)]
  have e2 : hR (sI h a k x) b j = hR h b j := rfl
  unfold fv
  rw [e1, e2]
theorem fv_Ro {h : HP} {a b ci j k x : Nat} (ho : b ≠ a ∨ j ≠ k) : fv (sR h a k x) b ci j = fv h b ci j := by
  have e1 : hR (sR h a k x) b j = hR h b j := by
    show (if b = a ∧ j = k then x else h.2.2 b j) = h.2.2 b j
    rw [if_neg (fun z => by rcases ho with q | q; exact q z.1; exact q z.2)]
  have e2 : hI (sR h a k x) b j = hI h b j := rfl
  unfold fv
  rw [e1, e2]
theorem en_fo {as : Nat → Nat} {C : Nat → ClassId} {h h' : HP} {b : Nat} (hf : ∀ ci j, fv h' b ci j = fv h b ci j) (ha : ∀ i, hA h' b i = hA h b i) : en as C h' b = en as C h b := by
  unfold en
  simp only [hf, ha]
theorem TT_small (a : Nat) : (TT a).2 ≤ 3080 := by
  rcases Nat.lt_or_ge a 120 with q | q
  · have h : ∀ a, a < 120 → (TT a).2 ≤ 3080 := by decide +kernel
    exact h a q
  · unfold TT
    rw [List.getD_eq_getElem?_getD, List.getElem?_eq_none (by rw [lyT_len]; exact q)]
    decide
theorem TT_n {a t n : Nat} (h : TT a = (t, n)) : n < 2147483648 := by
  have := TT_small a
  rw [h] at this
  have h2 : n ≤ 3080 := this
  omega
section KF
variable {M : MI} {G : CT → Prop} {Z : CT → State → Prop} {nc ns pc : Nat} {ls : List (Nat × AV)} {st : List AV} {h : HP}
theorem K_get {a ci k ix : Nat} {R : String} {T : u_T} {n : Nat} {v : AV} (hd : decode (mB M) pc = .ok (.getfield ix, 3)) (hT : TT a = (0, ci)) (hc : vwCl[ci]? = some (R, T, n)) (hk : k < n) (hw : Cond.fieldLink (mY M).cls ix (T k).1 (T k).2.1 (T k).2.2.1 ∈ gw) (hv : fv h a ci k = v)
    (kk : K M G Z nc ns (pc + 3) ls (v :: st) h) : K M G Z nc ns pc ls (vr a :: st) h := by
  intro p l e s m args below meth c D C as ad av H locs lsA cx hG hP hS hl
  obtain ⟨hx, hb, hml, hr, hlk, hown, hts, hK, hj⟩ := id cx
  obtain ⟨-, h2, h3, -, -⟩ := cl_ok hc
  have h2 : n = nF ci := h2
  subst h2
  have ha : a < 120 := TT_lt hT (fun z => by simp at z)
  have he := wsK_get as C h ha
  rw [en_obj hT] at he
  subst hv
  exact va_get (D := D) (ci := ci) (v := cv as ad (fv h a ci k)) (C := R) (T := T) (N := nF ci) hx hb hts h3 hown hK hP a he hc k hk (hts _ hw) (fun _ h9 => h9) (fl_at hk) hd (kk p l e s m args below meth c D C as ad av H locs lsA cx hG hP hS hl)
theorem K_putI {a ci k ix : Nat} {R : String} {T : u_T} {n : Nat} {x : Int} (hd : decode (mB M) pc = .ok (.putfield ix, 3)) (hT : TT a = (0, ci)) (hc : vwCl[ci]? = some (R, T, n)) (hk : k < n) (hw : Cond.fieldLink (mY M).cls ix (T k).1 (T k).2.1 (T k).2.2.1 ∈ gw) (hf : (T k).2.2.2 = false) (hkd : (fk ci k).1 = 0 ∨ (fk ci k).1 = 4)
    (hn : narrow (tyT ci k) (.int (Int32.ofInt x)) = .int (Int32.ofInt x)) (hfit : fits (tyT ci k) (.int (Int32.ofInt x)) = true)
    (kk : K M G Z nc ns (pc + 3) ls st (sI h a k x)) : K M G Z nc ns pc ls (vi x :: vr a :: st) h := by
  intro p l e s m args below meth c D C as ad av H locs lsA cx hG hP hS hl
  obtain ⟨hx, hb, hml, hr, hlk, hown, hts, hK, hj⟩ := id cx
  obtain ⟨-, h2, h3, h4, h5⟩ := cl_ok hc
  have h2 : n = nF ci := h2
  subst h2
  have ha : a < 120 := TT_lt hT (fun z => by simp at z)
  have he := wsK_get as C h ha
  rw [en_obj hT] at he
  refine va_put (D := D) (ci := ci) (v := cv as ad (vi x)) (ty := tyT ci k) (C := R) (T := T) (N := nF ci) hx hb hts h3 (tyT ci) h4 h5 hown hK hP (wsK_D hj) hS a he hc k hk (hts _ hw) (fun _ h9 => h9) hf (h4 k hk) hn hfit (by simp; exact hk) hd (fun H1 locs1 hP1 hD1 hS1 => ?_)
  have e9 : (wsK as C h).set a (as a, .inr (ci, ((List.range (nF ci)).map (fun k => cv as (fun _ => 0) (fv h a ci k))).set k (cv as ad (vi x)))) = wsK as C (sI h a k x) := by
    refine wsK_set ha ?_ (fun b hb => en_fo (fun ci j => fv_Io (Or.inl hb)) (fun i => rfl))
    rw [en_obj hT, fl_set hk (fv_I hkd x) (fun j hj => fv_Io (Or.inr hj))]
  rw [e9] at hP1
  exact kk p l e s m args below meth c D C as ad av H1 locs1 lsA cx hG hP1 hS1 hl
theorem K_putL {a ci k ix : Nat} {R : String} {T : u_T} {n : Nat} {x : Int} (hd : decode (mB M) pc = .ok (.putfield ix, 3)) (hT : TT a = (0, ci)) (hc : vwCl[ci]? = some (R, T, n)) (hk : k < n) (hw : Cond.fieldLink (mY M).cls ix (T k).1 (T k).2.1 (T k).2.2.1 ∈ gw) (hf : (T k).2.2.2 = false) (hkd : (fk ci k).1 = 1)
    (hn : narrow (tyT ci k) (.long (Int64.ofInt x)) = .long (Int64.ofInt x)) (hfit : fits (tyT ci k) (.long (Int64.ofInt x)) = true)
    (kk : K M G Z nc ns (pc + 3) ls st (sI h a k x)) : K M G Z nc ns pc ls (vl x :: vr a :: st) h := by
  intro p l e s m args below meth c D C as ad av H locs lsA cx hG hP hS hl
  obtain ⟨hx, hb, hml, hr, hlk, hown, hts, hK, hj⟩ := id cx
  obtain ⟨-, h2, h3, h4, h5⟩ := cl_ok hc
  have h2 : n = nF ci := h2
  subst h2
  have ha : a < 120 := TT_lt hT (fun z => by simp at z)
  have he := wsK_get as C h ha
  rw [en_obj hT] at he
  refine va_put (D := D) (ci := ci) (v := cv as ad (vl x)) (ty := tyT ci k) (C := R) (T := T) (N := nF ci) hx hb hts h3 (tyT ci) h4 h5 hown hK hP (wsK_D hj) hS a he hc k hk (hts _ hw) (fun _ h9 => h9) hf (h4 k hk) hn hfit (by simp; exact hk) hd (fun H1 locs1 hP1 hD1 hS1 => ?_)
  have e9 : (wsK as C h).set a (as a, .inr (ci, ((List.range (nF ci)).map (fun k => cv as (fun _ => 0) (fv h a ci k))).set k (cv as ad (vl x)))) = wsK as C (sI h a k x) := by
    refine wsK_set ha ?_ (fun b hb => en_fo (fun ci j => fv_Io (Or.inl hb)) (fun i => rfl))
    rw [en_obj hT, fl_set hk (fv_L hkd x) (fun j hj => fv_Io (Or.inr hj))]
  rw [e9] at hP1
  exact kk p l e s m args below meth c D C as ad av H1 locs1 lsA cx hG hP1 hS1 hl
theorem K_putR {a ci k ix b : Nat} {R : String} {T : u_T} {n : Nat} (hd : decode (mB M) pc = .ok (.putfield ix, 3)) (hT : TT a = (0, ci)) (hc : vwCl[ci]? = some (R, T, n)) (hk : k < n) (hw : Cond.fieldLink (mY M).cls ix (T k).1 (T k).2.1 (T k).2.2.1 ∈ gw) (hf : (T k).2.2.2 = false) (hkd : (fk ci k).1 = 3)
    (hn : ∀ q : Nat, narrow (tyT ci k) (.ref q) = .ref q) (hfit : ∀ q : Nat, fits (tyT ci k) (.ref q) = true)
    (kk : K M G Z nc ns (pc + 3) ls st (sR h a k b)) : K M G Z nc ns pc ls (vr b :: vr a :: st) h := by
  intro p l e s m args below meth c D C as ad av H locs lsA cx hG hP hS hl
  obtain ⟨hx, hb, hml, hr, hlk, hown, hts, hK, hj⟩ := id cx
  obtain ⟨-, h2, h3, h4, h5⟩ := cl_ok hc
  have h2 : n = nF ci := h2
  subst h2
  have ha : a < 120 := TT_lt hT (fun z => by simp at z)
  have he := wsK_get as C h ha
  rw [en_obj hT] at he
  refine va_put (D := D) (ci := ci) (v := cv as ad (vr b)) (ty := tyT ci k) (C := R) (T := T) (N := nF ci) hx hb hts h3 (tyT ci) h4 h5 hown hK hP (wsK_D hj) hS a he hc k hk (hts _ hw) (fun _ h9 => h9) hf (h4 k hk) (hn _) (hfit _) (by simp; exact hk) hd (fun H1 locs1 hP1 hD1 hS1 => ?_)
  have e9 : (wsK as C h).set a (as a, .inr (ci, ((List.range (nF ci)).map (fun k => cv as (fun _ => 0) (fv h a ci k))).set k (cv as ad (vr b)))) = wsK as C (sR h a k b) := by
    refine wsK_set ha ?_ (fun b9 hb => en_fo (fun ci j => fv_Ro (Or.inl hb)) (fun i => rfl))
    rw [en_obj hT, fl_set hk (fv_R hkd b) (fun j hj => fv_Ro (Or.inr hj))]
  rw [e9] at hP1
  exact kk p l e s m args below meth c D C as ad av H1 locs1 lsA cx hG hP1 hS1 hl
end KF
theorem nat_cast {i : Int} (h0 : 0 ≤ i) : ((i.toNat : Nat) : Int) = i := Int.toNat_of_nonneg h0
theorem upd_A {h : HP} {a : Nat} {i x : Int} (h0 : 0 ≤ i) : upd (fun j : Nat => Int32.ofInt (hA h a j)) i.toNat (Int32.ofInt x) = fun j : Nat => Int32.ofInt (hA (sA h a i x) a j) := by
  funext j
  show (if j = i.toNat then Int32.ofInt x else Int32.ofInt (hA h a j)) = Int32.ofInt (if a = a ∧ (j : Int) = i then x else hA h a j)
  by_cases q : j = i.toNat
  · rw [if_pos q, if_pos ⟨rfl, by omega⟩]
  · rw [if_neg q, if_neg (fun z => q (by have := z.2; omega))]
theorem updL_A {h : HP} {a : Nat} {i x : Int} (h0 : 0 ≤ i) : vp_updL (fun j : Nat => Int64.ofInt (hA h a j)) i.toNat (Int64.ofInt x) = fun j : Nat => Int64.ofInt (hA (sA h a i x) a j) := by
  funext j
  show (if j = i.toNat then Int64.ofInt x else Int64.ofInt (hA h a j)) = Int64.ofInt (if a = a ∧ (j : Int) = i then x else hA h a j)
  by_cases q : j = i.toNat
  · rw [if_pos q, if_pos ⟨rfl, by omega⟩]
  · rw [if_neg q, if_neg (fun z => q (by have := z.2; omega))]
theorem en_Ao {as : Nat → Nat} {C : Nat → ClassId} {h : HP} {a b : Nat} {i x : Int} (hb : b ≠ a) : en as C (sA h a i x) b = en as C h b := by
  refine en_fo (fun ci j => rfl) (fun i9 => ?_)
  show (if b = a ∧ i9 = i then x else h.2.1 b i9) = h.2.1 b i9
  rw [if_neg (fun z => hb z.1)]
section KA
variable {M : MI} {G : CT → Prop} {Z : CT → State → Prop} {nc ns pc : Nat} {ls : List (Nat × AV)} {st : List AV} {h : HP}
theorem K_iald {a n : Nat} {i : Int} (hd : decode (mB M) pc = .ok (.iaload, 1)) (hT : TT a = (1, n)) (h0 : 0 ≤ i) (h1 : i < n) (k : K M G Z nc ns (pc + 1) ls (vi (hA h a i) :: st) h) : K M G Z nc ns pc ls (vi i :: vr a :: st) h := by
  intro p l e s m args below meth c D C as ad av H locs lsA cx hG hP hS hl
  obtain ⟨hx, hb, hml, hr, hlk, hown, hts, hK, hj⟩ := id cx
  have ha : a < 120 := TT_lt hT (fun z => by simp at z)
  have hn9 := TT_n hT
  have he := wsK_get as C h ha
  have hen : en as C h a = .inl (C 0, n, .inl (fun i => Int32.ofInt (hA h a i))) := by unfold en; rw [hT]; try rfl
  rw [hen] at he
  refine va_iald hx hb hK hP a 0 he rfl (oI_in h0 h1 hn9) hd ?_
  rw [oI_nat h0 h1 hn9]
  try dsimp only
  rw [nat_cast h0]
  exact k p l e s m args below meth c D C as ad av H locs lsA cx hG hP hS hl
theorem K_bald {a n : Nat} {i : Int} (hd : decode (mB M) pc = .ok (.baload, 1)) (hT : TT a = (2, n)) (h0 : 0 ≤ i) (h1 : i < n) (k : K M G Z nc ns (pc + 1) ls (vi (hA h a i) :: st) h) : K M G Z nc ns pc ls (vi i :: vr a :: st) h := by
  intro p l e s m args below meth c D C as ad av H locs lsA cx hG hP hS hl
  obtain ⟨hx, hb, hml, hr, hlk, hown, hts, hK, hj⟩ := id cx
  have ha : a < 120 := TT_lt hT (fun z => by simp at z)
  have hn9 := TT_n hT
  have he := wsK_get as C h ha
  have hen : en as C h a = .inl (C 1, n, .inl (fun i => Int32.ofInt (hA h a i))) := by unfold en; rw [hT]; try rfl
  rw [hen] at he
  refine va_bald hx hb hK hP a 1 he rfl (oI_in h0 h1 hn9) hd ?_
  rw [oI_nat h0 h1 hn9]
  try dsimp only
  rw [nat_cast h0]
  exact k p l e s m args below meth c D C as ad av H locs lsA cx hG hP hS hl
theorem K_zald {a n : Nat} {i : Int} (hd : decode (mB M) pc = .ok (.baload, 1)) (hT : TT a = (3, n)) (h0 : 0 ≤ i) (h1 : i < n) (k : K M G Z nc ns (pc + 1) ls (vi (hA h a i) :: st) h) : K M G Z nc ns pc ls (vi i :: vr a :: st) h := by
  intro p l e s m args below meth c D C as ad av H locs lsA cx hG hP hS hl
  obtain ⟨hx, hb, hml, hr, hlk, hown, hts, hK, hj⟩ := id cx
  have ha : a < 120 := TT_lt hT (fun z => by simp at z)
  have hn9 := TT_n hT
  have he := wsK_get as C h ha
  have hen : en as C h a = .inl (C 2, n, .inl (fun i => Int32.ofInt (hA h a i))) := by unfold en; rw [hT]; try rfl
  rw [hen] at he
  refine va_zald hx hb hK hP a 2 he rfl (oI_in h0 h1 hn9) hd ?_
  rw [oI_nat h0 h1 hn9]
  try dsimp only
  rw [nat_cast h0]
  exact k p l e s m args below meth c D C as ad av H locs lsA cx hG hP hS hl
theorem K_lald {a n : Nat} {i : Int} (hd : decode (mB M) pc = .ok (.laload, 1)) (hT : TT a = (4, n)) (h0 : 0 ≤ i) (h1 : i < n) (k : K M G Z nc ns (pc + 1) ls (vl (hA h a i) :: st) h) : K M G Z nc ns pc ls (vi i :: vr a :: st) h := by
  intro p l e s m args below meth c D C as ad av H locs lsA cx hG hP hS hl
  obtain ⟨hx, hb, hml, hr, hlk, hown, hts, hK, hj⟩ := id cx
  have ha : a < 120 := TT_lt hT (fun z => by simp at z)
  have hn9 := TT_n hT
  have he := wsK_get as C h ha
  have hen : en as C h a = .inl (C 3, n, .inr (.inl (fun i => Int64.ofInt (hA h a i)))) := by unfold en; rw [hT]; try rfl
  rw [hen] at he
  refine va_lald hx hb hK hP a 3 he rfl (oI_in h0 h1 hn9) hd ?_
  rw [oI_nat h0 h1 hn9]
  try dsimp only
  rw [nat_cast h0]
  exact k p l e s m args below meth c D C as ad av H locs lsA cx hG hP hS hl
theorem K_iast {a n : Nat} {i x : Int} (hd : decode (mB M) pc = .ok (.iastore, 1)) (hT : TT a = (1, n)) (h0 : 0 ≤ i) (h1 : i < n) (k : K M G Z nc ns (pc + 1) ls st (sA h a i x)) : K M G Z nc ns pc ls (vi x :: vi i :: vr a :: st) h := by
  intro p l e s m args below meth c D C as ad av H locs lsA cx hG hP hS hl
  obtain ⟨hx, hb, hml, hr, hlk, hown, hts, hK, hj⟩ := id cx
  have ha : a < 120 := TT_lt hT (fun z => by simp at z)
  have hn9 := TT_n hT
  have he := wsK_get as C h ha
  have hen : en as C h a = .inl (C 0, n, .inl (fun i => Int32.ofInt (hA h a i))) := by unfold en; rw [hT]; try rfl
  rw [hen] at he
  refine va_iast hx hb hK hP (wsK_D hj) hS a 0 he rfl (oI_in h0 h1 hn9) hd (fun H1 locs1 hP1 hD1 hS1 => ?_)
  rw [oI_nat h0 h1 hn9] at hP1
  skip
  rw [upd_A h0] at hP1
  have e9 : (wsK as C h).set a (as a, .inl (C 0, n, .inl (fun j : Nat => Int32.ofInt (hA (sA h a i x) a j)))) = wsK as C (sA h a i x) := wsK_set ha (by unfold en; rw [hT]; try rfl) (fun b hb => en_Ao hb)
  rw [e9] at hP1
  exact k p l e s m args below meth c D C as ad av H1 locs1 lsA cx hG hP1 hS1 hl
theorem fb_byte9 {x : Int} (h1 : -128 ≤ x) (h2 : x < 128) : (Int32.ofInt x).toInt8.toInt32 = Int32.ofInt x := by
  rw [← Int32.toInt_inj, Int8.toInt_toInt32, Int32.toInt_toInt8, oI_to ⟨by omega, by omega⟩]
  exact Int.bmod_eq_of_le (by omega) (by omega)
theorem nar_z9 {x : Int} (h : x = 0 ∨ x = 1) : vp_nar .boolean (Int32.ofInt x) = Int32.ofInt x := by
  rcases h with rfl | rfl <;> decide
theorem K_bast {a n : Nat} {i x : Int} (hd : decode (mB M) pc = .ok (.bastore, 1)) (hT : TT a = (2, n)) (h0 : 0 ≤ i) (h1 : i < n) (hx0 : -128 ≤ x ∧ x < 128) (k : K M G Z nc ns (pc + 1) ls st (sA h a i x)) : K M G Z nc ns pc ls (vi x :: vi i :: vr a :: st) h := by
  intro p l e s m args below meth c D C as ad av H locs lsA cx hG hP hS hl
  obtain ⟨hx, hb, hml, hr, hlk, hown, hts, hK, hj⟩ := id cx
  have ha : a < 120 := TT_lt hT (fun z => by simp at z)
  have hn9 := TT_n hT
  have he := wsK_get as C h ha
  have hen : en as C h a = .inl (C 1, n, .inl (fun i => Int32.ofInt (hA h a i))) := by unfold en; rw [hT]; try rfl
  rw [hen] at he
  refine va_bast hx hb hK hP (wsK_D hj) hS a 1 he rfl (oI_in h0 h1 hn9) hd (fun H1 locs1 hP1 hD1 hS1 => ?_)
  rw [oI_nat h0 h1 hn9] at hP1
  rw [vp_nar_byte, show (Int32.ofInt x).toInt8.toInt32 = Int32.ofInt x from fb_byte9 hx0.1 hx0.2] at hP1
  rw [upd_A h0] at hP1
  have e9 : (wsK as C h).set a (as a, .inl (C 1, n, .inl (fun j : Nat => Int32.ofInt (hA (sA h a i x) a j)))) = wsK as C (sA h a i x) := wsK_set ha (by unfold en; rw [hT]; try rfl) (fun b hb => en_Ao hb)
  rw [e9] at hP1
  exact k p l e s m args below meth c D C as ad av H1 locs1 lsA cx hG hP1 hS1 hl
theorem K_zast {a n : Nat} {i x : Int} (hd : decode (mB M) pc = .ok (.bastore, 1)) (hT : TT a = (3, n)) (h0 : 0 ≤ i) (h1 : i < n) (hx0 : x = 0 ∨ x = 1) (k : K M G Z nc ns (pc + 1) ls st (sA h a i x)) : K M G Z nc ns pc ls (vi x :: vi i :: vr a :: st) h := by
  intro p l e s m args below meth c D C as ad av H locs lsA cx hG hP hS hl
  obtain ⟨hx, hb, hml, hr, hlk, hown, hts, hK, hj⟩ := id cx
  have ha : a < 120 := TT_lt hT (fun z => by simp at z)
  have hn9 := TT_n hT
  have he := wsK_get as C h ha
  have hen : en as C h a = .inl (C 2, n, .inl (fun i => Int32.ofInt (hA h a i))) := by unfold en; rw [hT]; try rfl
  rw [hen] at he
  refine va_zast hx hb hK hP (wsK_D hj) hS a 2 he rfl (oI_in h0 h1 hn9) hd (fun H1 locs1 hP1 hD1 hS1 => ?_)
  rw [oI_nat h0 h1 hn9] at hP1
  rw [nar_z9 hx0] at hP1
  rw [upd_A h0] at hP1
  have e9 : (wsK as C h).set a (as a, .inl (C 2, n, .inl (fun j : Nat => Int32.ofInt (hA (sA h a i x) a j)))) = wsK as C (sA h a i x) := wsK_set ha (by unfold en; rw [hT]; try rfl) (fun b hb => en_Ao hb)
  rw [e9] at hP1
  exact k p l e s m args below meth c D C as ad av H1 locs1 lsA cx hG hP1 hS1 hl
theorem K_last {a n : Nat} {i x : Int} (hd : decode (mB M) pc = .ok (.lastore, 1)) (hT : TT a = (4, n)) (h0 : 0 ≤ i) (h1 : i < n) (k : K M G Z nc ns (pc + 1) ls st (sA h a i x)) : K M G Z nc ns pc ls (vl x :: vi i :: vr a :: st) h := by
  intro p l e s m args below meth c D C as ad av H locs lsA cx hG hP hS hl
  obtain ⟨hx, hb, hml, hr, hlk, hown, hts, hK, hj⟩ := id cx
  have ha : a < 120 := TT_lt hT (fun z => by simp at z)
  have hn9 := TT_n hT
  have he := wsK_get as C h ha
  have hen : en as C h a = .inl (C 3, n, .inr (.inl (fun i => Int64.ofInt (hA h a i)))) := by unfold en; rw [hT]; try rfl
  rw [hen] at he
  refine va_last hx hb hK hP (wsK_D hj) hS a 3 he rfl (oI_in h0 h1 hn9) hd (fun H1 locs1 hP1 hD1 hS1 => ?_)
  rw [oI_nat h0 h1 hn9] at hP1
  skip
  rw [updL_A h0] at hP1
  have e9 : (wsK as C h).set a (as a, .inl (C 3, n, .inr (.inl (fun j : Nat => Int64.ofInt (hA (sA h a i x) a j))))) = wsK as C (sA h a i x) := wsK_set ha (by unfold en; rw [hT]; try rfl) (fun b hb => en_Ao hb)
  rw [e9] at hP1
  exact k p l e s m args below meth c D C as ad av H1 locs1 lsA cx hG hP1 hS1 hl
theorem K_alen {a n : Nat} (hd : decode (mB M) pc = .ok (.arraylength, 1)) (hT : TT a = (1, n)) (k : K M G Z nc ns (pc + 1) ls (vi n :: st) h) : K M G Z nc ns pc ls (vr a :: st) h := by
  intro p l e s m args below meth c D C as ad av H locs lsA cx hG hP hS hl
  obtain ⟨hx, hb, hml, hr, hlk, hown, hts, hK, hj⟩ := id cx
  have ha : a < 120 := TT_lt hT (fun z => by simp at z)
  have hn9 := TT_n hT
  have he := wsK_get as C h ha
  have hen : en as C h a = .inl (C 0, n, .inl (fun i => Int32.ofInt (hA h a i))) := by unfold en; rw [hT]; try rfl
  rw [hen] at he
  exact va_alen hx hb hK hP a 0 he rfl (v := Int32.ofInt n) rfl hd (k p l e s m args below meth c D C as ad av H locs lsA cx hG hP hS hl)
theorem K_alenB {a n : Nat} (hd : decode (mB M) pc = .ok (.arraylength, 1)) (hT : TT a = (2, n)) (k : K M G Z nc ns (pc + 1) ls (vi n :: st) h) : K M G Z nc ns pc ls (vr a :: st) h := by
  intro p l e s m args below meth c D C as ad av H locs lsA cx hG hP hS hl
  obtain ⟨hx, hb, hml, hr, hlk, hown, hts, hK, hj⟩ := id cx
  have ha : a < 120 := TT_lt hT (fun z => by simp at z)
  have hn9 := TT_n hT
  have he := wsK_get as C h ha
  have hen : en as C h a = .inl (C 1, n, .inl (fun i => Int32.ofInt (hA h a i))) := by unfold en; rw [hT]; try rfl
  rw [hen] at he
  exact va_alen hx hb hK hP a 1 he rfl (v := Int32.ofInt n) rfl hd (k p l e s m args below meth c D C as ad av H locs lsA cx hG hP hS hl)
theorem K_aald {a n : Nat} {i : Int} (hd : decode (mB M) pc = .ok (.aaload, 1)) (hT : TT a = (5, n)) (h0 : 0 ≤ i) (h1 : i < n) (k : K M G Z nc ns (pc + 1) ls (vr (a + 1 + i.toNat) :: st) h) : K M G Z nc ns pc ls (vi i :: vr a :: st) h := by
  intro p l e s m args below meth c D C as ad av H locs lsA cx hG hP hS hl
  obtain ⟨hx, hb, hml, hr, hlk, hown, hts, hK, hj⟩ := id cx
  have ha : a < 120 := TT_lt hT (fun z => by simp at z)
  have hn9 := TT_n hT
  have he := wsK_get as C h ha
  have hen : en as C h a = .inl (C 4, n, .inr (.inr (.inr (.inr (fun i => some (as (a + 1 + i))))))) := by unfold en; rw [hT]; try rfl
  rw [hen] at he
  have hin := oI_in h0 h1 hn9
  have hlt : (Int32.ofInt i).toNatClampNeg < n := Nat.not_le.mp fun q => hin (Or.inr q)
  have e9 := oI_nat h0 h1 hn9
  exact W.aald (v := .ref (as (a + 1 + i.toNat))) hx hb (hP a _ he) ((hK.2 4 (C 4, .array .int) rfl).1 n (fun j => va_rf (some (as (a + 1 + j))))) rfl (fun q => by cases q) (by show ¬ (Int32.ofInt i < 0 ∨ (arrV _ _ _).slots.size ≤ _); rw [arrV_size]; exact hin) (by show (arrV _ _ _).slots[_]? = _; rw [arrV_read _ _ hlt, e9]; rfl) (g := F0 m pc lsA _) rfl rfl hd (k p l e s m args below meth c D C as ad av H locs lsA cx hG hP hS hl)
end KA
