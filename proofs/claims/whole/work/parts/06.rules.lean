section KR
variable {M : MI} {G : CT → Prop} {Z : CT → State → Prop} {nc ns pc : Nat} {ls : List (Nat × AV)} {st : List AV} {h : HP}

/-- what a local holds -/
def lg (ls : List (Nat × AV)) (i : Nat) : Option AV := (ls.find? (fun q => q.1 == i)).map (fun q => q.2)
theorem lg_at {as ad : Nat → Nat} {lsA : Array Slot} {n : Nat} {ls : List (Nat × AV)} {i : Nat} {v : AV} (hl : lv_has lsA n (cl as ad ls)) (h : lg ls i = some v) : lsA[i]? = some (.val (cv as ad v)) := by
  unfold lg at h
  cases hf : ls.find? (fun q => q.1 == i) with
  | none => rw [hf] at h; cases h
  | some q =>
    rw [hf] at h
    have h1 : q.2 = v := Option.some.inj h
    have h2 : q.1 = i := by simpa using List.find?_some hf
    have h3 := hl.2.2 (q.1, cv as ad q.2) (List.mem_map.mpr ⟨q, List.mem_of_find?_eq_some hf, rfl⟩)
    rw [h2, h1] at h3
    exact h3
/-- a local written -/
def lt (ls : List (Nat × AV)) (i : Nat) (v : AV) : List (Nat × AV) := (i, v) :: ls.filter (fun q => !(q.1 == i) && !(q.1 + 1 == i && isL q.2))
def lt2 (ls : List (Nat × AV)) (i : Nat) (v : AV) : List (Nat × AV) := (i, v) :: ls.filter (fun q => !(q.1 == i) && (!(q.1 == i + 1) && !(q.1 + 1 == i && isL q.2)))
theorem lt_cl (as ad : Nat → Nat) (ls : List (Nat × AV)) (i : Nat) (v : AV) : (i, cv as ad v) :: (cl as ad ls).filter (fun q => !(q.1 == i) && !(q.1 + 1 == i && q.2.category == 2)) = cl as ad (lt ls i v) := by
  unfold cl lt
  rw [List.map_cons, List.filter_map]
  congr 2
  apply List.filter_congr
  intro q _
  simp only [Function.comp, cv_cat]
theorem lt2_cl (as ad : Nat → Nat) (ls : List (Nat × AV)) (i : Nat) (v : AV) : (i, cv as ad v) :: (cl as ad ls).filter (fun q => !(q.1 == i) && (!(q.1 == i + 1) && !(q.1 + 1 == i && q.2.category == 2))) = cl as ad (lt2 ls i v) := by
  unfold cl lt2
  rw [List.map_cons, List.filter_map]
  congr 2
  apply List.filter_congr
  intro q _
  simp only [Function.comp, cv_cat]
/-- fewer locals, in another order -/
theorem cl_sub {as ad : Nat → Nat} {lsA : Array Slot} {n : Nat} {ls ls' : List (Nat × AV)} (hl : lv_has lsA n (cl as ad ls)) (h : ∀ q ∈ ls', q ∈ ls) : lv_has lsA n (cl as ad ls') := by
  refine ⟨hl.1, hl.2.1, fun q hq => hl.2.2 q ?_⟩
  obtain ⟨x, hx, rfl⟩ := List.mem_map.mp hq
  exact List.mem_map.mpr ⟨x, h x hx, rfl⟩

theorem K_ls {ls' : List (Nat × AV)} (hs : ∀ q ∈ ls', q ∈ ls) (k : K M G Z nc ns pc ls' st h) : K M G Z nc ns pc ls st h := by
  intro p l e s m args below meth c D C as ad av H locs lsA cx hG hP hS hl
  obtain ⟨hx, hb, hml, hr, hlk, hown, hts, hK, hj⟩ := id cx
  exact k p l e s m args below meth c D C as ad av H locs lsA cx hG hP hS (cl_sub hl hs)

theorem K_widen {nc2 ns2 : Nat} (h1 : nc ≤ nc2) (h2 : ns ≤ ns2) (k : K M G Z nc2 ns2 pc ls st h) : K M G Z nc ns pc ls st h := by
  intro p l e s m args below meth c D C as ad av H locs lsA cx hG hP hS hl
  obtain ⟨hx, hb, hml, hr, hlk, hown, hts, hK, hj⟩ := id cx
  exact W.widen h1 h2 (k p l e s m args below meth c D C as ad av H locs lsA cx hG hP hS hl)

theorem K_iconst {n : Int} (hd : decode (mB M) pc = .ok (.iconst n, 1)) (k : K M G Z nc ns (pc + 1) ls (vi n :: st) h) : K M G Z nc ns pc ls st h := by
  intro p l e s m args below meth c D C as ad av H locs lsA cx hG hP hS hl
  obtain ⟨hx, hb, hml, hr, hlk, hown, hts, hK, hj⟩ := id cx
  exact lv_iconst hx hb hd rfl (k p l e s m args below meth c D C as ad av H locs lsA cx hG hP hS hl)

theorem K_bipush {n : Int} (hd : decode (mB M) pc = .ok (.bipush n, 2)) (hv : (Int8.ofInt n).toInt32 = Int32.ofInt n) (k : K M G Z nc ns (pc + 2) ls (vi n :: st) h) : K M G Z nc ns pc ls st h := by
  intro p l e s m args below meth c D C as ad av H locs lsA cx hG hP hS hl
  obtain ⟨hx, hb, hml, hr, hlk, hown, hts, hK, hj⟩ := id cx
  exact lv_bipush hx hb hd hv (k p l e s m args below meth c D C as ad av H locs lsA cx hG hP hS hl)

theorem K_sipush {n : Int} (hd : decode (mB M) pc = .ok (.sipush n, 3)) (hv : (Int16.ofInt n).toInt32 = Int32.ofInt n) (k : K M G Z nc ns (pc + 3) ls (vi n :: st) h) : K M G Z nc ns pc ls st h := by
  intro p l e s m args below meth c D C as ad av H locs lsA cx hG hP hS hl
  obtain ⟨hx, hb, hml, hr, hlk, hown, hts, hK, hj⟩ := id cx
  exact lv_sipush hx hb hd hv (k p l e s m args below meth c D C as ad av H locs lsA cx hG hP hS hl)

theorem K_ldc {ix : Nat} {n : Int} {v : Int32} (hd : decode (mB M) pc = .ok (.ldc ix, 2)) (hw : Jvm.Cond.constant (mY M).cls ix v ∈ gw) (hv : v = Int32.ofInt n) (k : K M G Z nc ns (pc + 2) ls (vi n :: st) h) : K M G Z nc ns pc ls st h := by
  intro p l e s m args below meth c D C as ad av H locs lsA cx hG hP hS hl
  obtain ⟨hx, hb, hml, hr, hlk, hown, hts, hK, hj⟩ := id cx
  subst hv
  exact lv_ldc hx hb hown (hts _ hw) hd (k p l e s m args below meth c D C as ad av H locs lsA cx hG hP hS hl)

theorem K_ldcw {ix : Nat} {n : Int} {v : Int32} (hd : decode (mB M) pc = .ok (.ldc_w ix, 3)) (hw : Jvm.Cond.constant (mY M).cls ix v ∈ gw) (hv : v = Int32.ofInt n) (k : K M G Z nc ns (pc + 3) ls (vi n :: st) h) : K M G Z nc ns pc ls st h := by
  intro p l e s m args below meth c D C as ad av H locs lsA cx hG hP hS hl
  obtain ⟨hx, hb, hml, hr, hlk, hown, hts, hK, hj⟩ := id cx
  subst hv
  exact lv_ldcw hx hb hown (hts _ hw) hd (k p l e s m args below meth c D C as ad av H locs lsA cx hG hP hS hl)

theorem K_iload {i : Nat} {x : Int} (hd : decode (mB M) pc = .ok (.iload i, 2)) (hv : lg ls i = some (vi x)) (k : K M G Z nc ns (pc + 2) ls (vi x :: st) h) : K M G Z nc ns pc ls st h := by
  intro p l e s m args below meth c D C as ad av H locs lsA cx hG hP hS hl
  obtain ⟨hx, hb, hml, hr, hlk, hown, hts, hK, hj⟩ := id cx
  exact lv_iload hx hb hd (lg_at hl hv) (k p l e s m args below meth c D C as ad av H locs lsA cx hG hP hS hl)

theorem K_iload_n {j : Fin 4} {i : Nat} {x : Int} (hd : decode (mB M) pc = .ok (.iload_n j, 1)) (hi : (j : Nat) = i) (hv : lg ls i = some (vi x)) (k : K M G Z nc ns (pc + 1) ls (vi x :: st) h) : K M G Z nc ns pc ls st h := by
  intro p l e s m args below meth c D C as ad av H locs lsA cx hG hP hS hl
  obtain ⟨hx, hb, hml, hr, hlk, hown, hts, hK, hj⟩ := id cx
  exact lv_iload_n hx hb hd hi (lg_at hl hv) (k p l e s m args below meth c D C as ad av H locs lsA cx hG hP hS hl)

theorem K_lload {i : Nat} {x : Int} (hd : decode (mB M) pc = .ok (.lload i, 2)) (hv : lg ls i = some (vl x)) (k : K M G Z nc ns (pc + 2) ls (vl x :: st) h) : K M G Z nc ns pc ls st h := by
  intro p l e s m args below meth c D C as ad av H locs lsA cx hG hP hS hl
  obtain ⟨hx, hb, hml, hr, hlk, hown, hts, hK, hj⟩ := id cx
  exact lv_lload hx hb hd (lg_at hl hv) (k p l e s m args below meth c D C as ad av H locs lsA cx hG hP hS hl)

theorem K_lload_n {j : Fin 4} {i : Nat} {x : Int} (hd : decode (mB M) pc = .ok (.lload_n j, 1)) (hi : (j : Nat) = i) (hv : lg ls i = some (vl x)) (k : K M G Z nc ns (pc + 1) ls (vl x :: st) h) : K M G Z nc ns pc ls st h := by
  intro p l e s m args below meth c D C as ad av H locs lsA cx hG hP hS hl
  obtain ⟨hx, hb, hml, hr, hlk, hown, hts, hK, hj⟩ := id cx
  exact lv_lload_n hx hb hd hi (lg_at hl hv) (k p l e s m args below meth c D C as ad av H locs lsA cx hG hP hS hl)

theorem K_aload {i a : Nat} (hd : decode (mB M) pc = .ok (.aload i, 2)) (hv : lg ls i = some (vr a)) (k : K M G Z nc ns (pc + 2) ls (vr a :: st) h) : K M G Z nc ns pc ls st h := by
  intro p l e s m args below meth c D C as ad av H locs lsA cx hG hP hS hl
  obtain ⟨hx, hb, hml, hr, hlk, hown, hts, hK, hj⟩ := id cx
  exact lv_aload hx hb hd (lg_at hl hv) (k p l e s m args below meth c D C as ad av H locs lsA cx hG hP hS hl)

theorem K_aload_n {j : Fin 4} {i a : Nat} (hd : decode (mB M) pc = .ok (.aload_n j, 1)) (hi : (j : Nat) = i) (hv : lg ls i = some (vr a)) (k : K M G Z nc ns (pc + 1) ls (vr a :: st) h) : K M G Z nc ns pc ls st h := by
  intro p l e s m args below meth c D C as ad av H locs lsA cx hG hP hS hl
  obtain ⟨hx, hb, hml, hr, hlk, hown, hts, hK, hj⟩ := id cx
  exact lv_aload_n hx hb hd hi (lg_at hl hv) (k p l e s m args below meth c D C as ad av H locs lsA cx hG hP hS hl)

theorem K_aloadS {i a : Nat} (hd : decode (mB M) pc = .ok (.aload i, 2)) (hv : lg ls i = some (vs (a + 1))) (k : K M G Z nc ns (pc + 2) ls (vs (a + 1) :: st) h) : K M G Z nc ns pc ls st h := by
  intro p l e s m args below meth c D C as ad av H locs lsA cx hG hP hS hl
  obtain ⟨hx, hb, hml, hr, hlk, hown, hts, hK, hj⟩ := id cx
  exact lv_aload hx hb hd (lg_at hl hv) (k p l e s m args below meth c D C as ad av H locs lsA cx hG hP hS hl)

theorem K_aload_nS {j : Fin 4} {i a : Nat} (hd : decode (mB M) pc = .ok (.aload_n j, 1)) (hi : (j : Nat) = i) (hv : lg ls i = some (vs (a + 1))) (k : K M G Z nc ns (pc + 1) ls (vs (a + 1) :: st) h) : K M G Z nc ns pc ls st h := by
  intro p l e s m args below meth c D C as ad av H locs lsA cx hG hP hS hl
  obtain ⟨hx, hb, hml, hr, hlk, hown, hts, hK, hj⟩ := id cx
  exact lv_aload_n hx hb hd hi (lg_at hl hv) (k p l e s m args below meth c D C as ad av H locs lsA cx hG hP hS hl)

theorem K_istore {i : Nat} {x : Int} {ls' : List (Nat × AV)} (hd : decode (mB M) pc = .ok (.istore i, 2)) (hn : i < mL M) (hs : lt ls i (vi x) = ls') (k : K M G Z nc ns (pc + 2) ls' st h) : K M G Z nc ns pc ls (vi x :: st) h := by
  intro p l e s m args below meth c D C as ad av H locs lsA cx hG hP hS hl
  obtain ⟨hx, hb, hml, hr, hlk, hown, hts, hK, hj⟩ := id cx
  subst hs
  exact lv_istore hx hb hd hl hn (lt_cl as ad ls i (vi x)) (fun ls9 hl9 => k p l e s m args below meth c D C as ad av H locs ls9 cx hG hP hS hl9)

theorem K_istore_n {j : Fin 4} {i : Nat} {x : Int} {ls' : List (Nat × AV)} (hd : decode (mB M) pc = .ok (.istore_n j, 1)) (hi : (j : Nat) = i) (hn : i < mL M) (hs : lt ls i (vi x) = ls') (k : K M G Z nc ns (pc + 1) ls' st h) : K M G Z nc ns pc ls (vi x :: st) h := by
  intro p l e s m args below meth c D C as ad av H locs lsA cx hG hP hS hl
  obtain ⟨hx, hb, hml, hr, hlk, hown, hts, hK, hj⟩ := id cx
  subst hs
  exact lv_istore_n hx hb hd hi hl hn (lt_cl as ad ls i (vi x)) (fun ls9 hl9 => k p l e s m args below meth c D C as ad av H locs ls9 cx hG hP hS hl9)

theorem K_astore {i : Nat} {x : Nat} {ls' : List (Nat × AV)} (hd : decode (mB M) pc = .ok (.astore i, 2)) (hn : i < mL M) (hs : lt ls i (vr x) = ls') (k : K M G Z nc ns (pc + 2) ls' st h) : K M G Z nc ns pc ls (vr x :: st) h := by
  intro p l e s m args below meth c D C as ad av H locs lsA cx hG hP hS hl
  obtain ⟨hx, hb, hml, hr, hlk, hown, hts, hK, hj⟩ := id cx
  subst hs
  exact lv_astore hx hb hd hl hn (lt_cl as ad ls i (vr x)) (fun ls9 hl9 => k p l e s m args below meth c D C as ad av H locs ls9 cx hG hP hS hl9)

theorem K_astore_n {j : Fin 4} {i : Nat} {x : Nat} {ls' : List (Nat × AV)} (hd : decode (mB M) pc = .ok (.astore_n j, 1)) (hi : (j : Nat) = i) (hn : i < mL M) (hs : lt ls i (vr x) = ls') (k : K M G Z nc ns (pc + 1) ls' st h) : K M G Z nc ns pc ls (vr x :: st) h := by
  intro p l e s m args below meth c D C as ad av H locs lsA cx hG hP hS hl
  obtain ⟨hx, hb, hml, hr, hlk, hown, hts, hK, hj⟩ := id cx
  subst hs
  exact lv_astore_n hx hb hd hi hl hn (lt_cl as ad ls i (vr x)) (fun ls9 hl9 => k p l e s m args below meth c D C as ad av H locs ls9 cx hG hP hS hl9)

theorem K_lstore {i : Nat} {x : Int} {ls' : List (Nat × AV)} (hd : decode (mB M) pc = .ok (.lstore i, 2)) (hn : i + 1 < mL M) (hs : lt2 ls i (vl x) = ls') (k : K M G Z nc ns (pc + 2) ls' st h) : K M G Z nc ns pc ls (vl x :: st) h := by
  intro p l e s m args below meth c D C as ad av H locs lsA cx hG hP hS hl
  obtain ⟨hx, hb, hml, hr, hlk, hown, hts, hK, hj⟩ := id cx
  subst hs
  exact lv_lstore hx hb hd hl hn (lt2_cl as ad ls i (vl x)) (fun ls9 hl9 => k p l e s m args below meth c D C as ad av H locs ls9 cx hG hP hS hl9)

theorem K_lstore_n {j : Fin 4} {i : Nat} {x : Int} {ls' : List (Nat × AV)} (hd : decode (mB M) pc = .ok (.lstore_n j, 1)) (hi : (j : Nat) = i) (hn : i + 1 < mL M) (hs : lt2 ls i (vl x) = ls') (k : K M G Z nc ns (pc + 1) ls' st h) : K M G Z nc ns pc ls (vl x :: st) h := by
  intro p l e s m args below meth c D C as ad av H locs lsA cx hG hP hS hl
  obtain ⟨hx, hb, hml, hr, hlk, hown, hts, hK, hj⟩ := id cx
  subst hs
  exact lv_lstore_n hx hb hd hi hl hn (lt2_cl as ad ls i (vl x)) (fun ls9 hl9 => k p l e s m args below meth c D C as ad av H locs ls9 cx hG hP hS hl9)

theorem cl_at {as ad : Nat → Nat} {ls : List (Nat × AV)} {i : Nat} {v : AV} (h : lg ls i = some v) : ∃ k : Nat, (cl as ad ls)[k]? = some (i, cv as ad v) := by
  unfold lg at h
  cases hf : ls.find? (fun q => q.1 == i) with
  | none => rw [hf] at h; cases h
  | some q =>
    rw [hf] at h
    have h1 : q.2 = v := Option.some.inj h
    have h2 : q.1 = i := by simpa using List.find?_some hf
    obtain ⟨k, hk⟩ := List.getElem?_of_mem (List.mem_of_find?_eq_some hf)
    refine ⟨k, ?_⟩
    unfold cl
    rw [List.getElem?_map, hk, ← h1, ← h2]
    rfl

theorem K_iinc {i : Nat} {n x : Int} {ls' : List (Nat × AV)} (hd : decode (mB M) pc = .ok (.iinc i n, 3)) (hv : lg ls i = some (vi x)) (hn : i < mL M) (hs : lt ls i (vi (x + n)) = ls') (k : K M G Z nc ns (pc + 3) ls' st h) : K M G Z nc ns pc ls st h := by
  intro p l e s m args below meth c D C as ad av H locs lsA cx hG hP hS hl
  obtain ⟨hx, hb, hml, hr, hlk, hown, hts, hK, hj⟩ := id cx
  subst hs
  obtain ⟨k9, hk9⟩ := cl_at (as := as) (ad := ad) hv
  exact lv_iinc hx hb hd hl hk9 (oI_add x n) hn (lt_cl as ad ls i (vi (x + n))) (fun ls9 hl9 => k p l e s m args below meth c D C as ad av H locs ls9 cx hG hP hS hl9)

theorem K_iadd {x y : Int} (hd : decode (mB M) pc = .ok (.iadd, 1)) (k : K M G Z nc ns (pc + 1) ls (vi (x + y) :: st) h) : K M G Z nc ns pc ls (vi y :: vi x :: st) h := by
  intro p l e s m args below meth c D C as ad av H locs lsA cx hG hP hS hl
  obtain ⟨hx, hb, hml, hr, hlk, hown, hts, hK, hj⟩ := id cx
  refine lv_iadd hx hb hd ?_
  rw [oI_add]
  exact k p l e s m args below meth c D C as ad av H locs lsA cx hG hP hS hl

theorem K_isub {x y : Int} (hd : decode (mB M) pc = .ok (.isub, 1)) (k : K M G Z nc ns (pc + 1) ls (vi (x - y) :: st) h) : K M G Z nc ns pc ls (vi y :: vi x :: st) h := by
  intro p l e s m args below meth c D C as ad av H locs lsA cx hG hP hS hl
  obtain ⟨hx, hb, hml, hr, hlk, hown, hts, hK, hj⟩ := id cx
  refine lv_isub hx hb hd ?_
  rw [oI_sub]
  exact k p l e s m args below meth c D C as ad av H locs lsA cx hG hP hS hl

theorem K_imul {x y : Int} (hd : decode (mB M) pc = .ok (.imul, 1)) (k : K M G Z nc ns (pc + 1) ls (vi (x * y) :: st) h) : K M G Z nc ns pc ls (vi y :: vi x :: st) h := by
  intro p l e s m args below meth c D C as ad av H locs lsA cx hG hP hS hl
  obtain ⟨hx, hb, hml, hr, hlk, hown, hts, hK, hj⟩ := id cx
  refine lv_imul hx hb hd ?_
  rw [oI_mul]
  exact k p l e s m args below meth c D C as ad av H locs lsA cx hG hP hS hl

theorem K_ineg {x : Int} (hd : decode (mB M) pc = .ok (.ineg, 1)) (k : K M G Z nc ns (pc + 1) ls (vi (-x) :: st) h) : K M G Z nc ns pc ls (vi x :: st) h := by
  intro p l e s m args below meth c D C as ad av H locs lsA cx hG hP hS hl
  obtain ⟨hx, hb, hml, hr, hlk, hown, hts, hK, hj⟩ := id cx
  refine lv_ineg hx hb hd ?_
  rw [oI_neg]
  exact k p l e s m args below meth c D C as ad av H locs lsA cx hG hP hS hl

/-- the same number of 32 bits, written another way -/
theorem cv_same {as ad : Nat → Nat} {x y : Int} (h : Int32.ofInt x = Int32.ofInt y) : cv as ad (vi x) = cv as ad (vi y) := congrArg Value.int h
def bAnd (x y : Int) : Int := (Int32.ofInt x &&& Int32.ofInt y).toInt
def bOr (x y : Int) : Int := (Int32.ofInt x ||| Int32.ofInt y).toInt
def bXor (x y : Int) : Int := (Int32.ofInt x ^^^ Int32.ofInt y).toInt
def bShl (x y : Int) : Int := (Int32.ofInt x <<< (Int32.ofInt y &&& 31)).toInt
def bShr (x y : Int) : Int := (Int32.ofInt x >>> (Int32.ofInt y &&& 31)).toInt
def bUshr (x y : Int) : Int := ((Int32.ofInt x).toUInt32 >>> ((Int32.ofInt y).toUInt32 &&& Int32.toUInt32 31)).toInt32.toInt

theorem K_same {x y : Int} (he : Int32.ofInt x = Int32.ofInt y) (k : K M G Z nc ns pc ls (vi y :: st) h) : K M G Z nc ns pc ls (vi x :: st) h := by
  intro p l e s m args below meth c D C as ad av H locs lsA cx hG hP hS hl
  obtain ⟨hx, hb, hml, hr, hlk, hown, hts, hK, hj⟩ := id cx
  have h9 := k p l e s m args below meth c D C as ad av H locs lsA cx hG hP hS hl
  show W p l e (mR M) s m args below meth c H locs nc ns _ (F0 m pc lsA (cv as ad (vi x) :: st.map (cv as ad)))
  rw [cv_same he]
  exact h9

theorem K_iand {x y : Int} (hd : decode (mB M) pc = .ok (.iand, 1)) (k : K M G Z nc ns (pc + 1) ls (vi (bAnd x y) :: st) h) : K M G Z nc ns pc ls (vi y :: vi x :: st) h := by
  intro p l e s m args below meth c D C as ad av H locs lsA cx hG hP hS hl
  obtain ⟨hx, hb, hml, hr, hlk, hown, hts, hK, hj⟩ := id cx
  refine lv_iand hx hb hd ?_
  have h9 := k p l e s m args below meth c D C as ad av H locs lsA cx hG hP hS hl
  simp only [List.map_cons, cv, bAnd, Int32.ofInt_toInt] at h9
  exact h9

theorem K_ior {x y : Int} (hd : decode (mB M) pc = .ok (.ior, 1)) (k : K M G Z nc ns (pc + 1) ls (vi (bOr x y) :: st) h) : K M G Z nc ns pc ls (vi y :: vi x :: st) h := by
  intro p l e s m args below meth c D C as ad av H locs lsA cx hG hP hS hl
  obtain ⟨hx, hb, hml, hr, hlk, hown, hts, hK, hj⟩ := id cx
  refine lv_ior hx hb hd ?_
  have h9 := k p l e s m args below meth c D C as ad av H locs lsA cx hG hP hS hl
  simp only [List.map_cons, cv, bOr, Int32.ofInt_toInt] at h9
  exact h9

theorem K_ixor {x y : Int} (hd : decode (mB M) pc = .ok (.ixor, 1)) (k : K M G Z nc ns (pc + 1) ls (vi (bXor x y) :: st) h) : K M G Z nc ns pc ls (vi y :: vi x :: st) h := by
  intro p l e s m args below meth c D C as ad av H locs lsA cx hG hP hS hl
  obtain ⟨hx, hb, hml, hr, hlk, hown, hts, hK, hj⟩ := id cx
  refine lv_ixor hx hb hd ?_
  have h9 := k p l e s m args below meth c D C as ad av H locs lsA cx hG hP hS hl
  simp only [List.map_cons, cv, bXor, Int32.ofInt_toInt] at h9
  exact h9

theorem K_ishl {x y : Int} (hd : decode (mB M) pc = .ok (.ishl, 1)) (k : K M G Z nc ns (pc + 1) ls (vi (bShl x y) :: st) h) : K M G Z nc ns pc ls (vi y :: vi x :: st) h := by
  intro p l e s m args below meth c D C as ad av H locs lsA cx hG hP hS hl
  obtain ⟨hx, hb, hml, hr, hlk, hown, hts, hK, hj⟩ := id cx
  refine lv_ishl hx hb hd ?_
  have h9 := k p l e s m args below meth c D C as ad av H locs lsA cx hG hP hS hl
  simp only [List.map_cons, cv, bShl, Int32.ofInt_toInt] at h9
  exact h9

theorem K_ishr {x y : Int} (hd : decode (mB M) pc = .ok (.ishr, 1)) (k : K M G Z nc ns (pc + 1) ls (vi (bShr x y) :: st) h) : K M G Z nc ns pc ls (vi y :: vi x :: st) h := by
  intro p l e s m args below meth c D C as ad av H locs lsA cx hG hP hS hl
  obtain ⟨hx, hb, hml, hr, hlk, hown, hts, hK, hj⟩ := id cx
  refine lv_ishr hx hb hd ?_
  have h9 := k p l e s m args below meth c D C as ad av H locs lsA cx hG hP hS hl
  simp only [List.map_cons, cv, bShr, Int32.ofInt_toInt] at h9
  exact h9

theorem K_iushr {x y : Int} (hd : decode (mB M) pc = .ok (.iushr, 1)) (k : K M G Z nc ns (pc + 1) ls (vi (bUshr x y) :: st) h) : K M G Z nc ns pc ls (vi y :: vi x :: st) h := by
  intro p l e s m args below meth c D C as ad av H locs lsA cx hG hP hS hl
  obtain ⟨hx, hb, hml, hr, hlk, hown, hts, hK, hj⟩ := id cx
  refine lv_iushr hx hb hd rfl ?_
  have h9 := k p l e s m args below meth c D C as ad av H locs lsA cx hG hP hS hl
  simp only [List.map_cons, cv, bUshr, Int32.ofInt_toInt] at h9
  exact h9

theorem oI_div {x y : Int} (hx : i32 x) (hy : i32 y) : Int32.ofInt x / Int32.ofInt y = Int32.ofInt (x.tdiv y) := by
  rw [← Int32.toInt_inj, Int32.toInt_div, oI_to hx, oI_to hy, Int32.toInt_ofInt]

theorem K_idiv {x y : Int} (hd : decode (mB M) pc = .ok (.idiv, 1)) (hx0 : i32 x) (hy0 : i32 y) (hne : y ≠ 0) (k : K M G Z nc ns (pc + 1) ls (vi (x.tdiv y) :: st) h) : K M G Z nc ns pc ls (vi y :: vi x :: st) h := by
  intro p l e s m args below meth c D C as ad av H locs lsA cx hG hP hS hl
  obtain ⟨hx, hb, hml, hr, hlk, hown, hts, hK, hj⟩ := id cx
  refine lv_idiv hx hb hd (fun q => hne ((oI_eq hy0 ⟨by omega, by omega⟩).mp (q.trans oI_to0.symm))) ?_
  rw [oI_div hx0 hy0]
  exact k p l e s m args below meth c D C as ad av H locs lsA cx hG hP hS hl

theorem K_irem {x y : Int} (hd : decode (mB M) pc = .ok (.irem, 1)) (hx0 : i32 x) (hy0 : i32 y) (hne : y ≠ 0) (k : K M G Z nc ns (pc + 1) ls (vi (x.tmod y) :: st) h) : K M G Z nc ns pc ls (vi y :: vi x :: st) h := by
  intro p l e s m args below meth c D C as ad av H locs lsA cx hG hP hS hl
  obtain ⟨hx, hb, hml, hr, hlk, hown, hts, hK, hj⟩ := id cx
  refine lv_irem hx hb hd (fun q => hne ((oI_eq hy0 ⟨by omega, by omega⟩).mp (q.trans oI_to0.symm))) ?_
  rw [oI_div hx0 hy0, oI_mul, oI_sub, show x - x.tdiv y * y = x.tmod y by rw [Int.tmod_def, Int.mul_comm]]
  exact k p l e s m args below meth c D C as ad av H locs lsA cx hG hP hS hl

theorem K_dup {v : AV} (hd : decode (mB M) pc = .ok (.dup, 1)) (hv : isL v = false) (k : K M G Z nc ns (pc + 1) ls (v :: v :: st) h) : K M G Z nc ns pc ls (v :: st) h := by
  intro p l e s m args below meth c D C as ad av H locs lsA cx hG hP hS hl
  obtain ⟨hx, hb, hml, hr, hlk, hown, hts, hK, hj⟩ := id cx
  exact lv_dup hx hb hd (cv_cat1 hv) (k p l e s m args below meth c D C as ad av H locs lsA cx hG hP hS hl)

theorem K_dup2 {v w : AV} (hd : decode (mB M) pc = .ok (.dup2, 1)) (hv : isL v = false) (hw : isL w = false) (k : K M G Z nc ns (pc + 1) ls (v :: w :: v :: w :: st) h) : K M G Z nc ns pc ls (v :: w :: st) h := by
  intro p l e s m args below meth c D C as ad av H locs lsA cx hG hP hS hl
  obtain ⟨hx, hb, hml, hr, hlk, hown, hts, hK, hj⟩ := id cx
  exact lv_dup2_11 hx hb hd (cv_cat1 hv) (cv_cat1 hw) (k p l e s m args below meth c D C as ad av H locs lsA cx hG hP hS hl)

theorem K_pop {v : AV} (hd : decode (mB M) pc = .ok (.pop, 1)) (hv : isL v = false) (k : K M G Z nc ns (pc + 1) ls st h) : K M G Z nc ns pc ls (v :: st) h := by
  intro p l e s m args below meth c D C as ad av H locs lsA cx hG hP hS hl
  obtain ⟨hx, hb, hml, hr, hlk, hown, hts, hK, hj⟩ := id cx
  exact lv_pop hx hb hd (cv_cat1 hv) (k p l e s m args below meth c D C as ad av H locs lsA cx hG hP hS hl)

theorem K_goto {off : Int} {tgt : Nat} (hd : decode (mB M) pc = .ok (.goto off, 3)) (ht : (pc : Int) + off = (tgt : Int)) (k : K M G Z nc ns tgt ls st h) : K M G Z nc ns pc ls st h := by
  intro p l e s m args below meth c D C as ad av H locs lsA cx hG hP hS hl
  obtain ⟨hx, hb, hml, hr, hlk, hown, hts, hK, hj⟩ := id cx
  exact lv_goto hx hb hd ht (k p l e s m args below meth c D C as ad av H locs lsA cx hG hP hS hl)

theorem K_icmp_eq {x y : Int} {off : Int} {tgt : Nat} (hd : decode (mB M) pc = .ok (.if_icmp .eq off, 3)) (ht : (pc : Int) + off = (tgt : Int)) (hx0 : i32 x) (hy0 : i32 y) (kt : x = y → K M G Z nc ns tgt ls st h) (kf : x ≠ y → K M G Z nc ns (pc + 3) ls st h) : K M G Z nc ns pc ls (vi y :: vi x :: st) h := by
  intro p l e s m args below meth c D C as ad av H locs lsA cx hG hP hS hl
  obtain ⟨hx, hb, hml, hr, hlk, hown, hts, hK, hj⟩ := id cx
  exact lv_icmp_eq hx hb hd ht (fun q => kt ((oI_eq hx0 hy0).mp q) p l e s m args below meth c D C as ad av H locs lsA cx hG hP hS hl) (fun q => kf (fun z => q ((oI_eq hx0 hy0).mpr z)) p l e s m args below meth c D C as ad av H locs lsA cx hG hP hS hl)

theorem K_if_eq {x : Int} {off : Int} {tgt : Nat} (hd : decode (mB M) pc = .ok (.ifCond .eq off, 3)) (ht : (pc : Int) + off = (tgt : Int)) (hx0 : i32 x) (kt : x = 0 → K M G Z nc ns tgt ls st h) (kf : x ≠ 0 → K M G Z nc ns (pc + 3) ls st h) : K M G Z nc ns pc ls (vi x :: st) h := by
  intro p l e s m args below meth c D C as ad av H locs lsA cx hG hP hS hl
  obtain ⟨hx, hb, hml, hr, hlk, hown, hts, hK, hj⟩ := id cx
  have hz : i32 0 := ⟨by omega, by omega⟩
  exact lv_if_eq hx hb hd ht (fun q => kt ((oI_eq hx0 hz).mp q) p l e s m args below meth c D C as ad av H locs lsA cx hG hP hS hl) (fun q => kf (fun z => q ((oI_eq hx0 hz).mpr z)) p l e s m args below meth c D C as ad av H locs lsA cx hG hP hS hl)

theorem K_icmp_ne {x y : Int} {off : Int} {tgt : Nat} (hd : decode (mB M) pc = .ok (.if_icmp .ne off, 3)) (ht : (pc : Int) + off = (tgt : Int)) (hx0 : i32 x) (hy0 : i32 y) (kt : x ≠ y → K M G Z nc ns tgt ls st h) (kf : x = y → K M G Z nc ns (pc + 3) ls st h) : K M G Z nc ns pc ls (vi y :: vi x :: st) h := by
  intro p l e s m args below meth c D C as ad av H locs lsA cx hG hP hS hl
  obtain ⟨hx, hb, hml, hr, hlk, hown, hts, hK, hj⟩ := id cx
  exact lv_icmp_ne hx hb hd ht (fun q => kt (fun z => q ((oI_eq hx0 hy0).mpr z)) p l e s m args below meth c D C as ad av H locs lsA cx hG hP hS hl) (fun q => kf ((oI_eq hx0 hy0).mp q) p l e s m args below meth c D C as ad av H locs lsA cx hG hP hS hl)

theorem K_if_ne {x : Int} {off : Int} {tgt : Nat} (hd : decode (mB M) pc = .ok (.ifCond .ne off, 3)) (ht : (pc : Int) + off = (tgt : Int)) (hx0 : i32 x) (kt : x ≠ 0 → K M G Z nc ns tgt ls st h) (kf : x = 0 → K M G Z nc ns (pc + 3) ls st h) : K M G Z nc ns pc ls (vi x :: st) h := by
  intro p l e s m args below meth c D C as ad av H locs lsA cx hG hP hS hl
  obtain ⟨hx, hb, hml, hr, hlk, hown, hts, hK, hj⟩ := id cx
  have hz : i32 0 := ⟨by omega, by omega⟩
  exact lv_if_ne hx hb hd ht (fun q => kt (fun z => q ((oI_eq hx0 hz).mpr z)) p l e s m args below meth c D C as ad av H locs lsA cx hG hP hS hl) (fun q => kf ((oI_eq hx0 hz).mp q) p l e s m args below meth c D C as ad av H locs lsA cx hG hP hS hl)

theorem K_icmp_lt {x y : Int} {off : Int} {tgt : Nat} (hd : decode (mB M) pc = .ok (.if_icmp .lt off, 3)) (ht : (pc : Int) + off = (tgt : Int)) (hx0 : i32 x) (hy0 : i32 y) (kt : x < y → K M G Z nc ns tgt ls st h) (kf : y ≤ x → K M G Z nc ns (pc + 3) ls st h) : K M G Z nc ns pc ls (vi y :: vi x :: st) h := by
  intro p l e s m args below meth c D C as ad av H locs lsA cx hG hP hS hl
  obtain ⟨hx, hb, hml, hr, hlk, hown, hts, hK, hj⟩ := id cx
  exact lv_icmp_lt hx hb hd ht (fun q => kt ((oI_lt hx0 hy0).mp q) p l e s m args below meth c D C as ad av H locs lsA cx hG hP hS hl) (fun q => kf (Int.not_lt.mp (fun z => q ((oI_lt hx0 hy0).mpr z))) p l e s m args below meth c D C as ad av H locs lsA cx hG hP hS hl)

theorem K_if_lt {x : Int} {off : Int} {tgt : Nat} (hd : decode (mB M) pc = .ok (.ifCond .lt off, 3)) (ht : (pc : Int) + off = (tgt : Int)) (hx0 : i32 x) (kt : x < 0 → K M G Z nc ns tgt ls st h) (kf : 0 ≤ x → K M G Z nc ns (pc + 3) ls st h) : K M G Z nc ns pc ls (vi x :: st) h := by
  intro p l e s m args below meth c D C as ad av H locs lsA cx hG hP hS hl
  obtain ⟨hx, hb, hml, hr, hlk, hown, hts, hK, hj⟩ := id cx
  have hz : i32 0 := ⟨by omega, by omega⟩
  exact lv_if_lt hx hb hd ht (fun q => kt ((oI_lt hx0 hz).mp q) p l e s m args below meth c D C as ad av H locs lsA cx hG hP hS hl) (fun q => kf (Int.not_lt.mp (fun z => q ((oI_lt hx0 hz).mpr z))) p l e s m args below meth c D C as ad av H locs lsA cx hG hP hS hl)

theorem K_icmp_ge {x y : Int} {off : Int} {tgt : Nat} (hd : decode (mB M) pc = .ok (.if_icmp .ge off, 3)) (ht : (pc : Int) + off = (tgt : Int)) (hx0 : i32 x) (hy0 : i32 y) (kt : y ≤ x → K M G Z nc ns tgt ls st h) (kf : x < y → K M G Z nc ns (pc + 3) ls st h) : K M G Z nc ns pc ls (vi y :: vi x :: st) h := by
  intro p l e s m args below meth c D C as ad av H locs lsA cx hG hP hS hl
  obtain ⟨hx, hb, hml, hr, hlk, hown, hts, hK, hj⟩ := id cx
  exact lv_icmp_ge hx hb hd ht (fun q => kt ((oI_le hy0 hx0).mp q) p l e s m args below meth c D C as ad av H locs lsA cx hG hP hS hl) (fun q => kf (Int.not_le.mp (fun z => q ((oI_le hy0 hx0).mpr z))) p l e s m args below meth c D C as ad av H locs lsA cx hG hP hS hl)

theorem K_if_ge {x : Int} {off : Int} {tgt : Nat} (hd : decode (mB M) pc = .ok (.ifCond .ge off, 3)) (ht : (pc : Int) + off = (tgt : Int)) (hx0 : i32 x) (kt : 0 ≤ x → K M G Z nc ns tgt ls st h) (kf : x < 0 → K M G Z nc ns (pc + 3) ls st h) : K M G Z nc ns pc ls (vi x :: st) h := by
  intro p l e s m args below meth c D C as ad av H locs lsA cx hG hP hS hl
  obtain ⟨hx, hb, hml, hr, hlk, hown, hts, hK, hj⟩ := id cx
  have hz : i32 0 := ⟨by omega, by omega⟩
  exact lv_if_ge hx hb hd ht (fun q => kt ((oI_le hz hx0).mp q) p l e s m args below meth c D C as ad av H locs lsA cx hG hP hS hl) (fun q => kf (Int.not_le.mp (fun z => q ((oI_le hz hx0).mpr z))) p l e s m args below meth c D C as ad av H locs lsA cx hG hP hS hl)

theorem K_icmp_gt {x y : Int} {off : Int} {tgt : Nat} (hd : decode (mB M) pc = .ok (.if_icmp .gt off, 3)) (ht : (pc : Int) + off = (tgt : Int)) (hx0 : i32 x) (hy0 : i32 y) (kt : y < x → K M G Z nc ns tgt ls st h) (kf : x ≤ y → K M G Z nc ns (pc + 3) ls st h) : K M G Z nc ns pc ls (vi y :: vi x :: st) h := by
  intro p l e s m args below meth c D C as ad av H locs lsA cx hG hP hS hl
  obtain ⟨hx, hb, hml, hr, hlk, hown, hts, hK, hj⟩ := id cx
  exact lv_icmp_gt hx hb hd ht (fun q => kt ((oI_lt hy0 hx0).mp q) p l e s m args below meth c D C as ad av H locs lsA cx hG hP hS hl) (fun q => kf (Int.not_lt.mp (fun z => q ((oI_lt hy0 hx0).mpr z))) p l e s m args below meth c D C as ad av H locs lsA cx hG hP hS hl)

theorem K_if_gt {x : Int} {off : Int} {tgt : Nat} (hd : decode (mB M) pc = .ok (.ifCond .gt off, 3)) (ht : (pc : Int) + off = (tgt : Int)) (hx0 : i32 x) (kt : 0 < x → K M G Z nc ns tgt ls st h) (kf : x ≤ 0 → K M G Z nc ns (pc + 3) ls st h) : K M G Z nc ns pc ls (vi x :: st) h := by
  intro p l e s m args below meth c D C as ad av H locs lsA cx hG hP hS hl
  obtain ⟨hx, hb, hml, hr, hlk, hown, hts, hK, hj⟩ := id cx
  have hz : i32 0 := ⟨by omega, by omega⟩
  exact lv_if_gt hx hb hd ht (fun q => kt ((oI_lt hz hx0).mp q) p l e s m args below meth c D C as ad av H locs lsA cx hG hP hS hl) (fun q => kf (Int.not_lt.mp (fun z => q ((oI_lt hz hx0).mpr z))) p l e s m args below meth c D C as ad av H locs lsA cx hG hP hS hl)

theorem K_icmp_le {x y : Int} {off : Int} {tgt : Nat} (hd : decode (mB M) pc = .ok (.if_icmp .le off, 3)) (ht : (pc : Int) + off = (tgt : Int)) (hx0 : i32 x) (hy0 : i32 y) (kt : x ≤ y → K M G Z nc ns tgt ls st h) (kf : y < x → K M G Z nc ns (pc + 3) ls st h) : K M G Z nc ns pc ls (vi y :: vi x :: st) h := by
  intro p l e s m args below meth c D C as ad av H locs lsA cx hG hP hS hl
  obtain ⟨hx, hb, hml, hr, hlk, hown, hts, hK, hj⟩ := id cx
  exact lv_icmp_le hx hb hd ht (fun q => kt ((oI_le hx0 hy0).mp q) p l e s m args below meth c D C as ad av H locs lsA cx hG hP hS hl) (fun q => kf (Int.not_le.mp (fun z => q ((oI_le hx0 hy0).mpr z))) p l e s m args below meth c D C as ad av H locs lsA cx hG hP hS hl)

theorem K_if_le {x : Int} {off : Int} {tgt : Nat} (hd : decode (mB M) pc = .ok (.ifCond .le off, 3)) (ht : (pc : Int) + off = (tgt : Int)) (hx0 : i32 x) (kt : x ≤ 0 → K M G Z nc ns tgt ls st h) (kf : 0 < x → K M G Z nc ns (pc + 3) ls st h) : K M G Z nc ns pc ls (vi x :: st) h := by
  intro p l e s m args below meth c D C as ad av H locs lsA cx hG hP hS hl
  obtain ⟨hx, hb, hml, hr, hlk, hown, hts, hK, hj⟩ := id cx
  have hz : i32 0 := ⟨by omega, by omega⟩
  exact lv_if_le hx hb hd ht (fun q => kt ((oI_le hx0 hz).mp q) p l e s m args below meth c D C as ad av H locs lsA cx hG hP hS hl) (fun q => kf (Int.not_le.mp (fun z => q ((oI_le hx0 hz).mpr z))) p l e s m args below meth c D C as ad av H locs lsA cx hG hP hS hl)

theorem K_tableIn {dflt lo hi : Int} {offs : Array Int} {len : Nat} {x off : Int} {tgt : Nat} (hd : decode (mB M) pc = .ok (.tableswitch dflt lo hi offs, len)) (hx0 : i32 x) (h1 : lo ≤ x) (h2 : x ≤ hi) (ho : offs[(x - lo).toNat]? = some off) (ht : (pc : Int) + off = (tgt : Int)) (k : K M G Z nc ns tgt ls st h) : K M G Z nc ns pc ls (vi x :: st) h := by
  intro p l e s m args below meth c D C as ad av H locs lsA cx hG hP hS hl
  obtain ⟨hx, hb, hml, hr, hlk, hown, hts, hK, hj⟩ := id cx
  have e9 := oI_to hx0
  exact lv_tableIn hx hb hd (by rw [e9]; omega) (by rw [e9]; omega) (by rw [e9]; exact ho) ht (k p l e s m args below meth c D C as ad av H locs lsA cx hG hP hS hl)

theorem K_tableOut {dflt lo hi : Int} {offs : Array Int} {len : Nat} {x : Int} {tgt : Nat} (hd : decode (mB M) pc = .ok (.tableswitch dflt lo hi offs, len)) (hx0 : i32 x) (h1 : x < lo ∨ hi < x) (ht : (pc : Int) + dflt = (tgt : Int)) (k : K M G Z nc ns tgt ls st h) : K M G Z nc ns pc ls (vi x :: st) h := by
  intro p l e s m args below meth c D C as ad av H locs lsA cx hG hP hS hl
  obtain ⟨hx, hb, hml, hr, hlk, hown, hts, hK, hj⟩ := id cx
  have e9 := oI_to hx0
  exact lv_tableOut hx hb hd (by rw [e9]; exact h1) ht (k p l e s m args below meth c D C as ad av H locs lsA cx hG hP hS hl)

theorem K_lookup {dflt : Int} {ps : Array (Int × Int)} {len : Nat} {x off : Int} {tgt : Nat} (hd : decode (mB M) pc = .ok (.lookupswitch dflt ps, len)) (hx0 : i32 x) (hp : (ps.toList.zip (ps.toList.drop 1)).all (fun (a, next) => a.1 < next.1) = true) (ho : Op.lookupswitch.offset ps.toList dflt x = off) (ht : (pc : Int) + off = (tgt : Int)) (k : K M G Z nc ns tgt ls st h) : K M G Z nc ns pc ls (vi x :: st) h := by
  intro p l e s m args below meth c D C as ad av H locs lsA cx hG hP hS hl
  obtain ⟨hx, hb, hml, hr, hlk, hown, hts, hK, hj⟩ := id cx
  have e9 := oI_to hx0
  exact lv_lookup hx hb hd hp (by rw [e9]; exact ho) ht (k p l e s m args below meth c D C as ad av H locs lsA cx hG hP hS hl)

end KR
