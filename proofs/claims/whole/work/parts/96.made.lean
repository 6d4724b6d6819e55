/-! THE CONSTRUCTORS: a heap that grows; the cell k lies at z + k, in the order in which they are made -/
abbrev CE : Type := (Nat × List AV) ⊕ (Nat × Nat)
def enC (z : Nat) (C : Nat → ClassId) (k : Nat) : CE → va_E
  | .inl (ci, vs) => .inr (ci, vs.map (cv (fun a => z + a) (fun _ => 0)))
  | .inr (1, n) => .inl (C 0, n, .inl (fun _ => 0))
  | .inr (2, n) => .inl (C 1, n, .inl (fun _ => 0))
  | .inr (3, n) => .inl (C 2, n, .inl (fun _ => 0))
  | .inr (4, n) => .inl (C 3, n, .inr (.inl (fun _ => 0)))
  | .inr (_, n) => .inl (C 4, n, .inr (.inr (.inr (.inr (fun i => some (z + (k + 1 + i)))))))
/-- what is known at a place of a constructor of the object j, with n0 cells at its start: its fields, the cells made since -/
def StC (D : va_G) (C : Nat → ClassId) (z n0 j : Nat) (ow : Option (Nat × List AV)) (L : List CE) (s : State) (H : Heap) (locs : List Loc) : Prop :=
  s.heap.size = z + n0 ∧ H.size = z + n0 + L.length ∧ (∀ k ce, L[k]? = some ce → va_at D vwCl (z + (n0 + k), enC z C (n0 + k) ce) H) ∧ (∀ ci fs, ow = some (ci, fs) → j < n0 ∧ va_at D vwCl (z + j, enC z C j (.inl (ci, fs))) H) ∧ (∀ q, q < z + n0 → q ≠ z + j → H[q]? = s.heap[q]?) ∧ ∀ x ∈ locs, x.base = z + j ∨ z + n0 ≤ x.base
def KC (M : MI) (G : CT → Prop) (Z : CT → State → Prop) (n0 j nc ns pc : Nat) (ls : List (Nat × AV)) (st : List AV) (ow : Option (Nat × List AV)) (L : List CE) : Prop :=
  ∀ (p : Program) (l : Launch) (e : Env) (s : State) (m : MethodId) (args : Array Value) (below : List Frame) (meth : Method) (c : Code) (D : va_G) (C : Nat → ClassId) (z : Nat) (ad av : Nat → Nat) (H : Heap) (locs : List Loc) (lsA : Array Slot),
    Cx M p l e s m args below meth c D C (fun a => z + a) ad av → G (p, l, e, s, m, args, below, meth, c, D, C, (fun a => z + a), ad, av) → StC D C z n0 j ow L s H locs → lv_has lsA (mL M) (cl (fun a => z + a) ad ls) →
    W p l e (mR M) s m args below meth c H locs nc ns (Z (p, l, e, s, m, args, below, meth, c, D, C, (fun a => z + a), ad, av)) (F0 m pc lsA (st.map (cv (fun a => z + a) ad)))
section CR
variable {M : MI} {G : CT → Prop} {Z : CT → State → Prop} {n0 j nc ns pc : Nat} {ls : List (Nat × AV)} {st : List AV} {ow : Option (Nat × List AV)} {L : List CE}
theorem C_aload {i : Fin 4} {k : Nat} {v : AV} (hd : decode (mB M) pc = .ok (.aload_n i, 1)) (hi : (i : Nat) = k) (hv : lg ls k = some v) (hr : ∃ a, v = vr a) (kk : KC M G Z n0 j nc ns (pc + 1) ls (v :: st) ow L) : KC M G Z n0 j nc ns pc ls st ow L := by
  intro p l e s m args below meth c D C z ad av H locs lsA cx hG hS hl
  obtain ⟨hx, hb, hml, hr9, hlk, hown, hts, hK, hj⟩ := id cx
  obtain ⟨a, rfl⟩ := hr
  exact lv_aload_n hx hb hd hi (lg_at hl hv) (kk p l e s m args below meth c D C z ad av H locs lsA cx hG hS hl)
theorem C_astore {i : Fin 4} {k x : Nat} {ls' : List (Nat × AV)} (hd : decode (mB M) pc = .ok (.astore_n i, 1)) (hi : (i : Nat) = k) (hn : k < mL M) (hs : lt ls k (vr x) = ls') (kk : KC M G Z n0 j nc ns (pc + 1) ls' st ow L) : KC M G Z n0 j nc ns pc ls (vr x :: st) ow L := by
  intro p l e s m args below meth c D C z ad av H locs lsA cx hG hS hl
  obtain ⟨hx, hb, hml, hr9, hlk, hown, hts, hK, hj⟩ := id cx
  subst hs
  exact lv_astore_n hx hb hd hi hl hn (lt_cl (fun a => z + a) ad ls k (vr x)) (fun ls' h' => kk p l e s m args below meth c D C z ad av H locs ls' cx hG hS h')
theorem C_iconst {n : Int} (hd : decode (mB M) pc = .ok (.iconst n, 1)) (kk : KC M G Z n0 j nc ns (pc + 1) ls (vi n :: st) ow L) : KC M G Z n0 j nc ns pc ls st ow L := by
  intro p l e s m args below meth c D C z ad av H locs lsA cx hG hS hl
  obtain ⟨hx, hb, hml, hr, hlk, hown, hts, hK, hj⟩ := id cx
  exact lv_iconst hx hb hd rfl (kk p l e s m args below meth c D C z ad av H locs lsA cx hG hS hl)
theorem C_bipush {n : Int} (hd : decode (mB M) pc = .ok (.bipush n, 2)) (hv : (Int8.ofInt n).toInt32 = Int32.ofInt n) (kk : KC M G Z n0 j nc ns (pc + 2) ls (vi n :: st) ow L) : KC M G Z n0 j nc ns pc ls st ow L := by
  intro p l e s m args below meth c D C z ad av H locs lsA cx hG hS hl
  obtain ⟨hx, hb, hml, hr, hlk, hown, hts, hK, hj⟩ := id cx
  exact lv_bipush hx hb hd hv (kk p l e s m args below meth c D C z ad av H locs lsA cx hG hS hl)
theorem C_sipush {n : Int} (hd : decode (mB M) pc = .ok (.sipush n, 3)) (hv : (Int16.ofInt n).toInt32 = Int32.ofInt n) (kk : KC M G Z n0 j nc ns (pc + 3) ls (vi n :: st) ow L) : KC M G Z n0 j nc ns pc ls st ow L := by
  intro p l e s m args below meth c D C z ad av H locs lsA cx hG hS hl
  obtain ⟨hx, hb, hml, hr, hlk, hown, hts, hK, hj⟩ := id cx
  exact lv_sipush hx hb hd hv (kk p l e s m args below meth c D C z ad av H locs lsA cx hG hS hl)
theorem C_dup {v : AV} (hd : decode (mB M) pc = .ok (.dup, 1)) (hv : isL v = false) (kk : KC M G Z n0 j nc ns (pc + 1) ls (v :: v :: st) ow L) : KC M G Z n0 j nc ns pc ls (v :: st) ow L := by
  intro p l e s m args below meth c D C z ad av H locs lsA cx hG hS hl
  obtain ⟨hx, hb, hml, hr, hlk, hown, hts, hK, hj⟩ := id cx
  exact lv_dup hx hb hd (cv_cat1 hv) (kk p l e s m args below meth c D C z ad av H locs lsA cx hG hS hl)
theorem C_obj {a ix : Nat} (hd : decode (mB M) pc = .ok (.invokespecial ix, 3)) (h1 : Cond.methodLink (mY M).cls ix objectInit ∈ gw) (h2 : Cond.instanceMethod objectInit ∈ gw) (h3 : Cond.code objectInit ⟨#[0xb1]⟩ 1 none ∈ gw) (hf : 1 ≤ (mR M).frames) (hlo : wA st + 12 ≤ (mR M).locals) (kk : KC M G Z n0 j nc ns (pc + 3) ls st ow L) : KC M G Z n0 j nc ns pc ls (vr a :: st) ow L := by
  intro p l e s m args below meth c D C z ad av H locs lsA cx hG hS hl
  obtain ⟨hx, hb, hml, hr, hlk, hown, hts, hK, hj⟩ := id cx
  refine W.objInit hx hb hown (hts _ h1) (hts _ h2) (hts _ h3) rfl (by rw [hml]; exact hl.1) rfl hd hf ?_ (kk p l e s m args below meth c D C z ad av H locs lsA cx hG hS hl)
  show 2 * 0 + _ + 12 ≤ _
  rw [wA_cat]
  omega
/-- a cell more, at the end -/
theorem StC_more {D : va_G} {C : Nat → ClassId} {z : Nat} {s : State} {H H1 : Heap} {locs : List Loc} {ce : CE} (hS : StC D C z n0 j ow L s H locs) (h1 : va_at D vwCl (z + (n0 + L.length), enC z C (n0 + L.length) ce) H1) (h2 : H1.size = H.size + 1) (h3 : ∀ q, q < H.size → H1[q]? = H[q]?) : StC D C z n0 j ow (L ++ [ce]) s H1 locs := by
  obtain ⟨s1, s2, s3, s4, s5, s6⟩ := hS
  refine ⟨s1, by rw [h2, s2, List.length_append]; rfl, fun k c9 hk => ?_, fun ci fs ho => ?_, fun q q1 q2 => ?_, s6⟩
  · by_cases hl : k < L.length
    · rw [List.getElem?_append_left hl] at hk
      exact (s3 k c9 hk).kept (h3 _ (by show z + (n0 + k) < _; omega))
    · rw [List.getElem?_append_right (by omega)] at hk
      have h0 : k - L.length < 1 := (List.getElem?_eq_some_iff.mp hk).1
      obtain rfl : k = L.length := by omega
      rw [Nat.sub_self] at hk
      cases hk
      exact h1
  · obtain ⟨o1, o2⟩ := s4 ci fs ho
    exact ⟨o1, o2.kept (h3 _ (by show z + j < _; omega))⟩
  · rw [h3 q (by omega)]
    exact s5 q q1 q2
theorem C_new {ix ci n k : Nat} {R : String} {T : u_T} {fs : List AV} (hd : decode (mB M) pc = .ok (.new ix, 3)) (hc : vwCl[ci]? = some (R, T, n)) (h1 : Cond.classLink (mY M).cls ix R ∈ gw) (h2 : Cond.instantiable R n ∈ gw) (h3 : Cond.initialized R ∈ gw) (hfs : ∀ i, i < n → ∀ as, defaultValue (tyT ci i) = vp_V (fs.map (cv as (fun _ => 0))) i) (hk : n0 + L.length = k) (hnc : nc + 1 ≤ (mR M).cells) (hns : ns + n ≤ (mR M).slots)
    (kk : KC M G Z n0 j (nc + 1) (ns + n) (pc + 3) ls (vr k :: st) ow (L ++ [.inl (ci, fs)])) : KC M G Z n0 j nc ns pc ls st ow L := by
  subst hk
  intro p l e s m args below meth c D C z ad av H locs lsA cx hG hS hl
  obtain ⟨hx, hb, hml, hr, hlk, hown, hts, hK, hj⟩ := id cx
  obtain ⟨-, c2, c3, c4, c5⟩ := cl_ok hc
  have hKn := hK.1 ci _ hc
  have hsz := hS.2.1
  refine W.newcK hx hb hown (hts _ h1) (hts _ h2) (hts _ h3) rfl hd hnc hns hKn.2.1 (h := z + (n0 + L.length)) (by omega) fun H1 kC hkC e1 z1 o1 => ?_
  exact kk p l e s m args below meth c D C z ad av H1 locs lsA cx hG (StC_more hS ⟨_, hc, (u_born (tyT ci) hts c3 hKn hkC e1 c4).to (fun i hi => hfs i hi _)⟩ (by omega) (fun q hq => o1 q (by omega))) hl
theorem C_newa {t k : Nat} {at9 : ArrayType} {x : Int} {N t2 : Nat} {ty : FieldType} (hd : decode (mB M) pc = .ok (.newarray at9, 2)) (hty : newarray.typeOf at9 = ty) (hw : Cond.arrayClass ty ∈ gw) (ht : ∀ C, (tyK C)[t]? = some (C t, ty)) (hnm : ∀ s cA, va_RA s cA ty → s.vm.findClass ("[" ++ ty.toString) = some cA) (hcell : ∀ z C, enC z C (n0 + L.length) (.inr (t2, N)) = enC z C 0 (.inr (t2, N)) ∧ ∃ a, enC z C 0 (.inr (t2, N)) = .inl (C t, a) ∧ vp_cell (C t) a = arrV (C t) N (fun _ => defaultValue ty)) (hx0 : 0 ≤ x) (hx1 : x.toNat = N) (hx2 : N < 4000) (hcb : componentBytes ty ≤ 8) (hk : n0 + L.length = k) (hnc : nc + 1 ≤ (mR M).cells) (hns : ns + N ≤ (mR M).slots)
    (kk : KC M G Z n0 j (nc + 1) (ns + N) (pc + 2) ls (vr k :: st) ow (L ++ [.inr (t2, N)])) : KC M G Z n0 j nc ns pc ls (vi x :: st) ow L := by
  subst hk
  subst hty
  intro p l e s m args below meth c D C z ad av H locs lsA cx hG hS hl
  obtain ⟨hx, hb, hml, hr, hlk, hown, hts, hK, hj⟩ := id cx
  have hsz := hS.2.1
  have hx3 : x < (4000 : Nat) := by omega
  refine va_newaK (n := Int32.ofInt x) (N := N) hx hb (hts _ hw) rfl hd rfl (fun q => ?_) (by rw [oI_nat hx0 hx3 (by decide)]; exact hx1) (Nat.le_trans (Nat.mul_le_mul (Nat.le_of_lt hx2) hcb) (by decide)) hnc hns (h := z + (n0 + L.length)) (by omega) fun H1 cA e1 z1 o1 hAr hNm => ?_
  · rw [← oI_to0, oI_lt ⟨by omega, by omega⟩ ⟨by decide, by decide⟩] at q
    omega
  · obtain ⟨-, hRA⟩ := hK.2 t _ (ht C)
    obtain rfl : C t = cA := Option.some.inj ((hnm _ _ hRA).symm.trans hNm)
    obtain ⟨ec, a, e2, e3⟩ := hcell z C
    exact kk p l e s m args below meth c D C z ad av H1 locs lsA cx hG (StC_more hS (by rw [ec, e2]; show H1[_]? = some (vp_cell (C t) a); rw [e3]; exact e1) (by omega) (fun q hq => o1 q (by omega))) hl
theorem C_put {ci n i ix : Nat} {R : String} {T : u_T} {fs : List AV} {v : AV} (hd : decode (mB M) pc = .ok (.putfield ix, 3)) (hc : vwCl[ci]? = some (R, T, n)) (hi : i < n) (hw : Cond.fieldLink (mY M).cls ix (T i).1 (T i).2.1 (T i).2.2.1 ∈ gw) (hf : (T i).2.2.2 = true → (T i).1 = (mY M).cls) (hG9 : ∀ t : CT, G t → t.2.2.2.2.2.2.2.1.name = "<init>")
    (hn : ∀ as, narrow (tyT ci i) (cv as (fun _ => 0) v) = cv as (fun _ => 0) v) (hfit : ∀ as, fits (tyT ci i) (cv as (fun _ => 0) v) = true) (hv : ∀ b, v ≠ vs (b + 1)) (hl9 : i < fs.length)
    (kk : KC M G Z n0 j nc ns (pc + 3) ls st (some (ci, fs.set i v)) L) : KC M G Z n0 j nc ns pc ls (v :: vr j :: st) (some (ci, fs)) L := by
  intro p l e s m args below meth c D C z ad av H locs lsA cx hG hS hl
  obtain ⟨hx, hb, hml, hr, hlk, hown, hts, hK, hj⟩ := id cx
  have hin := hG9 _ hG
  obtain ⟨-, c2, c3, c4, c5⟩ := cl_ok hc
  obtain ⟨s1, s2, s3, s4, s5, s6⟩ := id hS
  obtain ⟨o1, o2⟩ := s4 ci fs rfl
  have ecv : cv (fun a => z + a) ad v = cv (fun a => z + a) (fun _ => 0) v := by
    rcases v with x | x | a | _ | b
    · rfl
    · rfl
    · rfl
    · rfl
    · exact absurd rfl (hv b)
  have hP : va_P D vwCl [(z + j, enC z C j (.inl (ci, fs)))] H := fun k q hk => by
    have h0 : k < 1 := (List.getElem?_eq_some_iff.mp hk).1
    obtain rfl : k = 0 := by omega
    cases hk
    exact o2
  have hap := va_apart (own := (mY M).cls) hts c3 (tyT ci) c4 c5 hK hc
  obtain ⟨r, h1, cell, q1, q2, q3, q4⟩ := o2
  have hr9 : r = (R, T, n) := Option.some.inj (h1.symm.trans hc)
  subst hr9
  obtain ⟨hS9, hfc, kC, hkC, hkind⟩ := hK.1 ci _ hc
  obtain ⟨cf, kf, fi, f, hi9, hsl⟩ := hS9 i hi
  have hlay := hts _ (c3 _ (u_in_lay hi))
  have hst := (u_facts hfc hkC (u_lays hts c3 hi) hi9).1
  have fin : ∀ H', H'[z + j]? = some (cell.setSlot (D.2 ci i) (cv (fun a => z + a) (fun _ => 0) v)) → H'.size = H.size → (∀ q, q ≠ z + j → H'[q]? = H[q]?) → StC D C z n0 j (some (ci, fs.set i v)) L s H' (locs ++ [⟨z + j, D.2 ci i⟩]) := by
    intro H' e1 e2 e3
    refine ⟨s1, by rw [e2]; exact s2, fun k ce hk => (s3 k ce hk).kept (e3 _ (by show z + (n0 + k) ≠ _; omega)), fun ci9 fs9 ho => ?_, fun q a1 a2 => by rw [e3 q a2]; exact s5 q a1 a2, fun x hx => ?_⟩
    · cases ho
      refine ⟨o1, _, hc, t_OB.to (V := updV (vp_V (fs.map (cv (fun a => z + a) (fun _ => 0)))) i (cv (fun a => z + a) (fun _ => 0) v)) ⟨_, e1, q2, q3, t_set q4 hap hi _⟩ (fun k _ => ?_)⟩
      rw [vp_updV_set (by rw [List.length_map]; exact hl9), List.map_set]
    · rcases List.mem_append.mp hx with h | h
      · exact s6 x h
      · rw [List.mem_singleton.mp h]
        exact Or.inl rfl
  unfold u_lay at hlay
  rw [List.map_cons, ecv]
  cases hfin : (T i).2.2.2 with
  | false =>
    rw [if_neg (by rw [hfin]; decide)] at hlay
    have h6 := u_store hfc hkC hkind hlay hi9 (c4 i hi) (hn (fun a => z + a)) (hfit (fun a => z + a))
    refine W.putK hx hb (f := f) ⟨hown, hts _ hw, ⟨_, _, _, hi9⟩, hst⟩ (by rw [q2]; exact h6) q1 q3 (by rw [hsl]; exact k2_hasslot (q4 i hi)) rfl rfl hd fun H' e1 e2 e3 => ?_
    rw [hsl] at e1 ⊢
    exact kk p l e s m args below meth c D C z ad av H' _ lsA cx hG (fin H' e1 e2 e3) hl
  | true =>
    rw [if_pos hfin] at hlay
    have hcf : m.cls = cf := by
      obtain ⟨_, _, c', _, _, _, -, -, hf', -, -, -, hown2, -⟩ := Cond.laysFinal_spec hlay
      have e1 : c' = cf := by have := hi9.symm.trans hf'; simp at this; exact this.1.symm
      rw [hf hfin] at hown2
      rw [← e1]; exact Option.some.inj (hown.symm.trans hown2)
    have h6 := u_fits hfc hkC hkind (Or.inr hlay) hi9 (c4 i hi) (hn (fun a => z + a)) (hfit (fun a => z + a))
    refine W.putFinK hx hb hown (hts _ hw) hi9 hst hcf hin (by rw [q2]; exact h6) q1 q3 (by rw [hsl]; exact k2_hasslot (q4 i hi)) rfl rfl hd fun H' e1 e2 e3 => ?_
    rw [hsl] at e1 ⊢
    exact kk p l e s m args below meth c D C z ad av H' _ lsA cx hG (fin H' e1 e2 e3) hl
theorem C_get {ci n i ix : Nat} {R : String} {T : u_T} {fs : List AV} {v : AV} (hd : decode (mB M) pc = .ok (.getfield ix, 3)) (hc : vwCl[ci]? = some (R, T, n)) (hi : i < n) (hw : Cond.fieldLink (mY M).cls ix (T i).1 (T i).2.1 (T i).2.2.1 ∈ gw) (hv : fs[i]? = some v) (hr : ∃ a, v = vr a)
    (kk : KC M G Z n0 j nc ns (pc + 3) ls (v :: st) (some (ci, fs)) L) : KC M G Z n0 j nc ns pc ls (vr j :: st) (some (ci, fs)) L := by
  intro p l e s m args below meth c D C z ad av H locs lsA cx hG hS hl
  obtain ⟨hx, hb, hml, hr9, hlk, hown, hts, hK, hj⟩ := id cx
  obtain ⟨-, c2, c3, c4, c5⟩ := cl_ok hc
  obtain ⟨s1, s2, s3, s4, s5, s6⟩ := id hS
  obtain ⟨o1, o2⟩ := s4 ci fs rfl
  obtain ⟨a, rfl⟩ := hr
  have hP : va_P D vwCl [(z + j, enC z C j (.inl (ci, fs)))] H := fun k q hk => by
    have h0 : k < 1 := (List.getElem?_eq_some_iff.mp hk).1
    obtain rfl : k = 0 := by omega
    cases hk
    exact o2
  exact va_get (D := D) (ci := ci) (v := Value.ref (z + a)) (C := R) (T := T) (N := n) hx hb hts c3 hown hK hP 0 rfl hc i hi (hts _ hw) (fun _ h9 => h9) (by rw [List.getElem?_map, hv]; rfl) hd (kk p l e s m args below meth c D C z ad av H locs lsA cx hG hS hl)
/-- a field of another object, known at the start -/
theorem C_getK {ci n i ix b : Nat} {R : String} {T : u_T} {fs : List AV} {v : AV} (hd : decode (mB M) pc = .ok (.getfield ix, 3)) (hc : vwCl[ci]? = some (R, T, n)) (hi : i < n) (hw : Cond.fieldLink (mY M).cls ix (T i).1 (T i).2.1 (T i).2.2.1 ∈ gw) (hv : fs[i]? = some v) (hr : ∃ a, v = vr a)
    (hb9 : b < n0 ∧ b ≠ j) (hG9 : ∀ t : CT, G t → va_at t.2.2.2.2.2.2.2.2.2.1 vwCl (t.2.2.2.2.2.2.2.2.2.2.2.1 b, enC (t.2.2.2.2.2.2.2.2.2.2.2.1 0) t.2.2.2.2.2.2.2.2.2.2.1 b (.inl (ci, fs))) t.2.2.2.1.heap)
    (kk : KC M G Z n0 j nc ns (pc + 3) ls (v :: st) ow L) : KC M G Z n0 j nc ns pc ls (vr b :: st) ow L := by
  intro p l e s m args below meth c D C z ad av H locs lsA cx hG hS hl
  obtain ⟨hx, hb, hml, hr9, hlk, hown, hts, hK, hj⟩ := id cx
  obtain ⟨-, c2, c3, c4, c5⟩ := cl_ok hc
  obtain ⟨s1, s2, s3, s4, s5, s6⟩ := id hS
  have o3 : va_at D vwCl (z + b, enC (z + 0) C b (.inl (ci, fs))) s.heap := hG9 _ hG
  have o2 := o3.kept (H1 := H) (s5 _ (by show z + b < _; omega) (by show z + b ≠ _; omega))
  obtain ⟨a, rfl⟩ := hr
  have hP : va_P D vwCl [(z + b, enC (z + 0) C b (.inl (ci, fs)))] H := fun k q hk => by
    have h0 : k < 1 := (List.getElem?_eq_some_iff.mp hk).1
    obtain rfl : k = 0 := by omega
    cases hk
    exact o2
  exact va_get (D := D) (ci := ci) (v := Value.ref (z + a)) (C := R) (T := T) (N := n) hx hb hts c3 hown hK hP 0 rfl hc i hi (hts _ hw) (fun _ h9 => h9) (by rw [List.getElem?_map, hv]; rfl) hd (kk p l e s m args below meth c D C z ad av H locs lsA cx hG hS hl)
theorem C_mna {ix k : Nat} {x y : Int} {N K9 : Nat} (hd : decode (mB M) pc = .ok (.multianewarray ix 2, 4)) (hw : Cond.classLink (mY M).cls ix "[[I" ∈ gw) (hwa : Cond.arrayClass .int ∈ gw) (hG9 : ∀ t : CT, G t → va_AOA .int t.2.2.2.1) (hx0 : 0 ≤ x) (hx1 : x.toNat = N) (hx2 : N < 4000) (hy0 : 0 ≤ y) (hy1 : y.toNat = K9) (hy2 : K9 < 4000) (hk : n0 + L.length = k) (hnc : nc + (1 + N) ≤ (mR M).cells) (hns : ns + (N + N * K9) ≤ (mR M).slots)
    (kk : KC M G Z n0 j (nc + 1 + N) (ns + N + N * K9) (pc + 4) ls (vr k :: st) ow (L ++ .inr (5, N) :: List.replicate N (.inr (1, K9)))) : KC M G Z n0 j nc ns pc ls (vi y :: vi x :: st) ow L := by
  subst hk
  intro p l e s m args below meth c D C z ad av H locs lsA cx hG hS hl
  obtain ⟨hx, hb, hml, hr, hlk, hown, hts, hK, hj⟩ := id cx
  have hov := hG9 _ hG
  obtain ⟨s1, s2, s3, s4, s5, s6⟩ := id hS
  have hsz := s2
  have hx3 : x < (4000 : Nat) := by omega
  have hy3 : y < (4000 : Nat) := by omega
  have neg : ∀ w : Int, 0 ≤ w → w < (4000 : Nat) → ¬ Int32.ofInt w < 0 := fun w h0 h1 q => by
    rw [← oI_to0, oI_lt ⟨by omega, by omega⟩ ⟨by decide, by decide⟩] at q
    omega
  have hN : (Int32.ofInt x).toNatClampNeg = N := by rw [oI_nat hx0 hx3 (by decide)]; exact hx1
  have hM : (Int32.ofInt y).toNatClampNeg = K9 := by rw [oI_nat hy0 hy3 (by decide)]; exact hy1
  intro T hT Xs
  obtain ⟨vm₁, cA, comp, -, fA, fC, hO, -, X', step⟩ := Xs.multianewarray2F (ty := .int) hx hown (hts _ hw) (va_AOA.use hov) (hts _ hwa) (g := F0 m pc lsA (.int (Int32.ofInt y) :: .int (Int32.ofInt x) :: st.map (cv (fun a => z + a) ad))) rfl (by rw [hb]; exact hd) rfl (neg x hx0 hx3) (neg y hy0 hy3) (by rw [hN]; omega) (by rw [hM]; show K9 * 4 ≤ _; omega) (by rw [hM]; omega) rfl rfl (by rw [hN]; exact hnc) (by rw [hN, hM]; exact hns)
  rw [hN, hM] at X' step
  obtain ⟨-, rA⟩ := hK.2 4 (C 4, .array .int) rfl
  obtain ⟨-, rC⟩ := hK.2 0 (C 0, .int) rfl
  obtain rfl : C 4 = cA := Option.some.inj ((show s.vm.findClass ("[" ++ (FieldType.array FieldType.int).toString) = some (C 4) from rA).symm.trans fA)
  obtain rfl : C 0 = comp := Option.some.inj ((show s.vm.findClass (FieldType.array FieldType.int).toString = some (C 0) from rC).symm.trans fC)
  generalize hF : Jvm.Free.Multi.fill (T.setVm vm₁) (C 4) (C 0) N K9 (defaultValue .int) N = F at X' step
  have hTh : (T.setVm vm₁).heap = H := hT
  obtain ⟨f1, f2, -, -⟩ := Jvm.Free.Multi.fill_facts (T.setVm vm₁) (C 4) (C 0) N K9 (defaultValue .int) N
  rw [hF, hTh] at f1 f2
  have hold : ∀ q : Nat, q < H.size → F.heap[q]? = H[q]? := fun q hq => by
    have := Jvm.Free.Multi.fill_old (T.setVm vm₁) (C 4) (C 0) N K9 (defaultValue .int) (a := q) (by rw [hTh]; exact hq) N
    rw [hF, hTh] at this
    exact this
  have hrow : ∀ i : Nat, i < N → F.heap[H.size + 1 + i]? = some (vp_cell (C 0) (K9, .inl (fun _ => 0))) := fun i hi => by
    have := Jvm.Free.Multi.fill_inner (T.setVm vm₁) (C 4) (C 0) N K9 (defaultValue .int) N i hi
    rw [hF, hTh] at this
    rw [this]
    exact congrArg some (arrV_new (C 0) K9 (.int 0))
  have hout : Jvm.Free.Multi.outerC (C 4) N H.size N = vp_cell (C 4) (N, .inr (.inr (.inr (.inr (fun i => some (z + (n0 + L.length + 1 + i))))))) := by
    rw [vp_cell_q, vr_outer (C 4) N H.size N]
    unfold arrV
    congr 1
    apply congrArg Array.ofFn
    funext i
    show va_rf (if i.val < N then some (H.size + 1 + i.val) else none) = va_rf (some (z + (n0 + L.length + 1 + i.val)))
    rw [if_pos i.isLt, hsz]
    congr 2
    omega
  rw [hout] at f2
  have hS1 : StC D C z n0 j ow (L ++ .inr (5, N) :: List.replicate N (.inr (1, K9))) s F.heap locs := by
    refine ⟨s1, ?_, fun k9 c9 hk => ?_, fun ci fs ho => ?_, fun q q1 q2 => ?_, s6⟩
    · rw [f1, List.length_append, List.length_cons, List.length_replicate]
      omega
    · by_cases hl9 : k9 < L.length
      · rw [List.getElem?_append_left hl9] at hk
        exact (s3 k9 c9 hk).kept (hold _ (by show z + (n0 + k9) < _; omega))
      · rw [List.getElem?_append_right (by omega)] at hk
        by_cases h0 : k9 = L.length
        · subst h0
          rw [Nat.sub_self] at hk
          cases hk
          show F.heap[z + (n0 + L.length)]? = some (vp_cell (C 4) _)
          rw [show z + (n0 + L.length) = H.size by omega]
          exact f2
        · obtain ⟨d, hd9⟩ : ∃ d, k9 - L.length = d + 1 := ⟨k9 - L.length - 1, by omega⟩
          rw [hd9, List.getElem?_cons_succ] at hk
          have hdN : d < N := by
            have := (List.getElem?_eq_some_iff.mp hk).1
            rw [List.length_replicate] at this
            exact this
          rw [List.getElem?_replicate, if_pos hdN] at hk
          cases hk
          show F.heap[z + (n0 + k9)]? = some (vp_cell (C 0) (K9, .inl (fun _ => 0)))
          rw [show z + (n0 + k9) = H.size + 1 + d by omega]
          exact hrow d hdN
    · obtain ⟨o1, o2⟩ := s4 ci fs ho
      exact ⟨o1, o2.kept (hold _ (by show z + j < _; omega))⟩
    · rw [hold q (by omega)]
      exact s5 q q1 q2
  obtain ⟨t, a1, b1⟩ := kk p l e s m args below meth c D C z ad av F.heap locs lsA cx hG hS1 hl F rfl X'
  refine ⟨t, step t ?_, b1⟩
  have e9 : T.heap.size = z + (n0 + L.length) := by rw [hT]; omega
  rw [e9]
  exact a1
end CR
/-! contracts of constructors -/
theorem va_AOA.moved {u U : State} (hvm : u.vm.Alike U.vm) (h : va_AOA .int u) : va_AOA .int U := by
  unfold va_AOA Cond.before at h ⊢
  simp only [Cond.holds, Cond.value, beq_iff_eq] at h
  cases hc : u.vm.findClass (FieldType.array FieldType.int).toString with
  | none => simp [hc] at h
  | some comp =>
    simp only [hc, Option.bind_some, Option.bind_eq_some_iff, Option.map_eq_some_iff] at h
    obtain ⟨c, hi, k, hk, hb⟩ := h
    obtain ⟨k', hk', hek⟩ := hvm.2.2 _ _ hk
    have hc' : U.vm.findClass (FieldType.array FieldType.int).toString = some comp := by rw [hvm.findClass]; exact hc
    simp only [Cond.holds, Cond.value, hc', Option.bind_some, beq_iff_eq]
    rw [Option.bind_eq_some_iff]
    refine ⟨c, (hvm.findIdx?_eqK _ (fun _ => rfl)).trans hi, ?_⟩
    rw [Option.map_eq_some_iff]
    refine ⟨k', hk', ?_⟩
    rw [hvm.findClass, hek]
    exact hb
theorem Ij_z (z : Nat) : Ij (fun a => z + a) := fun a b _ _ h => by
  have h9 : z + a = z + b := h
  omega
def GC (kn : List (Nat × CE)) : CT → Prop := fun (_, _, _, s, _, _, _, meth, _, D, C, as, _, _) => meth.name = "<init>" ∧ va_AOA .int s ∧ ∀ q ∈ kn, va_at D vwCl (as q.1, enC (as 0) C q.1 q.2) s.heap
theorem GC_n {kn : List (Nat × CE)} : ∀ t : CT, GC kn t → t.2.2.2.2.2.2.2.1.name = "<init>" := fun _ h => h.1
theorem GC_a {kn : List (Nat × CE)} : ∀ t : CT, GC kn t → va_AOA .int t.2.2.2.1 := fun _ h => h.2.1
def QcC (D : va_G) (C : Nat → ClassId) (z n0 j ci : Nat) (fs : List AV) (Lo : List CE) : Array Value → State → Outcome → State → Prop := fun _ st oc t =>
  oc = .returned none ∧ t.heap.size = z + n0 + Lo.length ∧ (∀ k ce, Lo[k]? = some ce → va_at D vwCl (z + (n0 + k), enC z C (n0 + k) ce) t.heap) ∧ va_at D vwCl (z + j, enC z C j (.inl (ci, fs))) t.heap ∧ ∀ q, q < z + n0 → q ≠ z + j → t.heap[q]? = st.heap[q]?
def fC (z n0 j : Nat) : Addr → Prop := fun q => q = z + j ∨ z + n0 ≤ q
def ZC (n0 j ci : Nat) (fs : List AV) (Lo : List CE) (mc ms : Nat) : CT → State → Prop := fun (_, _, _, s, _, args, below, _, _, D, C, as, _, _) => MQ below (QcC D C (as 0) n0 j ci fs Lo) args s mc ms (fC (as 0) n0 j)
def PcC (D : va_G) (C : Nat → ClassId) (z : Nat) (ad : Nat → Nat) (n0 j ci : Nat) (fs : List AV) (kn : List (Nat × CE)) (pars : List AV) : Array Value → State → Prop :=
  va_Pc ((vr j :: pars).map (cv (fun a => z + a) ad)) (fun U => U.heap.size = z + n0 ∧ j < n0 ∧ va_at D vwCl (z + j, enC z C j (.inl (ci, fs))) U.heap ∧ (∀ q ∈ kn, va_at D vwCl (z + q.1, enC z C q.1 q.2) U.heap) ∧ va_K D vwCl (tyK C) U ∧ va_AOA .int U)
/-- the constructor M of the object j, with n0 cells at its start: its fields become fs1, the cells Lo come -/
def SpecC (M : MI) (n0 j ci : Nat) (fs0 : List AV) (kn : List (Nat × CE)) (pars fs1 : List AV) (Lo : List CE) : Prop :=
  ∀ (l : Launch) (D : va_G) (C : Nat → ClassId) (z : Nat) (ad : Nat → Nat), Met l (mY M) (wsM M) (mR M) (PcC D C z ad n0 j ci fs0 kn pars) (QcC D C z n0 j ci fs1 Lo) (mR M).cells (mR M).slots (fC z n0 j)
theorem SpecC_of {M : MI} {n0 j ci : Nat} {fs0 pars fs1 : List AV} {kn : List (Nat × CE)} {Lo : List CE} (hy : plainName (mY M).cls = true) (hy1 : (mY M).name = "<init>") (hL : wA (vr j :: pars) ≤ mL M) (k : KC M (GC kn) (ZC n0 j ci fs1 Lo (mR M).cells (mR M).slots) n0 j 0 0 0 (lA 0 (vr j :: pars)) [] (some (ci, fs0)) []) : SpecC M n0 j ci fs0 kn pars fs1 Lo := by
  intro l D C z ad
  refine Met.ofW (cc := mB M) (maxL := mL M) (ret := mT M) hy rfl ?_
  intro p e s m a below meth c s₁ B hml hv
  obtain ⟨rfl, hsz, hjn, hat, hkn, hK, hov⟩ := hv
  have hown : s.vm.findClass (mY M).cls = some m.cls := findClass_of_methodNamed B.named
  have hts := atoms_spec (ws := wsM M) B.pre
  have hin : meth.name = "<init>" := by rw [← hy1]; exact (name_of_methodNamed B.named B.method).1
  have hl := lv_entry ((vr j :: pars).map (cv (fun a => z + a) ad)) (n := mL M) (by rw [wA_sl]; exact hL)
  rw [lg_entry_eq]
  generalize (lg_sl ((vr j :: pars).map (cv (fun a => z + a) ad)) ++ List.replicate (mL M - (lg_sl ((vr j :: pars).map (cv (fun a => z + a) ad))).length) Slot.unset).toArray = lsA at hl ⊢
  rw [lA_cl] at hl
  exact k p l e s m _ below meth c D C z ad ad s.heap [] lsA ⟨B.exec, B.bytes, hml, B.returns, B.notSynchronized, hown, fun w hw => hts w (List.mem_cons_of_mem _ hw), hK, Ij_z z⟩ ⟨hin, hov, hkn⟩ ⟨hsz, (by rw [hsz]; rfl), (fun k9 ce hk => (by cases hk)), (fun ci9 fs9 ho => (by cases ho; exact ⟨hjn, hat⟩)), fun _ _ _ => rfl, fun _ hx => nomatch hx⟩ hl
theorem PcC_blind {D : va_G} {C : Nat → ClassId} {z : Nat} {ad : Nat → Nat} {n0 j ci : Nat} {fs pars : List AV} {kn : List (Nat × CE)} : FrameBlind (PcC D C z ad n0 j ci fs kn pars) := by
  intro a U g mk q
  obtain ⟨q0, q1, q2, q3, q4, qK, qA⟩ := q
  exact ⟨q0, q1, q2, q3, q4, va_K.moved (u := U) (U := U.calling g mk a) (Vm.Alike.refl U.vm) qK, va_AOA.moved (u := U) (U := U.calling g mk a) (Vm.Alike.refl U.vm) qA⟩
section CS
variable {M : MI} {G : CT → Prop} {Z : CT → State → Prop} {n0 j nc ns pc : Nat} {ls : List (Nat × AV)} {st : List AV} {ow : Option (Nat × List AV)} {L : List CE}
theorem C_ret {ci mc ms : Nat} {fs : List AV} (hd : decode (mB M) pc = .ok (.return_, 1)) (ht : mT M = none) (hc : nc ≤ mc) (hs : ns ≤ ms) : KC M G (ZC n0 j ci fs L mc ms) n0 j nc ns pc ls [] (some (ci, fs)) L := by
  intro p l e s m args below meth c D C z ad av H locs lsA cx hG hS hl
  obtain ⟨hx, hb, hml, hr, hlk, hown, hts, hK, hj⟩ := id cx
  obtain ⟨s1, s2, s3, s4, s5, s6⟩ := id hS
  refine W.widen hc hs ?_
  exact W.vret hx hb (hr.trans ht) (fun t ht hW => ⟨rfl, by rw [ht]; exact s2, fun k ce hk => by rw [ht]; exact s3 k ce hk, by rw [ht]; exact (s4 ci fs rfl).2, fun q a1 a2 => by rw [ht]; exact s5 q a1 a2⟩) s6 hd hlk
theorem C_call {M' : MI} {ix b ci n1 : Nat} {fs0 pars fs1 : List AV} {kn : List (Nat × CE)} {L0 Lo : List CE} {st0 : List AV} (hd : decode (mB M) pc = .ok (.invokespecial ix, 3)) (hsp : SpecC M' n1 b ci fs0 kn pars fs1 Lo) (hb9 : n0 + L0.length = b) (hn1 : b + 1 = n1) (hmt : mT M' = none) (hw : Cond.methodLink (mY M).cls ix (mY M') ∈ gw) (hv1 : Cond.instanceMethod (mY M') ∈ gw) (hv2 : Cond.initialized (mY M').cls ∈ gw) (hv3 : Cond.code (mY M') (mB M') (mL M') (mT M') ∈ gw)
    (hnm : (mY M').cls ≠ "java/lang/invoke/MethodHandle" ∧ (mY M').cls ≠ "java/lang/invoke/VarHandle") (hy1 : (mY M').name = "<init>") (hst : st0 = pars.reverse ++ vr b :: st) (hnp : (parseMethodDescriptor (mY M').desc).map (fun d => d.parameters.length) = some pars.length) (hR : (mR M').frames + 1 ≤ (mR M).frames) (hlo : 8 + (mL M' + 11) + (mR M').locals ≤ (mR M).locals) (hwt : wA st ≤ 8) (hnc : nc + (mR M').cells ≤ (mR M).cells) (hns : ns + (mR M').slots ≤ (mR M).slots) (hG9 : ∀ t : CT, G t → va_AOA .int t.2.2.2.1)
    (hkn : ∀ (D : va_G) (C : Nat → ClassId) (z : Nat) (s : State) (H : Heap) (locs : List Loc), StC D C z n0 j ow (L0 ++ [.inl (ci, fs0)]) s H locs → ∀ q ∈ kn, va_at D vwCl (z + q.1, enC z C q.1 q.2) H)
    (kk : KC M G Z n0 j (nc + (mR M').cells) (ns + (mR M').slots) (pc + 3) ls st ow (L0 ++ .inl (ci, fs1) :: Lo)) : KC M G Z n0 j nc ns pc ls st0 ow (L0 ++ [.inl (ci, fs0)]) := by
  subst hst
  subst hn1
  subst hb9
  intro p l e s m args below meth c D C z ad av H locs lsA cx hG hS hl
  obtain ⟨hx, hb, hml, hr, hlk, hown, hts, hK, hj⟩ := id cx
  obtain ⟨s1, s2, s3, s4, s5, s6⟩ := id hS
  rw [List.length_append] at s2
  have hs2 : H.size = z + n0 + (L0.length + 1) := s2
  have hov := hG9 _ hG
  have hme : va_at D vwCl (z + (n0 + L0.length), enC z C (n0 + L0.length) (.inl (ci, fs0))) H := s3 L0.length _ (by rw [List.getElem?_append_right (Nat.le_refl _), Nat.sub_self]; rfl)
  have hrun := va_runI (R := mR M) (locs := locs) (cells := nc) (slots := ns) (below := below) (meth := meth) (e := e) (g := F0 m pc lsA ((pars.reverse ++ vr (n0 + L0.length) :: st).map (cv (fun a => z + a) ad))) (b := z + (n0 + L0.length)) (As := pars.map (cv (fun a => z + a) ad)) (rest := st.map (cv (fun a => z + a) ad)) (H := H) ⟨hx, hb, hml, hown, hts⟩ (hsp l D C z ad) (cwI (bytes := mB M') (maxL := mL M') (ws' := gw) pars.length hts (wsM_good hv3) (by unfold wsM; rw [hmt]) rfl rfl (hts _ hv2) (hts _ hw) (hts _ hv1) hy1 ⟨hnm.1, hnm.2, hnp⟩ ⟨hR, hlo⟩)
    ⟨PcC_blind, fun U hU hW => ⟨rfl, by rw [hU]; omega, by omega, by rw [hU]; exact hme, fun q hq => by rw [hU]; exact hkn D C z s H locs hS q hq, va_K.moved hW.alike hK, va_AOA.moved hW.alike hov⟩⟩ rfl (by simp) hl.1 (by simp [cv]) (lv_room (by rw [wA_cat]; exact hwt)) hd ⟨hnc, hns⟩
  intro T hT X
  obtain ⟨v, st₀, t, T', L9, h0, X', hL9, e1, e2, ⟨hv, z1, z2, z3, z4⟩, stp⟩ := hrun T hT X
  cases hv
  have hkeep : ∀ q, q < z + (n0 + L0.length + 1) → q ≠ z + (n0 + L0.length) → T'.heap[q]? = H[q]? := fun q a1 a2 => by rw [e1, z4 q a1 a2, h0]
  have hS1 : StC D C z n0 j ow (L0 ++ .inl (ci, fs1) :: Lo) s T'.heap (locs ++ L9) := by
    refine ⟨s1, ?_, fun k9 c9 hk => ?_, fun ci9 fs9 ho => ?_, fun q q1 q2 => ?_, fun x hx9 => ?_⟩
    · rw [e1, z1, List.length_append, List.length_cons]
      omega
    · by_cases hl9 : k9 < L0.length
      · rw [List.getElem?_append_left hl9] at hk
        exact (s3 k9 c9 (by rw [List.getElem?_append_left hl9]; exact hk)).kept (hkeep _ (by show z + (n0 + k9) < _; omega) (by show z + (n0 + k9) ≠ _; omega))
      · rw [List.getElem?_append_right (by omega)] at hk
        by_cases h9 : k9 = L0.length
        · subst h9
          rw [Nat.sub_self] at hk
          cases hk
          rw [e1]
          exact z3
        · obtain ⟨d, hd9⟩ : ∃ d, k9 - L0.length = d + 1 := ⟨k9 - L0.length - 1, by omega⟩
          rw [hd9, List.getElem?_cons_succ] at hk
          have h8 := z2 d c9 hk
          rw [show n0 + L0.length + 1 + d = n0 + k9 by omega] at h8
          rw [e1]
          exact h8
    · obtain ⟨o1, o2⟩ := s4 ci9 fs9 ho
      exact ⟨o1, o2.kept (hkeep _ (by show z + j < _; omega) (by show z + j ≠ _; omega))⟩
    · rw [hkeep q (by omega) (by omega)]
      exact s5 q q1 q2
    · rcases List.mem_append.mp hx9 with h | h
      · exact s6 x h
      · rcases hL9 x h with h | h
        · exact Or.inr (by rw [h]; omega)
        · exact Or.inr (by omega)
  obtain ⟨t2, a1, b1⟩ := kk p l e s m args below meth c D C z ad av T'.heap (locs ++ L9) lsA cx hG hS1 hl T' rfl X'
  exact ⟨t2, stp t2 a1, b1⟩
end CS
