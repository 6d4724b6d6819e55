/-! contracts, entries, returns, calls -/
abbrev AO : Type := Option AV ⊕ String
def sTab : List (String × Nat × String) := [("PackedCases$Reader", 63, "thing"), ("PackedCases$Reader", 72, "person"), ("PackedCases$Reader", 132, "by"), ("PackedCases$Reader", 77, "puts"), ("PackedCases$Reader", 179, "not"), ("PackedCases$Reader", 222, "fond"), ("PackedCases$Reader", 223, "day"), ("PackedCases$Reader", 214, "use"), ("PackedCases$Reader", 215, "weight"), ("PackedCases$Reader", 216, "stock"), ("PackedCases$Reader", 217, "room"), ("PackedCases$Reader", 219, "had"), ("PackedCases$Reader", 221, "away"), ("PackedCases$Reader", 177, "and"), ("PackedCases$Reader", 166, "or"), ("PackedCases$Reader", 82, "feels"), ("PackedCases", 403, "a number out of its bounds"), ("PackedCases", 401, "no such what"), ("PackedCases", 396, "no such thing"), ("PackedCases", 399, "no such person"), ("PackedCases", 370, "a game is of two")]
def sByt : List (List Int32) := sTab.map (fun q => q.2.2.toList.map (fun ch => Int32.ofNat ch.toNat))
def sLen : List Nat := sTab.map (fun q => q.2.2.length)
def eIA : String := "java/lang/IllegalArgumentException"
def eNS : String := "java/util/NoSuchElementException"
/-- words of a throw that don't ride by themselves -/
def xW : List Cond := [.declares (Bundle.initS "java/lang/RuntimeException"), .declares (Bundle.initS "java/lang/Exception"), .declares (Bundle.initS "java/lang/Throwable"), .castable eIA eIA, .castable eNS eNS]
theorem xW_warm {s U : State} (hW : s.WarmedH U.vm) (h : ∀ w ∈ xW, va_Nw w s) : ∀ w ∈ xW, va_Nw w U := by
  intro w hw
  have h1 := h w hw
  simp only [xW, List.mem_cons, List.not_mem_nil, or_false] at hw
  rcases hw with rfl | rfl | rfl | rfl | rfl
  · exact va_Nw.warmD hW h1
  · exact va_Nw.warmD hW h1
  · exact va_Nw.warmD hW h1
  · exact va_Nw.warmC hW h1
  · exact va_Nw.warmC hW h1
theorem xW_same {s U : State} (e : s.vm = U.vm) (h : ∀ w ∈ xW, va_Nw w s) : ∀ w ∈ xW, va_Nw w U := by
  intro w hw
  have h1 := h w hw
  simp only [xW, List.mem_cons, List.not_mem_nil, or_false] at hw
  rcases hw with rfl | rfl | rfl | rfl | rfl <;> exact va_Nw.same rfl e h1
/-- the string constants (vs (i + 1), their bytes vs (i + 23)) and the two statics that String's methods read (vs 0 is null, vs 50 the formatter) -/
def SX (as ad : Nat → Nat) (sz : Nat) (U : State) (H : Heap) : Prop :=
  vk_S 21 sLen sByt (fun i => ad (i + 1)) (fun i => ad (i + 23)) (AA as sz) U H ∧ va_Z "java/lang/String" "COMPACT_STRINGS" "Z" (.int 1) (AA as sz) U H ∧
  ∃ k : Nat, (k = 0 ∨ k = 50) ∧ va_Z "jdk/internal/util/Preconditions" "SIOOBE_FORMATTER" "Ljava/util/function/BiFunction;" (cv as ad (vs k)) (AA as sz) U H
theorem SX.moved {as ad : Nat → Nat} {sz : Nat} {u U : State} {H : Heap} (hvm : u.vm.Alike U.vm) (h : SX as ad sz u H) : SX as ad sz U H := by
  obtain ⟨h1, h2, k, h3, h4⟩ := h
  exact ⟨vk_S.moved hvm h1, va_Z.moved hvm h2, k, h3, va_Z.moved hvm h4⟩
theorem SX.call {as ad : Nat → Nat} {s U : State} {H : Heap} {locs : List Loc} (h : SX as ad s.heap.size s s.heap) (hS : va_S (AA as s.heap.size) s.heap H locs) (hvm : s.vm.Alike U.vm) : SX as ad H.size U H := by
  obtain ⟨h1, h2, k, h3, h4⟩ := SX.moved hvm h
  have hm := AA_mono (as := as) hS.1
  exact ⟨(h1.kept hS.2.1).narrow hm, (h2.kept hS.2.1).narrow hm, k, h3, (h4.kept hS.2.1).narrow hm⟩
/-- what stays outside of the world: the string constants, the two statics of a throw -/
def ExK (as ad _av : Nat → Nat) (sz : Nat) (U : State) (H : Heap) : Prop :=
  SX as ad sz U H ∧ (∀ (i : Nat) (q : String × Nat × String), sTab[i]? = some q → vk_R q.1 q.2.1 q.2.2 (ad (i + 1)) U) ∧
  vx_Zq Bundle.tN "UNASSIGNED_STACK" Bundle.steD (AA as sz) U H ∧ vx_Zq Bundle.tN "SUPPRESSED_SENTINEL" Bundle.listD (AA as sz) U H ∧ (∀ w ∈ xW, va_Nw w U) ∧ va_Nc eIA eNS U
theorem ExK.call {as ad av : Nat → Nat} {s U : State} {H : Heap} {locs : List Loc} (h : ExK as ad av s.heap.size s s.heap) (hS : va_S (AA as s.heap.size) s.heap H locs) (hU : U.heap = H) (hW : s.WarmedH U.vm) : ExK as ad av H.size U U.heap := by
  obtain ⟨h1, h2, h3, h4, h5, h6⟩ := h
  have hm := AA_mono (as := as) hS.1
  rw [hU]
  exact ⟨h1.call hS hW.alike, fun i q hq => vk_R.warm hW (h2 i q hq), (vx_Zq.moved hW.alike (h3.kept hS.2.1)).narrow hm, (vx_Zq.moved hW.alike (h4.kept hS.2.1)).narrow hm, xW_warm hW h5, va_Nc.moved hW.alike h6⟩
theorem ExK.calling {as ad av : Nat → Nat} {sz : Nat} {U : State} {g : JFrame} {mk : MethodId} {a : Array Value} (h : ExK as ad av sz U U.heap) : ExK as ad av sz (U.calling g mk a) (U.calling g mk a).heap := by
  obtain ⟨h1, h2, h3, h4, h5, h6⟩ := h
  exact ⟨SX.moved (u := U) (U := U.calling g mk a) (Vm.Alike.refl U.vm) h1, fun i q hq => vk_R.same (u := U) (U := U.calling g mk a) rfl (h2 i q hq), vx_Zq.moved (u := U) (U := U.calling g mk a) (Vm.Alike.refl U.vm) h3, vx_Zq.moved (u := U) (U := U.calling g mk a) (Vm.Alike.refl U.vm) h4, xW_same (s := U) (U := U.calling g mk a) rfl h5, va_Nc.moved (u := U) (U := U.calling g mk a) (Vm.Alike.refl U.vm) h6⟩
def GE : CT → Prop := fun (_, l, _, s, _, _, _, _, _, _, _, as, ad, av) => l.stackTraces = false ∧ ExK as ad av s.heap.size s s.heap
/-- a method without handlers -/
def GK : CT → Prop := fun (p, l, e, s, m, args, below, meth, c, D, C, as, ad, av) => GE (p, l, e, s, m, args, below, meth, c, D, C, as, ad, av) ∧ ∀ x ∈ c.exceptionTable.toList, False
theorem GK_E : ∀ t : CT, GK t → GE t := fun _ h => h.1
def QcK (D : va_G) (C : Nat → ClassId) (as ad : Nat → Nat) (sz : Nat) (Q : AO → HP → Prop) : Array Value → State → Outcome → State → Prop := fun _ st oc t =>
  (∃ (v : Option AV) (h' : HP), oc = .returned (v.map (cv as ad)) ∧ Q (.inl v) h' ∧ va_P D vwCl (wsK as C h') t.heap) ∧ va_F (AA as sz) st t
def XcK (D : va_G) (C : Nat → ClassId) (as : Nat → Nat) (sz : Nat) (Q : AO → HP → Prop) : String → State → State → Prop := fun E st t =>
  (∃ h' : HP, Q (.inr E) h' ∧ va_P D vwCl (wsK as C h') t.heap) ∧ va_F (AA as sz) st t
def ZK (Q : AO → HP → Prop) (mc ms : Nat) : CT → State → Prop := fun (_, _, _, s, _, args, below, _, _, D, C, as, ad, _) =>
  vx_MQ below (QcK D C as ad s.heap.size Q) (XcK D C as s.heap.size Q) args s mc ms (AA as s.heap.size)
def PcK (D : va_G) (C : Nat → ClassId) (as ad av : Nat → Nat) (sz : Nat) (args : List AV) (h : HP) : Array Value → State → Prop :=
  va_Pc (args.map (cv as ad)) (fun U => U.heap.size = sz ∧ va_P D vwCl (wsK as C h) U.heap ∧ va_K D vwCl (tyK C) U ∧ Ij as ∧ ExK as ad av sz U U.heap)
def wsM (M : MI) : List Cond := Cond.code (mY M) (mB M) (mL M) (mT M) :: gw
/-- M, called with args in h, ends with Q -/
def SpecK (M : MI) (args : List AV) (h : HP) (Q : AO → HP → Prop) : Prop :=
  ∀ (l : Launch) (D : va_G) (C : Nat → ClassId) (as ad av : Nat → Nat) (sz : Nat), l.stackTraces = false →
    vx_Met l (mY M) (wsM M) (mR M) (PcK D C as ad av sz args h) (QcK D C as ad sz Q) (XcK D C as sz Q) (mR M).cells (mR M).slots (AA as sz)
def lA : Nat → List AV → List (Nat × AV)
  | _, [] => []
  | i, v :: vs => (i, v) :: lA (if isL v = true then i + 2 else i + 1) vs
def wA : List AV → Nat
  | [] => 0
  | v :: vs => (if isL v = true then 2 else 1) + wA vs
theorem lA_cl (as ad : Nat → Nat) : ∀ (i : Nat) (vs : List AV), lv_args i (vs.map (cv as ad)) = cl as ad (lA i vs)
  | _, [] => rfl
  | i, v :: vs => by
    have e : (if (cv as ad v).category = 2 then i + 2 else i + 1) = (if isL v = true then i + 2 else i + 1) := by
      rcases v with x | x | a | _ | k <;> rfl
    show (i, cv as ad v) :: lv_args (if (cv as ad v).category = 2 then i + 2 else i + 1) (vs.map (cv as ad)) = (i, cv as ad v) :: cl as ad (lA (if isL v = true then i + 2 else i + 1) vs)
    rw [e, lA_cl as ad _ vs]
theorem wA_sl (as ad : Nat → Nat) : ∀ vs : List AV, (lg_sl (vs.map (cv as ad))).length = wA vs
  | [] => rfl
  | v :: vs => by
    have h := wA_sl as ad vs
    unfold lg_sl at h ⊢
    rw [List.map_cons, List.flatMap_cons, List.length_append, h]
    show _ = (if isL v = true then 2 else 1) + wA vs
    rcases v with x | x | a | _ | k <;> rfl
theorem wA_cat (as ad : Nat → Nat) : ∀ vs : List AV, ((vs.map (cv as ad)).map fun v => v.category).sum = wA vs
  | [] => rfl
  | v :: vs => by
    have h := wA_cat as ad vs
    rw [List.map_cons, List.map_cons, List.sum_cons, h]
    show _ = (if isL v = true then 2 else 1) + wA vs
    rcases v with x | x | a | _ | k <;> rfl
theorem Spec_of {M : MI} {args : List AV} {h : HP} {Q : AO → HP → Prop} (hy : plainName (mY M).cls = true) (hL : wA args ≤ mL M) (k : K M GK (ZK Q (mR M).cells (mR M).slots) 0 0 0 (lA 0 args) [] h) : SpecK M args h Q := by
  intro l D C as ad av sz hl0
  refine vx_ofW (cc := mB M) (maxL := mL M) (ret := mT M) hy rfl ?_
  intro p e s m a below meth c s₁ B hml htab hv
  obtain ⟨rfl, hsz, hP, hK, hj, hE⟩ := hv
  subst hsz
  have hown : s.vm.findClass (mY M).cls = some m.cls := findClass_of_methodNamed B.named
  have hts := atoms_spec (ws := wsM M) B.pre
  have hl := lv_entry (args.map (cv as ad)) (n := mL M) (by rw [wA_sl]; exact hL)
  rw [lg_entry_eq]
  generalize (lg_sl (args.map (cv as ad)) ++ List.replicate (mL M - (lg_sl (args.map (cv as ad))).length) Slot.unset).toArray = lsA at hl ⊢
  rw [lA_cl] at hl
  exact k p l e s m _ below meth c D C as ad av s.heap [] lsA ⟨B.exec, B.bytes, hml, B.returns, B.notSynchronized, hown, fun w hw => hts w (List.mem_cons_of_mem _ hw), hK, hj⟩ ⟨⟨hl0, hE⟩, htab⟩ hP va_S.rf hl
theorem Spec_mono {M : MI} {args : List AV} {h : HP} {Q Q' : AO → HP → Prop} (hq : ∀ o h', Q o h' → Q' o h') (k : SpecK M args h Q) : SpecK M args h Q' := by
  intro l D C as ad av sz hl0 p e ha hc hk s m a below hf happ hP hK
  obtain ⟨n, o, h1, h2, h3, h4⟩ := k l D C as ad av sz hl0 p e ha hc hk s m a below hf happ hP hK
  refine ⟨n, o, h1, h2, h3, ?_⟩
  rcases h4 with ⟨⟨⟨v, h', a1, a2, a3⟩, a4⟩, a5⟩ | ⟨q, a1, E, ce, L, ⟨⟨h', a2, a3⟩, a4⟩, a5⟩
  · exact Or.inl ⟨⟨⟨v, h', a1, hq _ _ a2, a3⟩, a4⟩, a5⟩
  · exact Or.inr ⟨q, a1, E, ce, L, ⟨⟨h', hq _ _ a2, a3⟩, a4⟩, a5⟩
section KE
variable {M : MI} {G : CT → Prop} {Z : CT → State → Prop} {Q : AO → HP → Prop} {nc ns pc mc ms : Nat} {ls : List (Nat × AV)} {st : List AV} {h : HP}
theorem K_iret {x : Int} {ty : FieldType} (hd : decode (mB M) pc = .ok (.ireturn, 1)) (ht : mT M = some ty) (hn : narrow ty (.int (Int32.ofInt x)) = .int (Int32.ofInt x)) (hc : nc ≤ mc) (hs : ns ≤ ms) (hq : Q (.inl (some (vi x))) h) : K M G (ZK Q mc ms) nc ns pc ls [vi x] h := by
  intro p l e s m args below meth c D C as ad av H locs lsA cx hG hP hS hl
  obtain ⟨hx, hb, hml, hr, hlk, hown, hts, hK, hj⟩ := id cx
  refine W.widen hc hs ?_
  exact vx_ret (W.zret hx hb (hr.trans ht) hn (fun t ht hW => ⟨⟨some (vi x), h, rfl, hq, by rw [ht]; exact hP⟩, hS.F ht⟩) hS.2.2 hd hlk)
theorem K_lret {x : Int} (hd : decode (mB M) pc = .ok (.lreturn, 1)) (ht : mT M = some .long) (hc : nc ≤ mc) (hs : ns ≤ ms) (hq : Q (.inl (some (vl x))) h) : K M G (ZK Q mc ms) nc ns pc ls [vl x] h := by
  intro p l e s m args below meth c D C as ad av H locs lsA cx hG hP hS hl
  obtain ⟨hx, hb, hml, hr, hlk, hown, hts, hK, hj⟩ := id cx
  refine W.widen hc hs ?_
  exact vx_ret (W.lret hx hb (hr.trans ht) (fun t ht hW => ⟨⟨some (vl x), h, rfl, hq, by rw [ht]; exact hP⟩, hS.F ht⟩) hS.2.2 hd hlk)
theorem K_vret (hd : decode (mB M) pc = .ok (.return_, 1)) (ht : mT M = none) (hc : nc ≤ mc) (hs : ns ≤ ms) (hq : Q (.inl none) h) : K M G (ZK Q mc ms) nc ns pc ls [] h := by
  intro p l e s m args below meth c D C as ad av H locs lsA cx hG hP hS hl
  obtain ⟨hx, hb, hml, hr, hlk, hown, hts, hK, hj⟩ := id cx
  refine W.widen hc hs ?_
  exact vx_ret (W.vret hx hb (hr.trans ht) (fun t ht hW => ⟨⟨none, h, rfl, hq, by rw [ht]; exact hP⟩, hS.F ht⟩) hS.2.2 hd hlk)
theorem K_aret {a : Nat} {ty : String} (hd : decode (mB M) pc = .ok (.areturn, 1)) (ht : mT M = some (.object ty)) (hc : nc ≤ mc) (hs : ns ≤ ms) (hq : Q (.inl (some (vr a))) h) : K M G (ZK Q mc ms) nc ns pc ls [vr a] h := by
  intro p l e s m args below meth c D C as ad av H locs lsA cx hG hP hS hl
  obtain ⟨hx, hb, hml, hr, hlk, hown, hts, hK, hj⟩ := id cx
  refine W.widen hc hs ?_
  exact vx_ret (W.aret hx hb (hr.trans ht) (Or.inl ⟨ty, rfl⟩) (Or.inr ⟨as a, rfl⟩) (fun t ht hW => ⟨⟨some (vr a), h, rfl, hq, by rw [ht]; exact hP⟩, hS.F ht⟩) hS.2.2 hd hlk)
/-- E in flight at pc -/
def KX (M : MI) (G : CT → Prop) (Z : CT → State → Prop) (nc ns pc : Nat) (ls : List (Nat × AV)) (h : HP) (E : String) : Prop :=
  ∀ (p : Program) (l : Launch) (e : Env) (s : State) (m : MethodId) (args : Array Value) (below : List Frame) (meth : Method) (c : Code) (D : va_G) (C : Nat → ClassId) (as ad av : Nat → Nat) (H : Heap) (locs : List Loc) (lsA : Array Slot) (rest : List Value) (q : Addr) (ce : Cell),
    Cx M p l e s m args below meth c D C as ad av → G (p, l, e, s, m, args, below, meth, c, D, C, as, ad, av) → va_P D vwCl (wsK as C h) H → va_S (AA as s.heap.size) s.heap H locs → lv_has lsA (mL M) (cl as ad ls) →
    H[q]? = some ce → ce.vm = .none → s.vm.findClass E = some ce.cls →
    vx_W p l e (mR M) s m args below meth c H locs nc ns (Z (p, l, e, s, m, args, below, meth, c, D, C, as, ad, av)) (F0 m pc lsA rest) q
theorem KX_out {E : String} (hc : nc ≤ mc) (hs : ns ≤ ms) (hq : Q (.inr E) h) : KX M GK (ZK Q mc ms) nc ns pc ls h E := by
  intro p l e s m args below meth c D C as ad av H locs lsA rest q ce cx hG hP hS hl hce hcv hcl
  obtain ⟨hx, hb, hml, hr, hlk, hown, hts, hK, hj⟩ := id cx
  exact vx_out (fun x hx => (hG.2 x hx).elim) hlk hce hcv hcl (fun t ht hW => ⟨⟨h, hq, by rw [ht]; exact hP⟩, hS.F ht⟩) hS.2.2 hc hs
/-- what the tables say of an instance method, of a static one -/
def mV (M : MI) : Prop := Cond.instanceMethod (mY M) ∈ gw ∧ Cond.selects (mY M).cls (mY M) (mY M) ∈ gw ∧ Cond.initialized (mY M).cls ∈ gw ∧ Cond.code (mY M) (mB M) (mL M) (mT M) ∈ gw ∧ (mY M).cls ≠ "java/lang/invoke/MethodHandle" ∧ (mY M).cls ≠ "java/lang/invoke/VarHandle"
def mS (M : MI) : Prop := Cond.static (mY M) ∈ gw ∧ Cond.initialized (mY M).cls ∈ gw ∧ Cond.code (mY M) (mB M) (mL M) (mT M) ∈ gw ∧ (mY M).cls ≠ "java/lang/invoke/MethodHandle" ∧ (mY M).cls ≠ "java/lang/invoke/VarHandle"
theorem wsM_good {M : MI} (h : Cond.code (mY M) (mB M) (mL M) (mT M) ∈ gw) : GoodIn gw (wsM M) := by
  intro w hw
  rcases List.mem_cons.mp hw with rfl | hw
  · exact gw_good _ h
  · exact gw_good _ hw
theorem PcK_blind {D : va_G} {C : Nat → ClassId} {as ad av : Nat → Nat} {sz : Nat} {args : List AV} {h : HP} : FrameBlind (PcK D C as ad av sz args h) := by
  intro a U g mk q
  obtain ⟨q0, q1, qP, qK, qj, qE⟩ := q
  exact ⟨q0, q1, qP, va_K.moved (u := U) (U := U.calling g mk a) (Vm.Alike.refl U.vm) qK, qj, qE.calling⟩
theorem toL_map (as ad : Nat → Nat) (v : Option AV) (st : List AV) : (v.map (cv as ad)).toList ++ st.map (cv as ad) = (v.toList ++ st).map (cv as ad) := by
  cases v <;> rfl
theorem K_ret {M' : MI} {args : List AV} {Q' : AO → HP → Prop} {st0 : List Value}
    (hR : (mR M').frames + 1 ≤ (mR M).frames)
    (kr : ∀ v h', Q' (.inl v) h' → K M G Z (nc + (mR M').cells) (ns + (mR M').slots) (pc + 3) ls (v.toList ++ st) h')
    (kx : ∀ E h', Q' (.inr E) h' → KX M G Z (nc + (mR M').cells) (ns + (mR M').slots) pc ls h' E)
    {p : Program} {l : Launch} {e : Env} {s : State} {m : MethodId} {margs : Array Value} {below : List Frame} {meth : Method} {c : Code} {D : va_G} {C : Nat → ClassId} {as ad av : Nat → Nat} {H : Heap} {locs : List Loc} {lsA : Array Slot}
    (cx : Cx M p l e s m margs below meth c D C as ad av) (hG : G (p, l, e, s, m, margs, below, meth, c, D, C, as, ad, av)) (hS : va_S (AA as s.heap.size) s.heap H locs) (hl : lv_has lsA (mL M) (cl as ad ls)) {a : Array Value}
    (hr : vx_Run p l e (mR M) s m margs below meth c H locs nc ns (mR M').cells (mR M').slots (F0 m pc lsA st0) (st.map (cv as ad)) (QcK D C as ad H.size Q' a) (XcK D C as H.size Q') (AA as H.size)) :
    W p l e (mR M) s m margs below meth c H locs nc ns (Z (p, l, e, s, m, margs, below, meth, c, D, C, as, ad, av)) (F0 m pc lsA st0) := by
  have hA : ∀ q, q < H.size → AA as H.size q → AA as s.heap.size q := fun q _ => AA_mono hS.1 q
  have hf : ∀ q, AA as H.size q → AA as s.heap.size q := AA_mono hS.1
  intro T hT X
  rcases hr T hT X with ⟨v, st₀, t, T', L, h0, X', hL, e1, e2, ⟨⟨v', h', hv, hq, hPt⟩, hF⟩, stp⟩ | ⟨q, st₀, t, T', L, E, ce, h0, X', hL, e1, e2, ⟨⟨h', hq, hPt⟩, hF⟩, hce, hcv, hcl, stp⟩
  · cases hv
    obtain ⟨k1, k2, k3⟩ := vx_keep h0 e1 hS hA hf hL hF
    obtain ⟨t2, a1, b1⟩ := kr v' h' hq p l e s m margs below meth c D C as ad av T'.heap (locs ++ L) lsA cx hG (by rw [e1]; exact hPt) k3 hl T' rfl X'
    refine ⟨t2, stp t2 ?_, b1⟩
    rw [toL_map]
    exact a1
  · obtain ⟨k1, k2, k3⟩ := vx_keep h0 e1 hS hA hf hL hF
    obtain ⟨t2, a1, b1⟩ := kx E h' hq p l e s m margs below meth c D C as ad av T'.heap (locs ++ L) lsA _ q ce cx hG (by rw [e1]; exact hPt) k3 hl (by rw [e1]; exact hce) hcv hcl T' rfl X'
    exact ⟨t2, stp.trans a1, b1⟩
theorem K_callV {M' : MI} {a ci ix n : Nat} {T : u_T} {As : List AV} {Q' : AO → HP → Prop} {st0 : List AV} (hd : decode (mB M) pc = .ok (.invokevirtual ix, 3)) (hsp : SpecK M' (vr a :: As) h Q') (hT : TT a = (0, ci)) (hc : vwCl[ci]? = some ((mY M').cls, T, n)) (hw : Cond.methodLink (mY M).cls ix (mY M') ∈ gw) (hm : mV M')
    (hst : st0 = As.reverse ++ vr a :: st) (hnp : (parseMethodDescriptor (mY M').desc).map (fun d => d.parameters.length) = some As.length) (hR : (mR M').frames + 1 ≤ (mR M).frames) (hlo : 8 + (mL M' + 11) + (mR M').locals ≤ (mR M).locals) (hwt : wA st ≤ 8) (hnc : nc + (mR M').cells ≤ (mR M).cells) (hns : ns + (mR M').slots ≤ (mR M).slots) (hGE : ∀ t, G t → GE t)
    (kr : ∀ v h', Q' (.inl v) h' → K M G Z (nc + (mR M').cells) (ns + (mR M').slots) (pc + 3) ls (v.toList ++ st) h')
    (kx : ∀ E h', Q' (.inr E) h' → KX M G Z (nc + (mR M').cells) (ns + (mR M').slots) pc ls h' E) : K M G Z nc ns pc ls st0 h := by
  subst hst
  intro p l e s m args below meth c D C as ad av H locs lsA cx hG hP hS hl
  obtain ⟨hx, hb, hml, hr, hlk, hown, hts, hK, hj⟩ := id cx
  obtain ⟨g1, g2⟩ := hGE _ hG
  obtain ⟨m1, m2, m3, m4, m5, m6⟩ := hm
  have ha : a < 120 := TT_lt hT (fun z => by simp at z)
  have he := wsK_get as C h ha
  rw [en_obj hT] at he
  have hgood : GoodIn gw (wsV (mY M).cls ix (mY M').cls (mY M') (wsM M')) := by
    intro w hw9
    rcases List.mem_append.mp hw9 with q | q
    · simp only [List.mem_cons, List.not_mem_nil, or_false] at q
      rcases q with rfl | rfl | rfl | rfl
      · exact gw_good _ hw
      · exact gw_good _ m1
      · exact gw_good _ m2
      · exact gw_good _ m3
    · exact wsM_good m4 _ q
  refine K_ret (args := vr a :: As) hR kr kx cx hG hS hl (a := (Value.ref (as a) :: As.map (cv as ad)).toArray) ?_
  exact vx_runV (C := (mY M').cls) (b := as a) (As := As.map (cv as ad)) (n := As.length) ⟨hx, hb, hml, hown, hts⟩ (hsp l D C as ad av H.size g1) (cwV As.length hts hgood rfl rfl rfl ⟨rfl, m5, m6, hnp⟩ ⟨hR, hlo⟩)
    ⟨PcK_blind, va_recv hK hP hc he, fun U hU hW => ⟨rfl, by rw [hU], by rw [hU]; exact hP, va_K.moved hW.alike hK, hj, g2.call hS hU hW⟩⟩ rfl (by simp) hl.1 (by simp [cv]) (lv_room (by rw [wA_cat]; exact hwt)) hd ⟨hnc, hns⟩
theorem K_callS {M' : MI} {ix : Nat} {As : List AV} {Q' : AO → HP → Prop} {st0 : List AV} (hd : decode (mB M) pc = .ok (.invokestatic ix, 3)) (hsp : SpecK M' As h Q') (hw : Cond.methodLink (mY M).cls ix (mY M') ∈ gw) (hm : mS M')
    (hst : st0 = As.reverse ++ st) (hnp : (parseMethodDescriptor (mY M').desc).map (fun d => d.parameters.length) = some As.length) (hR : (mR M').frames + 1 ≤ (mR M).frames) (hlo : 8 + (mL M' + 11) + (mR M').locals ≤ (mR M).locals) (hwt : wA st ≤ 8) (hnc : nc + (mR M').cells ≤ (mR M).cells) (hns : ns + (mR M').slots ≤ (mR M).slots) (hGE : ∀ t, G t → GE t)
    (kr : ∀ v h', Q' (.inl v) h' → K M G Z (nc + (mR M').cells) (ns + (mR M').slots) (pc + 3) ls (v.toList ++ st) h')
    (kx : ∀ E h', Q' (.inr E) h' → KX M G Z (nc + (mR M').cells) (ns + (mR M').slots) pc ls h' E) : K M G Z nc ns pc ls st0 h := by
  subst hst
  intro p l e s m args below meth c D C as ad av H locs lsA cx hG hP hS hl
  obtain ⟨hx, hb, hml, hr, hlk, hown, hts, hK, hj⟩ := id cx
  obtain ⟨g1, g2⟩ := hGE _ hG
  obtain ⟨m1, m3, m4, m5, m6⟩ := hm
  have hgood : GoodIn gw (va_wsS (mY M).cls ix (mY M') (wsM M')) := by
    intro w hw9
    rcases List.mem_append.mp hw9 with q | q
    · simp only [List.mem_cons, List.not_mem_nil, or_false] at q
      rcases q with rfl | rfl | rfl
      · exact gw_good _ hw
      · exact gw_good _ m1
      · exact gw_good _ m3
    · exact wsM_good m4 _ q
  refine K_ret (args := As) hR kr kx cx hG hS hl (a := (As.map (cv as ad)).toArray) ?_
  exact vx_runS (As := As.map (cv as ad)) (n := As.length) ⟨hx, hb, hml, hown, hts⟩ (hsp l D C as ad av H.size g1) (va_cwS As.length hts hgood rfl rfl rfl ⟨m5, m6, hnp⟩ ⟨hR, hlo⟩)
    ⟨PcK_blind, fun U hU hW => ⟨rfl, by rw [hU], by rw [hU]; exact hP, va_K.moved hW.alike hK, hj, g2.call hS hU hW⟩⟩ rfl (by simp) hl.1 (by simp) (lv_room (by rw [wA_cat]; exact hwt)) hd ⟨hnc, hns⟩
end KE
