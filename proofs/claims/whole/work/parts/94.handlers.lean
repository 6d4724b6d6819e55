/-! the law's own methods with handlers -/
def GH (hh : List (Nat × Nat × Nat × Nat)) : CT → Prop := fun (p, l, e, s, m, args, below, meth, c, D, C, as, ad, av) => GE (p, l, e, s, m, args, below, meth, c, D, C, as, ad, av) ∧ c.exceptionTable.toList = tableOf hh
theorem GH_E {hh : List (Nat × Nat × Nat × Nat)} : ∀ t : CT, GH hh t → GE t := fun _ h => h.1
def wsH (M : MI) (hh : List (Nat × Nat × Nat × Nat)) : List Cond := Cond.codeWith (mY M) (mB M) (mL M) (mT M) hh :: gw
def SpecH (M : MI) (hh : List (Nat × Nat × Nat × Nat)) (args : List AV) (h : HP) (Q : AO → HP → Prop) : Prop :=
  ∀ (l : Launch) (D : va_G) (C : Nat → ClassId) (as ad av : Nat → Nat) (sz : Nat), l.stackTraces = false →
    vx_Met l (mY M) (wsH M hh) (mR M) (PcK D C as ad av sz args h) (QcK D C as ad sz Q) (XcK D C as sz Q) (mR M).cells (mR M).slots (AA as sz)
theorem SpecH_of {M : MI} {hh : List (Nat × Nat × Nat × Nat)} {args : List AV} {h : HP} {Q : AO → HP → Prop} (hy : plainName (mY M).cls = true) (hL : wA args ≤ mL M) (k : K M (GH hh) (ZK Q (mR M).cells (mR M).slots) 0 0 0 (lA 0 args) [] h) : SpecH M hh args h Q := by
  intro l D C as ad av sz hl0
  refine vx_ofWH (cc := mB M) (maxL := mL M) (ret := mT M) (hh := hh) hy rfl ?_
  intro p e s m a below meth c s₁ B hml hv
  obtain ⟨rfl, hsz, hP, hK, hj, hE⟩ := hv
  subst hsz
  have hown : s.vm.findClass (mY M).cls = some m.cls := findClass_of_methodNamed B.named
  have hts := atoms_spec (ws := wsH M hh) B.pre
  have htab := vx_table (x := mY M) B (hts _ List.mem_cons_self)
  have hl := lv_entry (args.map (cv as ad)) (n := mL M) (by rw [wA_sl]; exact hL)
  rw [lg_entry_eq]
  generalize (lg_sl (args.map (cv as ad)) ++ List.replicate (mL M - (lg_sl (args.map (cv as ad))).length) Slot.unset).toArray = lsA at hl ⊢
  rw [lA_cl] at hl
  exact k p l e s m _ below meth c D C as ad av s.heap [] lsA ⟨B.exec, B.bytes, hml, B.returns, B.notSynchronized, hown, fun w hw => hts w (List.mem_cons_of_mem _ hw), hK, hj⟩ ⟨⟨hl0, hE⟩, htab⟩ hP va_S.rf hl
def mH (M : MI) (hh : List (Nat × Nat × Nat × Nat)) : Prop := Cond.static (mY M) ∈ gw ∧ Cond.initialized (mY M).cls ∈ gw ∧ Cond.codeWith (mY M) (mB M) (mL M) (mT M) hh ∈ gw ∧ (mY M).cls ≠ "java/lang/invoke/MethodHandle" ∧ (mY M).cls ≠ "java/lang/invoke/VarHandle"
theorem wsH_good {M : MI} {hh : List (Nat × Nat × Nat × Nat)} (h : Cond.codeWith (mY M) (mB M) (mL M) (mT M) hh ∈ gw) : GoodIn gw (wsH M hh) := by
  intro w hw
  rcases List.mem_cons.mp hw with rfl | hw
  · exact gw_good _ h
  · exact gw_good _ hw
section KH
variable {M : MI} {G : CT → Prop} {Z : CT → State → Prop} {Q : AO → HP → Prop} {nc ns pc mc ms : Nat} {ls : List (Nat × AV)} {st : List AV} {h : HP} {hh : List (Nat × Nat × Nat × Nat)}
theorem K_callH {M' : MI} {ix : Nat} {As : List AV} {Q' : AO → HP → Prop} {st0 : List AV} (hd : decode (mB M) pc = .ok (.invokestatic ix, 3)) (hsp : SpecH M' hh As h Q') (hw : Cond.methodLink (mY M).cls ix (mY M') ∈ gw) (hm : mH M' hh)
    (hst : st0 = As.reverse ++ st) (hnp : (parseMethodDescriptor (mY M').desc).map (fun d => d.parameters.length) = some As.length) (hR : (mR M').frames + 1 ≤ (mR M).frames) (hlo : 8 + (mL M' + 11) + (mR M').locals ≤ (mR M).locals) (hwt : wA st ≤ 8) (hnc : nc + (mR M').cells ≤ (mR M).cells) (hns : ns + (mR M').slots ≤ (mR M).slots) (hGE : ∀ t, G t → GE t)
    (kr : ∀ v h', Q' (.inl v) h' → K M G Z (nc + (mR M').cells) (ns + (mR M').slots) (pc + 3) ls (v.toList ++ st) h')
    (kx : ∀ E h', Q' (.inr E) h' → KX M G Z (nc + (mR M').cells) (ns + (mR M').slots) pc ls h' E) : K M G Z nc ns pc ls st0 h := by
  subst hst
  intro p l e s m args below meth c D C as ad av H locs lsA cx hG hP hS hl
  obtain ⟨hx, hb, hml, hr, hlk, hown, hts, hK, hj⟩ := id cx
  obtain ⟨g1, g2⟩ := hGE _ hG
  obtain ⟨m1, m3, m4, m5, m6⟩ := hm
  have hgood : GoodIn gw (va_wsS (mY M).cls ix (mY M') (wsH M' hh)) := by
    intro w hw9
    rcases List.mem_append.mp hw9 with q | q
    · simp only [List.mem_cons, List.not_mem_nil, or_false] at q
      rcases q with rfl | rfl | rfl
      · exact gw_good _ hw
      · exact gw_good _ m1
      · exact gw_good _ m3
    · exact wsH_good m4 _ q
  refine K_ret (args := As) hR kr kx cx hG hS hl (a := (As.map (cv as ad)).toArray) ?_
  exact vx_runSX (hh := hh) (bytes := mB M') (maxL := mL M') (ret := mT M') (As := As.map (cv as ad)) (n := As.length) ⟨hx, hb, hml, hown, hts⟩ (hsp l D C as ad av H.size g1) (vx_cwSW As.length hts hgood rfl rfl rfl ⟨m5, m6, hnp⟩ ⟨hR, hlo⟩)
    ⟨PcK_blind, fun U hU hW => ⟨rfl, by rw [hU], by rw [hU]; exact hP, va_K.moved hW.alike hK, hj, g2.call hS hU hW⟩⟩ rfl (by simp) hl.1 (by simp) (lv_room (by rw [wA_cat]; exact hwt)) hd ⟨hnc, hns⟩
/-- the handler lays the exception by, and goes on -/
def stP (M : MI) (hp hp2 : Nat) : Prop := (∃ (j : Fin 4) (i : Nat), decode (mB M) hp = .ok (.astore_n j, 1) ∧ (j : Nat) = i ∧ i < mL M ∧ hp2 = hp + 1) ∨ (∃ i : Nat, decode (mB M) hp = .ok (.astore i, 2) ∧ i < mL M ∧ hp2 = hp + 2)
theorem K_stX {hp hp2 : Nat} (hst : stP M hp hp2) (kk : K M G Z nc ns hp2 [] [] h) {p : Program} {l : Launch} {e : Env} {s : State} {m : MethodId} {args : Array Value} {below : List Frame} {meth : Method} {c : Code} {D : va_G} {C : Nat → ClassId} {as ad av : Nat → Nat} {H : Heap} {locs : List Loc} {lsA : Array Slot} {q : Addr}
    (cx : Cx M p l e s m args below meth c D C as ad av) (hG : G (p, l, e, s, m, args, below, meth, c, D, C, as, ad, av)) (hP : va_P D vwCl (wsK as C h) H) (hS : va_S (AA as s.heap.size) s.heap H locs) (hl : lv_has lsA (mL M) (cl as ad ls)) :
    W p l e (mR M) s m args below meth c H locs nc ns (Z (p, l, e, s, m, args, below, meth, c, D, C, as, ad, av)) (F0 m hp lsA [.ref q]) := by
  obtain ⟨hx, hb, hml, hr, hlk, hown, hts, hK, hj⟩ := id cx
  rcases hst with ⟨j, i, d1, d2, d3, rfl⟩ | ⟨i, d1, d3, rfl⟩
  · exact lv_astore_n hx hb d1 d2 hl d3 rfl (fun ls' h' => kk p l e s m args below meth c D C as ad av H locs ls' cx hG hP hS ⟨h'.1, h'.2.1, fun _ z => nomatch z⟩)
  · exact lv_astore hx hb d1 hl d3 rfl (fun ls' h' => kk p l e s m args below meth c D C as ad av H locs ls' cx hG hP hS ⟨h'.1, h'.2.1, fun _ z => nomatch z⟩)
theorem KX_catch1 {E : String} {x : ExceptionTableEntry} {suf : List ExceptionTableEntry} {hp2 : Nat} (ht : tableOf hh = x :: suf) (hcv : covers x pc = true) (h0 : x.catchType ≠ 0) (hE : Cond.classLink (mY M).cls x.catchType E ∈ gw) (hcs : Cond.castable E E ∈ xW) (hst : stP M x.handlerPc hp2) (kk : K M (GH hh) Z nc ns hp2 [] [] h) : KX M (GH hh) Z nc ns pc ls h E := by
  intro p l e s m args below meth c D C as ad av H locs lsA rest q ce cx hG hP hS hl hce hcv9 hcl
  obtain ⟨hx, hb, hml, hr, hlk, hown, hts, hK, hj⟩ := id cx
  obtain ⟨⟨g1, g2, g3, g4, g5, g6, g7⟩, g8⟩ := id hG
  exact vx_catch (name := E) hown [] x suf (g8.trans ht) (fun _ z => nomatch z) hcv h0 (hts _ hE) (at_gx (ws := [Cond.castable E E]) hts g6 (fun w hw => by rw [List.mem_singleton.mp hw]; exact Or.inr hcs) _ List.mem_cons_self) hce hcv9 hcl (K_stX hst kk cx hG hP hS hl)
theorem KX_catch2 {z x : ExceptionTableEntry} {suf : List ExceptionTableEntry} {hp2 : Nat} (ht : tableOf hh = z :: x :: suf) (hz0 : z.catchType ≠ 0) (hzE : Cond.classLink (mY M).cls z.catchType eNS ∈ gw) (hcv : covers x pc = true) (h0 : x.catchType ≠ 0) (hE : Cond.classLink (mY M).cls x.catchType eIA ∈ gw) (hst : stP M x.handlerPc hp2) (kk : K M (GH hh) Z nc ns hp2 [] [] h) : KX M (GH hh) Z nc ns pc ls h eIA := by
  intro p l e s m args below meth c D C as ad av H locs lsA rest q ce cx hG hP hS hl hce hcv9 hcl
  obtain ⟨hx, hb, hml, hr, hlk, hown, hts, hK, hj⟩ := id cx
  obtain ⟨⟨g1, g2, g3, g4, g5, g6, g7⟩, g8⟩ := id hG
  exact vx_catch (name := eIA) hown [z] x suf (g8.trans ht) (fun y hy => by rw [List.mem_singleton.mp hy]; exact Or.inr ⟨hz0, eNS, hts _ hzE, g7⟩) hcv h0 (hts _ hE) (at_gx (ws := [Cond.castable eIA eIA]) hts g6 (fun w hw => by rw [List.mem_singleton.mp hw]; exact Or.inr (List.mem_of_getElem? (i := 3) rfl)) _ List.mem_cons_self) hce hcv9 hcl (K_stX hst kk cx hG hP hS hl)
theorem wr_i (x : Int) : i32 (wr x) := by
  have h1 := Int32.minValue_le_toInt (Int32.ofInt x)
  have h2 := Int32.toInt_lt (Int32.ofInt x)
  have h3 : Int32.minValue.toInt = -2147483648 := by decide
  exact ⟨by unfold wr; omega, by unfold wr; omega⟩
theorem K_i2lw {x : Int} (hd : decode (mB M) pc = .ok (.i2l, 1)) (k : K M G Z nc ns (pc + 1) ls (vl (wr x) :: st) h) : K M G Z nc ns pc ls (vi x :: st) h :=
  K_same (wr_same x) (K_i2l hd (wr_i x) k)
theorem K_icmp_same {x : Int} {off : Int} {tgt : Nat} (hd : decode (mB M) pc = .ok (.if_icmp .eq off, 3)) (ht : (pc : Int) + off = (tgt : Int)) (k : K M G Z nc ns tgt ls st h) : K M G Z nc ns pc ls (vi x :: vi x :: st) h := by
  intro p l e s m args below meth c D C as ad av H locs lsA cx hG hP hS hl
  obtain ⟨hx, hb, hml, hr, hlk, hown, hts, hK, hj⟩ := id cx
  exact lv_icmp_eq hx hb hd ht (fun _ => k p l e s m args below meth c D C as ad av H locs lsA cx hG hP hS hl) (fun q => (q rfl).elim)
end KH
def hN1 (n a : Nat) : List (Nat × Nat × Nat × Nat) := [(0, n, a, 18)]
theorem wl_NS : Cond.classLink RL 18 eNS ∈ gw := by decide +kernel
theorem wl_IA : Cond.classLink RL 13 eIA ∈ gw := by decide +kernel
theorem cN1_e {E : String} (h : cN1 E ≠ 0) : E = eNS := by
  unfold cN1 at h
  split at h
  · assumption
  · exact (h rfl).elim
theorem cIA_e {E : String} (h : cIA E ≠ 0) : E = eIA := by
  unfold cIA at h
  split at h
  · assumption
  · exact (h rfl).elim
/-- what such a method leaves -/
def WQ (cd : String → Int) (fx : Int → Int) (Q1 : AO → HP → Prop) : AO → HP → Prop := fun o h' =>
  (∃ x h1, Q1 (.inl (some (vi x))) h1 ∧ o = .inl (some (vi 0)) ∧ h' = sA h1 29 0 (fx x)) ∨ (∃ E, Q1 (.inr E) h' ∧ o = .inl (some (vi (cd E))))
def Q1ok (cd : String → Int) (Q1 : AO → HP → Prop) : Prop := ∀ o h1, Q1 o h1 → (∃ x, o = .inl (some (vi x))) ∨ (∃ E, o = .inr E ∧ cd E ≠ 0 ∧ (E = eNS ∨ E = eIA))
def b01 (x : Int) : Int := if wr x = 0 then 0 else 1
def mL_house : MI := (yL_house, cL_house, 4, some .int, rmK 69 1)
def tL_house : List (Nat × Instr × Nat) := [(0, .aload_n 2, 1), (1, .iconst 0, 1), (2, .aload_n 0, 1), (3, .iload_n 1, 1), (4, .invokevirtual 7, 3), (7, .i2l, 1), (8, .lastore, 1), (9, .goto 6, 3), (12, .astore_n 3, 1), (13, .iconst 1, 1), (14, .ireturn, 1), (15, .iconst 0, 1), (16, .ireturn, 1)]
theorem dtL_house : tL_house.all (fun q => decide (decode cL_house q.1 = .ok (q.2.1, q.2.2))) = true := by decide +kernel
theorem npL_house : (parseMethodDescriptor (mY mL_house).desc).map (fun d => d.parameters.length) = some 3 := by decide +kernel
def hL_house : List (Nat × Nat × Nat × Nat) := [(0, 9, 12, 13)]
theorem vL_house : mH mL_house hL_house := ⟨wT_L_house, wN_L, wC_L_house, by decide +kernel, by decide +kernel⟩
set_option maxHeartbeats 4000000 in
set_option maxRecDepth 100000 in
theorem sL_house {h : HP} {Q1 : AO → HP → Prop} {a0 : Int} (s1 : SpecK mX11_house [vr 30, vi a0] h Q1) (ok : Q1ok cIA Q1) : SpecH mL_house hL_house [vr 30, vi a0, vr 29] h (WQ cIA wr Q1) := by
  refine SpecH_of (by decide +kernel) (Nat.le_of_ble_eq_true rfl) ?_
  refine K_aload_n (dt_at dtL_house 0 rfl) rfl rfl ?_
  refine K_iconst (dt_at dtL_house 1 rfl) ?_
  refine K_aload_n (dt_at dtL_house 2 rfl) rfl rfl ?_
  refine K_iload_n (dt_at dtL_house 3 rfl) rfl rfl ?_
  refine K_callV (M' := mX11_house) (a := 30) (ci := 11) (As := [vi a0]) (st := [vi 0, vr 29]) (dt_at dtL_house 4 rfl) s1 (show TT 30 = (0, 11) from rfl) rfl wL_L_7 vX11_house rfl npX11_house (by decide) (by decide) (Nat.le_of_ble_eq_true rfl) (by decide) (by decide) GH_E (fun v9 h9 hq => ?_) (fun E h9 hq => ?_)
  · rcases ok _ _ hq with ⟨x, hx⟩ | ⟨E, hE, hc⟩
    · cases hx
      refine K_i2lw (dt_at dtL_house 5 rfl) ?_
      refine K_last (a := 29) (n := 1) (dt_at dtL_house 6 rfl) rfl (by decide) (by decide) ?_
      refine K_goto (tgt := 15) (dt_at dtL_house 7 rfl) (by decide) ?_
      refine K_iconst (dt_at dtL_house 11 rfl) ?_
      exact K_iret (dt_at dtL_house 12 rfl) rfl rfl (by decide) (by decide) (Or.inl ⟨x, h9, hq, rfl, rfl⟩)
    · cases hE
  · rcases ok _ _ hq with ⟨x, hx⟩ | ⟨E1, hE, hc, hd⟩
    · cases hx
    · cases hE
      obtain rfl := cIA_e hc
      refine KX_catch1 (x := ⟨0, 9, 12, 13⟩) (suf := []) (hp2 := 13) rfl (by decide) (by decide) wl_IA (List.mem_of_getElem? (i := 3) rfl) (Or.inl ⟨3, 3, (dt_at dtL_house 8 rfl), rfl, by decide, rfl⟩) ?_
      refine K_iconst (dt_at dtL_house 9 rfl) ?_
      exact K_iret (dt_at dtL_house 10 rfl) rfl rfl (by decide) (by decide) (Or.inr ⟨_, hq, by rw [cIA_i]⟩)
def mL_count : MI := (yL_count, cL_count, 4, some .int, rmK 9 1)
def tL_count : List (Nat × Instr × Nat) := [(0, .aload_n 2, 1), (1, .iconst 0, 1), (2, .aload_n 0, 1), (3, .iload_n 1, 1), (4, .invokevirtual 15, 3), (7, .i2l, 1), (8, .lastore, 1), (9, .goto 6, 3), (12, .astore_n 3, 1), (13, .iconst 1, 1), (14, .ireturn, 1), (15, .iconst 0, 1), (16, .ireturn, 1)]
theorem dtL_count : tL_count.all (fun q => decide (decode cL_count q.1 = .ok (q.2.1, q.2.2))) = true := by decide +kernel
theorem npL_count : (parseMethodDescriptor (mY mL_count).desc).map (fun d => d.parameters.length) = some 3 := by decide +kernel
def hL_count : List (Nat × Nat × Nat × Nat) := [(0, 9, 12, 18)]
theorem vL_count : mH mL_count hL_count := ⟨wT_L_count, wN_L, wC_L_count, by decide +kernel, by decide +kernel⟩
set_option maxHeartbeats 4000000 in
set_option maxRecDepth 100000 in
theorem sL_count {h : HP} {Q1 : AO → HP → Prop} {a0 : Int} (s1 : SpecK mX11_count [vr 30, vi a0] h Q1) (ok : Q1ok cN1 Q1) : SpecH mL_count hL_count [vr 30, vi a0, vr 29] h (WQ cN1 wr Q1) := by
  refine SpecH_of (by decide +kernel) (Nat.le_of_ble_eq_true rfl) ?_
  refine K_aload_n (dt_at dtL_count 0 rfl) rfl rfl ?_
  refine K_iconst (dt_at dtL_count 1 rfl) ?_
  refine K_aload_n (dt_at dtL_count 2 rfl) rfl rfl ?_
  refine K_iload_n (dt_at dtL_count 3 rfl) rfl rfl ?_
  refine K_callV (M' := mX11_count) (a := 30) (ci := 11) (As := [vi a0]) (st := [vi 0, vr 29]) (dt_at dtL_count 4 rfl) s1 (show TT 30 = (0, 11) from rfl) rfl wL_L_15 vX11_count rfl npX11_count (by decide) (by decide) (Nat.le_of_ble_eq_true rfl) (by decide) (by decide) GH_E (fun v9 h9 hq => ?_) (fun E h9 hq => ?_)
  · rcases ok _ _ hq with ⟨x, hx⟩ | ⟨E, hE, hc⟩
    · cases hx
      refine K_i2lw (dt_at dtL_count 5 rfl) ?_
      refine K_last (a := 29) (n := 1) (dt_at dtL_count 6 rfl) rfl (by decide) (by decide) ?_
      refine K_goto (tgt := 15) (dt_at dtL_count 7 rfl) (by decide) ?_
      refine K_iconst (dt_at dtL_count 11 rfl) ?_
      exact K_iret (dt_at dtL_count 12 rfl) rfl rfl (by decide) (by decide) (Or.inl ⟨x, h9, hq, rfl, rfl⟩)
    · cases hE
  · rcases ok _ _ hq with ⟨x, hx⟩ | ⟨E1, hE, hc, hd⟩
    · cases hx
    · cases hE
      obtain rfl := cN1_e hc
      refine KX_catch1 (x := ⟨0, 9, 12, 18⟩) (suf := []) (hp2 := 13) rfl (by decide) (by decide) wl_NS (List.mem_of_getElem? (i := 4) rfl) (Or.inl ⟨3, 3, (dt_at dtL_count 8 rfl), rfl, by decide, rfl⟩) ?_
      refine K_iconst (dt_at dtL_count 9 rfl) ?_
      exact K_iret (dt_at dtL_count 10 rfl) rfl rfl (by decide) (by decide) (Or.inr ⟨_, hq, by rw [cN1_n]⟩)
def mL_thing : MI := (yL_thing, cL_thing, 5, some .int, rmK 9 2)
def tL_thing : List (Nat × Instr × Nat) := [(0, .aload_n 3, 1), (1, .iconst 0, 1), (2, .aload_n 0, 1), (3, .iload_n 1, 1), (4, .iload_n 2, 1), (5, .invokevirtual 20, 3), (8, .i2l, 1), (9, .lastore, 1), (10, .goto 7, 3), (13, .astore 4, 2), (15, .iconst 1, 1), (16, .ireturn, 1), (17, .iconst 0, 1), (18, .ireturn, 1)]
theorem dtL_thing : tL_thing.all (fun q => decide (decode cL_thing q.1 = .ok (q.2.1, q.2.2))) = true := by decide +kernel
theorem npL_thing : (parseMethodDescriptor (mY mL_thing).desc).map (fun d => d.parameters.length) = some 4 := by decide +kernel
def hL_thing : List (Nat × Nat × Nat × Nat) := [(0, 10, 13, 18)]
theorem vL_thing : mH mL_thing hL_thing := ⟨wT_L_thing, wN_L, wC_L_thing, by decide +kernel, by decide +kernel⟩
set_option maxHeartbeats 4000000 in
set_option maxRecDepth 100000 in
theorem sL_thing {h : HP} {Q1 : AO → HP → Prop} {a0 a1 : Int} (s1 : SpecK mX11_thing [vr 30, vi a0, vi a1] h Q1) (ok : Q1ok cN1 Q1) : SpecH mL_thing hL_thing [vr 30, vi a0, vi a1, vr 29] h (WQ cN1 wr Q1) := by
  refine SpecH_of (by decide +kernel) (Nat.le_of_ble_eq_true rfl) ?_
  refine K_aload_n (dt_at dtL_thing 0 rfl) rfl rfl ?_
  refine K_iconst (dt_at dtL_thing 1 rfl) ?_
  refine K_aload_n (dt_at dtL_thing 2 rfl) rfl rfl ?_
  refine K_iload_n (dt_at dtL_thing 3 rfl) rfl rfl ?_
  refine K_iload_n (dt_at dtL_thing 4 rfl) rfl rfl ?_
  refine K_callV (M' := mX11_thing) (a := 30) (ci := 11) (As := [vi a0, vi a1]) (st := [vi 0, vr 29]) (dt_at dtL_thing 5 rfl) s1 (show TT 30 = (0, 11) from rfl) rfl wL_L_20 vX11_thing rfl npX11_thing (by decide) (by decide) (Nat.le_of_ble_eq_true rfl) (by decide) (by decide) GH_E (fun v9 h9 hq => ?_) (fun E h9 hq => ?_)
  · rcases ok _ _ hq with ⟨x, hx⟩ | ⟨E, hE, hc⟩
    · cases hx
      refine K_i2lw (dt_at dtL_thing 6 rfl) ?_
      refine K_last (a := 29) (n := 1) (dt_at dtL_thing 7 rfl) rfl (by decide) (by decide) ?_
      refine K_goto (tgt := 17) (dt_at dtL_thing 8 rfl) (by decide) ?_
      refine K_iconst (dt_at dtL_thing 12 rfl) ?_
      exact K_iret (dt_at dtL_thing 13 rfl) rfl rfl (by decide) (by decide) (Or.inl ⟨x, h9, hq, rfl, rfl⟩)
    · cases hE
  · rcases ok _ _ hq with ⟨x, hx⟩ | ⟨E1, hE, hc, hd⟩
    · cases hx
    · cases hE
      obtain rfl := cN1_e hc
      refine KX_catch1 (x := ⟨0, 10, 13, 18⟩) (suf := []) (hp2 := 15) rfl (by decide) (by decide) wl_NS (List.mem_of_getElem? (i := 4) rfl) (Or.inr ⟨4, (dt_at dtL_thing 9 rfl), by decide, rfl⟩) ?_
      refine K_iconst (dt_at dtL_thing 10 rfl) ?_
      exact K_iret (dt_at dtL_thing 11 rfl) rfl rfl (by decide) (by decide) (Or.inr ⟨_, hq, by rw [cN1_n]⟩)
def mL_person : MI := (yL_person, cL_person, 5, some .int, rmK 9 2)
def tL_person : List (Nat × Instr × Nat) := [(0, .aload_n 3, 1), (1, .iconst 0, 1), (2, .aload_n 0, 1), (3, .iload_n 1, 1), (4, .iload_n 2, 1), (5, .invokevirtual 24, 3), (8, .i2l, 1), (9, .lastore, 1), (10, .goto 7, 3), (13, .astore 4, 2), (15, .iconst 1, 1), (16, .ireturn, 1), (17, .iconst 0, 1), (18, .ireturn, 1)]
theorem dtL_person : tL_person.all (fun q => decide (decode cL_person q.1 = .ok (q.2.1, q.2.2))) = true := by decide +kernel
theorem npL_person : (parseMethodDescriptor (mY mL_person).desc).map (fun d => d.parameters.length) = some 4 := by decide +kernel
def hL_person : List (Nat × Nat × Nat × Nat) := [(0, 10, 13, 18)]
theorem vL_person : mH mL_person hL_person := ⟨wT_L_person, wN_L, wC_L_person, by decide +kernel, by decide +kernel⟩
set_option maxHeartbeats 4000000 in
set_option maxRecDepth 100000 in
theorem sL_person {h : HP} {Q1 : AO → HP → Prop} {a0 a1 : Int} (s1 : SpecK mX11_person [vr 30, vi a0, vi a1] h Q1) (ok : Q1ok cN1 Q1) : SpecH mL_person hL_person [vr 30, vi a0, vi a1, vr 29] h (WQ cN1 wr Q1) := by
  refine SpecH_of (by decide +kernel) (Nat.le_of_ble_eq_true rfl) ?_
  refine K_aload_n (dt_at dtL_person 0 rfl) rfl rfl ?_
  refine K_iconst (dt_at dtL_person 1 rfl) ?_
  refine K_aload_n (dt_at dtL_person 2 rfl) rfl rfl ?_
  refine K_iload_n (dt_at dtL_person 3 rfl) rfl rfl ?_
  refine K_iload_n (dt_at dtL_person 4 rfl) rfl rfl ?_
  refine K_callV (M' := mX11_person) (a := 30) (ci := 11) (As := [vi a0, vi a1]) (st := [vi 0, vr 29]) (dt_at dtL_person 5 rfl) s1 (show TT 30 = (0, 11) from rfl) rfl wL_L_24 vX11_person rfl npX11_person (by decide) (by decide) (Nat.le_of_ble_eq_true rfl) (by decide) (by decide) GH_E (fun v9 h9 hq => ?_) (fun E h9 hq => ?_)
  · rcases ok _ _ hq with ⟨x, hx⟩ | ⟨E, hE, hc⟩
    · cases hx
      refine K_i2lw (dt_at dtL_person 6 rfl) ?_
      refine K_last (a := 29) (n := 1) (dt_at dtL_person 7 rfl) rfl (by decide) (by decide) ?_
      refine K_goto (tgt := 17) (dt_at dtL_person 8 rfl) (by decide) ?_
      refine K_iconst (dt_at dtL_person 12 rfl) ?_
      exact K_iret (dt_at dtL_person 13 rfl) rfl rfl (by decide) (by decide) (Or.inl ⟨x, h9, hq, rfl, rfl⟩)
    · cases hE
  · rcases ok _ _ hq with ⟨x, hx⟩ | ⟨E1, hE, hc, hd⟩
    · cases hx
    · cases hE
      obtain rfl := cN1_e hc
      refine KX_catch1 (x := ⟨0, 10, 13, 18⟩) (suf := []) (hp2 := 15) rfl (by decide) (by decide) wl_NS (List.mem_of_getElem? (i := 4) rfl) (Or.inr ⟨4, (dt_at dtL_person 9 rfl), by decide, rfl⟩) ?_
      refine K_iconst (dt_at dtL_person 10 rfl) ?_
      exact K_iret (dt_at dtL_person 11 rfl) rfl rfl (by decide) (by decide) (Or.inr ⟨_, hq, by rw [cN1_n]⟩)
def mL_in : MI := (yL_in, cL_in, 5, some .int, rmK 9 2)
def tL_in : List (Nat × Instr × Nat) := [(0, .aload_n 3, 1), (1, .iconst 0, 1), (2, .aload_n 0, 1), (3, .iload_n 1, 1), (4, .iload_n 2, 1), (5, .invokevirtual 27, 3), (8, .i2l, 1), (9, .lastore, 1), (10, .goto 7, 3), (13, .astore 4, 2), (15, .iconst 1, 1), (16, .ireturn, 1), (17, .iconst 0, 1), (18, .ireturn, 1)]
theorem dtL_in : tL_in.all (fun q => decide (decode cL_in q.1 = .ok (q.2.1, q.2.2))) = true := by decide +kernel
theorem npL_in : (parseMethodDescriptor (mY mL_in).desc).map (fun d => d.parameters.length) = some 4 := by decide +kernel
def hL_in : List (Nat × Nat × Nat × Nat) := [(0, 10, 13, 18)]
theorem vL_in : mH mL_in hL_in := ⟨wT_L_in, wN_L, wC_L_in, by decide +kernel, by decide +kernel⟩
set_option maxHeartbeats 4000000 in
set_option maxRecDepth 100000 in
theorem sL_in {h : HP} {Q1 : AO → HP → Prop} {a0 a1 : Int} (s1 : SpecK mX11_in [vr 30, vi a0, vi a1] h Q1) (ok : Q1ok cN1 Q1) : SpecH mL_in hL_in [vr 30, vi a0, vi a1, vr 29] h (WQ cN1 wr Q1) := by
  refine SpecH_of (by decide +kernel) (Nat.le_of_ble_eq_true rfl) ?_
  refine K_aload_n (dt_at dtL_in 0 rfl) rfl rfl ?_
  refine K_iconst (dt_at dtL_in 1 rfl) ?_
  refine K_aload_n (dt_at dtL_in 2 rfl) rfl rfl ?_
  refine K_iload_n (dt_at dtL_in 3 rfl) rfl rfl ?_
  refine K_iload_n (dt_at dtL_in 4 rfl) rfl rfl ?_
  refine K_callV (M' := mX11_in) (a := 30) (ci := 11) (As := [vi a0, vi a1]) (st := [vi 0, vr 29]) (dt_at dtL_in 5 rfl) s1 (show TT 30 = (0, 11) from rfl) rfl wL_L_27 vX11_in rfl npX11_in (by decide) (by decide) (Nat.le_of_ble_eq_true rfl) (by decide) (by decide) GH_E (fun v9 h9 hq => ?_) (fun E h9 hq => ?_)
  · rcases ok _ _ hq with ⟨x, hx⟩ | ⟨E, hE, hc⟩
    · cases hx
      refine K_i2lw (dt_at dtL_in 6 rfl) ?_
      refine K_last (a := 29) (n := 1) (dt_at dtL_in 7 rfl) rfl (by decide) (by decide) ?_
      refine K_goto (tgt := 17) (dt_at dtL_in 8 rfl) (by decide) ?_
      refine K_iconst (dt_at dtL_in 12 rfl) ?_
      exact K_iret (dt_at dtL_in 13 rfl) rfl rfl (by decide) (by decide) (Or.inl ⟨x, h9, hq, rfl, rfl⟩)
    · cases hE
  · rcases ok _ _ hq with ⟨x, hx⟩ | ⟨E1, hE, hc, hd⟩
    · cases hx
    · cases hE
      obtain rfl := cN1_e hc
      refine KX_catch1 (x := ⟨0, 10, 13, 18⟩) (suf := []) (hp2 := 15) rfl (by decide) (by decide) wl_NS (List.mem_of_getElem? (i := 4) rfl) (Or.inr ⟨4, (dt_at dtL_in 9 rfl), by decide, rfl⟩) ?_
      refine K_iconst (dt_at dtL_in 10 rfl) ?_
      exact K_iret (dt_at dtL_in 11 rfl) rfl rfl (by decide) (by decide) (Or.inr ⟨_, hq, by rw [cN1_n]⟩)
def mL_swap : MI := (yL_swap, cL_swap, 5, some .int, rmK 9 2)
def tL_swap : List (Nat × Instr × Nat) := [(0, .aload_n 3, 1), (1, .iconst 0, 1), (2, .aload_n 0, 1), (3, .iload_n 1, 1), (4, .iload_n 2, 1), (5, .invokevirtual 30, 3), (8, .ifCond .eq 7, 3), (11, .lconst 1, 1), (12, .goto 4, 3), (15, .lconst 0, 1), (16, .lastore, 1), (17, .goto 7, 3), (20, .astore 4, 2), (22, .iconst 1, 1), (23, .ireturn, 1), (24, .iconst 0, 1), (25, .ireturn, 1)]
theorem dtL_swap : tL_swap.all (fun q => decide (decode cL_swap q.1 = .ok (q.2.1, q.2.2))) = true := by decide +kernel
theorem npL_swap : (parseMethodDescriptor (mY mL_swap).desc).map (fun d => d.parameters.length) = some 4 := by decide +kernel
def hL_swap : List (Nat × Nat × Nat × Nat) := [(0, 17, 20, 18)]
theorem vL_swap : mH mL_swap hL_swap := ⟨wT_L_swap, wN_L, wC_L_swap, by decide +kernel, by decide +kernel⟩
set_option maxHeartbeats 4000000 in
set_option maxRecDepth 100000 in
theorem sL_swap {h : HP} {Q1 : AO → HP → Prop} {a0 a1 : Int} (s1 : SpecK mX11_swap [vr 30, vi a0, vi a1] h Q1) (ok : Q1ok cN1 Q1) : SpecH mL_swap hL_swap [vr 30, vi a0, vi a1, vr 29] h (WQ cN1 b01 Q1) := by
  refine SpecH_of (by decide +kernel) (Nat.le_of_ble_eq_true rfl) ?_
  refine K_aload_n (dt_at dtL_swap 0 rfl) rfl rfl ?_
  refine K_iconst (dt_at dtL_swap 1 rfl) ?_
  refine K_aload_n (dt_at dtL_swap 2 rfl) rfl rfl ?_
  refine K_iload_n (dt_at dtL_swap 3 rfl) rfl rfl ?_
  refine K_iload_n (dt_at dtL_swap 4 rfl) rfl rfl ?_
  refine K_callV (M' := mX11_swap) (a := 30) (ci := 11) (As := [vi a0, vi a1]) (st := [vi 0, vr 29]) (dt_at dtL_swap 5 rfl) s1 (show TT 30 = (0, 11) from rfl) rfl wL_L_30 vX11_swap rfl npX11_swap (by decide) (by decide) (Nat.le_of_ble_eq_true rfl) (by decide) (by decide) GH_E (fun v9 h9 hq => ?_) (fun E h9 hq => ?_)
  · rcases ok _ _ hq with ⟨x, hx⟩ | ⟨E, hE, hc⟩
    · cases hx
      refine K_same (wr_same x) ?_
      refine K_if_eq (tgt := 15) (dt_at dtL_swap 6 rfl) (by decide) (wr_i x) (fun z9 => ?_) (fun z9 => ?_)
      · skip
        refine K_lconst0 (dt_at dtL_swap 9 rfl) ?_
        refine K_last (a := 29) (n := 1) (dt_at dtL_swap 10 rfl) rfl (by decide) (by decide) ?_
        refine K_goto (tgt := 24) (dt_at dtL_swap 11 rfl) (by decide) ?_
        refine K_iconst (dt_at dtL_swap 15 rfl) ?_
        exact K_iret (dt_at dtL_swap 16 rfl) rfl rfl (by decide) (by decide) (Or.inl ⟨x, h9, hq, Eq.refl _, by unfold b01; rw [if_pos z9]⟩)
      · skip
        refine K_lconst1 (dt_at dtL_swap 7 rfl) ?_
        refine K_goto (tgt := 16) (dt_at dtL_swap 8 rfl) (by decide) ?_
        refine K_last (a := 29) (n := 1) (dt_at dtL_swap 10 rfl) rfl (by decide) (by decide) ?_
        refine K_goto (tgt := 24) (dt_at dtL_swap 11 rfl) (by decide) ?_
        refine K_iconst (dt_at dtL_swap 15 rfl) ?_
        exact K_iret (dt_at dtL_swap 16 rfl) rfl rfl (by decide) (by decide) (Or.inl ⟨x, h9, hq, Eq.refl _, by unfold b01; rw [if_neg z9]⟩)
    · cases hE
  · rcases ok _ _ hq with ⟨x, hx⟩ | ⟨E1, hE, hc, hd⟩
    · cases hx
    · cases hE
      obtain rfl := cN1_e hc
      refine KX_catch1 (x := ⟨0, 17, 20, 18⟩) (suf := []) (hp2 := 22) rfl (by decide) (by decide) wl_NS (List.mem_of_getElem? (i := 4) rfl) (Or.inr ⟨4, (dt_at dtL_swap 12 rfl), by decide, rfl⟩) ?_
      refine K_iconst (dt_at dtL_swap 13 rfl) ?_
      exact K_iret (dt_at dtL_swap 14 rfl) rfl rfl (by decide) (by decide) (Or.inr ⟨_, hq, by rw [cN1_n]⟩)
def mL_buy : MI := (yL_buy, cL_buy, 5, some .int, rmK 9 1)
def tL_buy : List (Nat × Instr × Nat) := [(0, .aload_n 3, 1), (1, .iconst 0, 1), (2, .aload_n 0, 1), (3, .iload_n 1, 1), (4, .iload_n 2, 1), (5, .invokevirtual 34, 3), (8, .i2l, 1), (9, .lastore, 1), (10, .goto 7, 3), (13, .astore 4, 2), (15, .iconst 1, 1), (16, .ireturn, 1), (17, .iconst 0, 1), (18, .ireturn, 1)]
theorem dtL_buy : tL_buy.all (fun q => decide (decode cL_buy q.1 = .ok (q.2.1, q.2.2))) = true := by decide +kernel
theorem npL_buy : (parseMethodDescriptor (mY mL_buy).desc).map (fun d => d.parameters.length) = some 4 := by decide +kernel
def hL_buy : List (Nat × Nat × Nat × Nat) := [(0, 10, 13, 18)]
theorem vL_buy : mH mL_buy hL_buy := ⟨wT_L_buy, wN_L, wC_L_buy, by decide +kernel, by decide +kernel⟩
set_option maxHeartbeats 4000000 in
set_option maxRecDepth 100000 in
theorem sL_buy {h : HP} {Q1 : AO → HP → Prop} {a0 a1 : Int} (s1 : SpecK mX11_buy [vr 30, vi a0, vi a1] h Q1) (ok : Q1ok cN1 Q1) : SpecH mL_buy hL_buy [vr 30, vi a0, vi a1, vr 29] h (WQ cN1 wr Q1) := by
  refine SpecH_of (by decide +kernel) (Nat.le_of_ble_eq_true rfl) ?_
  refine K_aload_n (dt_at dtL_buy 0 rfl) rfl rfl ?_
  refine K_iconst (dt_at dtL_buy 1 rfl) ?_
  refine K_aload_n (dt_at dtL_buy 2 rfl) rfl rfl ?_
  refine K_iload_n (dt_at dtL_buy 3 rfl) rfl rfl ?_
  refine K_iload_n (dt_at dtL_buy 4 rfl) rfl rfl ?_
  refine K_callV (M' := mX11_buy) (a := 30) (ci := 11) (As := [vi a0, vi a1]) (st := [vi 0, vr 29]) (dt_at dtL_buy 5 rfl) s1 (show TT 30 = (0, 11) from rfl) rfl wL_L_34 vX11_buy rfl npX11_buy (by decide) (by decide) (Nat.le_of_ble_eq_true rfl) (by decide) (by decide) GH_E (fun v9 h9 hq => ?_) (fun E h9 hq => ?_)
  · rcases ok _ _ hq with ⟨x, hx⟩ | ⟨E, hE, hc⟩
    · cases hx
      refine K_i2lw (dt_at dtL_buy 6 rfl) ?_
      refine K_last (a := 29) (n := 1) (dt_at dtL_buy 7 rfl) rfl (by decide) (by decide) ?_
      refine K_goto (tgt := 17) (dt_at dtL_buy 8 rfl) (by decide) ?_
      refine K_iconst (dt_at dtL_buy 12 rfl) ?_
      exact K_iret (dt_at dtL_buy 13 rfl) rfl rfl (by decide) (by decide) (Or.inl ⟨x, h9, hq, rfl, rfl⟩)
    · cases hE
  · rcases ok _ _ hq with ⟨x, hx⟩ | ⟨E1, hE, hc, hd⟩
    · cases hx
    · cases hE
      obtain rfl := cN1_e hc
      refine KX_catch1 (x := ⟨0, 10, 13, 18⟩) (suf := []) (hp2 := 15) rfl (by decide) (by decide) wl_NS (List.mem_of_getElem? (i := 4) rfl) (Or.inr ⟨4, (dt_at dtL_buy 9 rfl), by decide, rfl⟩) ?_
      refine K_iconst (dt_at dtL_buy 10 rfl) ?_
      exact K_iret (dt_at dtL_buy 11 rfl) rfl rfl (by decide) (by decide) (Or.inr ⟨_, hq, by rw [cN1_n]⟩)
def mL_packer : MI := (yL_packer, cL_packer, 5, some .int, rmK 9 2)
def tL_packer : List (Nat × Instr × Nat) := [(0, .aload_n 3, 1), (1, .iconst 0, 1), (2, .aload_n 0, 1), (3, .iload_n 1, 1), (4, .iload_n 2, 1), (5, .invokevirtual 37, 3), (8, .i2l, 1), (9, .lastore, 1), (10, .goto 7, 3), (13, .astore 4, 2), (15, .iconst 1, 1), (16, .ireturn, 1), (17, .iconst 0, 1), (18, .ireturn, 1)]
theorem dtL_packer : tL_packer.all (fun q => decide (decode cL_packer q.1 = .ok (q.2.1, q.2.2))) = true := by decide +kernel
theorem npL_packer : (parseMethodDescriptor (mY mL_packer).desc).map (fun d => d.parameters.length) = some 4 := by decide +kernel
def hL_packer : List (Nat × Nat × Nat × Nat) := [(0, 10, 13, 18)]
theorem vL_packer : mH mL_packer hL_packer := ⟨wT_L_packer, wN_L, wC_L_packer, by decide +kernel, by decide +kernel⟩
set_option maxHeartbeats 4000000 in
set_option maxRecDepth 100000 in
theorem sL_packer {h : HP} {Q1 : AO → HP → Prop} {a0 a1 : Int} (s1 : SpecK mX11_packer [vr 30, vi a0, vi a1] h Q1) (ok : Q1ok cN1 Q1) : SpecH mL_packer hL_packer [vr 30, vi a0, vi a1, vr 29] h (WQ cN1 wr Q1) := by
  refine SpecH_of (by decide +kernel) (Nat.le_of_ble_eq_true rfl) ?_
  refine K_aload_n (dt_at dtL_packer 0 rfl) rfl rfl ?_
  refine K_iconst (dt_at dtL_packer 1 rfl) ?_
  refine K_aload_n (dt_at dtL_packer 2 rfl) rfl rfl ?_
  refine K_iload_n (dt_at dtL_packer 3 rfl) rfl rfl ?_
  refine K_iload_n (dt_at dtL_packer 4 rfl) rfl rfl ?_
  refine K_callV (M' := mX11_packer) (a := 30) (ci := 11) (As := [vi a0, vi a1]) (st := [vi 0, vr 29]) (dt_at dtL_packer 5 rfl) s1 (show TT 30 = (0, 11) from rfl) rfl wL_L_37 vX11_packer rfl npX11_packer (by decide) (by decide) (Nat.le_of_ble_eq_true rfl) (by decide) (by decide) GH_E (fun v9 h9 hq => ?_) (fun E h9 hq => ?_)
  · rcases ok _ _ hq with ⟨x, hx⟩ | ⟨E, hE, hc⟩
    · cases hx
      refine K_i2lw (dt_at dtL_packer 6 rfl) ?_
      refine K_last (a := 29) (n := 1) (dt_at dtL_packer 7 rfl) rfl (by decide) (by decide) ?_
      refine K_goto (tgt := 17) (dt_at dtL_packer 8 rfl) (by decide) ?_
      refine K_iconst (dt_at dtL_packer 12 rfl) ?_
      exact K_iret (dt_at dtL_packer 13 rfl) rfl rfl (by decide) (by decide) (Or.inl ⟨x, h9, hq, rfl, rfl⟩)
    · cases hE
  · rcases ok _ _ hq with ⟨x, hx⟩ | ⟨E1, hE, hc, hd⟩
    · cases hx
    · cases hE
      obtain rfl := cN1_e hc
      refine KX_catch1 (x := ⟨0, 10, 13, 18⟩) (suf := []) (hp2 := 15) rfl (by decide) (by decide) wl_NS (List.mem_of_getElem? (i := 4) rfl) (Or.inr ⟨4, (dt_at dtL_packer 9 rfl), by decide, rfl⟩) ?_
      refine K_iconst (dt_at dtL_packer 10 rfl) ?_
      exact K_iret (dt_at dtL_packer 11 rfl) rfl rfl (by decide) (by decide) (Or.inr ⟨_, hq, by rw [cN1_n]⟩)
def mL_mend : MI := (yL_mend, cL_mend, 5, some .int, rmK 9 1)
def tL_mend : List (Nat × Instr × Nat) := [(0, .aload_n 3, 1), (1, .iconst 0, 1), (2, .aload_n 0, 1), (3, .iload_n 1, 1), (4, .iload_n 2, 1), (5, .invokevirtual 40, 3), (8, .i2l, 1), (9, .lastore, 1), (10, .goto 7, 3), (13, .astore 4, 2), (15, .iconst 1, 1), (16, .ireturn, 1), (17, .iconst 0, 1), (18, .ireturn, 1)]
theorem dtL_mend : tL_mend.all (fun q => decide (decode cL_mend q.1 = .ok (q.2.1, q.2.2))) = true := by decide +kernel
theorem npL_mend : (parseMethodDescriptor (mY mL_mend).desc).map (fun d => d.parameters.length) = some 4 := by decide +kernel
def hL_mend : List (Nat × Nat × Nat × Nat) := [(0, 10, 13, 18)]
theorem vL_mend : mH mL_mend hL_mend := ⟨wT_L_mend, wN_L, wC_L_mend, by decide +kernel, by decide +kernel⟩
set_option maxHeartbeats 4000000 in
set_option maxRecDepth 100000 in
theorem sL_mend {h : HP} {Q1 : AO → HP → Prop} {a0 a1 : Int} (s1 : SpecK mX11_mend [vr 30, vi a0, vi a1] h Q1) (ok : Q1ok cN1 Q1) : SpecH mL_mend hL_mend [vr 30, vi a0, vi a1, vr 29] h (WQ cN1 wr Q1) := by
  refine SpecH_of (by decide +kernel) (Nat.le_of_ble_eq_true rfl) ?_
  refine K_aload_n (dt_at dtL_mend 0 rfl) rfl rfl ?_
  refine K_iconst (dt_at dtL_mend 1 rfl) ?_
  refine K_aload_n (dt_at dtL_mend 2 rfl) rfl rfl ?_
  refine K_iload_n (dt_at dtL_mend 3 rfl) rfl rfl ?_
  refine K_iload_n (dt_at dtL_mend 4 rfl) rfl rfl ?_
  refine K_callV (M' := mX11_mend) (a := 30) (ci := 11) (As := [vi a0, vi a1]) (st := [vi 0, vr 29]) (dt_at dtL_mend 5 rfl) s1 (show TT 30 = (0, 11) from rfl) rfl wL_L_40 vX11_mend rfl npX11_mend (by decide) (by decide) (Nat.le_of_ble_eq_true rfl) (by decide) (by decide) GH_E (fun v9 h9 hq => ?_) (fun E h9 hq => ?_)
  · rcases ok _ _ hq with ⟨x, hx⟩ | ⟨E, hE, hc⟩
    · cases hx
      refine K_i2lw (dt_at dtL_mend 6 rfl) ?_
      refine K_last (a := 29) (n := 1) (dt_at dtL_mend 7 rfl) rfl (by decide) (by decide) ?_
      refine K_goto (tgt := 17) (dt_at dtL_mend 8 rfl) (by decide) ?_
      refine K_iconst (dt_at dtL_mend 12 rfl) ?_
      exact K_iret (dt_at dtL_mend 13 rfl) rfl rfl (by decide) (by decide) (Or.inl ⟨x, h9, hq, rfl, rfl⟩)
    · cases hE
  · rcases ok _ _ hq with ⟨x, hx⟩ | ⟨E1, hE, hc, hd⟩
    · cases hx
    · cases hE
      obtain rfl := cN1_e hc
      refine KX_catch1 (x := ⟨0, 10, 13, 18⟩) (suf := []) (hp2 := 15) rfl (by decide) (by decide) wl_NS (List.mem_of_getElem? (i := 4) rfl) (Or.inr ⟨4, (dt_at dtL_mend 9 rfl), by decide, rfl⟩) ?_
      refine K_iconst (dt_at dtL_mend 10 rfl) ?_
      exact K_iret (dt_at dtL_mend 11 rfl) rfl rfl (by decide) (by decide) (Or.inr ⟨_, hq, by rw [cN1_n]⟩)
def mL_then : MI := (yL_then, cL_then, 6, some .int, rmK 9 3)
def tL_then : List (Nat × Instr × Nat) := [(0, .aload 4, 2), (2, .iconst 0, 1), (3, .aload_n 0, 1), (4, .iload_n 1, 1), (5, .iload_n 2, 1), (6, .iload_n 3, 1), (7, .invokevirtual 43, 3), (10, .i2l, 1), (11, .lastore, 1), (12, .goto 11, 3), (15, .astore 5, 2), (17, .iconst 1, 1), (18, .ireturn, 1), (19, .astore 5, 2), (21, .iconst 2, 1), (22, .ireturn, 1), (23, .iconst 0, 1), (24, .ireturn, 1)]
theorem dtL_then : tL_then.all (fun q => decide (decode cL_then q.1 = .ok (q.2.1, q.2.2))) = true := by decide +kernel
theorem npL_then : (parseMethodDescriptor (mY mL_then).desc).map (fun d => d.parameters.length) = some 5 := by decide +kernel
def hL_then : List (Nat × Nat × Nat × Nat) := [(0, 12, 15, 18), (0, 12, 19, 13)]
theorem vL_then : mH mL_then hL_then := ⟨wT_L_then, wN_L, wC_L_then, by decide +kernel, by decide +kernel⟩
set_option maxHeartbeats 4000000 in
set_option maxRecDepth 100000 in
theorem sL_then {h : HP} {Q1 : AO → HP → Prop} {a0 a1 a2 : Int} (s1 : SpecK mX11_then [vr 30, vi a0, vi a1, vi a2] h Q1) (ok : Q1ok cNS Q1) : SpecH mL_then hL_then [vr 30, vi a0, vi a1, vi a2, vr 29] h (WQ cNS wr Q1) := by
  refine SpecH_of (by decide +kernel) (Nat.le_of_ble_eq_true rfl) ?_
  refine K_aload (dt_at dtL_then 0 rfl) rfl ?_
  refine K_iconst (dt_at dtL_then 1 rfl) ?_
  refine K_aload_n (dt_at dtL_then 2 rfl) rfl rfl ?_
  refine K_iload_n (dt_at dtL_then 3 rfl) rfl rfl ?_
  refine K_iload_n (dt_at dtL_then 4 rfl) rfl rfl ?_
  refine K_iload_n (dt_at dtL_then 5 rfl) rfl rfl ?_
  refine K_callV (M' := mX11_then) (a := 30) (ci := 11) (As := [vi a0, vi a1, vi a2]) (st := [vi 0, vr 29]) (dt_at dtL_then 6 rfl) s1 (show TT 30 = (0, 11) from rfl) rfl wL_L_43 vX11_then rfl npX11_then (by decide) (by decide) (Nat.le_of_ble_eq_true rfl) (by decide) (by decide) GH_E (fun v9 h9 hq => ?_) (fun E h9 hq => ?_)
  · rcases ok _ _ hq with ⟨x, hx⟩ | ⟨E, hE, hc⟩
    · cases hx
      refine K_i2lw (dt_at dtL_then 7 rfl) ?_
      refine K_last (a := 29) (n := 1) (dt_at dtL_then 8 rfl) rfl (by decide) (by decide) ?_
      refine K_goto (tgt := 23) (dt_at dtL_then 9 rfl) (by decide) ?_
      refine K_iconst (dt_at dtL_then 16 rfl) ?_
      exact K_iret (dt_at dtL_then 17 rfl) rfl rfl (by decide) (by decide) (Or.inl ⟨x, h9, hq, rfl, rfl⟩)
    · cases hE
  · rcases ok _ _ hq with ⟨x, hx⟩ | ⟨E1, hE, hc, hd⟩
    · cases hx
    · cases hE
      rcases hd with rfl | rfl
      · skip
        refine KX_catch1 (x := ⟨0, 12, 15, 18⟩) (suf := [⟨0, 12, 19, 13⟩]) (hp2 := 17) rfl (by decide) (by decide) wl_NS (List.mem_of_getElem? (i := 4) rfl) (Or.inr ⟨5, (dt_at dtL_then 10 rfl), by decide, rfl⟩) ?_
        refine K_iconst (dt_at dtL_then 11 rfl) ?_
        exact K_iret (dt_at dtL_then 12 rfl) rfl rfl (by decide) (by decide) (Or.inr ⟨_, hq, by rw [cNS_n]⟩)
      · skip
        refine KX_catch2 (z := ⟨0, 12, 15, 18⟩) (x := ⟨0, 12, 19, 13⟩) (suf := []) (hp2 := 21) rfl (by decide) wl_NS (by decide) (by decide) wl_IA (Or.inr ⟨5, (dt_at dtL_then 13 rfl), by decide, rfl⟩) ?_
        refine K_iconst (dt_at dtL_then 14 rfl) ?_
        exact K_iret (dt_at dtL_then 15 rfl) rfl rfl (by decide) (by decide) (Or.inr ⟨_, hq, by rw [cNS_i]⟩)
def mL_packed : MI := (yL_packed, cL_packed, 6, some .int, rmK 9 3)
def tL_packed : List (Nat × Instr × Nat) := [(0, .aload 4, 2), (2, .iconst 0, 1), (3, .aload_n 0, 1), (4, .iload_n 1, 1), (5, .iload_n 2, 1), (6, .iload_n 3, 1), (7, .invokevirtual 47, 3), (10, .i2l, 1), (11, .lastore, 1), (12, .goto 11, 3), (15, .astore 5, 2), (17, .iconst 1, 1), (18, .ireturn, 1), (19, .astore 5, 2), (21, .iconst 2, 1), (22, .ireturn, 1), (23, .iconst 0, 1), (24, .ireturn, 1)]
theorem dtL_packed : tL_packed.all (fun q => decide (decode cL_packed q.1 = .ok (q.2.1, q.2.2))) = true := by decide +kernel
theorem npL_packed : (parseMethodDescriptor (mY mL_packed).desc).map (fun d => d.parameters.length) = some 5 := by decide +kernel
def hL_packed : List (Nat × Nat × Nat × Nat) := [(0, 12, 15, 18), (0, 12, 19, 13)]
theorem vL_packed : mH mL_packed hL_packed := ⟨wT_L_packed, wN_L, wC_L_packed, by decide +kernel, by decide +kernel⟩
set_option maxHeartbeats 4000000 in
set_option maxRecDepth 100000 in
theorem sL_packed {h : HP} {Q1 : AO → HP → Prop} {a0 a1 a2 : Int} (s1 : SpecK mX11_packed [vr 30, vi a0, vi a1, vi a2] h Q1) (ok : Q1ok cNS Q1) : SpecH mL_packed hL_packed [vr 30, vi a0, vi a1, vi a2, vr 29] h (WQ cNS wr Q1) := by
  refine SpecH_of (by decide +kernel) (Nat.le_of_ble_eq_true rfl) ?_
  refine K_aload (dt_at dtL_packed 0 rfl) rfl ?_
  refine K_iconst (dt_at dtL_packed 1 rfl) ?_
  refine K_aload_n (dt_at dtL_packed 2 rfl) rfl rfl ?_
  refine K_iload_n (dt_at dtL_packed 3 rfl) rfl rfl ?_
  refine K_iload_n (dt_at dtL_packed 4 rfl) rfl rfl ?_
  refine K_iload_n (dt_at dtL_packed 5 rfl) rfl rfl ?_
  refine K_callV (M' := mX11_packed) (a := 30) (ci := 11) (As := [vi a0, vi a1, vi a2]) (st := [vi 0, vr 29]) (dt_at dtL_packed 6 rfl) s1 (show TT 30 = (0, 11) from rfl) rfl wL_L_47 vX11_packed rfl npX11_packed (by decide) (by decide) (Nat.le_of_ble_eq_true rfl) (by decide) (by decide) GH_E (fun v9 h9 hq => ?_) (fun E h9 hq => ?_)
  · rcases ok _ _ hq with ⟨x, hx⟩ | ⟨E, hE, hc⟩
    · cases hx
      refine K_i2lw (dt_at dtL_packed 7 rfl) ?_
      refine K_last (a := 29) (n := 1) (dt_at dtL_packed 8 rfl) rfl (by decide) (by decide) ?_
      refine K_goto (tgt := 23) (dt_at dtL_packed 9 rfl) (by decide) ?_
      refine K_iconst (dt_at dtL_packed 16 rfl) ?_
      exact K_iret (dt_at dtL_packed 17 rfl) rfl rfl (by decide) (by decide) (Or.inl ⟨x, h9, hq, rfl, rfl⟩)
    · cases hE
  · rcases ok _ _ hq with ⟨x, hx⟩ | ⟨E1, hE, hc, hd⟩
    · cases hx
    · cases hE
      rcases hd with rfl | rfl
      · skip
        refine KX_catch1 (x := ⟨0, 12, 15, 18⟩) (suf := [⟨0, 12, 19, 13⟩]) (hp2 := 17) rfl (by decide) (by decide) wl_NS (List.mem_of_getElem? (i := 4) rfl) (Or.inr ⟨5, (dt_at dtL_packed 10 rfl), by decide, rfl⟩) ?_
        refine K_iconst (dt_at dtL_packed 11 rfl) ?_
        exact K_iret (dt_at dtL_packed 12 rfl) rfl rfl (by decide) (by decide) (Or.inr ⟨_, hq, by rw [cNS_n]⟩)
      · skip
        refine KX_catch2 (z := ⟨0, 12, 15, 18⟩) (x := ⟨0, 12, 19, 13⟩) (suf := []) (hp2 := 21) rfl (by decide) wl_NS (by decide) (by decide) wl_IA (Or.inr ⟨5, (dt_at dtL_packed 13 rfl), by decide, rfl⟩) ?_
        refine K_iconst (dt_at dtL_packed 14 rfl) ?_
        exact K_iret (dt_at dtL_packed 15 rfl) rfl rfl (by decide) (by decide) (Or.inr ⟨_, hq, by rw [cNS_i]⟩)
def mL_cupboard : MI := (yL_cupboard, cL_cupboard, 5, some .int, rmK 9 2)
def tL_cupboard : List (Nat × Instr × Nat) := [(0, .aload_n 3, 1), (1, .iconst 0, 1), (2, .aload_n 0, 1), (3, .iload_n 1, 1), (4, .iload_n 2, 1), (5, .invokevirtual 50, 3), (8, .i2l, 1), (9, .lastore, 1), (10, .goto 11, 3), (13, .astore 4, 2), (15, .iconst 1, 1), (16, .ireturn, 1), (17, .astore 4, 2), (19, .iconst 2, 1), (20, .ireturn, 1), (21, .iconst 0, 1), (22, .ireturn, 1)]
theorem dtL_cupboard : tL_cupboard.all (fun q => decide (decode cL_cupboard q.1 = .ok (q.2.1, q.2.2))) = true := by decide +kernel
theorem npL_cupboard : (parseMethodDescriptor (mY mL_cupboard).desc).map (fun d => d.parameters.length) = some 4 := by decide +kernel
def hL_cupboard : List (Nat × Nat × Nat × Nat) := [(0, 10, 13, 18), (0, 10, 17, 13)]
theorem vL_cupboard : mH mL_cupboard hL_cupboard := ⟨wT_L_cupboard, wN_L, wC_L_cupboard, by decide +kernel, by decide +kernel⟩
set_option maxHeartbeats 4000000 in
set_option maxRecDepth 100000 in
theorem sL_cupboard {h : HP} {Q1 : AO → HP → Prop} {a0 a1 : Int} (s1 : SpecK mX11_cupboard [vr 30, vi a0, vi a1] h Q1) (ok : Q1ok cNS Q1) : SpecH mL_cupboard hL_cupboard [vr 30, vi a0, vi a1, vr 29] h (WQ cNS wr Q1) := by
  refine SpecH_of (by decide +kernel) (Nat.le_of_ble_eq_true rfl) ?_
  refine K_aload_n (dt_at dtL_cupboard 0 rfl) rfl rfl ?_
  refine K_iconst (dt_at dtL_cupboard 1 rfl) ?_
  refine K_aload_n (dt_at dtL_cupboard 2 rfl) rfl rfl ?_
  refine K_iload_n (dt_at dtL_cupboard 3 rfl) rfl rfl ?_
  refine K_iload_n (dt_at dtL_cupboard 4 rfl) rfl rfl ?_
  refine K_callV (M' := mX11_cupboard) (a := 30) (ci := 11) (As := [vi a0, vi a1]) (st := [vi 0, vr 29]) (dt_at dtL_cupboard 5 rfl) s1 (show TT 30 = (0, 11) from rfl) rfl wL_L_50 vX11_cupboard rfl npX11_cupboard (by decide) (by decide) (Nat.le_of_ble_eq_true rfl) (by decide) (by decide) GH_E (fun v9 h9 hq => ?_) (fun E h9 hq => ?_)
  · rcases ok _ _ hq with ⟨x, hx⟩ | ⟨E, hE, hc⟩
    · cases hx
      refine K_i2lw (dt_at dtL_cupboard 6 rfl) ?_
      refine K_last (a := 29) (n := 1) (dt_at dtL_cupboard 7 rfl) rfl (by decide) (by decide) ?_
      refine K_goto (tgt := 21) (dt_at dtL_cupboard 8 rfl) (by decide) ?_
      refine K_iconst (dt_at dtL_cupboard 15 rfl) ?_
      exact K_iret (dt_at dtL_cupboard 16 rfl) rfl rfl (by decide) (by decide) (Or.inl ⟨x, h9, hq, rfl, rfl⟩)
    · cases hE
  · rcases ok _ _ hq with ⟨x, hx⟩ | ⟨E1, hE, hc, hd⟩
    · cases hx
    · cases hE
      rcases hd with rfl | rfl
      · skip
        refine KX_catch1 (x := ⟨0, 10, 13, 18⟩) (suf := [⟨0, 10, 17, 13⟩]) (hp2 := 15) rfl (by decide) (by decide) wl_NS (List.mem_of_getElem? (i := 4) rfl) (Or.inr ⟨4, (dt_at dtL_cupboard 9 rfl), by decide, rfl⟩) ?_
        refine K_iconst (dt_at dtL_cupboard 10 rfl) ?_
        exact K_iret (dt_at dtL_cupboard 11 rfl) rfl rfl (by decide) (by decide) (Or.inr ⟨_, hq, by rw [cNS_n]⟩)
      · skip
        refine KX_catch2 (z := ⟨0, 10, 13, 18⟩) (x := ⟨0, 10, 17, 13⟩) (suf := []) (hp2 := 19) rfl (by decide) wl_NS (by decide) (by decide) wl_IA (Or.inr ⟨4, (dt_at dtL_cupboard 12 rfl), by decide, rfl⟩) ?_
        refine K_iconst (dt_at dtL_cupboard 13 rfl) ?_
        exact K_iret (dt_at dtL_cupboard 14 rfl) rfl rfl (by decide) (by decide) (Or.inr ⟨_, hq, by rw [cNS_i]⟩)
def mL_later : MI := (yL_later, cL_later, 5, some .int, rmK 9 2)
def tL_later : List (Nat × Instr × Nat) := [(0, .aload_n 3, 1), (1, .iconst 0, 1), (2, .aload_n 0, 1), (3, .iload_n 1, 1), (4, .iload_n 2, 1), (5, .invokevirtual 53, 3), (8, .i2l, 1), (9, .lastore, 1), (10, .goto 11, 3), (13, .astore 4, 2), (15, .iconst 1, 1), (16, .ireturn, 1), (17, .astore 4, 2), (19, .iconst 2, 1), (20, .ireturn, 1), (21, .iconst 0, 1), (22, .ireturn, 1)]
theorem dtL_later : tL_later.all (fun q => decide (decode cL_later q.1 = .ok (q.2.1, q.2.2))) = true := by decide +kernel
theorem npL_later : (parseMethodDescriptor (mY mL_later).desc).map (fun d => d.parameters.length) = some 4 := by decide +kernel
def hL_later : List (Nat × Nat × Nat × Nat) := [(0, 10, 13, 18), (0, 10, 17, 13)]
theorem vL_later : mH mL_later hL_later := ⟨wT_L_later, wN_L, wC_L_later, by decide +kernel, by decide +kernel⟩
set_option maxHeartbeats 4000000 in
set_option maxRecDepth 100000 in
theorem sL_later {h : HP} {Q1 : AO → HP → Prop} {a0 a1 : Int} (s1 : SpecK mX11_later [vr 30, vi a0, vi a1] h Q1) (ok : Q1ok cNS Q1) : SpecH mL_later hL_later [vr 30, vi a0, vi a1, vr 29] h (WQ cNS wr Q1) := by
  refine SpecH_of (by decide +kernel) (Nat.le_of_ble_eq_true rfl) ?_
  refine K_aload_n (dt_at dtL_later 0 rfl) rfl rfl ?_
  refine K_iconst (dt_at dtL_later 1 rfl) ?_
  refine K_aload_n (dt_at dtL_later 2 rfl) rfl rfl ?_
  refine K_iload_n (dt_at dtL_later 3 rfl) rfl rfl ?_
  refine K_iload_n (dt_at dtL_later 4 rfl) rfl rfl ?_
  refine K_callV (M' := mX11_later) (a := 30) (ci := 11) (As := [vi a0, vi a1]) (st := [vi 0, vr 29]) (dt_at dtL_later 5 rfl) s1 (show TT 30 = (0, 11) from rfl) rfl wL_L_53 vX11_later rfl npX11_later (by decide) (by decide) (Nat.le_of_ble_eq_true rfl) (by decide) (by decide) GH_E (fun v9 h9 hq => ?_) (fun E h9 hq => ?_)
  · rcases ok _ _ hq with ⟨x, hx⟩ | ⟨E, hE, hc⟩
    · cases hx
      refine K_i2lw (dt_at dtL_later 6 rfl) ?_
      refine K_last (a := 29) (n := 1) (dt_at dtL_later 7 rfl) rfl (by decide) (by decide) ?_
      refine K_goto (tgt := 21) (dt_at dtL_later 8 rfl) (by decide) ?_
      refine K_iconst (dt_at dtL_later 15 rfl) ?_
      exact K_iret (dt_at dtL_later 16 rfl) rfl rfl (by decide) (by decide) (Or.inl ⟨x, h9, hq, rfl, rfl⟩)
    · cases hE
  · rcases ok _ _ hq with ⟨x, hx⟩ | ⟨E1, hE, hc, hd⟩
    · cases hx
    · cases hE
      rcases hd with rfl | rfl
      · skip
        refine KX_catch1 (x := ⟨0, 10, 13, 18⟩) (suf := [⟨0, 10, 17, 13⟩]) (hp2 := 15) rfl (by decide) (by decide) wl_NS (List.mem_of_getElem? (i := 4) rfl) (Or.inr ⟨4, (dt_at dtL_later 9 rfl), by decide, rfl⟩) ?_
        refine K_iconst (dt_at dtL_later 10 rfl) ?_
        exact K_iret (dt_at dtL_later 11 rfl) rfl rfl (by decide) (by decide) (Or.inr ⟨_, hq, by rw [cNS_n]⟩)
      · skip
        refine KX_catch2 (z := ⟨0, 10, 13, 18⟩) (x := ⟨0, 10, 17, 13⟩) (suf := []) (hp2 := 19) rfl (by decide) wl_NS (by decide) (by decide) wl_IA (Or.inr ⟨4, (dt_at dtL_later 12 rfl), by decide, rfl⟩) ?_
        refine K_iconst (dt_at dtL_later 13 rfl) ?_
        exact K_iret (dt_at dtL_later 14 rfl) rfl rfl (by decide) (by decide) (Or.inr ⟨_, hq, by rw [cNS_i]⟩)
def mL_next : MI := (yL_next, cL_next, 4, some .int, rmK 9 1)
def tL_next : List (Nat × Instr × Nat) := [(0, .aload_n 2, 1), (1, .iconst 0, 1), (2, .aload_n 0, 1), (3, .iload_n 1, 1), (4, .invokevirtual 56, 3), (7, .i2l, 1), (8, .lastore, 1), (9, .goto 6, 3), (12, .astore_n 3, 1), (13, .iconst 1, 1), (14, .ireturn, 1), (15, .iconst 0, 1), (16, .ireturn, 1)]
theorem dtL_next : tL_next.all (fun q => decide (decode cL_next q.1 = .ok (q.2.1, q.2.2))) = true := by decide +kernel
theorem npL_next : (parseMethodDescriptor (mY mL_next).desc).map (fun d => d.parameters.length) = some 3 := by decide +kernel
def hL_next : List (Nat × Nat × Nat × Nat) := [(0, 9, 12, 18)]
theorem vL_next : mH mL_next hL_next := ⟨wT_L_next, wN_L, wC_L_next, by decide +kernel, by decide +kernel⟩
set_option maxHeartbeats 4000000 in
set_option maxRecDepth 100000 in
theorem sL_next {h : HP} {Q1 : AO → HP → Prop} {a0 : Int} (s1 : SpecK mX11_next [vr 30, vi a0] h Q1) (ok : Q1ok cN1 Q1) : SpecH mL_next hL_next [vr 30, vi a0, vr 29] h (WQ cN1 wr Q1) := by
  refine SpecH_of (by decide +kernel) (Nat.le_of_ble_eq_true rfl) ?_
  refine K_aload_n (dt_at dtL_next 0 rfl) rfl rfl ?_
  refine K_iconst (dt_at dtL_next 1 rfl) ?_
  refine K_aload_n (dt_at dtL_next 2 rfl) rfl rfl ?_
  refine K_iload_n (dt_at dtL_next 3 rfl) rfl rfl ?_
  refine K_callV (M' := mX11_next) (a := 30) (ci := 11) (As := [vi a0]) (st := [vi 0, vr 29]) (dt_at dtL_next 4 rfl) s1 (show TT 30 = (0, 11) from rfl) rfl wL_L_56 vX11_next rfl npX11_next (by decide) (by decide) (Nat.le_of_ble_eq_true rfl) (by decide) (by decide) GH_E (fun v9 h9 hq => ?_) (fun E h9 hq => ?_)
  · rcases ok _ _ hq with ⟨x, hx⟩ | ⟨E, hE, hc⟩
    · cases hx
      refine K_i2lw (dt_at dtL_next 5 rfl) ?_
      refine K_last (a := 29) (n := 1) (dt_at dtL_next 6 rfl) rfl (by decide) (by decide) ?_
      refine K_goto (tgt := 15) (dt_at dtL_next 7 rfl) (by decide) ?_
      refine K_iconst (dt_at dtL_next 11 rfl) ?_
      exact K_iret (dt_at dtL_next 12 rfl) rfl rfl (by decide) (by decide) (Or.inl ⟨x, h9, hq, rfl, rfl⟩)
    · cases hE
  · rcases ok _ _ hq with ⟨x, hx⟩ | ⟨E1, hE, hc, hd⟩
    · cases hx
    · cases hE
      obtain rfl := cN1_e hc
      refine KX_catch1 (x := ⟨0, 9, 12, 18⟩) (suf := []) (hp2 := 13) rfl (by decide) (by decide) wl_NS (List.mem_of_getElem? (i := 4) rfl) (Or.inl ⟨3, 3, (dt_at dtL_next 8 rfl), rfl, by decide, rfl⟩) ?_
      refine K_iconst (dt_at dtL_next 9 rfl) ?_
      exact K_iret (dt_at dtL_next 10 rfl) rfl rfl (by decide) (by decide) (Or.inr ⟨_, hq, by rw [cN1_n]⟩)
def mL_lacking : MI := (yL_lacking, cL_lacking, 4, some .int, rmK 9 1)
def tL_lacking : List (Nat × Instr × Nat) := [(0, .aload_n 2, 1), (1, .iconst 0, 1), (2, .aload_n 0, 1), (3, .iload_n 1, 1), (4, .invokevirtual 59, 3), (7, .i2l, 1), (8, .lastore, 1), (9, .goto 6, 3), (12, .astore_n 3, 1), (13, .iconst 1, 1), (14, .ireturn, 1), (15, .iconst 0, 1), (16, .ireturn, 1)]
theorem dtL_lacking : tL_lacking.all (fun q => decide (decode cL_lacking q.1 = .ok (q.2.1, q.2.2))) = true := by decide +kernel
theorem npL_lacking : (parseMethodDescriptor (mY mL_lacking).desc).map (fun d => d.parameters.length) = some 3 := by decide +kernel
def hL_lacking : List (Nat × Nat × Nat × Nat) := [(0, 9, 12, 18)]
theorem vL_lacking : mH mL_lacking hL_lacking := ⟨wT_L_lacking, wN_L, wC_L_lacking, by decide +kernel, by decide +kernel⟩
set_option maxHeartbeats 4000000 in
set_option maxRecDepth 100000 in
theorem sL_lacking {h : HP} {Q1 : AO → HP → Prop} {a0 : Int} (s1 : SpecK mX11_lacking [vr 30, vi a0] h Q1) (ok : Q1ok cN1 Q1) : SpecH mL_lacking hL_lacking [vr 30, vi a0, vr 29] h (WQ cN1 wr Q1) := by
  refine SpecH_of (by decide +kernel) (Nat.le_of_ble_eq_true rfl) ?_
  refine K_aload_n (dt_at dtL_lacking 0 rfl) rfl rfl ?_
  refine K_iconst (dt_at dtL_lacking 1 rfl) ?_
  refine K_aload_n (dt_at dtL_lacking 2 rfl) rfl rfl ?_
  refine K_iload_n (dt_at dtL_lacking 3 rfl) rfl rfl ?_
  refine K_callV (M' := mX11_lacking) (a := 30) (ci := 11) (As := [vi a0]) (st := [vi 0, vr 29]) (dt_at dtL_lacking 4 rfl) s1 (show TT 30 = (0, 11) from rfl) rfl wL_L_59 vX11_lacking rfl npX11_lacking (by decide) (by decide) (Nat.le_of_ble_eq_true rfl) (by decide) (by decide) GH_E (fun v9 h9 hq => ?_) (fun E h9 hq => ?_)
  · rcases ok _ _ hq with ⟨x, hx⟩ | ⟨E, hE, hc⟩
    · cases hx
      refine K_i2lw (dt_at dtL_lacking 5 rfl) ?_
      refine K_last (a := 29) (n := 1) (dt_at dtL_lacking 6 rfl) rfl (by decide) (by decide) ?_
      refine K_goto (tgt := 15) (dt_at dtL_lacking 7 rfl) (by decide) ?_
      refine K_iconst (dt_at dtL_lacking 11 rfl) ?_
      exact K_iret (dt_at dtL_lacking 12 rfl) rfl rfl (by decide) (by decide) (Or.inl ⟨x, h9, hq, rfl, rfl⟩)
    · cases hE
  · rcases ok _ _ hq with ⟨x, hx⟩ | ⟨E1, hE, hc, hd⟩
    · cases hx
    · cases hE
      obtain rfl := cN1_e hc
      refine KX_catch1 (x := ⟨0, 9, 12, 18⟩) (suf := []) (hp2 := 13) rfl (by decide) (by decide) wl_NS (List.mem_of_getElem? (i := 4) rfl) (Or.inl ⟨3, 3, (dt_at dtL_lacking 8 rfl), rfl, by decide, rfl⟩) ?_
      refine K_iconst (dt_at dtL_lacking 9 rfl) ?_
      exact K_iret (dt_at dtL_lacking 10 rfl) rfl rfl (by decide) (by decide) (Or.inr ⟨_, hq, by rw [cN1_n]⟩)
def mL_emptiest : MI := (yL_emptiest, cL_emptiest, 4, some .int, rmK 9 1)
def tL_emptiest : List (Nat × Instr × Nat) := [(0, .aload_n 2, 1), (1, .iconst 0, 1), (2, .aload_n 0, 1), (3, .iload_n 1, 1), (4, .invokevirtual 62, 3), (7, .i2l, 1), (8, .lastore, 1), (9, .goto 6, 3), (12, .astore_n 3, 1), (13, .iconst 1, 1), (14, .ireturn, 1), (15, .iconst 0, 1), (16, .ireturn, 1)]
theorem dtL_emptiest : tL_emptiest.all (fun q => decide (decode cL_emptiest q.1 = .ok (q.2.1, q.2.2))) = true := by decide +kernel
theorem npL_emptiest : (parseMethodDescriptor (mY mL_emptiest).desc).map (fun d => d.parameters.length) = some 3 := by decide +kernel
def hL_emptiest : List (Nat × Nat × Nat × Nat) := [(0, 9, 12, 13)]
theorem vL_emptiest : mH mL_emptiest hL_emptiest := ⟨wT_L_emptiest, wN_L, wC_L_emptiest, by decide +kernel, by decide +kernel⟩
set_option maxHeartbeats 4000000 in
set_option maxRecDepth 100000 in
theorem sL_emptiest {h : HP} {Q1 : AO → HP → Prop} {a0 : Int} (s1 : SpecK mX11_emptiest [vr 30, vi a0] h Q1) (ok : Q1ok cIA Q1) : SpecH mL_emptiest hL_emptiest [vr 30, vi a0, vr 29] h (WQ cIA wr Q1) := by
  refine SpecH_of (by decide +kernel) (Nat.le_of_ble_eq_true rfl) ?_
  refine K_aload_n (dt_at dtL_emptiest 0 rfl) rfl rfl ?_
  refine K_iconst (dt_at dtL_emptiest 1 rfl) ?_
  refine K_aload_n (dt_at dtL_emptiest 2 rfl) rfl rfl ?_
  refine K_iload_n (dt_at dtL_emptiest 3 rfl) rfl rfl ?_
  refine K_callV (M' := mX11_emptiest) (a := 30) (ci := 11) (As := [vi a0]) (st := [vi 0, vr 29]) (dt_at dtL_emptiest 4 rfl) s1 (show TT 30 = (0, 11) from rfl) rfl wL_L_62 vX11_emptiest rfl npX11_emptiest (by decide) (by decide) (Nat.le_of_ble_eq_true rfl) (by decide) (by decide) GH_E (fun v9 h9 hq => ?_) (fun E h9 hq => ?_)
  · rcases ok _ _ hq with ⟨x, hx⟩ | ⟨E, hE, hc⟩
    · cases hx
      refine K_i2lw (dt_at dtL_emptiest 5 rfl) ?_
      refine K_last (a := 29) (n := 1) (dt_at dtL_emptiest 6 rfl) rfl (by decide) (by decide) ?_
      refine K_goto (tgt := 15) (dt_at dtL_emptiest 7 rfl) (by decide) ?_
      refine K_iconst (dt_at dtL_emptiest 11 rfl) ?_
      exact K_iret (dt_at dtL_emptiest 12 rfl) rfl rfl (by decide) (by decide) (Or.inl ⟨x, h9, hq, rfl, rfl⟩)
    · cases hE
  · rcases ok _ _ hq with ⟨x, hx⟩ | ⟨E1, hE, hc, hd⟩
    · cases hx
    · cases hE
      obtain rfl := cIA_e hc
      refine KX_catch1 (x := ⟨0, 9, 12, 13⟩) (suf := []) (hp2 := 13) rfl (by decide) (by decide) wl_IA (List.mem_of_getElem? (i := 3) rfl) (Or.inl ⟨3, 3, (dt_at dtL_emptiest 8 rfl), rfl, by decide, rfl⟩) ?_
      refine K_iconst (dt_at dtL_emptiest 9 rfl) ?_
      exact K_iret (dt_at dtL_emptiest 10 rfl) rfl rfl (by decide) (by decide) (Or.inr ⟨_, hq, by rw [cIA_i]⟩)
def mL_best : MI := (yL_best, cL_best, 5, some .int, rmK 9 2)
def tL_best : List (Nat × Instr × Nat) := [(0, .aload_n 3, 1), (1, .iconst 0, 1), (2, .aload_n 0, 1), (3, .iload_n 1, 1), (4, .iload_n 2, 1), (5, .invokevirtual 65, 3), (8, .i2l, 1), (9, .lastore, 1), (10, .goto 7, 3), (13, .astore 4, 2), (15, .iconst 1, 1), (16, .ireturn, 1), (17, .iconst 0, 1), (18, .ireturn, 1)]
theorem dtL_best : tL_best.all (fun q => decide (decode cL_best q.1 = .ok (q.2.1, q.2.2))) = true := by decide +kernel
theorem npL_best : (parseMethodDescriptor (mY mL_best).desc).map (fun d => d.parameters.length) = some 4 := by decide +kernel
def hL_best : List (Nat × Nat × Nat × Nat) := [(0, 10, 13, 18)]
theorem vL_best : mH mL_best hL_best := ⟨wT_L_best, wN_L, wC_L_best, by decide +kernel, by decide +kernel⟩
set_option maxHeartbeats 4000000 in
set_option maxRecDepth 100000 in
theorem sL_best {h : HP} {Q1 : AO → HP → Prop} {a0 a1 : Int} (s1 : SpecK mX11_best [vr 30, vi a0, vi a1] h Q1) (ok : Q1ok cN1 Q1) : SpecH mL_best hL_best [vr 30, vi a0, vi a1, vr 29] h (WQ cN1 wr Q1) := by
  refine SpecH_of (by decide +kernel) (Nat.le_of_ble_eq_true rfl) ?_
  refine K_aload_n (dt_at dtL_best 0 rfl) rfl rfl ?_
  refine K_iconst (dt_at dtL_best 1 rfl) ?_
  refine K_aload_n (dt_at dtL_best 2 rfl) rfl rfl ?_
  refine K_iload_n (dt_at dtL_best 3 rfl) rfl rfl ?_
  refine K_iload_n (dt_at dtL_best 4 rfl) rfl rfl ?_
  refine K_callV (M' := mX11_best) (a := 30) (ci := 11) (As := [vi a0, vi a1]) (st := [vi 0, vr 29]) (dt_at dtL_best 5 rfl) s1 (show TT 30 = (0, 11) from rfl) rfl wL_L_65 vX11_best rfl npX11_best (by decide) (by decide) (Nat.le_of_ble_eq_true rfl) (by decide) (by decide) GH_E (fun v9 h9 hq => ?_) (fun E h9 hq => ?_)
  · rcases ok _ _ hq with ⟨x, hx⟩ | ⟨E, hE, hc⟩
    · cases hx
      refine K_i2lw (dt_at dtL_best 6 rfl) ?_
      refine K_last (a := 29) (n := 1) (dt_at dtL_best 7 rfl) rfl (by decide) (by decide) ?_
      refine K_goto (tgt := 17) (dt_at dtL_best 8 rfl) (by decide) ?_
      refine K_iconst (dt_at dtL_best 12 rfl) ?_
      exact K_iret (dt_at dtL_best 13 rfl) rfl rfl (by decide) (by decide) (Or.inl ⟨x, h9, hq, rfl, rfl⟩)
    · cases hE
  · rcases ok _ _ hq with ⟨x, hx⟩ | ⟨E1, hE, hc, hd⟩
    · cases hx
    · cases hE
      obtain rfl := cN1_e hc
      refine KX_catch1 (x := ⟨0, 10, 13, 18⟩) (suf := []) (hp2 := 15) rfl (by decide) (by decide) wl_NS (List.mem_of_getElem? (i := 4) rfl) (Or.inr ⟨4, (dt_at dtL_best 9 rfl), by decide, rfl⟩) ?_
      refine K_iconst (dt_at dtL_best 10 rfl) ?_
      exact K_iret (dt_at dtL_best 11 rfl) rfl rfl (by decide) (by decide) (Or.inr ⟨_, hq, by rw [cN1_n]⟩)
def mL_balance : MI := (yL_balance, cL_balance, 4, some .int, rmK 9 1)
def tL_balance : List (Nat × Instr × Nat) := [(0, .aload_n 2, 1), (1, .iconst 0, 1), (2, .aload_n 0, 1), (3, .iload_n 1, 1), (4, .invokevirtual 68, 3), (7, .i2l, 1), (8, .lastore, 1), (9, .goto 6, 3), (12, .astore_n 3, 1), (13, .iconst 1, 1), (14, .ireturn, 1), (15, .iconst 0, 1), (16, .ireturn, 1)]
theorem dtL_balance : tL_balance.all (fun q => decide (decode cL_balance q.1 = .ok (q.2.1, q.2.2))) = true := by decide +kernel
theorem npL_balance : (parseMethodDescriptor (mY mL_balance).desc).map (fun d => d.parameters.length) = some 3 := by decide +kernel
def hL_balance : List (Nat × Nat × Nat × Nat) := [(0, 9, 12, 13)]
theorem vL_balance : mH mL_balance hL_balance := ⟨wT_L_balance, wN_L, wC_L_balance, by decide +kernel, by decide +kernel⟩
set_option maxHeartbeats 4000000 in
set_option maxRecDepth 100000 in
theorem sL_balance {h : HP} {Q1 : AO → HP → Prop} {a0 : Int} (s1 : SpecK mX11_balance [vr 30, vi a0] h Q1) (ok : Q1ok cIA Q1) : SpecH mL_balance hL_balance [vr 30, vi a0, vr 29] h (WQ cIA wr Q1) := by
  refine SpecH_of (by decide +kernel) (Nat.le_of_ble_eq_true rfl) ?_
  refine K_aload_n (dt_at dtL_balance 0 rfl) rfl rfl ?_
  refine K_iconst (dt_at dtL_balance 1 rfl) ?_
  refine K_aload_n (dt_at dtL_balance 2 rfl) rfl rfl ?_
  refine K_iload_n (dt_at dtL_balance 3 rfl) rfl rfl ?_
  refine K_callV (M' := mX11_balance) (a := 30) (ci := 11) (As := [vi a0]) (st := [vi 0, vr 29]) (dt_at dtL_balance 4 rfl) s1 (show TT 30 = (0, 11) from rfl) rfl wL_L_68 vX11_balance rfl npX11_balance (by decide) (by decide) (Nat.le_of_ble_eq_true rfl) (by decide) (by decide) GH_E (fun v9 h9 hq => ?_) (fun E h9 hq => ?_)
  · rcases ok _ _ hq with ⟨x, hx⟩ | ⟨E, hE, hc⟩
    · cases hx
      refine K_i2lw (dt_at dtL_balance 5 rfl) ?_
      refine K_last (a := 29) (n := 1) (dt_at dtL_balance 6 rfl) rfl (by decide) (by decide) ?_
      refine K_goto (tgt := 15) (dt_at dtL_balance 7 rfl) (by decide) ?_
      refine K_iconst (dt_at dtL_balance 11 rfl) ?_
      exact K_iret (dt_at dtL_balance 12 rfl) rfl rfl (by decide) (by decide) (Or.inl ⟨x, h9, hq, rfl, rfl⟩)
    · cases hE
  · rcases ok _ _ hq with ⟨x, hx⟩ | ⟨E1, hE, hc, hd⟩
    · cases hx
    · cases hE
      obtain rfl := cIA_e hc
      refine KX_catch1 (x := ⟨0, 9, 12, 13⟩) (suf := []) (hp2 := 13) rfl (by decide) (by decide) wl_IA (List.mem_of_getElem? (i := 3) rfl) (Or.inl ⟨3, 3, (dt_at dtL_balance 8 rfl), rfl, by decide, rfl⟩) ?_
      refine K_iconst (dt_at dtL_balance 9 rfl) ?_
      exact K_iret (dt_at dtL_balance 10 rfl) rfl rfl (by decide) (by decide) (Or.inr ⟨_, hq, by rw [cIA_i]⟩)
def mL_see : MI := (yL_see, cL_see, 7, some .int, rmK 9 2)
def tL_see : List (Nat × Instr × Nat) := [(0, .aload 5, 2), (2, .iconst 0, 1), (3, .aload_n 0, 1), (4, .iload_n 1, 1), (5, .iload_n 2, 1), (6, .iload_n 3, 1), (7, .iload 4, 2), (9, .invokevirtual 71, 3), (12, .i2l, 1), (13, .lastore, 1), (14, .goto 7, 3), (17, .astore 6, 2), (19, .iconst 1, 1), (20, .ireturn, 1), (21, .iconst 0, 1), (22, .ireturn, 1)]
theorem dtL_see : tL_see.all (fun q => decide (decode cL_see q.1 = .ok (q.2.1, q.2.2))) = true := by decide +kernel
theorem npL_see : (parseMethodDescriptor (mY mL_see).desc).map (fun d => d.parameters.length) = some 6 := by decide +kernel
def hL_see : List (Nat × Nat × Nat × Nat) := [(0, 14, 17, 18)]
theorem vL_see : mH mL_see hL_see := ⟨wT_L_see, wN_L, wC_L_see, by decide +kernel, by decide +kernel⟩
set_option maxHeartbeats 4000000 in
set_option maxRecDepth 100000 in
theorem sL_see {h : HP} {Q1 : AO → HP → Prop} {a0 a1 a2 a3 : Int} (s1 : SpecK mX11_see [vr 30, vi a0, vi a1, vi a2, vi a3] h Q1) (ok : Q1ok cN1 Q1) : SpecH mL_see hL_see [vr 30, vi a0, vi a1, vi a2, vi a3, vr 29] h (WQ cN1 wr Q1) := by
  refine SpecH_of (by decide +kernel) (Nat.le_of_ble_eq_true rfl) ?_
  refine K_aload (dt_at dtL_see 0 rfl) rfl ?_
  refine K_iconst (dt_at dtL_see 1 rfl) ?_
  refine K_aload_n (dt_at dtL_see 2 rfl) rfl rfl ?_
  refine K_iload_n (dt_at dtL_see 3 rfl) rfl rfl ?_
  refine K_iload_n (dt_at dtL_see 4 rfl) rfl rfl ?_
  refine K_iload_n (dt_at dtL_see 5 rfl) rfl rfl ?_
  refine K_iload (dt_at dtL_see 6 rfl) rfl ?_
  refine K_callV (M' := mX11_see) (a := 30) (ci := 11) (As := [vi a0, vi a1, vi a2, vi a3]) (st := [vi 0, vr 29]) (dt_at dtL_see 7 rfl) s1 (show TT 30 = (0, 11) from rfl) rfl wL_L_71 vX11_see rfl npX11_see (by decide) (by decide) (Nat.le_of_ble_eq_true rfl) (by decide) (by decide) GH_E (fun v9 h9 hq => ?_) (fun E h9 hq => ?_)
  · rcases ok _ _ hq with ⟨x, hx⟩ | ⟨E, hE, hc⟩
    · cases hx
      refine K_i2lw (dt_at dtL_see 8 rfl) ?_
      refine K_last (a := 29) (n := 1) (dt_at dtL_see 9 rfl) rfl (by decide) (by decide) ?_
      refine K_goto (tgt := 21) (dt_at dtL_see 10 rfl) (by decide) ?_
      refine K_iconst (dt_at dtL_see 14 rfl) ?_
      exact K_iret (dt_at dtL_see 15 rfl) rfl rfl (by decide) (by decide) (Or.inl ⟨x, h9, hq, rfl, rfl⟩)
    · cases hE
  · rcases ok _ _ hq with ⟨x, hx⟩ | ⟨E1, hE, hc, hd⟩
    · cases hx
    · cases hE
      obtain rfl := cN1_e hc
      refine KX_catch1 (x := ⟨0, 14, 17, 18⟩) (suf := []) (hp2 := 19) rfl (by decide) (by decide) wl_NS (List.mem_of_getElem? (i := 4) rfl) (Or.inr ⟨6, (dt_at dtL_see 11 rfl), by decide, rfl⟩) ?_
      refine K_iconst (dt_at dtL_see 12 rfl) ?_
      exact K_iret (dt_at dtL_see 13 rfl) rfl rfl (by decide) (by decide) (Or.inr ⟨_, hq, by rw [cN1_n]⟩)
def mL_fonder : MI := (yL_fonder, cL_fonder, 4, some .int, rmK 9 1)
def tL_fonder : List (Nat × Instr × Nat) := [(0, .aload_n 2, 1), (1, .iconst 0, 1), (2, .aload_n 0, 1), (3, .iload_n 1, 1), (4, .invokevirtual 75, 3), (7, .i2l, 1), (8, .lastore, 1), (9, .goto 6, 3), (12, .astore_n 3, 1), (13, .iconst 1, 1), (14, .ireturn, 1), (15, .iconst 0, 1), (16, .ireturn, 1)]
theorem dtL_fonder : tL_fonder.all (fun q => decide (decode cL_fonder q.1 = .ok (q.2.1, q.2.2))) = true := by decide +kernel
theorem npL_fonder : (parseMethodDescriptor (mY mL_fonder).desc).map (fun d => d.parameters.length) = some 3 := by decide +kernel
def hL_fonder : List (Nat × Nat × Nat × Nat) := [(0, 9, 12, 18)]
theorem vL_fonder : mH mL_fonder hL_fonder := ⟨wT_L_fonder, wN_L, wC_L_fonder, by decide +kernel, by decide +kernel⟩
set_option maxHeartbeats 4000000 in
set_option maxRecDepth 100000 in
theorem sL_fonder {h : HP} {Q1 : AO → HP → Prop} {a0 : Int} (s1 : SpecK mX11_fonder [vr 30, vi a0] h Q1) (ok : Q1ok cN1 Q1) : SpecH mL_fonder hL_fonder [vr 30, vi a0, vr 29] h (WQ cN1 wr Q1) := by
  refine SpecH_of (by decide +kernel) (Nat.le_of_ble_eq_true rfl) ?_
  refine K_aload_n (dt_at dtL_fonder 0 rfl) rfl rfl ?_
  refine K_iconst (dt_at dtL_fonder 1 rfl) ?_
  refine K_aload_n (dt_at dtL_fonder 2 rfl) rfl rfl ?_
  refine K_iload_n (dt_at dtL_fonder 3 rfl) rfl rfl ?_
  refine K_callV (M' := mX11_fonder) (a := 30) (ci := 11) (As := [vi a0]) (st := [vi 0, vr 29]) (dt_at dtL_fonder 4 rfl) s1 (show TT 30 = (0, 11) from rfl) rfl wL_L_75 vX11_fonder rfl npX11_fonder (by decide) (by decide) (Nat.le_of_ble_eq_true rfl) (by decide) (by decide) GH_E (fun v9 h9 hq => ?_) (fun E h9 hq => ?_)
  · rcases ok _ _ hq with ⟨x, hx⟩ | ⟨E, hE, hc⟩
    · cases hx
      refine K_i2lw (dt_at dtL_fonder 5 rfl) ?_
      refine K_last (a := 29) (n := 1) (dt_at dtL_fonder 6 rfl) rfl (by decide) (by decide) ?_
      refine K_goto (tgt := 15) (dt_at dtL_fonder 7 rfl) (by decide) ?_
      refine K_iconst (dt_at dtL_fonder 11 rfl) ?_
      exact K_iret (dt_at dtL_fonder 12 rfl) rfl rfl (by decide) (by decide) (Or.inl ⟨x, h9, hq, rfl, rfl⟩)
    · cases hE
  · rcases ok _ _ hq with ⟨x, hx⟩ | ⟨E1, hE, hc, hd⟩
    · cases hx
    · cases hE
      obtain rfl := cN1_e hc
      refine KX_catch1 (x := ⟨0, 9, 12, 18⟩) (suf := []) (hp2 := 13) rfl (by decide) (by decide) wl_NS (List.mem_of_getElem? (i := 4) rfl) (Or.inl ⟨3, 3, (dt_at dtL_fonder 8 rfl), rfl, by decide, rfl⟩) ?_
      refine K_iconst (dt_at dtL_fonder 9 rfl) ?_
      exact K_iret (dt_at dtL_fonder 10 rfl) rfl rfl (by decide) (by decide) (Or.inr ⟨_, hq, by rw [cN1_n]⟩)
def mL_look : MI := (yL_look, cL_look, 4, some .int, rmK 9 1)
def tL_look : List (Nat × Instr × Nat) := [(0, .aload_n 2, 1), (1, .iconst 0, 1), (2, .aload_n 0, 1), (3, .iload_n 1, 1), (4, .invokevirtual 78, 3), (7, .i2l, 1), (8, .lastore, 1), (9, .goto 6, 3), (12, .astore_n 3, 1), (13, .iconst 1, 1), (14, .ireturn, 1), (15, .iconst 0, 1), (16, .ireturn, 1)]
theorem dtL_look : tL_look.all (fun q => decide (decode cL_look q.1 = .ok (q.2.1, q.2.2))) = true := by decide +kernel
theorem npL_look : (parseMethodDescriptor (mY mL_look).desc).map (fun d => d.parameters.length) = some 3 := by decide +kernel
def hL_look : List (Nat × Nat × Nat × Nat) := [(0, 9, 12, 18)]
theorem vL_look : mH mL_look hL_look := ⟨wT_L_look, wN_L, wC_L_look, by decide +kernel, by decide +kernel⟩
set_option maxHeartbeats 4000000 in
set_option maxRecDepth 100000 in
theorem sL_look {h : HP} {Q1 : AO → HP → Prop} {a0 : Int} (s1 : SpecK mX11_look [vr 30, vi a0] h Q1) (ok : Q1ok cN1 Q1) : SpecH mL_look hL_look [vr 30, vi a0, vr 29] h (WQ cN1 wr Q1) := by
  refine SpecH_of (by decide +kernel) (Nat.le_of_ble_eq_true rfl) ?_
  refine K_aload_n (dt_at dtL_look 0 rfl) rfl rfl ?_
  refine K_iconst (dt_at dtL_look 1 rfl) ?_
  refine K_aload_n (dt_at dtL_look 2 rfl) rfl rfl ?_
  refine K_iload_n (dt_at dtL_look 3 rfl) rfl rfl ?_
  refine K_callV (M' := mX11_look) (a := 30) (ci := 11) (As := [vi a0]) (st := [vi 0, vr 29]) (dt_at dtL_look 4 rfl) s1 (show TT 30 = (0, 11) from rfl) rfl wL_L_78 vX11_look rfl npX11_look (by decide) (by decide) (Nat.le_of_ble_eq_true rfl) (by decide) (by decide) GH_E (fun v9 h9 hq => ?_) (fun E h9 hq => ?_)
  · rcases ok _ _ hq with ⟨x, hx⟩ | ⟨E, hE, hc⟩
    · cases hx
      refine K_i2lw (dt_at dtL_look 5 rfl) ?_
      refine K_last (a := 29) (n := 1) (dt_at dtL_look 6 rfl) rfl (by decide) (by decide) ?_
      refine K_goto (tgt := 15) (dt_at dtL_look 7 rfl) (by decide) ?_
      refine K_iconst (dt_at dtL_look 11 rfl) ?_
      exact K_iret (dt_at dtL_look 12 rfl) rfl rfl (by decide) (by decide) (Or.inl ⟨x, h9, hq, rfl, rfl⟩)
    · cases hE
  · rcases ok _ _ hq with ⟨x, hx⟩ | ⟨E1, hE, hc, hd⟩
    · cases hx
    · cases hE
      obtain rfl := cN1_e hc
      refine KX_catch1 (x := ⟨0, 9, 12, 18⟩) (suf := []) (hp2 := 13) rfl (by decide) (by decide) wl_NS (List.mem_of_getElem? (i := 4) rfl) (Or.inl ⟨3, 3, (dt_at dtL_look 8 rfl), rfl, by decide, rfl⟩) ?_
      refine K_iconst (dt_at dtL_look 9 rfl) ?_
      exact K_iret (dt_at dtL_look 10 rfl) rfl rfl (by decide) (by decide) (Or.inr ⟨_, hq, by rw [cN1_n]⟩)
def mL_trains : MI := (yL_trains, cL_trains, 6, some .int, rmK 9 3)
def tL_trains : List (Nat × Instr × Nat) := [(0, .aload 4, 2), (2, .iconst 0, 1), (3, .aload_n 0, 1), (4, .iload_n 1, 1), (5, .iload_n 2, 1), (6, .iload_n 3, 1), (7, .invokevirtual 81, 3), (10, .i2l, 1), (11, .lastore, 1), (12, .goto 11, 3), (15, .astore 5, 2), (17, .iconst 1, 1), (18, .ireturn, 1), (19, .astore 5, 2), (21, .iconst 2, 1), (22, .ireturn, 1), (23, .iconst 0, 1), (24, .ireturn, 1)]
theorem dtL_trains : tL_trains.all (fun q => decide (decode cL_trains q.1 = .ok (q.2.1, q.2.2))) = true := by decide +kernel
theorem npL_trains : (parseMethodDescriptor (mY mL_trains).desc).map (fun d => d.parameters.length) = some 5 := by decide +kernel
def hL_trains : List (Nat × Nat × Nat × Nat) := [(0, 12, 15, 18), (0, 12, 19, 13)]
theorem vL_trains : mH mL_trains hL_trains := ⟨wT_L_trains, wN_L, wC_L_trains, by decide +kernel, by decide +kernel⟩
set_option maxHeartbeats 4000000 in
set_option maxRecDepth 100000 in
theorem sL_trains {h : HP} {Q1 : AO → HP → Prop} {a0 a1 a2 : Int} (s1 : SpecK mX11_trains [vr 30, vi a0, vi a1, vi a2] h Q1) (ok : Q1ok cNS Q1) : SpecH mL_trains hL_trains [vr 30, vi a0, vi a1, vi a2, vr 29] h (WQ cNS wr Q1) := by
  refine SpecH_of (by decide +kernel) (Nat.le_of_ble_eq_true rfl) ?_
  refine K_aload (dt_at dtL_trains 0 rfl) rfl ?_
  refine K_iconst (dt_at dtL_trains 1 rfl) ?_
  refine K_aload_n (dt_at dtL_trains 2 rfl) rfl rfl ?_
  refine K_iload_n (dt_at dtL_trains 3 rfl) rfl rfl ?_
  refine K_iload_n (dt_at dtL_trains 4 rfl) rfl rfl ?_
  refine K_iload_n (dt_at dtL_trains 5 rfl) rfl rfl ?_
  refine K_callV (M' := mX11_trains) (a := 30) (ci := 11) (As := [vi a0, vi a1, vi a2]) (st := [vi 0, vr 29]) (dt_at dtL_trains 6 rfl) s1 (show TT 30 = (0, 11) from rfl) rfl wL_L_81 vX11_trains rfl npX11_trains (by decide) (by decide) (Nat.le_of_ble_eq_true rfl) (by decide) (by decide) GH_E (fun v9 h9 hq => ?_) (fun E h9 hq => ?_)
  · rcases ok _ _ hq with ⟨x, hx⟩ | ⟨E, hE, hc⟩
    · cases hx
      refine K_i2lw (dt_at dtL_trains 7 rfl) ?_
      refine K_last (a := 29) (n := 1) (dt_at dtL_trains 8 rfl) rfl (by decide) (by decide) ?_
      refine K_goto (tgt := 23) (dt_at dtL_trains 9 rfl) (by decide) ?_
      refine K_iconst (dt_at dtL_trains 16 rfl) ?_
      exact K_iret (dt_at dtL_trains 17 rfl) rfl rfl (by decide) (by decide) (Or.inl ⟨x, h9, hq, rfl, rfl⟩)
    · cases hE
  · rcases ok _ _ hq with ⟨x, hx⟩ | ⟨E1, hE, hc, hd⟩
    · cases hx
    · cases hE
      rcases hd with rfl | rfl
      · skip
        refine KX_catch1 (x := ⟨0, 12, 15, 18⟩) (suf := [⟨0, 12, 19, 13⟩]) (hp2 := 17) rfl (by decide) (by decide) wl_NS (List.mem_of_getElem? (i := 4) rfl) (Or.inr ⟨5, (dt_at dtL_trains 10 rfl), by decide, rfl⟩) ?_
        refine K_iconst (dt_at dtL_trains 11 rfl) ?_
        exact K_iret (dt_at dtL_trains 12 rfl) rfl rfl (by decide) (by decide) (Or.inr ⟨_, hq, by rw [cNS_n]⟩)
      · skip
        refine KX_catch2 (z := ⟨0, 12, 15, 18⟩) (x := ⟨0, 12, 19, 13⟩) (suf := []) (hp2 := 21) rfl (by decide) wl_NS (by decide) (by decide) wl_IA (Or.inr ⟨5, (dt_at dtL_trains 13 rfl), by decide, rfl⟩) ?_
        refine K_iconst (dt_at dtL_trains 14 rfl) ?_
        exact K_iret (dt_at dtL_trains 15 rfl) rfl rfl (by decide) (by decide) (Or.inr ⟨_, hq, by rw [cNS_i]⟩)
def mL_game : MI := (yL_game, cL_game, 6, some .int, rmK 9 4)
def tL_game : List (Nat × Instr × Nat) := [(0, .aload 4, 2), (2, .iconst 0, 1), (3, .aload_n 0, 1), (4, .iload_n 1, 1), (5, .iload_n 2, 1), (6, .iload_n 3, 1), (7, .invokevirtual 84, 3), (10, .i2l, 1), (11, .lastore, 1), (12, .goto 11, 3), (15, .astore 5, 2), (17, .iconst 1, 1), (18, .ireturn, 1), (19, .astore 5, 2), (21, .iconst 2, 1), (22, .ireturn, 1), (23, .iconst 0, 1), (24, .ireturn, 1)]
theorem dtL_game : tL_game.all (fun q => decide (decode cL_game q.1 = .ok (q.2.1, q.2.2))) = true := by decide +kernel
theorem npL_game : (parseMethodDescriptor (mY mL_game).desc).map (fun d => d.parameters.length) = some 5 := by decide +kernel
def hL_game : List (Nat × Nat × Nat × Nat) := [(0, 12, 15, 18), (0, 12, 19, 13)]
theorem vL_game : mH mL_game hL_game := ⟨wT_L_game, wN_L, wC_L_game, by decide +kernel, by decide +kernel⟩
set_option maxHeartbeats 4000000 in
set_option maxRecDepth 100000 in
theorem sL_game {h : HP} {Q1 : AO → HP → Prop} {a0 a1 a2 : Int} (s1 : SpecK mX11_game [vr 30, vi a0, vi a1, vi a2] h Q1) (ok : Q1ok cNS Q1) : SpecH mL_game hL_game [vr 30, vi a0, vi a1, vi a2, vr 29] h (WQ cNS wr Q1) := by
  refine SpecH_of (by decide +kernel) (Nat.le_of_ble_eq_true rfl) ?_
  refine K_aload (dt_at dtL_game 0 rfl) rfl ?_
  refine K_iconst (dt_at dtL_game 1 rfl) ?_
  refine K_aload_n (dt_at dtL_game 2 rfl) rfl rfl ?_
  refine K_iload_n (dt_at dtL_game 3 rfl) rfl rfl ?_
  refine K_iload_n (dt_at dtL_game 4 rfl) rfl rfl ?_
  refine K_iload_n (dt_at dtL_game 5 rfl) rfl rfl ?_
  refine K_callV (M' := mX11_game) (a := 30) (ci := 11) (As := [vi a0, vi a1, vi a2]) (st := [vi 0, vr 29]) (dt_at dtL_game 6 rfl) s1 (show TT 30 = (0, 11) from rfl) rfl wL_L_84 vX11_game rfl npX11_game (by decide) (by decide) (Nat.le_of_ble_eq_true rfl) (by decide) (by decide) GH_E (fun v9 h9 hq => ?_) (fun E h9 hq => ?_)
  · rcases ok _ _ hq with ⟨x, hx⟩ | ⟨E, hE, hc⟩
    · cases hx
      refine K_i2lw (dt_at dtL_game 7 rfl) ?_
      refine K_last (a := 29) (n := 1) (dt_at dtL_game 8 rfl) rfl (by decide) (by decide) ?_
      refine K_goto (tgt := 23) (dt_at dtL_game 9 rfl) (by decide) ?_
      refine K_iconst (dt_at dtL_game 16 rfl) ?_
      exact K_iret (dt_at dtL_game 17 rfl) rfl rfl (by decide) (by decide) (Or.inl ⟨x, h9, hq, rfl, rfl⟩)
    · cases hE
  · rcases ok _ _ hq with ⟨x, hx⟩ | ⟨E1, hE, hc, hd⟩
    · cases hx
    · cases hE
      rcases hd with rfl | rfl
      · skip
        refine KX_catch1 (x := ⟨0, 12, 15, 18⟩) (suf := [⟨0, 12, 19, 13⟩]) (hp2 := 17) rfl (by decide) (by decide) wl_NS (List.mem_of_getElem? (i := 4) rfl) (Or.inr ⟨5, (dt_at dtL_game 10 rfl), by decide, rfl⟩) ?_
        refine K_iconst (dt_at dtL_game 11 rfl) ?_
        exact K_iret (dt_at dtL_game 12 rfl) rfl rfl (by decide) (by decide) (Or.inr ⟨_, hq, by rw [cNS_n]⟩)
      · skip
        refine KX_catch2 (z := ⟨0, 12, 15, 18⟩) (x := ⟨0, 12, 19, 13⟩) (suf := []) (hp2 := 21) rfl (by decide) wl_NS (by decide) (by decide) wl_IA (Or.inr ⟨5, (dt_at dtL_game 13 rfl), by decide, rfl⟩) ?_
        refine K_iconst (dt_at dtL_game 14 rfl) ?_
        exact K_iret (dt_at dtL_game 15 rfl) rfl rfl (by decide) (by decide) (Or.inr ⟨_, hq, by rw [cNS_i]⟩)
def mL_years : MI := (yL_years, cL_years, 6, some .int, rmK 9 2)
def tL_years : List (Nat × Instr × Nat) := [(0, .aload 4, 2), (2, .iconst 0, 1), (3, .aload_n 0, 1), (4, .iload_n 1, 1), (5, .iload_n 2, 1), (6, .iload_n 3, 1), (7, .invokevirtual 87, 3), (10, .i2l, 1), (11, .lastore, 1), (12, .goto 11, 3), (15, .astore 5, 2), (17, .iconst 1, 1), (18, .ireturn, 1), (19, .astore 5, 2), (21, .iconst 2, 1), (22, .ireturn, 1), (23, .iconst 0, 1), (24, .ireturn, 1)]
theorem dtL_years : tL_years.all (fun q => decide (decode cL_years q.1 = .ok (q.2.1, q.2.2))) = true := by decide +kernel
theorem npL_years : (parseMethodDescriptor (mY mL_years).desc).map (fun d => d.parameters.length) = some 5 := by decide +kernel
def hL_years : List (Nat × Nat × Nat × Nat) := [(0, 12, 15, 18), (0, 12, 19, 13)]
theorem vL_years : mH mL_years hL_years := ⟨wT_L_years, wN_L, wC_L_years, by decide +kernel, by decide +kernel⟩
set_option maxHeartbeats 4000000 in
set_option maxRecDepth 100000 in
theorem sL_years {h : HP} {Q1 : AO → HP → Prop} {a0 a1 a2 : Int} (s1 : SpecK mX11_years [vr 30, vi a0, vi a1, vi a2] h Q1) (ok : Q1ok cNS Q1) : SpecH mL_years hL_years [vr 30, vi a0, vi a1, vi a2, vr 29] h (WQ cNS wr Q1) := by
  refine SpecH_of (by decide +kernel) (Nat.le_of_ble_eq_true rfl) ?_
  refine K_aload (dt_at dtL_years 0 rfl) rfl ?_
  refine K_iconst (dt_at dtL_years 1 rfl) ?_
  refine K_aload_n (dt_at dtL_years 2 rfl) rfl rfl ?_
  refine K_iload_n (dt_at dtL_years 3 rfl) rfl rfl ?_
  refine K_iload_n (dt_at dtL_years 4 rfl) rfl rfl ?_
  refine K_iload_n (dt_at dtL_years 5 rfl) rfl rfl ?_
  refine K_callV (M' := mX11_years) (a := 30) (ci := 11) (As := [vi a0, vi a1, vi a2]) (st := [vi 0, vr 29]) (dt_at dtL_years 6 rfl) s1 (show TT 30 = (0, 11) from rfl) rfl wL_L_87 vX11_years rfl npX11_years (by decide) (by decide) (Nat.le_of_ble_eq_true rfl) (by decide) (by decide) GH_E (fun v9 h9 hq => ?_) (fun E h9 hq => ?_)
  · rcases ok _ _ hq with ⟨x, hx⟩ | ⟨E, hE, hc⟩
    · cases hx
      refine K_i2lw (dt_at dtL_years 7 rfl) ?_
      refine K_last (a := 29) (n := 1) (dt_at dtL_years 8 rfl) rfl (by decide) (by decide) ?_
      refine K_goto (tgt := 23) (dt_at dtL_years 9 rfl) (by decide) ?_
      refine K_iconst (dt_at dtL_years 16 rfl) ?_
      exact K_iret (dt_at dtL_years 17 rfl) rfl rfl (by decide) (by decide) (Or.inl ⟨x, h9, hq, rfl, rfl⟩)
    · cases hE
  · rcases ok _ _ hq with ⟨x, hx⟩ | ⟨E1, hE, hc, hd⟩
    · cases hx
    · cases hE
      rcases hd with rfl | rfl
      · skip
        refine KX_catch1 (x := ⟨0, 12, 15, 18⟩) (suf := [⟨0, 12, 19, 13⟩]) (hp2 := 17) rfl (by decide) (by decide) wl_NS (List.mem_of_getElem? (i := 4) rfl) (Or.inr ⟨5, (dt_at dtL_years 10 rfl), by decide, rfl⟩) ?_
        refine K_iconst (dt_at dtL_years 11 rfl) ?_
        exact K_iret (dt_at dtL_years 12 rfl) rfl rfl (by decide) (by decide) (Or.inr ⟨_, hq, by rw [cNS_n]⟩)
      · skip
        refine KX_catch2 (z := ⟨0, 12, 15, 18⟩) (x := ⟨0, 12, 19, 13⟩) (suf := []) (hp2 := 21) rfl (by decide) wl_NS (by decide) (by decide) wl_IA (Or.inr ⟨5, (dt_at dtL_years 13 rfl), by decide, rfl⟩) ?_
        refine K_iconst (dt_at dtL_years 14 rfl) ?_
        exact K_iret (dt_at dtL_years 15 rfl) rfl rfl (by decide) (by decide) (Or.inr ⟨_, hq, by rw [cNS_i]⟩)
def mL_trips : MI := (yL_trips, cL_trips, 6, some .int, rmK 9 3)
def tL_trips : List (Nat × Instr × Nat) := [(0, .aload 4, 2), (2, .iconst 0, 1), (3, .aload_n 0, 1), (4, .iload_n 1, 1), (5, .iload_n 2, 1), (6, .iload_n 3, 1), (7, .invokevirtual 90, 3), (10, .i2l, 1), (11, .lastore, 1), (12, .goto 11, 3), (15, .astore 5, 2), (17, .iconst 1, 1), (18, .ireturn, 1), (19, .astore 5, 2), (21, .iconst 2, 1), (22, .ireturn, 1), (23, .iconst 0, 1), (24, .ireturn, 1)]
theorem dtL_trips : tL_trips.all (fun q => decide (decode cL_trips q.1 = .ok (q.2.1, q.2.2))) = true := by decide +kernel
theorem npL_trips : (parseMethodDescriptor (mY mL_trips).desc).map (fun d => d.parameters.length) = some 5 := by decide +kernel
def hL_trips : List (Nat × Nat × Nat × Nat) := [(0, 12, 15, 18), (0, 12, 19, 13)]
theorem vL_trips : mH mL_trips hL_trips := ⟨wT_L_trips, wN_L, wC_L_trips, by decide +kernel, by decide +kernel⟩
set_option maxHeartbeats 4000000 in
set_option maxRecDepth 100000 in
theorem sL_trips {h : HP} {Q1 : AO → HP → Prop} {a0 a1 a2 : Int} (s1 : SpecK mX11_trips [vr 30, vi a0, vi a1, vi a2] h Q1) (ok : Q1ok cNS Q1) : SpecH mL_trips hL_trips [vr 30, vi a0, vi a1, vi a2, vr 29] h (WQ cNS wr Q1) := by
  refine SpecH_of (by decide +kernel) (Nat.le_of_ble_eq_true rfl) ?_
  refine K_aload (dt_at dtL_trips 0 rfl) rfl ?_
  refine K_iconst (dt_at dtL_trips 1 rfl) ?_
  refine K_aload_n (dt_at dtL_trips 2 rfl) rfl rfl ?_
  refine K_iload_n (dt_at dtL_trips 3 rfl) rfl rfl ?_
  refine K_iload_n (dt_at dtL_trips 4 rfl) rfl rfl ?_
  refine K_iload_n (dt_at dtL_trips 5 rfl) rfl rfl ?_
  refine K_callV (M' := mX11_trips) (a := 30) (ci := 11) (As := [vi a0, vi a1, vi a2]) (st := [vi 0, vr 29]) (dt_at dtL_trips 6 rfl) s1 (show TT 30 = (0, 11) from rfl) rfl wL_L_90 vX11_trips rfl npX11_trips (by decide) (by decide) (Nat.le_of_ble_eq_true rfl) (by decide) (by decide) GH_E (fun v9 h9 hq => ?_) (fun E h9 hq => ?_)
  · rcases ok _ _ hq with ⟨x, hx⟩ | ⟨E, hE, hc⟩
    · cases hx
      refine K_i2lw (dt_at dtL_trips 7 rfl) ?_
      refine K_last (a := 29) (n := 1) (dt_at dtL_trips 8 rfl) rfl (by decide) (by decide) ?_
      refine K_goto (tgt := 23) (dt_at dtL_trips 9 rfl) (by decide) ?_
      refine K_iconst (dt_at dtL_trips 16 rfl) ?_
      exact K_iret (dt_at dtL_trips 17 rfl) rfl rfl (by decide) (by decide) (Or.inl ⟨x, h9, hq, rfl, rfl⟩)
    · cases hE
  · rcases ok _ _ hq with ⟨x, hx⟩ | ⟨E1, hE, hc, hd⟩
    · cases hx
    · cases hE
      rcases hd with rfl | rfl
      · skip
        refine KX_catch1 (x := ⟨0, 12, 15, 18⟩) (suf := [⟨0, 12, 19, 13⟩]) (hp2 := 17) rfl (by decide) (by decide) wl_NS (List.mem_of_getElem? (i := 4) rfl) (Or.inr ⟨5, (dt_at dtL_trips 10 rfl), by decide, rfl⟩) ?_
        refine K_iconst (dt_at dtL_trips 11 rfl) ?_
        exact K_iret (dt_at dtL_trips 12 rfl) rfl rfl (by decide) (by decide) (Or.inr ⟨_, hq, by rw [cNS_n]⟩)
      · skip
        refine KX_catch2 (z := ⟨0, 12, 15, 18⟩) (x := ⟨0, 12, 19, 13⟩) (suf := []) (hp2 := 21) rfl (by decide) wl_NS (by decide) (by decide) wl_IA (Or.inr ⟨5, (dt_at dtL_trips 13 rfl), by decide, rfl⟩) ?_
        refine K_iconst (dt_at dtL_trips 14 rfl) ?_
        exact K_iret (dt_at dtL_trips 15 rfl) rfl rfl (by decide) (by decide) (Or.inr ⟨_, hq, by rw [cNS_i]⟩)
def mL_together : MI := (yL_together, cL_together, 6, some .int, rmK 9 3)
def tL_together : List (Nat × Instr × Nat) := [(0, .aload 4, 2), (2, .iconst 0, 1), (3, .aload_n 0, 1), (4, .iload_n 1, 1), (5, .iload_n 2, 1), (6, .iload_n 3, 1), (7, .invokevirtual 93, 3), (10, .i2l, 1), (11, .lastore, 1), (12, .goto 11, 3), (15, .astore 5, 2), (17, .iconst 1, 1), (18, .ireturn, 1), (19, .astore 5, 2), (21, .iconst 2, 1), (22, .ireturn, 1), (23, .iconst 0, 1), (24, .ireturn, 1)]
theorem dtL_together : tL_together.all (fun q => decide (decode cL_together q.1 = .ok (q.2.1, q.2.2))) = true := by decide +kernel
theorem npL_together : (parseMethodDescriptor (mY mL_together).desc).map (fun d => d.parameters.length) = some 5 := by decide +kernel
def hL_together : List (Nat × Nat × Nat × Nat) := [(0, 12, 15, 18), (0, 12, 19, 13)]
theorem vL_together : mH mL_together hL_together := ⟨wT_L_together, wN_L, wC_L_together, by decide +kernel, by decide +kernel⟩
set_option maxHeartbeats 4000000 in
set_option maxRecDepth 100000 in
theorem sL_together {h : HP} {Q1 : AO → HP → Prop} {a0 a1 a2 : Int} (s1 : SpecK mX11_together [vr 30, vi a0, vi a1, vi a2] h Q1) (ok : Q1ok cNS Q1) : SpecH mL_together hL_together [vr 30, vi a0, vi a1, vi a2, vr 29] h (WQ cNS wr Q1) := by
  refine SpecH_of (by decide +kernel) (Nat.le_of_ble_eq_true rfl) ?_
  refine K_aload (dt_at dtL_together 0 rfl) rfl ?_
  refine K_iconst (dt_at dtL_together 1 rfl) ?_
  refine K_aload_n (dt_at dtL_together 2 rfl) rfl rfl ?_
  refine K_iload_n (dt_at dtL_together 3 rfl) rfl rfl ?_
  refine K_iload_n (dt_at dtL_together 4 rfl) rfl rfl ?_
  refine K_iload_n (dt_at dtL_together 5 rfl) rfl rfl ?_
  refine K_callV (M' := mX11_together) (a := 30) (ci := 11) (As := [vi a0, vi a1, vi a2]) (st := [vi 0, vr 29]) (dt_at dtL_together 6 rfl) s1 (show TT 30 = (0, 11) from rfl) rfl wL_L_93 vX11_together rfl npX11_together (by decide) (by decide) (Nat.le_of_ble_eq_true rfl) (by decide) (by decide) GH_E (fun v9 h9 hq => ?_) (fun E h9 hq => ?_)
  · rcases ok _ _ hq with ⟨x, hx⟩ | ⟨E, hE, hc⟩
    · cases hx
      refine K_i2lw (dt_at dtL_together 7 rfl) ?_
      refine K_last (a := 29) (n := 1) (dt_at dtL_together 8 rfl) rfl (by decide) (by decide) ?_
      refine K_goto (tgt := 23) (dt_at dtL_together 9 rfl) (by decide) ?_
      refine K_iconst (dt_at dtL_together 16 rfl) ?_
      exact K_iret (dt_at dtL_together 17 rfl) rfl rfl (by decide) (by decide) (Or.inl ⟨x, h9, hq, rfl, rfl⟩)
    · cases hE
  · rcases ok _ _ hq with ⟨x, hx⟩ | ⟨E1, hE, hc, hd⟩
    · cases hx
    · cases hE
      rcases hd with rfl | rfl
      · skip
        refine KX_catch1 (x := ⟨0, 12, 15, 18⟩) (suf := [⟨0, 12, 19, 13⟩]) (hp2 := 17) rfl (by decide) (by decide) wl_NS (List.mem_of_getElem? (i := 4) rfl) (Or.inr ⟨5, (dt_at dtL_together 10 rfl), by decide, rfl⟩) ?_
        refine K_iconst (dt_at dtL_together 11 rfl) ?_
        exact K_iret (dt_at dtL_together 12 rfl) rfl rfl (by decide) (by decide) (Or.inr ⟨_, hq, by rw [cNS_n]⟩)
      · skip
        refine KX_catch2 (z := ⟨0, 12, 15, 18⟩) (x := ⟨0, 12, 19, 13⟩) (suf := []) (hp2 := 21) rfl (by decide) wl_NS (by decide) (by decide) wl_IA (Or.inr ⟨5, (dt_at dtL_together 13 rfl), by decide, rfl⟩) ?_
        refine K_iconst (dt_at dtL_together 14 rfl) ?_
        exact K_iret (dt_at dtL_together 15 rfl) rfl rfl (by decide) (by decide) (Or.inr ⟨_, hq, by rw [cNS_i]⟩)
def mL_awayBoth : MI := (yL_awayBoth, cL_awayBoth, 6, some .int, rmK 9 3)
def tL_awayBoth : List (Nat × Instr × Nat) := [(0, .aload 4, 2), (2, .iconst 0, 1), (3, .aload_n 0, 1), (4, .iload_n 1, 1), (5, .iload_n 2, 1), (6, .iload_n 3, 1), (7, .invokevirtual 96, 3), (10, .i2l, 1), (11, .lastore, 1), (12, .goto 11, 3), (15, .astore 5, 2), (17, .iconst 1, 1), (18, .ireturn, 1), (19, .astore 5, 2), (21, .iconst 2, 1), (22, .ireturn, 1), (23, .iconst 0, 1), (24, .ireturn, 1)]
theorem dtL_awayBoth : tL_awayBoth.all (fun q => decide (decode cL_awayBoth q.1 = .ok (q.2.1, q.2.2))) = true := by decide +kernel
theorem npL_awayBoth : (parseMethodDescriptor (mY mL_awayBoth).desc).map (fun d => d.parameters.length) = some 5 := by decide +kernel
def hL_awayBoth : List (Nat × Nat × Nat × Nat) := [(0, 12, 15, 18), (0, 12, 19, 13)]
theorem vL_awayBoth : mH mL_awayBoth hL_awayBoth := ⟨wT_L_awayBoth, wN_L, wC_L_awayBoth, by decide +kernel, by decide +kernel⟩
set_option maxHeartbeats 4000000 in
set_option maxRecDepth 100000 in
theorem sL_awayBoth {h : HP} {Q1 : AO → HP → Prop} {a0 a1 a2 : Int} (s1 : SpecK mX11_awayBoth [vr 30, vi a0, vi a1, vi a2] h Q1) (ok : Q1ok cNS Q1) : SpecH mL_awayBoth hL_awayBoth [vr 30, vi a0, vi a1, vi a2, vr 29] h (WQ cNS wr Q1) := by
  refine SpecH_of (by decide +kernel) (Nat.le_of_ble_eq_true rfl) ?_
  refine K_aload (dt_at dtL_awayBoth 0 rfl) rfl ?_
  refine K_iconst (dt_at dtL_awayBoth 1 rfl) ?_
  refine K_aload_n (dt_at dtL_awayBoth 2 rfl) rfl rfl ?_
  refine K_iload_n (dt_at dtL_awayBoth 3 rfl) rfl rfl ?_
  refine K_iload_n (dt_at dtL_awayBoth 4 rfl) rfl rfl ?_
  refine K_iload_n (dt_at dtL_awayBoth 5 rfl) rfl rfl ?_
  refine K_callV (M' := mX11_awayBoth) (a := 30) (ci := 11) (As := [vi a0, vi a1, vi a2]) (st := [vi 0, vr 29]) (dt_at dtL_awayBoth 6 rfl) s1 (show TT 30 = (0, 11) from rfl) rfl wL_L_96 vX11_awayBoth rfl npX11_awayBoth (by decide) (by decide) (Nat.le_of_ble_eq_true rfl) (by decide) (by decide) GH_E (fun v9 h9 hq => ?_) (fun E h9 hq => ?_)
  · rcases ok _ _ hq with ⟨x, hx⟩ | ⟨E, hE, hc⟩
    · cases hx
      refine K_i2lw (dt_at dtL_awayBoth 7 rfl) ?_
      refine K_last (a := 29) (n := 1) (dt_at dtL_awayBoth 8 rfl) rfl (by decide) (by decide) ?_
      refine K_goto (tgt := 23) (dt_at dtL_awayBoth 9 rfl) (by decide) ?_
      refine K_iconst (dt_at dtL_awayBoth 16 rfl) ?_
      exact K_iret (dt_at dtL_awayBoth 17 rfl) rfl rfl (by decide) (by decide) (Or.inl ⟨x, h9, hq, rfl, rfl⟩)
    · cases hE
  · rcases ok _ _ hq with ⟨x, hx⟩ | ⟨E1, hE, hc, hd⟩
    · cases hx
    · cases hE
      rcases hd with rfl | rfl
      · skip
        refine KX_catch1 (x := ⟨0, 12, 15, 18⟩) (suf := [⟨0, 12, 19, 13⟩]) (hp2 := 17) rfl (by decide) (by decide) wl_NS (List.mem_of_getElem? (i := 4) rfl) (Or.inr ⟨5, (dt_at dtL_awayBoth 10 rfl), by decide, rfl⟩) ?_
        refine K_iconst (dt_at dtL_awayBoth 11 rfl) ?_
        exact K_iret (dt_at dtL_awayBoth 12 rfl) rfl rfl (by decide) (by decide) (Or.inr ⟨_, hq, by rw [cNS_n]⟩)
      · skip
        refine KX_catch2 (z := ⟨0, 12, 15, 18⟩) (x := ⟨0, 12, 19, 13⟩) (suf := []) (hp2 := 21) rfl (by decide) wl_NS (by decide) (by decide) wl_IA (Or.inr ⟨5, (dt_at dtL_awayBoth 13 rfl), by decide, rfl⟩) ?_
        refine K_iconst (dt_at dtL_awayBoth 14 rfl) ?_
        exact K_iret (dt_at dtL_awayBoth 15 rfl) rfl rfl (by decide) (by decide) (Or.inr ⟨_, hq, by rw [cNS_i]⟩)
def mL_alone : MI := (yL_alone, cL_alone, 4, some .int, rmK 9 1)
def tL_alone : List (Nat × Instr × Nat) := [(0, .aload_n 2, 1), (1, .iconst 0, 1), (2, .aload_n 0, 1), (3, .iload_n 1, 1), (4, .invokevirtual 99, 3), (7, .i2l, 1), (8, .lastore, 1), (9, .goto 6, 3), (12, .astore_n 3, 1), (13, .iconst 1, 1), (14, .ireturn, 1), (15, .iconst 0, 1), (16, .ireturn, 1)]
theorem dtL_alone : tL_alone.all (fun q => decide (decode cL_alone q.1 = .ok (q.2.1, q.2.2))) = true := by decide +kernel
theorem npL_alone : (parseMethodDescriptor (mY mL_alone).desc).map (fun d => d.parameters.length) = some 3 := by decide +kernel
def hL_alone : List (Nat × Nat × Nat × Nat) := [(0, 9, 12, 13)]
theorem vL_alone : mH mL_alone hL_alone := ⟨wT_L_alone, wN_L, wC_L_alone, by decide +kernel, by decide +kernel⟩
set_option maxHeartbeats 4000000 in
set_option maxRecDepth 100000 in
theorem sL_alone {h : HP} {Q1 : AO → HP → Prop} {a0 : Int} (s1 : SpecK mX11_alone [vr 30, vi a0] h Q1) (ok : Q1ok cIA Q1) : SpecH mL_alone hL_alone [vr 30, vi a0, vr 29] h (WQ cIA wr Q1) := by
  refine SpecH_of (by decide +kernel) (Nat.le_of_ble_eq_true rfl) ?_
  refine K_aload_n (dt_at dtL_alone 0 rfl) rfl rfl ?_
  refine K_iconst (dt_at dtL_alone 1 rfl) ?_
  refine K_aload_n (dt_at dtL_alone 2 rfl) rfl rfl ?_
  refine K_iload_n (dt_at dtL_alone 3 rfl) rfl rfl ?_
  refine K_callV (M' := mX11_alone) (a := 30) (ci := 11) (As := [vi a0]) (st := [vi 0, vr 29]) (dt_at dtL_alone 4 rfl) s1 (show TT 30 = (0, 11) from rfl) rfl wL_L_99 vX11_alone rfl npX11_alone (by decide) (by decide) (Nat.le_of_ble_eq_true rfl) (by decide) (by decide) GH_E (fun v9 h9 hq => ?_) (fun E h9 hq => ?_)
  · rcases ok _ _ hq with ⟨x, hx⟩ | ⟨E, hE, hc⟩
    · cases hx
      refine K_i2lw (dt_at dtL_alone 5 rfl) ?_
      refine K_last (a := 29) (n := 1) (dt_at dtL_alone 6 rfl) rfl (by decide) (by decide) ?_
      refine K_goto (tgt := 15) (dt_at dtL_alone 7 rfl) (by decide) ?_
      refine K_iconst (dt_at dtL_alone 11 rfl) ?_
      exact K_iret (dt_at dtL_alone 12 rfl) rfl rfl (by decide) (by decide) (Or.inl ⟨x, h9, hq, rfl, rfl⟩)
    · cases hE
  · rcases ok _ _ hq with ⟨x, hx⟩ | ⟨E1, hE, hc, hd⟩
    · cases hx
    · cases hE
      obtain rfl := cIA_e hc
      refine KX_catch1 (x := ⟨0, 9, 12, 13⟩) (suf := []) (hp2 := 13) rfl (by decide) (by decide) wl_IA (List.mem_of_getElem? (i := 3) rfl) (Or.inl ⟨3, 3, (dt_at dtL_alone 8 rfl), rfl, by decide, rfl⟩) ?_
      refine K_iconst (dt_at dtL_alone 9 rfl) ?_
      exact K_iret (dt_at dtL_alone 10 rfl) rfl rfl (by decide) (by decide) (Or.inr ⟨_, hq, by rw [cIA_i]⟩)
def mL_least : MI := (yL_least, cL_least, 5, some .int, rmK 9 2)
def tL_least : List (Nat × Instr × Nat) := [(0, .aload_n 3, 1), (1, .iconst 0, 1), (2, .aload_n 0, 1), (3, .iload_n 1, 1), (4, .iload_n 2, 1), (5, .invokevirtual 102, 3), (8, .i2l, 1), (9, .lastore, 1), (10, .goto 11, 3), (13, .astore 4, 2), (15, .iconst 1, 1), (16, .ireturn, 1), (17, .astore 4, 2), (19, .iconst 2, 1), (20, .ireturn, 1), (21, .iconst 0, 1), (22, .ireturn, 1)]
theorem dtL_least : tL_least.all (fun q => decide (decode cL_least q.1 = .ok (q.2.1, q.2.2))) = true := by decide +kernel
theorem npL_least : (parseMethodDescriptor (mY mL_least).desc).map (fun d => d.parameters.length) = some 4 := by decide +kernel
def hL_least : List (Nat × Nat × Nat × Nat) := [(0, 10, 13, 18), (0, 10, 17, 13)]
theorem vL_least : mH mL_least hL_least := ⟨wT_L_least, wN_L, wC_L_least, by decide +kernel, by decide +kernel⟩
set_option maxHeartbeats 4000000 in
set_option maxRecDepth 100000 in
theorem sL_least {h : HP} {Q1 : AO → HP → Prop} {a0 a1 : Int} (s1 : SpecK mX11_least [vr 30, vi a0, vi a1] h Q1) (ok : Q1ok cNS Q1) : SpecH mL_least hL_least [vr 30, vi a0, vi a1, vr 29] h (WQ cNS wr Q1) := by
  refine SpecH_of (by decide +kernel) (Nat.le_of_ble_eq_true rfl) ?_
  refine K_aload_n (dt_at dtL_least 0 rfl) rfl rfl ?_
  refine K_iconst (dt_at dtL_least 1 rfl) ?_
  refine K_aload_n (dt_at dtL_least 2 rfl) rfl rfl ?_
  refine K_iload_n (dt_at dtL_least 3 rfl) rfl rfl ?_
  refine K_iload_n (dt_at dtL_least 4 rfl) rfl rfl ?_
  refine K_callV (M' := mX11_least) (a := 30) (ci := 11) (As := [vi a0, vi a1]) (st := [vi 0, vr 29]) (dt_at dtL_least 5 rfl) s1 (show TT 30 = (0, 11) from rfl) rfl wL_L_102 vX11_least rfl npX11_least (by decide) (by decide) (Nat.le_of_ble_eq_true rfl) (by decide) (by decide) GH_E (fun v9 h9 hq => ?_) (fun E h9 hq => ?_)
  · rcases ok _ _ hq with ⟨x, hx⟩ | ⟨E, hE, hc⟩
    · cases hx
      refine K_i2lw (dt_at dtL_least 6 rfl) ?_
      refine K_last (a := 29) (n := 1) (dt_at dtL_least 7 rfl) rfl (by decide) (by decide) ?_
      refine K_goto (tgt := 21) (dt_at dtL_least 8 rfl) (by decide) ?_
      refine K_iconst (dt_at dtL_least 15 rfl) ?_
      exact K_iret (dt_at dtL_least 16 rfl) rfl rfl (by decide) (by decide) (Or.inl ⟨x, h9, hq, rfl, rfl⟩)
    · cases hE
  · rcases ok _ _ hq with ⟨x, hx⟩ | ⟨E1, hE, hc, hd⟩
    · cases hx
    · cases hE
      rcases hd with rfl | rfl
      · skip
        refine KX_catch1 (x := ⟨0, 10, 13, 18⟩) (suf := [⟨0, 10, 17, 13⟩]) (hp2 := 15) rfl (by decide) (by decide) wl_NS (List.mem_of_getElem? (i := 4) rfl) (Or.inr ⟨4, (dt_at dtL_least 9 rfl), by decide, rfl⟩) ?_
        refine K_iconst (dt_at dtL_least 10 rfl) ?_
        exact K_iret (dt_at dtL_least 11 rfl) rfl rfl (by decide) (by decide) (Or.inr ⟨_, hq, by rw [cNS_n]⟩)
      · skip
        refine KX_catch2 (z := ⟨0, 10, 13, 18⟩) (x := ⟨0, 10, 17, 13⟩) (suf := []) (hp2 := 19) rfl (by decide) wl_NS (by decide) (by decide) wl_IA (Or.inr ⟨4, (dt_at dtL_least 12 rfl), by decide, rfl⟩) ?_
        refine K_iconst (dt_at dtL_least 13 rfl) ?_
        exact K_iret (dt_at dtL_least 14 rfl) rfl rfl (by decide) (by decide) (Or.inr ⟨_, hq, by rw [cNS_i]⟩)
def mL_near : MI := (yL_near, cL_near, 5, some .int, rmK 9 2)
def tL_near : List (Nat × Instr × Nat) := [(0, .aload_n 3, 1), (1, .iconst 0, 1), (2, .aload_n 0, 1), (3, .iload_n 1, 1), (4, .iload_n 2, 1), (5, .invokevirtual 105, 3), (8, .i2l, 1), (9, .lastore, 1), (10, .goto 7, 3), (13, .astore 4, 2), (15, .iconst 1, 1), (16, .ireturn, 1), (17, .iconst 0, 1), (18, .ireturn, 1)]
theorem dtL_near : tL_near.all (fun q => decide (decode cL_near q.1 = .ok (q.2.1, q.2.2))) = true := by decide +kernel
theorem npL_near : (parseMethodDescriptor (mY mL_near).desc).map (fun d => d.parameters.length) = some 4 := by decide +kernel
def hL_near : List (Nat × Nat × Nat × Nat) := [(0, 10, 13, 18)]
theorem vL_near : mH mL_near hL_near := ⟨wT_L_near, wN_L, wC_L_near, by decide +kernel, by decide +kernel⟩
set_option maxHeartbeats 4000000 in
set_option maxRecDepth 100000 in
theorem sL_near {h : HP} {Q1 : AO → HP → Prop} {a0 a1 : Int} (s1 : SpecK mX11_near [vr 30, vi a0, vi a1] h Q1) (ok : Q1ok cN1 Q1) : SpecH mL_near hL_near [vr 30, vi a0, vi a1, vr 29] h (WQ cN1 wr Q1) := by
  refine SpecH_of (by decide +kernel) (Nat.le_of_ble_eq_true rfl) ?_
  refine K_aload_n (dt_at dtL_near 0 rfl) rfl rfl ?_
  refine K_iconst (dt_at dtL_near 1 rfl) ?_
  refine K_aload_n (dt_at dtL_near 2 rfl) rfl rfl ?_
  refine K_iload_n (dt_at dtL_near 3 rfl) rfl rfl ?_
  refine K_iload_n (dt_at dtL_near 4 rfl) rfl rfl ?_
  refine K_callV (M' := mX11_near) (a := 30) (ci := 11) (As := [vi a0, vi a1]) (st := [vi 0, vr 29]) (dt_at dtL_near 5 rfl) s1 (show TT 30 = (0, 11) from rfl) rfl wL_L_105 vX11_near rfl npX11_near (by decide) (by decide) (Nat.le_of_ble_eq_true rfl) (by decide) (by decide) GH_E (fun v9 h9 hq => ?_) (fun E h9 hq => ?_)
  · rcases ok _ _ hq with ⟨x, hx⟩ | ⟨E, hE, hc⟩
    · cases hx
      refine K_i2lw (dt_at dtL_near 6 rfl) ?_
      refine K_last (a := 29) (n := 1) (dt_at dtL_near 7 rfl) rfl (by decide) (by decide) ?_
      refine K_goto (tgt := 17) (dt_at dtL_near 8 rfl) (by decide) ?_
      refine K_iconst (dt_at dtL_near 12 rfl) ?_
      exact K_iret (dt_at dtL_near 13 rfl) rfl rfl (by decide) (by decide) (Or.inl ⟨x, h9, hq, rfl, rfl⟩)
    · cases hE
  · rcases ok _ _ hq with ⟨x, hx⟩ | ⟨E1, hE, hc, hd⟩
    · cases hx
    · cases hE
      obtain rfl := cN1_e hc
      refine KX_catch1 (x := ⟨0, 10, 13, 18⟩) (suf := []) (hp2 := 15) rfl (by decide) (by decide) wl_NS (List.mem_of_getElem? (i := 4) rfl) (Or.inr ⟨4, (dt_at dtL_near 9 rfl), by decide, rfl⟩) ?_
      refine K_iconst (dt_at dtL_near 10 rfl) ?_
      exact K_iret (dt_at dtL_near 11 rfl) rfl rfl (by decide) (by decide) (Or.inr ⟨_, hq, by rw [cN1_n]⟩)
def mL_load : MI := (yL_load, cL_load, 5, some .int, rmK 9 2)
def tL_load : List (Nat × Instr × Nat) := [(0, .aload_n 3, 1), (1, .iconst 0, 1), (2, .aload_n 0, 1), (3, .iload_n 1, 1), (4, .iload_n 2, 1), (5, .invokevirtual 108, 3), (8, .i2l, 1), (9, .lastore, 1), (10, .goto 11, 3), (13, .astore 4, 2), (15, .iconst 1, 1), (16, .ireturn, 1), (17, .astore 4, 2), (19, .iconst 2, 1), (20, .ireturn, 1), (21, .iconst 0, 1), (22, .ireturn, 1)]
theorem dtL_load : tL_load.all (fun q => decide (decode cL_load q.1 = .ok (q.2.1, q.2.2))) = true := by decide +kernel
theorem npL_load : (parseMethodDescriptor (mY mL_load).desc).map (fun d => d.parameters.length) = some 4 := by decide +kernel
def hL_load : List (Nat × Nat × Nat × Nat) := [(0, 10, 13, 18), (0, 10, 17, 13)]
theorem vL_load : mH mL_load hL_load := ⟨wT_L_load, wN_L, wC_L_load, by decide +kernel, by decide +kernel⟩
set_option maxHeartbeats 4000000 in
set_option maxRecDepth 100000 in
theorem sL_load {h : HP} {Q1 : AO → HP → Prop} {a0 a1 : Int} (s1 : SpecK mX11_load [vr 30, vi a0, vi a1] h Q1) (ok : Q1ok cNS Q1) : SpecH mL_load hL_load [vr 30, vi a0, vi a1, vr 29] h (WQ cNS wr Q1) := by
  refine SpecH_of (by decide +kernel) (Nat.le_of_ble_eq_true rfl) ?_
  refine K_aload_n (dt_at dtL_load 0 rfl) rfl rfl ?_
  refine K_iconst (dt_at dtL_load 1 rfl) ?_
  refine K_aload_n (dt_at dtL_load 2 rfl) rfl rfl ?_
  refine K_iload_n (dt_at dtL_load 3 rfl) rfl rfl ?_
  refine K_iload_n (dt_at dtL_load 4 rfl) rfl rfl ?_
  refine K_callV (M' := mX11_load) (a := 30) (ci := 11) (As := [vi a0, vi a1]) (st := [vi 0, vr 29]) (dt_at dtL_load 5 rfl) s1 (show TT 30 = (0, 11) from rfl) rfl wL_L_108 vX11_load rfl npX11_load (by decide) (by decide) (Nat.le_of_ble_eq_true rfl) (by decide) (by decide) GH_E (fun v9 h9 hq => ?_) (fun E h9 hq => ?_)
  · rcases ok _ _ hq with ⟨x, hx⟩ | ⟨E, hE, hc⟩
    · cases hx
      refine K_i2lw (dt_at dtL_load 6 rfl) ?_
      refine K_last (a := 29) (n := 1) (dt_at dtL_load 7 rfl) rfl (by decide) (by decide) ?_
      refine K_goto (tgt := 21) (dt_at dtL_load 8 rfl) (by decide) ?_
      refine K_iconst (dt_at dtL_load 15 rfl) ?_
      exact K_iret (dt_at dtL_load 16 rfl) rfl rfl (by decide) (by decide) (Or.inl ⟨x, h9, hq, rfl, rfl⟩)
    · cases hE
  · rcases ok _ _ hq with ⟨x, hx⟩ | ⟨E1, hE, hc, hd⟩
    · cases hx
    · cases hE
      rcases hd with rfl | rfl
      · skip
        refine KX_catch1 (x := ⟨0, 10, 13, 18⟩) (suf := [⟨0, 10, 17, 13⟩]) (hp2 := 15) rfl (by decide) (by decide) wl_NS (List.mem_of_getElem? (i := 4) rfl) (Or.inr ⟨4, (dt_at dtL_load 9 rfl), by decide, rfl⟩) ?_
        refine K_iconst (dt_at dtL_load 10 rfl) ?_
        exact K_iret (dt_at dtL_load 11 rfl) rfl rfl (by decide) (by decide) (Or.inr ⟨_, hq, by rw [cNS_n]⟩)
      · skip
        refine KX_catch2 (z := ⟨0, 10, 13, 18⟩) (x := ⟨0, 10, 17, 13⟩) (suf := []) (hp2 := 19) rfl (by decide) wl_NS (by decide) (by decide) wl_IA (Or.inr ⟨4, (dt_at dtL_load 12 rfl), by decide, rfl⟩) ?_
        refine K_iconst (dt_at dtL_load 13 rfl) ?_
        exact K_iret (dt_at dtL_load 14 rfl) rfl rfl (by decide) (by decide) (Or.inr ⟨_, hq, by rw [cNS_i]⟩)
def mL_without : MI := (yL_without, cL_without, 6, some .int, rmK 9 3)
def tL_without : List (Nat × Instr × Nat) := [(0, .aload 4, 2), (2, .iconst 0, 1), (3, .aload_n 0, 1), (4, .iload_n 1, 1), (5, .iload_n 2, 1), (6, .iload_n 3, 1), (7, .invokevirtual 111, 3), (10, .i2l, 1), (11, .lastore, 1), (12, .goto 11, 3), (15, .astore 5, 2), (17, .iconst 1, 1), (18, .ireturn, 1), (19, .astore 5, 2), (21, .iconst 2, 1), (22, .ireturn, 1), (23, .iconst 0, 1), (24, .ireturn, 1)]
theorem dtL_without : tL_without.all (fun q => decide (decode cL_without q.1 = .ok (q.2.1, q.2.2))) = true := by decide +kernel
theorem npL_without : (parseMethodDescriptor (mY mL_without).desc).map (fun d => d.parameters.length) = some 5 := by decide +kernel
def hL_without : List (Nat × Nat × Nat × Nat) := [(0, 12, 15, 18), (0, 12, 19, 13)]
theorem vL_without : mH mL_without hL_without := ⟨wT_L_without, wN_L, wC_L_without, by decide +kernel, by decide +kernel⟩
set_option maxHeartbeats 4000000 in
set_option maxRecDepth 100000 in
theorem sL_without {h : HP} {Q1 : AO → HP → Prop} {a0 a1 a2 : Int} (s1 : SpecK mX11_without [vr 30, vi a0, vi a1, vi a2] h Q1) (ok : Q1ok cNS Q1) : SpecH mL_without hL_without [vr 30, vi a0, vi a1, vi a2, vr 29] h (WQ cNS wr Q1) := by
  refine SpecH_of (by decide +kernel) (Nat.le_of_ble_eq_true rfl) ?_
  refine K_aload (dt_at dtL_without 0 rfl) rfl ?_
  refine K_iconst (dt_at dtL_without 1 rfl) ?_
  refine K_aload_n (dt_at dtL_without 2 rfl) rfl rfl ?_
  refine K_iload_n (dt_at dtL_without 3 rfl) rfl rfl ?_
  refine K_iload_n (dt_at dtL_without 4 rfl) rfl rfl ?_
  refine K_iload_n (dt_at dtL_without 5 rfl) rfl rfl ?_
  refine K_callV (M' := mX11_without) (a := 30) (ci := 11) (As := [vi a0, vi a1, vi a2]) (st := [vi 0, vr 29]) (dt_at dtL_without 6 rfl) s1 (show TT 30 = (0, 11) from rfl) rfl wL_L_111 vX11_without rfl npX11_without (by decide) (by decide) (Nat.le_of_ble_eq_true rfl) (by decide) (by decide) GH_E (fun v9 h9 hq => ?_) (fun E h9 hq => ?_)
  · rcases ok _ _ hq with ⟨x, hx⟩ | ⟨E, hE, hc⟩
    · cases hx
      refine K_i2lw (dt_at dtL_without 7 rfl) ?_
      refine K_last (a := 29) (n := 1) (dt_at dtL_without 8 rfl) rfl (by decide) (by decide) ?_
      refine K_goto (tgt := 23) (dt_at dtL_without 9 rfl) (by decide) ?_
      refine K_iconst (dt_at dtL_without 16 rfl) ?_
      exact K_iret (dt_at dtL_without 17 rfl) rfl rfl (by decide) (by decide) (Or.inl ⟨x, h9, hq, rfl, rfl⟩)
    · cases hE
  · rcases ok _ _ hq with ⟨x, hx⟩ | ⟨E1, hE, hc, hd⟩
    · cases hx
    · cases hE
      rcases hd with rfl | rfl
      · skip
        refine KX_catch1 (x := ⟨0, 12, 15, 18⟩) (suf := [⟨0, 12, 19, 13⟩]) (hp2 := 17) rfl (by decide) (by decide) wl_NS (List.mem_of_getElem? (i := 4) rfl) (Or.inr ⟨5, (dt_at dtL_without 10 rfl), by decide, rfl⟩) ?_
        refine K_iconst (dt_at dtL_without 11 rfl) ?_
        exact K_iret (dt_at dtL_without 12 rfl) rfl rfl (by decide) (by decide) (Or.inr ⟨_, hq, by rw [cNS_n]⟩)
      · skip
        refine KX_catch2 (z := ⟨0, 12, 15, 18⟩) (x := ⟨0, 12, 19, 13⟩) (suf := []) (hp2 := 21) rfl (by decide) wl_NS (by decide) (by decide) wl_IA (Or.inr ⟨5, (dt_at dtL_without 13 rfl), by decide, rfl⟩) ?_
        refine K_iconst (dt_at dtL_without 14 rfl) ?_
        exact K_iret (dt_at dtL_without 15 rfl) rfl rfl (by decide) (by decide) (Or.inr ⟨_, hq, by rw [cNS_i]⟩)
