/-! the string constants: what String's methods do with them -/
def wdL (i : Nat) : List Int := (sTab.getD i ("", 0, "")).2.2.toList.map (fun ch => (ch.toNat : Int))
def wdA (i : Nat) (j : Int) : Int := (wdL i).getD j.toNat 0
def bU16 (x : Int) : Int := ((Int32.ofInt x).toUInt32 % 65536).toInt32.toInt
theorem wd_len : ∀ i : Nat, i < 21 → sLen.getD i 0 = (wdL i).length := by decide +kernel
theorem wd_max : ∀ i : Nat, i < 21 → (wdL i).length ≤ 26 := by decide +kernel
theorem wd_at : ∀ i : Nat, i < 21 → ∀ j : Nat, j < (wdL i).length → (sByt.getD i []).getD j 0 = Int32.ofInt ((wdL i).getD j 0) := by decide +kernel
theorem wd_cc : ∀ i : Nat, i < 21 → ∀ j : Nat, j < (wdL i).length → bU16 (bAnd ((wdL i).getD j 0) 255) = (wdL i).getD j 0 ∧ narrow .char (.int (Int32.ofInt ((wdL i).getD j 0))) = .int (Int32.ofInt ((wdL i).getD j 0)) ∧ 0 ≤ (wdL i).getD j 0 ∧ (wdL i).getD j 0 < 128 := by decide +kernel
theorem wdA_c {i : Nat} (hi : i < 21) {j : Int} (h0 : 0 ≤ j) (h1 : j < ((wdL i).length : Nat)) : bU16 (bAnd (wdA i j) 255) = wdA i j := (wd_cc i hi j.toNat (by omega)).1
theorem wdA_n {i : Nat} (hi : i < 21) {j : Int} (h0 : 0 ≤ j) (h1 : j < ((wdL i).length : Nat)) : narrow .char (.int (Int32.ofInt (wdA i j))) = .int (Int32.ofInt (wdA i j)) := (wd_cc i hi j.toNat (by omega)).2.1
theorem wdA_b {i : Nat} (hi : i < 21) {j : Int} (h0 : 0 ≤ j) (h1 : j < ((wdL i).length : Nat)) : 0 ≤ wdA i j ∧ wdA i j < 128 := (wd_cc i hi j.toNat (by omega)).2.2
theorem bShr_0 {x : Int} (h : i32 x) : bShr x 0 = x := by
  unfold bShr
  have e : (Int32.ofInt 0 &&& 31) = 0 := by decide
  rw [e]
  have e2 : Int32.ofInt x >>> (0 : Int32) = Int32.ofInt x := by
    apply Int32.toBitVec_inj.mp
    simp
  rw [e2]
  exact oI_to h
section KS
variable {M : MI} {G : CT → Prop} {Z : CT → State → Prop} {nc ns pc : Nat} {ls : List (Nat × AV)} {st : List AV} {h : HP}
theorem K_getsC {ix : Nat} (hd : decode (mB M) pc = .ok (.getstatic ix, 3)) (hw : Cond.fieldLink (mY M).cls ix "java/lang/String" "COMPACT_STRINGS" "Z" ∈ gw) (hGE : ∀ t, G t → GE t) (k : K M G Z nc ns (pc + 3) ls (vi 1 :: st) h) : K M G Z nc ns pc ls st h := by
  intro p l e s m args below meth c D C as ad av H locs lsA cx hG hP hS hl
  obtain ⟨hx, hb, hml, hr, hlk, hown, hts, hK, hj⟩ := id cx
  obtain ⟨g1, g2⟩ := hGE _ hG
  exact va_gets hx hb g2.1.2.1 hS hown (hts _ hw) (fun _ z => z) hd (k p l e s m args below meth c D C as ad av H locs lsA cx hG hP hS hl)
theorem K_getsF {ix : Nat} (hd : decode (mB M) pc = .ok (.getstatic ix, 3)) (hw : Cond.fieldLink (mY M).cls ix "jdk/internal/util/Preconditions" "SIOOBE_FORMATTER" "Ljava/util/function/BiFunction;" ∈ gw) (hGE : ∀ t, G t → GE t) (k : ∀ j : Nat, K M G Z nc ns (pc + 3) ls (vs j :: st) h) : K M G Z nc ns pc ls st h := by
  intro p l e s m args below meth c D C as ad av H locs lsA cx hG hP hS hl
  obtain ⟨hx, hb, hml, hr, hlk, hown, hts, hK, hj⟩ := id cx
  obtain ⟨g1, g2⟩ := hGE _ hG
  obtain ⟨j, -, h9⟩ := g2.1.2.2
  exact va_gets hx hb h9 hS hown (hts _ hw) (fun _ z => z) hd (k j p l e s m args below meth c D C as ad av H locs lsA cx hG hP hS hl)
theorem K_getSV {ix i : Nat} (hd : decode (mB M) pc = .ok (.getfield ix, 3)) (hw : Cond.fieldLink (mY M).cls ix "java/lang/String" "value" "[B" ∈ gw) (hi : i < 21) (hGE : ∀ t, G t → GE t) (k : K M G Z nc ns (pc + 3) ls (vs (i + 23) :: st) h) : K M G Z nc ns pc ls (vs (i + 1) :: st) h := by
  intro p l e s m args below meth c D C as ad av H locs lsA cx hG hP hS hl
  obtain ⟨hx, hb, hml, hr, hlk, hown, hts, hK, hj⟩ := id cx
  obtain ⟨g1, g2⟩ := hGE _ hG
  exact vk_getf hx hb (g2.1.1.1 i hi).2.2.1 hS hown (hts _ hw) (fun _ z => z) hd (k p l e s m args below meth c D C as ad av H locs lsA cx hG hP hS hl)
theorem K_getSC {ix i : Nat} (hd : decode (mB M) pc = .ok (.getfield ix, 3)) (hw : Cond.fieldLink (mY M).cls ix "java/lang/String" "coder" "B" ∈ gw) (hi : i < 21) (hGE : ∀ t, G t → GE t) (k : K M G Z nc ns (pc + 3) ls (vi 0 :: st) h) : K M G Z nc ns pc ls (vs (i + 1) :: st) h := by
  intro p l e s m args below meth c D C as ad av H locs lsA cx hG hP hS hl
  obtain ⟨hx, hb, hml, hr, hlk, hown, hts, hK, hj⟩ := id cx
  obtain ⟨g1, g2⟩ := hGE _ hG
  exact vk_getf hx hb (g2.1.1.1 i hi).2.1 hS hown (hts _ hw) (fun _ z => z) hd (k p l e s m args below meth c D C as ad av H locs lsA cx hG hP hS hl)
theorem K_alenS {i : Nat} (hd : decode (mB M) pc = .ok (.arraylength, 1)) (hi : i < 21) (hGE : ∀ t, G t → GE t) (k : K M G Z nc ns (pc + 1) ls (vi ((wdL i).length : Nat) :: st) h) : K M G Z nc ns pc ls (vs (i + 23) :: st) h := by
  intro p l e s m args below meth c D C as ad av H locs lsA cx hG hP hS hl
  obtain ⟨hx, hb, hml, hr, hlk, hown, hts, hK, hj⟩ := id cx
  obtain ⟨g1, g2⟩ := hGE _ hG
  have h9 := (g2.1.1.1 i hi).2.2.2
  rw [wd_len i hi] at h9
  exact va_tlen hx hb h9 hS rfl hd (k p l e s m args below meth c D C as ad av H locs lsA cx hG hP hS hl)
theorem K_baldS {i : Nat} {j : Int} (hd : decode (mB M) pc = .ok (.baload, 1)) (hi : i < 21) (h0 : 0 ≤ j) (h1 : j < ((wdL i).length : Nat)) (hGE : ∀ t, G t → GE t) (k : K M G Z nc ns (pc + 1) ls (vi (wdA i j) :: st) h) : K M G Z nc ns pc ls (vi j :: vs (i + 23) :: st) h := by
  intro p l e s m args below meth c D C as ad av H locs lsA cx hG hP hS hl
  obtain ⟨hx, hb, hml, hr, hlk, hown, hts, hK, hj⟩ := id cx
  obtain ⟨g1, g2⟩ := hGE _ hG
  have h9 := (g2.1.1.1 i hi).2.2.2
  rw [wd_len i hi] at h9
  have hn9 : (wdL i).length < 2 ^ 31 := Nat.lt_of_le_of_lt (wd_max i hi) (by decide)
  refine va_tb hx hb h9 hS (oI_in h0 h1 hn9) (v := .int (Int32.ofInt (wdA i j))) ?_ hd (k p l e s m args below meth c D C as ad av H locs lsA cx hG hP hS hl)
  rw [oI_nat h0 h1 hn9]
  show Value.int _ = _
  rw [wd_at i hi j.toNat (by omega)]
  rfl
theorem K_i2c {x : Int} (hd : decode (mB M) pc = .ok (.i2c, 1)) (k : K M G Z nc ns (pc + 1) ls (vi (bU16 x) :: st) h) : K M G Z nc ns pc ls (vi x :: st) h := by
  intro p l e s m args below meth c D C as ad av H locs lsA cx hG hP hS hl
  obtain ⟨hx, hb, hml, hr, hlk, hown, hts, hK, hj⟩ := id cx
  refine lv_i2c hx hb hd rfl ?_
  have h9 := k p l e s m args below meth c D C as ad av H locs lsA cx hG hP hS hl
  simp only [List.map_cons, cv, bU16, Int32.ofInt_toInt] at h9
  exact h9
theorem K_ldcS {ix i : Nat} {text : String} (hd : decode (mB M) pc = .ok (.ldc ix, 2)) (hs : sTab[i]? = some ((mY M).cls, ix, text)) (hGE : ∀ t, G t → GE t) (k : K M G Z nc ns (pc + 2) ls (vs (i + 1) :: st) h) : K M G Z nc ns pc ls st h := by
  intro p l e s m args below meth c D C as ad av H locs lsA cx hG hP hS hl
  obtain ⟨hx, hb, hml, hr, hlk, hown, hts, hK, hj⟩ := id cx
  obtain ⟨g1, g2⟩ := hGE _ hG
  exact va_ldcS hx hb hown (g2.2.1 i _ hs) hd (k p l e s m args below meth c D C as ad av H locs lsA cx hG hP hS hl)
theorem K_callVs {M' : MI} {i ix : Nat} {As : List AV} {Q' : AO → HP → Prop} {st0 : List AV} (hd : decode (mB M) pc = .ok (.invokevirtual ix, 3)) (hsp : SpecK M' (vs (i + 1) :: As) h Q') (hi : i < 21) (hc : (mY M').cls = "java/lang/String") (hw : Cond.methodLink (mY M).cls ix (mY M') ∈ gw) (hm : mV M')
    (hst : st0 = As.reverse ++ vs (i + 1) :: st) (hnp : (parseMethodDescriptor (mY M').desc).map (fun d => d.parameters.length) = some As.length) (hR : (mR M').frames + 1 ≤ (mR M).frames) (hlo : 8 + (mL M' + 11) + (mR M').locals ≤ (mR M).locals) (hwt : wA st ≤ 8) (hnc : nc + (mR M').cells ≤ (mR M).cells) (hns : ns + (mR M').slots ≤ (mR M).slots) (hGE : ∀ t, G t → GE t)
    (kr : ∀ v h', Q' (.inl v) h' → K M G Z (nc + (mR M').cells) (ns + (mR M').slots) (pc + 3) ls (v.toList ++ st) h')
    (kx : ∀ E h', Q' (.inr E) h' → KX M G Z (nc + (mR M').cells) (ns + (mR M').slots) pc ls h' E) : K M G Z nc ns pc ls st0 h := by
  subst hst
  intro p l e s m args below meth c D C as ad av H locs lsA cx hG hP hS hl
  obtain ⟨hx, hb, hml, hr, hlk, hown, hts, hK, hj⟩ := id cx
  obtain ⟨g1, g2⟩ := hGE _ hG
  obtain ⟨m1, m2, m3, m4, m5, m6⟩ := hm
  have hgood : GoodIn gw (wsV (mY M).cls ix (mY M').cls (mY M') (wsM M')) := by
    intro w hw9
    rcases List.mem_append.mp hw9 with q | q
    · simp only [List.mem_cons, List.not_mem_nil, or_false] at q
      rcases q with rfl | rfl | rfl | rfl
      · exact gw_good _ hw
      · exact gw_good _ m1
      · exact gw_good _ m2
      · exact gw_good _ m3
    · exact wsM_good m4 _ q
  have hrc := vk_recv g2.1.1 hi hS
  rw [← hc] at hrc
  refine K_ret (args := vs (i + 1) :: As) hR kr kx cx hG hS hl (a := (Value.ref (ad (i + 1)) :: As.map (cv as ad)).toArray) ?_
  exact vx_runV (C := (mY M').cls) (b := ad (i + 1)) (As := As.map (cv as ad)) (n := As.length) ⟨hx, hb, hml, hown, hts⟩ (hsp l D C as ad av H.size g1) (cwV As.length hts hgood rfl rfl rfl ⟨rfl, m5, m6, hnp⟩ ⟨hR, hlo⟩)
    ⟨PcK_blind, hrc, fun U hU hW => ⟨rfl, by rw [hU], by rw [hU]; exact hP, va_K.moved hW.alike hK, hj, g2.call hS hU hW⟩⟩ rfl (by simp) hl.1 (by simp [cv]) (lv_room (by rw [wA_cat]; exact hwt)) hd ⟨hnc, hns⟩
end KS
def mJ0_coder_7d493 : MI := (yJ0_coder_7d493, cJ0_coder_7d493, 1, (some .byte), rmK 1 0)
def tJ0_coder_7d493 : List (Nat × Instr × Nat) := [(0, .getstatic 38, 3), (3, .ifCond .eq 10, 3), (6, .aload_n 0, 1), (7, .getfield 15, 3), (10, .goto 4, 3), (13, .iconst 1, 1), (14, .ireturn, 1)]
theorem dtJ0_coder_7d493 : tJ0_coder_7d493.all (fun q => decide (decode cJ0_coder_7d493 q.1 = .ok (q.2.1, q.2.2))) = true := by decide +kernel
theorem npJ0_coder_7d493 : (parseMethodDescriptor (mY mJ0_coder_7d493).desc).map (fun d => d.parameters.length) = some 0 := by decide +kernel
theorem vJ0_coder_7d493 : mV mJ0_coder_7d493 := ⟨wI_J0_coder_7d493, wS_J0_coder_7d493, wN_J0, wC_J0_coder_7d493, by decide +kernel, by decide +kernel⟩
set_option maxHeartbeats 4000000 in
set_option maxRecDepth 100000 in
theorem sJ0_coder_7d493 {h : HP} {i : Nat} (hi : i < 21) : SpecK mJ0_coder_7d493 [vs (i + 1)] h (fun o h' => o = .inl (some (vi 0)) ∧ h' = h) := by
  refine Spec_of (by decide +kernel) (Nat.le_of_ble_eq_true rfl) ?_
  refine K_getsC (dt_at dtJ0_coder_7d493 0 rfl) wF_J0_38 GK_E ?_
  refine K_if_eq (tgt := 13) (dt_at dtJ0_coder_7d493 1 rfl) (by decide) (by first | assumption | exact ⟨by omega, by omega⟩) (fun c1 => absurd c1 (by omega)) (fun c1 => ?_)
  refine K_aload_nS (dt_at dtJ0_coder_7d493 2 rfl) rfl rfl ?_
  refine K_getSC (i := i) (dt_at dtJ0_coder_7d493 3 rfl) wF_J0_15 hi GK_E ?_
  refine K_goto (tgt := 14) (dt_at dtJ0_coder_7d493 4 rfl) (by decide) ?_
  exact K_iret (dt_at dtJ0_coder_7d493 6 rfl) rfl (by decide) (by decide) (by decide) ⟨rfl, rfl⟩
def mJ0_isLatin1_aae02 : MI := (yJ0_isLatin1_aae02, cJ0_isLatin1_aae02, 1, (some .boolean), rmK 1 0)
def tJ0_isLatin1_aae02 : List (Nat × Instr × Nat) := [(0, .getstatic 38, 3), (3, .ifCond .eq 14, 3), (6, .aload_n 0, 1), (7, .getfield 15, 3), (10, .ifCond .ne 7, 3), (13, .iconst 1, 1), (14, .goto 4, 3), (17, .iconst 0, 1), (18, .ireturn, 1)]
theorem dtJ0_isLatin1_aae02 : tJ0_isLatin1_aae02.all (fun q => decide (decode cJ0_isLatin1_aae02 q.1 = .ok (q.2.1, q.2.2))) = true := by decide +kernel
theorem npJ0_isLatin1_aae02 : (parseMethodDescriptor (mY mJ0_isLatin1_aae02).desc).map (fun d => d.parameters.length) = some 0 := by decide +kernel
theorem vJ0_isLatin1_aae02 : mV mJ0_isLatin1_aae02 := ⟨wI_J0_isLatin1_aae02, wS_J0_isLatin1_aae02, wN_J0, wC_J0_isLatin1_aae02, by decide +kernel, by decide +kernel⟩
set_option maxHeartbeats 4000000 in
set_option maxRecDepth 100000 in
theorem sJ0_isLatin1_aae02 {h : HP} {i : Nat} (hi : i < 21) : SpecK mJ0_isLatin1_aae02 [vs (i + 1)] h (fun o h' => o = .inl (some (vi 1)) ∧ h' = h) := by
  refine Spec_of (by decide +kernel) (Nat.le_of_ble_eq_true rfl) ?_
  refine K_getsC (dt_at dtJ0_isLatin1_aae02 0 rfl) wF_J0_38 GK_E ?_
  refine K_if_eq (tgt := 17) (dt_at dtJ0_isLatin1_aae02 1 rfl) (by decide) (by first | assumption | exact ⟨by omega, by omega⟩) (fun c1 => absurd c1 (by omega)) (fun c1 => ?_)
  refine K_aload_nS (dt_at dtJ0_isLatin1_aae02 2 rfl) rfl rfl ?_
  refine K_getSC (i := i) (dt_at dtJ0_isLatin1_aae02 3 rfl) wF_J0_15 hi GK_E ?_
  refine K_if_ne (tgt := 17) (dt_at dtJ0_isLatin1_aae02 4 rfl) (by decide) (by first | assumption | exact ⟨by omega, by omega⟩) (fun c2 => absurd c2 (by omega)) (fun c2 => ?_)
  refine K_iconst (dt_at dtJ0_isLatin1_aae02 5 rfl) ?_
  refine K_goto (tgt := 18) (dt_at dtJ0_isLatin1_aae02 6 rfl) (by decide) ?_
  exact K_iret (dt_at dtJ0_isLatin1_aae02 8 rfl) rfl (by decide) (by decide) (by decide) ⟨rfl, rfl⟩
def mJ0_length_8abf5 : MI := (yJ0_length_8abf5, cJ0_length_8abf5, 1, (some .int), rmK 2 0)
def tJ0_length_8abf5 : List (Nat × Instr × Nat) := [(0, .aload_n 0, 1), (1, .getfield 9, 3), (4, .arraylength, 1), (5, .aload_n 0, 1), (6, .invokevirtual 335, 3), (9, .ishr, 1), (10, .ireturn, 1)]
theorem dtJ0_length_8abf5 : tJ0_length_8abf5.all (fun q => decide (decode cJ0_length_8abf5 q.1 = .ok (q.2.1, q.2.2))) = true := by decide +kernel
theorem npJ0_length_8abf5 : (parseMethodDescriptor (mY mJ0_length_8abf5).desc).map (fun d => d.parameters.length) = some 0 := by decide +kernel
theorem vJ0_length_8abf5 : mV mJ0_length_8abf5 := ⟨wI_J0_length_8abf5, wS_J0_length_8abf5, wN_J0, wC_J0_length_8abf5, by decide +kernel, by decide +kernel⟩
set_option maxHeartbeats 4000000 in
set_option maxRecDepth 100000 in
theorem sJ0_length_8abf5 {h : HP} {i : Nat} (hi : i < 21) : SpecK mJ0_length_8abf5 [vs (i + 1)] h (fun o h' => o = .inl (some (vi ((wdL i).length : Nat))) ∧ h' = h) := by
  refine Spec_of (by decide +kernel) (Nat.le_of_ble_eq_true rfl) ?_
  have hm := wd_max i hi
  refine K_aload_nS (dt_at dtJ0_length_8abf5 0 rfl) rfl rfl ?_
  refine K_getSV (i := i) (dt_at dtJ0_length_8abf5 1 rfl) wF_J0_9 hi GK_E ?_
  refine K_alenS (i := i) (dt_at dtJ0_length_8abf5 2 rfl) hi GK_E ?_
  refine K_aload_nS (dt_at dtJ0_length_8abf5 3 rfl) rfl rfl ?_
  refine K_callVs (M' := mJ0_coder_7d493) (i := i) (As := []) (st := [vi ((wdL i).length : Nat)]) (dt_at dtJ0_length_8abf5 4 rfl) (sJ0_coder_7d493 hi) hi rfl wL_J0_335 vJ0_coder_7d493 rfl npJ0_coder_7d493 (by decide) (by decide) (Nat.le_of_ble_eq_true rfl) (by decide) (by decide) GK_E (fun v9 h9 hq => ?_) (fun E h9 hq => by cases hq.1)
  obtain ⟨e9, e8⟩ := hq
  cases e9
  rw [e8]
  show K mJ0_length_8abf5 _ _ 0 0 9 [(0, vs (i + 1))] [vi 0, vi ((wdL i).length : Nat)] h
  refine K_ishr (dt_at dtJ0_length_8abf5 5 rfl) ?_
  rw [bShr_0 ⟨by omega, by omega⟩]
  exact K_iret (dt_at dtJ0_length_8abf5 6 rfl) rfl rfl (by decide) (by decide) ⟨rfl, rfl⟩
def mJ3_checkIndex_8e157 : MI := (yJ3_checkIndex_8e157, cJ3_checkIndex_8e157, 3, (some .int), rmK 1 0)
def tJ3_checkIndex_8e157 : List (Nat × Instr × Nat) := [(0, .iload_n 0, 1), (1, .ifCond .lt 8, 3), (4, .iload_n 0, 1), (5, .iload_n 1, 1), (6, .if_icmp .lt 10, 3), (9, .aload_n 2, 1), (10, .iload_n 0, 1), (11, .iload_n 1, 1), (12, .invokestatic 95, 3), (15, .athrow, 1), (16, .iload_n 0, 1), (17, .ireturn, 1)]
theorem dtJ3_checkIndex_8e157 : tJ3_checkIndex_8e157.all (fun q => decide (decode cJ3_checkIndex_8e157 q.1 = .ok (q.2.1, q.2.2))) = true := by decide +kernel
theorem npJ3_checkIndex_8e157 : (parseMethodDescriptor (mY mJ3_checkIndex_8e157).desc).map (fun d => d.parameters.length) = some 3 := by decide +kernel
theorem vJ3_checkIndex_8e157 : mS mJ3_checkIndex_8e157 := ⟨wT_J3_checkIndex_8e157, wN_J3, wC_J3_checkIndex_8e157, by decide +kernel, by decide +kernel⟩
set_option maxHeartbeats 4000000 in
set_option maxRecDepth 100000 in
theorem sJ3_checkIndex_8e157 {h : HP} {j : Nat} {x n : Int} (h0 : 0 ≤ x) (h1 : x < n) (hn : i32 n) : SpecK mJ3_checkIndex_8e157 [vi x, vi n, vs j] h (fun o h' => o = .inl (some (vi x)) ∧ h' = h) := by
  refine Spec_of (by decide +kernel) (Nat.le_of_ble_eq_true rfl) ?_
  have hn1 := hn.2
  refine K_iload_n (dt_at dtJ3_checkIndex_8e157 0 rfl) rfl rfl ?_
  refine K_if_lt (tgt := 9) (dt_at dtJ3_checkIndex_8e157 1 rfl) (by decide) ⟨by omega, by omega⟩ (fun c1 => absurd c1 (by omega)) (fun c1 => ?_)
  refine K_iload_n (dt_at dtJ3_checkIndex_8e157 2 rfl) rfl rfl ?_
  refine K_iload_n (dt_at dtJ3_checkIndex_8e157 3 rfl) rfl rfl ?_
  refine K_icmp_lt (tgt := 16) (dt_at dtJ3_checkIndex_8e157 4 rfl) (by decide) ⟨by omega, by omega⟩ hn (fun c2 => ?_) (fun c2 => absurd c2 (by omega))
  refine K_iload_n (dt_at dtJ3_checkIndex_8e157 10 rfl) rfl rfl ?_
  exact K_iret (dt_at dtJ3_checkIndex_8e157 11 rfl) rfl rfl (by decide) (by decide) ⟨rfl, rfl⟩
def mJ0_checkIndex_df160 : MI := (yJ0_checkIndex_df160, cJ0_checkIndex_df160, 2, none, rmK 2 0)
def tJ0_checkIndex_df160 : List (Nat × Instr × Nat) := [(0, .iload_n 0, 1), (1, .iload_n 1, 1), (2, .getstatic 1053, 3), (5, .invokestatic 1059, 3), (8, .pop, 1), (9, .return_, 1)]
theorem dtJ0_checkIndex_df160 : tJ0_checkIndex_df160.all (fun q => decide (decode cJ0_checkIndex_df160 q.1 = .ok (q.2.1, q.2.2))) = true := by decide +kernel
theorem npJ0_checkIndex_df160 : (parseMethodDescriptor (mY mJ0_checkIndex_df160).desc).map (fun d => d.parameters.length) = some 2 := by decide +kernel
theorem vJ0_checkIndex_df160 : mS mJ0_checkIndex_df160 := ⟨wT_J0_checkIndex_df160, wN_J0, wC_J0_checkIndex_df160, by decide +kernel, by decide +kernel⟩
set_option maxHeartbeats 4000000 in
set_option maxRecDepth 100000 in
theorem sJ0_checkIndex_df160 {h : HP} {x n : Int} (h0 : 0 ≤ x) (h1 : x < n) (hn : i32 n) : SpecK mJ0_checkIndex_df160 [vi x, vi n] h (fun o h' => o = .inl (none) ∧ h' = h) := by
  refine Spec_of (by decide +kernel) (Nat.le_of_ble_eq_true rfl) ?_
  refine K_iload_n (dt_at dtJ0_checkIndex_df160 0 rfl) rfl rfl ?_
  refine K_iload_n (dt_at dtJ0_checkIndex_df160 1 rfl) rfl rfl ?_
  refine K_getsF (dt_at dtJ0_checkIndex_df160 2 rfl) wF_J0_1053 GK_E (fun j9 => ?_)
  refine K_callS (M' := mJ3_checkIndex_8e157) (As := [vi x, vi n, vs j9]) (st := []) (dt_at dtJ0_checkIndex_df160 3 rfl) (sJ3_checkIndex_8e157 h0 h1 hn) wL_J0_1059 vJ3_checkIndex_8e157 rfl npJ3_checkIndex_8e157 (by decide) (by decide) (Nat.le_of_ble_eq_true rfl) (by decide) (by decide) GK_E (fun v9 h9 hq => ?_) (fun E h9 hq => by cases hq.1)
  obtain ⟨e9, e8⟩ := hq
  cases e9
  rw [e8]
  show K mJ0_checkIndex_df160 _ _ 0 0 8 [(0, vi x), (1, vi n)] [vi x] h
  refine K_pop (dt_at dtJ0_checkIndex_df160 4 rfl) rfl ?_
  exact K_vret (dt_at dtJ0_checkIndex_df160 5 rfl) rfl (by decide) (by decide) ⟨rfl, rfl⟩
def mJ1_charAt_3b067 : MI := (yJ1_charAt_3b067, cJ1_charAt_3b067, 2, (some .char), rmK 3 0)
def tJ1_charAt_3b067 : List (Nat × Instr × Nat) := [(0, .iload_n 1, 1), (1, .aload_n 0, 1), (2, .arraylength, 1), (3, .invokestatic 9, 3), (6, .aload_n 0, 1), (7, .iload_n 1, 1), (8, .baload, 1), (9, .sipush 255, 3), (12, .iand, 1), (13, .i2c, 1), (14, .ireturn, 1)]
theorem dtJ1_charAt_3b067 : tJ1_charAt_3b067.all (fun q => decide (decode cJ1_charAt_3b067 q.1 = .ok (q.2.1, q.2.2))) = true := by decide +kernel
theorem npJ1_charAt_3b067 : (parseMethodDescriptor (mY mJ1_charAt_3b067).desc).map (fun d => d.parameters.length) = some 2 := by decide +kernel
theorem vJ1_charAt_3b067 : mS mJ1_charAt_3b067 := ⟨wT_J1_charAt_3b067, wN_J1, wC_J1_charAt_3b067, by decide +kernel, by decide +kernel⟩
set_option maxHeartbeats 4000000 in
set_option maxRecDepth 100000 in
theorem sJ1_charAt_3b067 {h : HP} {i : Nat} {x : Int} (hi : i < 21) (h0 : 0 ≤ x) (h1 : x < ((wdL i).length : Nat)) : SpecK mJ1_charAt_3b067 [vs (i + 23), vi x] h (fun o h' => o = .inl (some (vi (wdA i x))) ∧ h' = h) := by
  refine Spec_of (by decide +kernel) (Nat.le_of_ble_eq_true rfl) ?_
  have hm := wd_max i hi
  refine K_iload_n (dt_at dtJ1_charAt_3b067 0 rfl) rfl rfl ?_
  refine K_aload_nS (dt_at dtJ1_charAt_3b067 1 rfl) rfl rfl ?_
  refine K_alenS (i := i) (dt_at dtJ1_charAt_3b067 2 rfl) hi GK_E ?_
  refine K_callS (M' := mJ0_checkIndex_df160) (As := [vi x, vi ((wdL i).length : Nat)]) (st := []) (dt_at dtJ1_charAt_3b067 3 rfl) (sJ0_checkIndex_df160 h0 h1 ⟨by omega, by omega⟩) wL_J1_9 vJ0_checkIndex_df160 rfl npJ0_checkIndex_df160 (by decide) (by decide) (Nat.le_of_ble_eq_true rfl) (by decide) (by decide) GK_E (fun v9 h9 hq => ?_) (fun E h9 hq => by cases hq.1)
  obtain ⟨e9, e8⟩ := hq
  cases e9
  rw [e8]
  show K mJ1_charAt_3b067 _ _ 0 0 6 [(0, vs (i + 23)), (1, vi x)] [] h
  refine K_aload_nS (dt_at dtJ1_charAt_3b067 4 rfl) rfl rfl ?_
  refine K_iload_n (dt_at dtJ1_charAt_3b067 5 rfl) rfl rfl ?_
  refine K_baldS (i := i) (dt_at dtJ1_charAt_3b067 6 rfl) hi (by omega) (by omega) GK_E ?_
  refine K_sipush (dt_at dtJ1_charAt_3b067 7 rfl) (by decide) ?_
  refine K_iand (dt_at dtJ1_charAt_3b067 8 rfl) ?_
  refine K_i2c (dt_at dtJ1_charAt_3b067 9 rfl) ?_
  rw [wdA_c hi h0 h1]
  exact K_iret (dt_at dtJ1_charAt_3b067 10 rfl) rfl (wdA_n hi h0 h1) (by decide) (by decide) ⟨rfl, rfl⟩
def mJ0_charAt_5068e : MI := (yJ0_charAt_5068e, cJ0_charAt_5068e, 2, (some .char), rmK 4 0)
def tJ0_charAt_5068e : List (Nat × Instr × Nat) := [(0, .aload_n 0, 1), (1, .invokevirtual 492, 3), (4, .ifCond .eq 12, 3), (7, .aload_n 0, 1), (8, .getfield 9, 3), (11, .iload_n 1, 1), (12, .invokestatic 495, 3), (15, .ireturn, 1), (16, .aload_n 0, 1), (17, .getfield 9, 3), (20, .iload_n 1, 1), (21, .invokestatic 498, 3), (24, .ireturn, 1)]
theorem dtJ0_charAt_5068e : tJ0_charAt_5068e.all (fun q => decide (decode cJ0_charAt_5068e q.1 = .ok (q.2.1, q.2.2))) = true := by decide +kernel
theorem npJ0_charAt_5068e : (parseMethodDescriptor (mY mJ0_charAt_5068e).desc).map (fun d => d.parameters.length) = some 1 := by decide +kernel
theorem vJ0_charAt_5068e : mV mJ0_charAt_5068e := ⟨wI_J0_charAt_5068e, wS_J0_charAt_5068e, wN_J0, wC_J0_charAt_5068e, by decide +kernel, by decide +kernel⟩
set_option maxHeartbeats 4000000 in
set_option maxRecDepth 100000 in
theorem sJ0_charAt_5068e {h : HP} {i : Nat} {x : Int} (hi : i < 21) (h0 : 0 ≤ x) (h1 : x < ((wdL i).length : Nat)) : SpecK mJ0_charAt_5068e [vs (i + 1), vi x] h (fun o h' => o = .inl (some (vi (wdA i x))) ∧ h' = h) := by
  refine Spec_of (by decide +kernel) (Nat.le_of_ble_eq_true rfl) ?_
  refine K_aload_nS (dt_at dtJ0_charAt_5068e 0 rfl) rfl rfl ?_
  refine K_callVs (M' := mJ0_isLatin1_aae02) (i := i) (As := []) (st := []) (dt_at dtJ0_charAt_5068e 1 rfl) (sJ0_isLatin1_aae02 hi) hi rfl wL_J0_492 vJ0_isLatin1_aae02 rfl npJ0_isLatin1_aae02 (by decide) (by decide) (Nat.le_of_ble_eq_true rfl) (by decide) (by decide) GK_E (fun v9 h9 hq => ?_) (fun E h9 hq => by cases hq.1)
  obtain ⟨e9, e8⟩ := hq
  cases e9
  rw [e8]
  show K mJ0_charAt_5068e _ _ 0 0 4 [(0, vs (i + 1)), (1, vi x)] [vi 1] h
  refine K_if_eq (tgt := 16) (dt_at dtJ0_charAt_5068e 2 rfl) (by decide) (by first | assumption | exact ⟨by omega, by omega⟩) (fun c1 => absurd c1 (by omega)) (fun c1 => ?_)
  refine K_aload_nS (dt_at dtJ0_charAt_5068e 3 rfl) rfl rfl ?_
  refine K_getSV (i := i) (dt_at dtJ0_charAt_5068e 4 rfl) wF_J0_9 hi GK_E ?_
  refine K_iload_n (dt_at dtJ0_charAt_5068e 5 rfl) rfl rfl ?_
  refine K_callS (M' := mJ1_charAt_3b067) (As := [vs (i + 23), vi x]) (st := []) (dt_at dtJ0_charAt_5068e 6 rfl) (sJ1_charAt_3b067 hi h0 h1) wL_J0_495 vJ1_charAt_3b067 rfl npJ1_charAt_3b067 (by decide) (by decide) (Nat.le_of_ble_eq_true rfl) (by decide) (by decide) GK_E (fun v9 h9 hq => ?_) (fun E h9 hq => by cases hq.1)
  obtain ⟨e9, e8⟩ := hq
  cases e9
  rw [e8]
  show K mJ0_charAt_5068e _ _ 0 0 15 [(0, vs (i + 1)), (1, vi x)] [vi (wdA i x)] h
  exact K_iret (dt_at dtJ0_charAt_5068e 7 rfl) rfl (wdA_n hi h0 h1) (by decide) (by decide) ⟨rfl, rfl⟩
