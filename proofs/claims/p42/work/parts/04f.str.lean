def SBY : List (List Int32) := [[108, 111, 116], [112, 105, 108, 101], [115, 104, 105, 112], [103, 97, 112], [116, 111, 110, 110, 101, 115], [103, 114, 97, 100, 101], [99, 101, 108, 108, 115], [110, 101, 101, 100, 115], [108, 111, 119], [104, 105, 103, 104], [100, 117, 101], [108, 111, 97, 100], [102, 105, 110, 101]]
def SLN : List Nat := [3, 4, 4, 3, 6, 5, 5, 5, 3, 4, 3, 4, 4]
def sLn (i : Nat) : Nat := SLN.getD i 0
def sCh (i j : Nat) : Int32 := (SBY.getD i []).getD j 0
def wJ (y : MethodName) (b : ByteArray) (n : Nat) (r : Option FieldType) : List Cond := .code y b n r :: TB
theorem wJ_good {y : MethodName} {b : ByteArray} {n : Nat} {r : Option FieldType} (h : Cond.code y b n r ∈ TB) : GoodIn TB (wJ y b n r) := by
  intro w hw
  rcases List.mem_cons.mp hw with rfl | hw
  · exact ⟨h, good_of_word rfl⟩
  · exact ⟨hw, good_of_word (List.mem_filter.mp hw).2⟩
set_option maxRecDepth 1000000 in
theorem jc_len : Cond.code yJ0_length_8abf5 cJ0_length_8abf5 1 (some .int) ∈ TB := List.mem_filter.mpr ⟨List.mem_of_getElem? (i := 548) (by rfl), rfl⟩
set_option maxRecDepth 1000000 in
theorem jc_chr : Cond.code yJ0_charAt_5068e cJ0_charAt_5068e 2 (some .char) ∈ TB := List.mem_filter.mpr ⟨List.mem_of_getElem? (i := 558) (by rfl), rfl⟩
set_option maxRecDepth 1000000 in
theorem jc_cod : Cond.code yJ0_coder_7d493 cJ0_coder_7d493 1 (some .byte) ∈ TB := List.mem_filter.mpr ⟨List.mem_of_getElem? (i := 552) (by rfl), rfl⟩
set_option maxRecDepth 1000000 in
theorem jc_lat : Cond.code yJ0_isLatin1_aae02 cJ0_isLatin1_aae02 1 (some .boolean) ∈ TB := List.mem_filter.mpr ⟨List.mem_of_getElem? (i := 562) (by rfl), rfl⟩
set_option maxRecDepth 1000000 in
theorem jc_chk : Cond.code yJ0_checkIndex_df160 cJ0_checkIndex_df160 2 none ∈ TB := List.mem_filter.mpr ⟨List.mem_of_getElem? (i := 568) (by rfl), rfl⟩
set_option maxRecDepth 1000000 in
theorem jc_lch : Cond.code yJ1_charAt_3b067 cJ1_charAt_3b067 2 (some .char) ∈ TB := List.mem_filter.mpr ⟨List.mem_of_getElem? (i := 565) (by rfl), rfl⟩
set_option maxRecDepth 1000000 in
theorem jc_pck : Cond.code yJ3_checkIndex_8e157 cJ3_checkIndex_8e157 3 (some .int) ∈ TB := List.mem_filter.mpr ⟨List.mem_of_getElem? (i := 573) (by rfl), rfl⟩
theorem jf_38 : Cond.fieldLink RJ0 38 "java/lang/String" "COMPACT_STRINGS" "Z" ∈ TB := gW_TB (i := 553) (by decide +kernel) rfl
theorem jf_15 : Cond.fieldLink RJ0 15 "java/lang/String" "coder" "B" ∈ TB := gW_TB (i := 1777) (by decide +kernel) rfl
theorem jf_9 : Cond.fieldLink RJ0 9 "java/lang/String" "value" "[B" ∈ TB := gW_TB (i := 1776) (by decide +kernel) rfl
theorem jf_1053 : Cond.fieldLink RJ0 1053 "jdk/internal/util/Preconditions" "SIOOBE_FORMATTER" "Ljava/util/function/BiFunction;" ∈ TB := gW_TB (i := 569) (by decide +kernel) rfl
theorem jl_cod : Cond.methodLink RJ0 335 yJ0_coder_7d493 ∈ TB := gW_TB (i := 549) (by decide +kernel) rfl
theorem jl_lat : Cond.methodLink RJ0 492 yJ0_isLatin1_aae02 ∈ TB := gW_TB (i := 559) (by decide +kernel) rfl
theorem jl_lch : Cond.methodLink RJ0 495 yJ1_charAt_3b067 ∈ TB := gW_TB (i := 563) (by decide +kernel) rfl
theorem jl_chk : Cond.methodLink RJ1 9 yJ0_checkIndex_df160 ∈ TB := gW_TB (i := 566) (by decide +kernel) rfl
theorem jl_pck : Cond.methodLink RJ0 1059 yJ3_checkIndex_8e157 ∈ TB := gW_TB (i := 571) (by decide +kernel) rfl
theorem ji_len : Cond.instanceMethod yJ0_length_8abf5 ∈ TB := gW_TB (i := 546) (by decide +kernel) rfl
theorem js_len : Cond.selects RJ0 yJ0_length_8abf5 yJ0_length_8abf5 ∈ TB := gW_TB (i := 547) (by decide +kernel) rfl
theorem ji_chr : Cond.instanceMethod yJ0_charAt_5068e ∈ TB := gW_TB (i := 556) (by decide +kernel) rfl
theorem js_chr : Cond.selects RJ0 yJ0_charAt_5068e yJ0_charAt_5068e ∈ TB := gW_TB (i := 557) (by decide +kernel) rfl
theorem ji_cod : Cond.instanceMethod yJ0_coder_7d493 ∈ TB := gW_TB (i := 550) (by decide +kernel) rfl
theorem js_cod : Cond.selects RJ0 yJ0_coder_7d493 yJ0_coder_7d493 ∈ TB := gW_TB (i := 551) (by decide +kernel) rfl
theorem ji_lat : Cond.instanceMethod yJ0_isLatin1_aae02 ∈ TB := gW_TB (i := 560) (by decide +kernel) rfl
theorem js_lat : Cond.selects RJ0 yJ0_isLatin1_aae02 yJ0_isLatin1_aae02 ∈ TB := gW_TB (i := 561) (by decide +kernel) rfl
theorem jt_lch : Cond.static yJ1_charAt_3b067 ∈ TB := gW_TB (i := 564) (by decide +kernel) rfl
theorem jt_chk : Cond.static yJ0_checkIndex_df160 ∈ TB := gW_TB (i := 567) (by decide +kernel) rfl
theorem jt_pck : Cond.static yJ3_checkIndex_8e157 ∈ TB := gW_TB (i := 572) (by decide +kernel) rfl
theorem jn_S : Cond.initialized RJ0 ∈ TB := gW_TB (i := 107) (by decide +kernel) rfl
theorem jn_L : Cond.initialized RJ1 ∈ TB := gW_TB (i := 108) (by decide +kernel) rfl
theorem jn_P : Cond.initialized RJ3 ∈ TB := gW_TB (i := 109) (by decide +kernel) rfl
theorem jd_len_0 : decode cJ0_length_8abf5 0 = .ok (.aload_n 0, 1) := by decide +kernel
theorem jd_len_1 : decode cJ0_length_8abf5 1 = .ok (.getfield 9, 3) := by decide +kernel
theorem jd_len_4 : decode cJ0_length_8abf5 4 = .ok (.arraylength, 1) := by decide +kernel
theorem jd_len_5 : decode cJ0_length_8abf5 5 = .ok (.aload_n 0, 1) := by decide +kernel
theorem jd_len_6 : decode cJ0_length_8abf5 6 = .ok (.invokevirtual 335, 3) := by decide +kernel
theorem jd_len_9 : decode cJ0_length_8abf5 9 = .ok (.ishr, 1) := by decide +kernel
theorem jd_len_10 : decode cJ0_length_8abf5 10 = .ok (.ireturn, 1) := by decide +kernel
theorem jd_cod_0 : decode cJ0_coder_7d493 0 = .ok (.getstatic 38, 3) := by decide +kernel
theorem jd_cod_3 : decode cJ0_coder_7d493 3 = .ok (.ifCond .eq 10, 3) := by decide +kernel
theorem jd_cod_6 : decode cJ0_coder_7d493 6 = .ok (.aload_n 0, 1) := by decide +kernel
theorem jd_cod_7 : decode cJ0_coder_7d493 7 = .ok (.getfield 15, 3) := by decide +kernel
theorem jd_cod_10 : decode cJ0_coder_7d493 10 = .ok (.goto 4, 3) := by decide +kernel
theorem jd_cod_14 : decode cJ0_coder_7d493 14 = .ok (.ireturn, 1) := by decide +kernel
theorem jd_lat_0 : decode cJ0_isLatin1_aae02 0 = .ok (.getstatic 38, 3) := by decide +kernel
theorem jd_lat_3 : decode cJ0_isLatin1_aae02 3 = .ok (.ifCond .eq 14, 3) := by decide +kernel
theorem jd_lat_6 : decode cJ0_isLatin1_aae02 6 = .ok (.aload_n 0, 1) := by decide +kernel
theorem jd_lat_7 : decode cJ0_isLatin1_aae02 7 = .ok (.getfield 15, 3) := by decide +kernel
theorem jd_lat_10 : decode cJ0_isLatin1_aae02 10 = .ok (.ifCond .ne 7, 3) := by decide +kernel
theorem jd_lat_13 : decode cJ0_isLatin1_aae02 13 = .ok (.iconst 1, 1) := by decide +kernel
theorem jd_lat_14 : decode cJ0_isLatin1_aae02 14 = .ok (.goto 4, 3) := by decide +kernel
theorem jd_lat_18 : decode cJ0_isLatin1_aae02 18 = .ok (.ireturn, 1) := by decide +kernel
theorem jd_chr_0 : decode cJ0_charAt_5068e 0 = .ok (.aload_n 0, 1) := by decide +kernel
theorem jd_chr_1 : decode cJ0_charAt_5068e 1 = .ok (.invokevirtual 492, 3) := by decide +kernel
theorem jd_chr_4 : decode cJ0_charAt_5068e 4 = .ok (.ifCond .eq 12, 3) := by decide +kernel
theorem jd_chr_7 : decode cJ0_charAt_5068e 7 = .ok (.aload_n 0, 1) := by decide +kernel
theorem jd_chr_8 : decode cJ0_charAt_5068e 8 = .ok (.getfield 9, 3) := by decide +kernel
theorem jd_chr_11 : decode cJ0_charAt_5068e 11 = .ok (.iload_n 1, 1) := by decide +kernel
theorem jd_chr_12 : decode cJ0_charAt_5068e 12 = .ok (.invokestatic 495, 3) := by decide +kernel
theorem jd_chr_15 : decode cJ0_charAt_5068e 15 = .ok (.ireturn, 1) := by decide +kernel
theorem jd_chk_0 : decode cJ0_checkIndex_df160 0 = .ok (.iload_n 0, 1) := by decide +kernel
theorem jd_chk_1 : decode cJ0_checkIndex_df160 1 = .ok (.iload_n 1, 1) := by decide +kernel
theorem jd_chk_2 : decode cJ0_checkIndex_df160 2 = .ok (.getstatic 1053, 3) := by decide +kernel
theorem jd_chk_5 : decode cJ0_checkIndex_df160 5 = .ok (.invokestatic 1059, 3) := by decide +kernel
theorem jd_chk_8 : decode cJ0_checkIndex_df160 8 = .ok (.pop, 1) := by decide +kernel
theorem jd_chk_9 : decode cJ0_checkIndex_df160 9 = .ok (.return_, 1) := by decide +kernel
theorem jd_lch_0 : decode cJ1_charAt_3b067 0 = .ok (.iload_n 1, 1) := by decide +kernel
theorem jd_lch_1 : decode cJ1_charAt_3b067 1 = .ok (.aload_n 0, 1) := by decide +kernel
theorem jd_lch_2 : decode cJ1_charAt_3b067 2 = .ok (.arraylength, 1) := by decide +kernel
theorem jd_lch_3 : decode cJ1_charAt_3b067 3 = .ok (.invokestatic 9, 3) := by decide +kernel
theorem jd_lch_6 : decode cJ1_charAt_3b067 6 = .ok (.aload_n 0, 1) := by decide +kernel
theorem jd_lch_7 : decode cJ1_charAt_3b067 7 = .ok (.iload_n 1, 1) := by decide +kernel
theorem jd_lch_8 : decode cJ1_charAt_3b067 8 = .ok (.baload, 1) := by decide +kernel
theorem jd_lch_9 : decode cJ1_charAt_3b067 9 = .ok (.sipush 255, 3) := by decide +kernel
theorem jd_lch_12 : decode cJ1_charAt_3b067 12 = .ok (.iand, 1) := by decide +kernel
theorem jd_lch_13 : decode cJ1_charAt_3b067 13 = .ok (.i2c, 1) := by decide +kernel
theorem jd_lch_14 : decode cJ1_charAt_3b067 14 = .ok (.ireturn, 1) := by decide +kernel
theorem jd_pck_0 : decode cJ3_checkIndex_8e157 0 = .ok (.iload_n 0, 1) := by decide +kernel
theorem jd_pck_1 : decode cJ3_checkIndex_8e157 1 = .ok (.ifCond .lt 8, 3) := by decide +kernel
theorem jd_pck_4 : decode cJ3_checkIndex_8e157 4 = .ok (.iload_n 0, 1) := by decide +kernel
theorem jd_pck_5 : decode cJ3_checkIndex_8e157 5 = .ok (.iload_n 1, 1) := by decide +kernel
theorem jd_pck_6 : decode cJ3_checkIndex_8e157 6 = .ok (.if_icmp .lt 10, 3) := by decide +kernel
theorem jd_pck_16 : decode cJ3_checkIndex_8e157 16 = .ok (.iload_n 0, 1) := by decide +kernel
theorem jd_pck_17 : decode cJ3_checkIndex_8e157 17 = .ok (.ireturn, 1) := by decide +kernel
theorem sb_ok : ∀ i, i < 13 → sLn i = SLN.getD i 0 ∧ sLn i < 100 ∧ Int32.ofNat (sLn i) >>> ((0 : Int32) &&& 31) = Int32.ofNat (sLn i) ∧ ∀ j, j < sLn i → ((sCh i j &&& 255).toUInt32 % 65536).toInt32 = sCh i j ∧ narrow .char (.int (sCh i j)) = .int (sCh i j) := by decide +kernel
def vS2 (b0 : Nat) (sb adV : Nat → Nat) (U : State) (H : Heap) : Prop := vk_S 13 SLN SBY (fun i => sb (i + 1)) adV (fun q => b0 ≤ q) U H ∧ va_Z "java/lang/String" "COMPACT_STRINGS" "Z" (.int 1) (fun q => b0 ≤ q) U H ∧ va_Zq "jdk/internal/util/Preconditions" "SIOOBE_FORMATTER" "Ljava/util/function/BiFunction;" (fun q => b0 ≤ q) U H
theorem vS2_moved {b0 : Nat} {sb adV : Nat → Nat} {u U : State} {H : Heap} (hvm : u.vm.Alike U.vm) (h : vS2 b0 sb adV u H) : vS2 b0 sb adV U H := ⟨h.1.moved hvm, h.2.1.moved hvm, h.2.2.moved hvm⟩
theorem vS2_kept {b0 : Nat} {sb adV : Nat → Nat} {U : State} {H H1 : Heap} (h : vS2 b0 sb adV U H) (hq : ∀ a : Nat, a < H.size → ¬ b0 ≤ a → H1[a]? = H[a]?) : vS2 b0 sb adV U H1 := ⟨h.1.kept hq, h.2.1.kept hq, h.2.2.kept hq⟩
def Qp (x : Option Value) : Array Value → State → Outcome → State → Prop := fun _ st o t => o = .returned x ∧ t.heap = st.heap
section JC
variable {p : Program} {l : Launch} {e : Env} {R : Room} {s : State} {m : MethodId} {args : Array Value} {below : List Frame} {meth : Method} {c : Code} {H : Heap} {locs : List Loc} {cells slots : Nat} {Q : State → Prop} {pc : Nat} {ls : Array Slot} {st0 rest : List Value}
/-- a call that writes nothing -/
theorem pr_call {x : Option Value} {a : Array Value} (hr : va_Run p l e R s m args below meth c H locs cells slots 0 0 (F0 m pc ls st0) rest (Qp x a) (fun _ => False)) (kk : ∀ L : List Loc, (∀ q ∈ L, q ∈ locs) → W p l e R s m args below meth c H L cells slots Q (F0 m (pc + 3) ls (x.toList ++ rest))) : W p l e R s m args below meth c H locs cells slots Q (F0 m pc ls st0) := by
  intro T hT X
  obtain ⟨v', st₀, t, T', L1, h0, X', hL, e1, e2, ⟨hv, hh⟩, st⟩ := hr T hT X
  cases hv
  obtain ⟨t2, a1, b1⟩ := kk (locs ++ L1) (fun q hq => by
    rcases List.mem_append.mp hq with h | h
    · exact h
    · exact (hL q h).elim) T' (e1.trans (hh.trans h0)) X'
  exact ⟨t2, st t2 a1, b1⟩
end JC
theorem ps_blind {b0 : Nat} {sb adV : Nat → Nat} {as : List Value} : FrameBlind (va_Pc as (fun U => vS2 b0 sb adV U U.heap)) := fun _ _ g mk q => ⟨q.1, vS2_moved (Vm.Alike.refl _) q.2⟩
theorem c_cod (l : Launch) {b0 : Nat} {sb adV : Nat → Nat} {i : Nat} (hi : i < 13) : Met l yJ0_coder_7d493 (wJ yJ0_coder_7d493 cJ0_coder_7d493 1 (some .byte)) { frames := 0, cells := 0, slots := 0, locals := 0 } (va_Pc [.ref (sb (i + 1))] (fun U => vS2 b0 sb adV U U.heap)) (Qp (some (.int 0))) 0 0 (fun _ => False) := by
  refine Met.ofW (cc := cJ0_coder_7d493) (maxL := 1) (ret := (some .byte)) (by decide) rfl ?_
  intro p e s m args below meth c s₁ B hml hv
  obtain ⟨rfl, hE⟩ := hv
  have hx := B.exec
  have hb := B.bytes
  have hr := B.returns
  have hts := atoms_spec (ws := wJ yJ0_coder_7d493 cJ0_coder_7d493 1 (some .byte)) B.pre
  have htB : ∀ w ∈ TB, w.before ([.ref (sb (i + 1))] : List Value).toArray s = true := fun w hw => hts w (List.mem_cons_of_mem _ hw)
  have hown : s.vm.findClass RJ0 = some m.cls := findClass_of_methodNamed B.named
  have hlocks := B.notSynchronized
  have hS : va_S (fun q => b0 ≤ q) s.heap s.heap [] := va_S.rf
  have hl := lv_entry ([.ref (sb (i + 1))]) (n := 1) (Nat.le_of_ble_eq_true rfl)
  rw [lg_entry_eq]
  generalize (lg_sl ([.ref (sb (i + 1))]) ++ List.replicate (1 - (lg_sl ([.ref (sb (i + 1))])).length) Slot.unset).toArray = ls at hl ⊢
  have hl : lv_has ls 1 [(0, .ref (sb (i + 1)))] := hl
  obtain ⟨hK, hZ, hZq⟩ := hE
  refine va_gets hx hb hZ hS hown (htB _ jf_38) (fun _ h9 => h9) jd_cod_0 ?_
  refine lv_if_eq hx hb jd_cod_3 (tgt := 13) rfl (fun h => absurd h (by decide)) (fun _ => ?_)
  refine lv_aload_n hx hb jd_cod_6 rfl (lv_at hl 0 rfl) ?_
  refine vk_getf hx hb (hK.1 i hi).2.1 hS hown (htB _ jf_15) (fun _ h9 => h9) jd_cod_7 ?_
  refine lv_goto hx hb jd_cod_10 (tgt := 14) rfl ?_
  exact W.zret (ty := .byte) (v := 0) hx hb hr (by decide) (fun t ht hW => ⟨rfl, ht⟩) (fun q h => by cases h) jd_cod_14
theorem c_lat (l : Launch) {b0 : Nat} {sb adV : Nat → Nat} {i : Nat} (hi : i < 13) : Met l yJ0_isLatin1_aae02 (wJ yJ0_isLatin1_aae02 cJ0_isLatin1_aae02 1 (some .boolean)) { frames := 0, cells := 0, slots := 0, locals := 0 } (va_Pc [.ref (sb (i + 1))] (fun U => vS2 b0 sb adV U U.heap)) (Qp (some (.int 1))) 0 0 (fun _ => False) := by
  refine Met.ofW (cc := cJ0_isLatin1_aae02) (maxL := 1) (ret := (some .boolean)) (by decide) rfl ?_
  intro p e s m args below meth c s₁ B hml hv
  obtain ⟨rfl, hE⟩ := hv
  have hx := B.exec
  have hb := B.bytes
  have hr := B.returns
  have hts := atoms_spec (ws := wJ yJ0_isLatin1_aae02 cJ0_isLatin1_aae02 1 (some .boolean)) B.pre
  have htB : ∀ w ∈ TB, w.before ([.ref (sb (i + 1))] : List Value).toArray s = true := fun w hw => hts w (List.mem_cons_of_mem _ hw)
  have hown : s.vm.findClass RJ0 = some m.cls := findClass_of_methodNamed B.named
  have hlocks := B.notSynchronized
  have hS : va_S (fun q => b0 ≤ q) s.heap s.heap [] := va_S.rf
  have hl := lv_entry ([.ref (sb (i + 1))]) (n := 1) (Nat.le_of_ble_eq_true rfl)
  rw [lg_entry_eq]
  generalize (lg_sl ([.ref (sb (i + 1))]) ++ List.replicate (1 - (lg_sl ([.ref (sb (i + 1))])).length) Slot.unset).toArray = ls at hl ⊢
  have hl : lv_has ls 1 [(0, .ref (sb (i + 1)))] := hl
  obtain ⟨hK, hZ, hZq⟩ := hE
  refine va_gets hx hb hZ hS hown (htB _ jf_38) (fun _ h9 => h9) jd_lat_0 ?_
  refine lv_if_eq hx hb jd_lat_3 (tgt := 17) rfl (fun h => absurd h (by decide)) (fun _ => ?_)
  refine lv_aload_n hx hb jd_lat_6 rfl (lv_at hl 0 rfl) ?_
  refine vk_getf hx hb (hK.1 i hi).2.1 hS hown (htB _ jf_15) (fun _ h9 => h9) jd_lat_7 ?_
  refine lv_if_ne hx hb jd_lat_10 (tgt := 17) rfl (fun h => absurd rfl h) (fun _ => ?_)
  refine lv_iconst hx hb jd_lat_13 rfl ?_
  refine lv_goto hx hb jd_lat_14 (tgt := 18) rfl ?_
  exact W.zret (ty := .boolean) (v := 1) hx hb hr (by decide) (fun t ht hW => ⟨rfl, ht⟩) (fun q h => by cases h) jd_lat_18
theorem c_pck_n (l : Launch) {b0 : Nat} {sb adV : Nat → Nat} {a n : Int32}  (h1 : ¬ a < 0) (h2 : a < n) : Met l yJ3_checkIndex_8e157 (wJ yJ3_checkIndex_8e157 cJ3_checkIndex_8e157 3 (some .int)) { frames := 0, cells := 0, slots := 0, locals := 0 } (va_Pc [.int a, .int n, .null] (fun U => vS2 b0 sb adV U U.heap)) (Qp (some (.int a))) 0 0 (fun _ => False) := by
  refine Met.ofW (cc := cJ3_checkIndex_8e157) (maxL := 3) (ret := (some .int)) (by decide) rfl ?_
  intro p e s m args below meth c s₁ B hml hv
  obtain ⟨rfl, hE⟩ := hv
  have hx := B.exec
  have hb := B.bytes
  have hr := B.returns
  have hts := atoms_spec (ws := wJ yJ3_checkIndex_8e157 cJ3_checkIndex_8e157 3 (some .int)) B.pre
  have htB : ∀ w ∈ TB, w.before ([.int a, .int n, .null] : List Value).toArray s = true := fun w hw => hts w (List.mem_cons_of_mem _ hw)
  have hown : s.vm.findClass RJ3 = some m.cls := findClass_of_methodNamed B.named
  have hlocks := B.notSynchronized
  have hS : va_S (fun q => b0 ≤ q) s.heap s.heap [] := va_S.rf
  have hl := lv_entry ([.int a, .int n, .null]) (n := 3) (Nat.le_of_ble_eq_true rfl)
  rw [lg_entry_eq]
  generalize (lg_sl ([.int a, .int n, .null]) ++ List.replicate (3 - (lg_sl ([.int a, .int n, .null])).length) Slot.unset).toArray = ls at hl ⊢
  have hl : lv_has ls 3 [(0, .int a), (1, .int n), (2, .null)] := hl
  refine lv_iload_n hx hb jd_pck_0 rfl (lv_at hl 0 rfl) ?_
  refine lv_if_lt hx hb jd_pck_1 (tgt := 9) rfl (fun h => absurd h h1) (fun _ => ?_)
  refine lv_iload_n hx hb jd_pck_4 rfl (lv_at hl 0 rfl) ?_
  refine lv_iload_n hx hb jd_pck_5 rfl (lv_at hl 1 rfl) ?_
  refine lv_icmp_lt hx hb jd_pck_6 (tgt := 16) rfl (fun _ => ?_) (fun h => absurd h2 h)
  refine lv_iload_n hx hb jd_pck_16 rfl (lv_at hl 0 rfl) ?_
  exact W.iret (v := a) hx hb hr (fun t ht hW => ⟨rfl, ht⟩) (fun q h => by cases h) jd_pck_17
theorem c_pck_r (l : Launch) {b0 : Nat} {sb adV : Nat → Nat} {a n : Int32} {q : Nat} (h1 : ¬ a < 0) (h2 : a < n) : Met l yJ3_checkIndex_8e157 (wJ yJ3_checkIndex_8e157 cJ3_checkIndex_8e157 3 (some .int)) { frames := 0, cells := 0, slots := 0, locals := 0 } (va_Pc [.int a, .int n, .ref q] (fun U => vS2 b0 sb adV U U.heap)) (Qp (some (.int a))) 0 0 (fun _ => False) := by
  refine Met.ofW (cc := cJ3_checkIndex_8e157) (maxL := 3) (ret := (some .int)) (by decide) rfl ?_
  intro p e s m args below meth c s₁ B hml hv
  obtain ⟨rfl, hE⟩ := hv
  have hx := B.exec
  have hb := B.bytes
  have hr := B.returns
  have hts := atoms_spec (ws := wJ yJ3_checkIndex_8e157 cJ3_checkIndex_8e157 3 (some .int)) B.pre
  have htB : ∀ w ∈ TB, w.before ([.int a, .int n, .ref q] : List Value).toArray s = true := fun w hw => hts w (List.mem_cons_of_mem _ hw)
  have hown : s.vm.findClass RJ3 = some m.cls := findClass_of_methodNamed B.named
  have hlocks := B.notSynchronized
  have hS : va_S (fun q => b0 ≤ q) s.heap s.heap [] := va_S.rf
  have hl := lv_entry ([.int a, .int n, .ref q]) (n := 3) (Nat.le_of_ble_eq_true rfl)
  rw [lg_entry_eq]
  generalize (lg_sl ([.int a, .int n, .ref q]) ++ List.replicate (3 - (lg_sl ([.int a, .int n, .ref q])).length) Slot.unset).toArray = ls at hl ⊢
  have hl : lv_has ls 3 [(0, .int a), (1, .int n), (2, .ref q)] := hl
  refine lv_iload_n hx hb jd_pck_0 rfl (lv_at hl 0 rfl) ?_
  refine lv_if_lt hx hb jd_pck_1 (tgt := 9) rfl (fun h => absurd h h1) (fun _ => ?_)
  refine lv_iload_n hx hb jd_pck_4 rfl (lv_at hl 0 rfl) ?_
  refine lv_iload_n hx hb jd_pck_5 rfl (lv_at hl 1 rfl) ?_
  refine lv_icmp_lt hx hb jd_pck_6 (tgt := 16) rfl (fun _ => ?_) (fun h => absurd h2 h)
  refine lv_iload_n hx hb jd_pck_16 rfl (lv_at hl 0 rfl) ?_
  exact W.iret (v := a) hx hb hr (fun t ht hW => ⟨rfl, ht⟩) (fun q h => by cases h) jd_pck_17
theorem c_chk (l : Launch) {b0 : Nat} {sb adV : Nat → Nat} {a n : Int32} (h1 : ¬ a < 0) (h2 : a < n) : Met l yJ0_checkIndex_df160 (wJ yJ0_checkIndex_df160 cJ0_checkIndex_df160 2 none) { frames := 1, cells := 0, slots := 0, locals := 40 } (va_Pc [.int a, .int n] (fun U => vS2 b0 sb adV U U.heap)) (Qp none) 0 0 (fun _ => False) := by
  refine Met.ofW (cc := cJ0_checkIndex_df160) (maxL := 2) (ret := none) (by decide) rfl ?_
  intro p e s m args below meth c s₁ B hml hv
  obtain ⟨rfl, hE⟩ := hv
  have hx := B.exec
  have hb := B.bytes
  have hr := B.returns
  have hts := atoms_spec (ws := wJ yJ0_checkIndex_df160 cJ0_checkIndex_df160 2 none) B.pre
  have htB : ∀ w ∈ TB, w.before ([.int a, .int n] : List Value).toArray s = true := fun w hw => hts w (List.mem_cons_of_mem _ hw)
  have hown : s.vm.findClass RJ0 = some m.cls := findClass_of_methodNamed B.named
  have hlocks := B.notSynchronized
  have hS : va_S (fun q => b0 ≤ q) s.heap s.heap [] := va_S.rf
  have hl := lv_entry ([.int a, .int n]) (n := 2) (Nat.le_of_ble_eq_true rfl)
  rw [lg_entry_eq]
  generalize (lg_sl ([.int a, .int n]) ++ List.replicate (2 - (lg_sl ([.int a, .int n])).length) Slot.unset).toArray = ls at hl ⊢
  have hl : lv_has ls 2 [(0, .int a), (1, .int n)] := hl
  obtain ⟨hK, hZ, hZq⟩ := id hE
  refine lv_iload_n hx hb jd_chk_0 rfl (lv_at hl 0 rfl) ?_
  refine lv_iload_n hx hb jd_chk_1 rfl (lv_at hl 1 rfl) ?_
  rcases hZq with hz | ⟨q, hz⟩
  ·
    refine va_gets hx hb hz hS hown (htB _ jf_1053) (fun _ h9 => h9) jd_chk_2 ?_
    refine pr_call (va_runS (As := [.int a, .int n, .null]) (rest := []) (g := F0 m 5 ls _) ⟨hx, hb, hml, hown, htB⟩ (c_pck_n l (sb := sb) (adV := adV) (b0 := b0) h1 h2) ⟨callB_of 3 htB (wJ_good jc_pck) rfl rfl rfl (htB _ jn_P) (htB _ jl_pck) ⟨by decide, by decide, by decide +kernel⟩ ⟨by decide, by decide⟩, htB _ jt_pck⟩ ⟨ps_blind, fun U hU hW => ⟨rfl, by show vS2 b0 sb adV U U.heap; rw [hU]; exact vS2_moved hW.alike hE⟩⟩ rfl rfl hl.1 rfl (lv_room (by decide)) jd_chk_5 ⟨Nat.le_refl _, Nat.le_refl _⟩) (fun L hL => ?_)
    refine lv_pop hx hb jd_chk_8 rfl ?_
    exact W.vret hx hb hr (fun t ht hW => ⟨rfl, ht⟩) (fun q h => by cases hL q h) jd_chk_9
  ·
    refine va_gets hx hb hz hS hown (htB _ jf_1053) (fun _ h9 => h9) jd_chk_2 ?_
    refine pr_call (va_runS (As := [.int a, .int n, .ref q]) (rest := []) (g := F0 m 5 ls _) ⟨hx, hb, hml, hown, htB⟩ (c_pck_r l (sb := sb) (adV := adV) (b0 := b0) h1 h2) ⟨callB_of 3 htB (wJ_good jc_pck) rfl rfl rfl (htB _ jn_P) (htB _ jl_pck) ⟨by decide, by decide, by decide +kernel⟩ ⟨by decide, by decide⟩, htB _ jt_pck⟩ ⟨ps_blind, fun U hU hW => ⟨rfl, by show vS2 b0 sb adV U U.heap; rw [hU]; exact vS2_moved hW.alike hE⟩⟩ rfl rfl hl.1 rfl (lv_room (by decide)) jd_chk_5 ⟨Nat.le_refl _, Nat.le_refl _⟩) (fun L hL => ?_)
    refine lv_pop hx hb jd_chk_8 rfl ?_
    exact W.vret hx hb hr (fun t ht hW => ⟨rfl, ht⟩) (fun q h => by cases hL q h) jd_chk_9
theorem c_lch (l : Launch) {b0 : Nat} {sb adV : Nat → Nat} {i : Nat} {j : Int32} (hi : i < 13) (hj : ¬ j < 0) (hj2 : j < Int32.ofNat (sLn i)) (hj3 : j.toNatClampNeg < sLn i) : Met l yJ1_charAt_3b067 (wJ yJ1_charAt_3b067 cJ1_charAt_3b067 2 (some .char)) { frames := 2, cells := 0, slots := 0, locals := 80 } (va_Pc [.ref (adV i), .int j] (fun U => vS2 b0 sb adV U U.heap)) (Qp (some (.int (sCh i j.toNatClampNeg)))) 0 0 (fun _ => False) := by
  refine Met.ofW (cc := cJ1_charAt_3b067) (maxL := 2) (ret := (some .char)) (by decide) rfl ?_
  intro p e s m args below meth c s₁ B hml hv
  obtain ⟨rfl, hE⟩ := hv
  have hx := B.exec
  have hb := B.bytes
  have hr := B.returns
  have hts := atoms_spec (ws := wJ yJ1_charAt_3b067 cJ1_charAt_3b067 2 (some .char)) B.pre
  have htB : ∀ w ∈ TB, w.before ([.ref (adV i), .int j] : List Value).toArray s = true := fun w hw => hts w (List.mem_cons_of_mem _ hw)
  have hown : s.vm.findClass RJ1 = some m.cls := findClass_of_methodNamed B.named
  have hlocks := B.notSynchronized
  have hS : va_S (fun q => b0 ≤ q) s.heap s.heap [] := va_S.rf
  have hl := lv_entry ([.ref (adV i), .int j]) (n := 2) (Nat.le_of_ble_eq_true rfl)
  rw [lg_entry_eq]
  generalize (lg_sl ([.ref (adV i), .int j]) ++ List.replicate (2 - (lg_sl ([.ref (adV i), .int j])).length) Slot.unset).toArray = ls at hl ⊢
  have hl : lv_has ls 2 [(0, .ref (adV i)), (1, .int j)] := hl
  obtain ⟨hK, hZ, hZq⟩ := id hE
  obtain ⟨q1, q2, q3, q4⟩ := sb_ok i hi
  obtain ⟨q5, q6⟩ := q4 _ hj3
  refine lv_iload_n hx hb jd_lch_0 rfl (lv_at hl 1 rfl) ?_
  refine lv_aload_n hx hb jd_lch_1 rfl (lv_at hl 0 rfl) ?_
  refine va_tlen hx hb (hK.1 i hi).2.2.2 hS (v := Int32.ofNat (sLn i)) (by rw [q1]) jd_lch_2 ?_
  refine pr_call (va_runS (As := [.int j, .int (Int32.ofNat (sLn i))]) (rest := []) (g := F0 m 3 ls _) ⟨hx, hb, hml, hown, htB⟩ (c_chk l (sb := sb) (adV := adV) (b0 := b0) hj hj2) ⟨callB_of 2 htB (wJ_good jc_chk) rfl rfl rfl (htB _ jn_S) (htB _ jl_chk) ⟨by decide, by decide, by decide +kernel⟩ ⟨by decide, by decide⟩, htB _ jt_chk⟩ ⟨ps_blind, fun U hU hW => ⟨rfl, by show vS2 b0 sb adV U U.heap; rw [hU]; exact vS2_moved hW.alike hE⟩⟩ rfl rfl hl.1 rfl (lv_room (by decide)) jd_lch_3 ⟨Nat.le_refl _, Nat.le_refl _⟩) (fun L hL => ?_)
  refine lv_aload_n hx hb jd_lch_6 rfl (lv_at hl 0 rfl) ?_
  refine lv_iload_n hx hb jd_lch_7 rfl (lv_at hl 1 rfl) ?_
  refine va_tb hx hb (hK.1 i hi).2.2.2 ⟨Nat.le_refl _, fun _ _ _ => rfl, fun q h => by cases hL q h⟩ (i := j) (v := .int (sCh i j.toNatClampNeg)) (by rw [← q1]; intro z; rcases z with z | z <;> first | exact hj z | omega) rfl jd_lch_8 ?_
  refine lv_sipush hx hb jd_lch_9 (v := 255) (by decide) ?_
  refine lv_iand hx hb jd_lch_12 ?_
  refine lv_i2c hx hb jd_lch_13 q5 ?_
  exact W.zret (ty := .char) (v := sCh i j.toNatClampNeg) hx hb hr q6 (fun t ht hW => ⟨rfl, ht⟩) (fun q h => by cases hL q h) jd_lch_14
theorem c_len (l : Launch) {b0 : Nat} {sb adV : Nat → Nat} {i : Nat} (hi : i < 13) : Met l yJ0_length_8abf5 (wJ yJ0_length_8abf5 cJ0_length_8abf5 1 (some .int)) { frames := 1, cells := 0, slots := 0, locals := 40 } (va_Pc [.ref (sb (i + 1))] (fun U => vS2 b0 sb adV U U.heap)) (Qp (some (.int (Int32.ofNat (sLn i))))) 0 0 (fun _ => False) := by
  refine Met.ofW (cc := cJ0_length_8abf5) (maxL := 1) (ret := (some .int)) (by decide) rfl ?_
  intro p e s m args below meth c s₁ B hml hv
  obtain ⟨rfl, hE⟩ := hv
  have hx := B.exec
  have hb := B.bytes
  have hr := B.returns
  have hts := atoms_spec (ws := wJ yJ0_length_8abf5 cJ0_length_8abf5 1 (some .int)) B.pre
  have htB : ∀ w ∈ TB, w.before ([.ref (sb (i + 1))] : List Value).toArray s = true := fun w hw => hts w (List.mem_cons_of_mem _ hw)
  have hown : s.vm.findClass RJ0 = some m.cls := findClass_of_methodNamed B.named
  have hlocks := B.notSynchronized
  have hS : va_S (fun q => b0 ≤ q) s.heap s.heap [] := va_S.rf
  have hl := lv_entry ([.ref (sb (i + 1))]) (n := 1) (Nat.le_of_ble_eq_true rfl)
  rw [lg_entry_eq]
  generalize (lg_sl ([.ref (sb (i + 1))]) ++ List.replicate (1 - (lg_sl ([.ref (sb (i + 1))])).length) Slot.unset).toArray = ls at hl ⊢
  have hl : lv_has ls 1 [(0, .ref (sb (i + 1)))] := hl
  obtain ⟨hK, hZ, hZq⟩ := id hE
  obtain ⟨q1, q2, q3, q4⟩ := sb_ok i hi
  refine lv_aload_n hx hb jd_len_0 rfl (lv_at hl 0 rfl) ?_
  refine vk_getf hx hb (hK.1 i hi).2.2.1 hS hown (htB _ jf_9) (fun _ h9 => h9) jd_len_1 ?_
  refine va_tlen hx hb (hK.1 i hi).2.2.2 hS (v := Int32.ofNat (sLn i)) (by rw [q1]) jd_len_4 ?_
  refine lv_aload_n hx hb jd_len_5 rfl (lv_at hl 0 rfl) ?_
  refine pr_call (va_runV (As := []) (rest := [.int (Int32.ofNat (sLn i))]) (C := RJ0) (b := sb (i + 1)) (g := F0 m 6 ls _) ⟨hx, hb, hml, hown, htB⟩ (c_cod l (sb := sb) (adV := adV) (b0 := b0) hi) ⟨callB_of 0 htB (wJ_good jc_cod) rfl rfl rfl (htB _ jn_S) (htB _ jl_cod) ⟨by decide, by decide, by decide +kernel⟩ ⟨by decide, by decide⟩, htB _ ji_cod, htB _ js_cod⟩ ⟨ps_blind, vk_recv (adK := fun i => sb (i + 1)) (i := i) hK hi hS, fun U hU hW => ⟨rfl, by show vS2 b0 sb adV U U.heap; rw [hU]; exact vS2_moved hW.alike hE⟩⟩ rfl rfl hl.1 rfl (lv_room (show (1 : Nat) ≤ 8 by decide)) jd_len_6 ⟨Nat.le_refl _, Nat.le_refl _⟩) (fun L hL => ?_)
  refine lv_ishr hx hb jd_len_9 ?_
  rw [q3]
  exact W.iret (v := Int32.ofNat (sLn i)) hx hb hr (fun t ht hW => ⟨rfl, ht⟩) (fun q h => by cases hL q h) jd_len_10
theorem c_chr (l : Launch) {b0 : Nat} {sb adV : Nat → Nat} {i : Nat} {j : Int32} (hi : i < 13) (hj : ¬ j < 0) (hj2 : j < Int32.ofNat (sLn i)) (hj3 : j.toNatClampNeg < sLn i) : Met l yJ0_charAt_5068e (wJ yJ0_charAt_5068e cJ0_charAt_5068e 2 (some .char)) { frames := 3, cells := 0, slots := 0, locals := 120 } (va_Pc [.ref (sb (i + 1)), .int j] (fun U => vS2 b0 sb adV U U.heap)) (Qp (some (.int (sCh i j.toNatClampNeg)))) 0 0 (fun _ => False) := by
  refine Met.ofW (cc := cJ0_charAt_5068e) (maxL := 2) (ret := (some .char)) (by decide) rfl ?_
  intro p e s m args below meth c s₁ B hml hv
  obtain ⟨rfl, hE⟩ := hv
  have hx := B.exec
  have hb := B.bytes
  have hr := B.returns
  have hts := atoms_spec (ws := wJ yJ0_charAt_5068e cJ0_charAt_5068e 2 (some .char)) B.pre
  have htB : ∀ w ∈ TB, w.before ([.ref (sb (i + 1)), .int j] : List Value).toArray s = true := fun w hw => hts w (List.mem_cons_of_mem _ hw)
  have hown : s.vm.findClass RJ0 = some m.cls := findClass_of_methodNamed B.named
  have hlocks := B.notSynchronized
  have hS : va_S (fun q => b0 ≤ q) s.heap s.heap [] := va_S.rf
  have hl := lv_entry ([.ref (sb (i + 1)), .int j]) (n := 2) (Nat.le_of_ble_eq_true rfl)
  rw [lg_entry_eq]
  generalize (lg_sl ([.ref (sb (i + 1)), .int j]) ++ List.replicate (2 - (lg_sl ([.ref (sb (i + 1)), .int j])).length) Slot.unset).toArray = ls at hl ⊢
  have hl : lv_has ls 2 [(0, .ref (sb (i + 1))), (1, .int j)] := hl
  obtain ⟨hK, hZ, hZq⟩ := id hE
  obtain ⟨q1, q2, q3, q4⟩ := sb_ok i hi
  obtain ⟨q5, q6⟩ := q4 _ hj3
  refine lv_aload_n hx hb jd_chr_0 rfl (lv_at hl 0 rfl) ?_
  refine pr_call (va_runV (As := []) (rest := []) (C := RJ0) (b := sb (i + 1)) (g := F0 m 1 ls _) ⟨hx, hb, hml, hown, htB⟩ (c_lat l (sb := sb) (adV := adV) (b0 := b0) hi) ⟨callB_of 0 htB (wJ_good jc_lat) rfl rfl rfl (htB _ jn_S) (htB _ jl_lat) ⟨by decide, by decide, by decide +kernel⟩ ⟨by decide, by decide⟩, htB _ ji_lat, htB _ js_lat⟩ ⟨ps_blind, vk_recv (adK := fun i => sb (i + 1)) (i := i) hK hi hS, fun U hU hW => ⟨rfl, by show vS2 b0 sb adV U U.heap; rw [hU]; exact vS2_moved hW.alike hE⟩⟩ rfl rfl hl.1 rfl (lv_room (by decide)) jd_chr_1 ⟨Nat.le_refl _, Nat.le_refl _⟩) (fun L hL => ?_)
  have hS2 : va_S (fun q => b0 ≤ q) s.heap s.heap L := ⟨Nat.le_refl _, fun _ _ _ => rfl, fun q h => by cases hL q h⟩
  refine lv_if_eq hx hb jd_chr_4 (tgt := 16) rfl (fun h => absurd h (by decide)) (fun _ => ?_)
  refine lv_aload_n hx hb jd_chr_7 rfl (lv_at hl 0 rfl) ?_
  refine vk_getf hx hb (hK.1 i hi).2.2.1 hS2 hown (htB _ jf_9) (fun _ h9 => h9) jd_chr_8 ?_
  refine lv_iload_n hx hb jd_chr_11 rfl (lv_at hl 1 rfl) ?_
  refine pr_call (va_runS (As := [.ref (adV i), .int j]) (rest := []) (g := F0 m 12 ls _) ⟨hx, hb, hml, hown, htB⟩ (c_lch l (sb := sb) (adV := adV) (b0 := b0) hi hj hj2 hj3) ⟨callB_of 2 htB (wJ_good jc_lch) rfl rfl rfl (htB _ jn_L) (htB _ jl_lch) ⟨by decide, by decide, by decide +kernel⟩ ⟨by decide, by decide⟩, htB _ jt_lch⟩ ⟨ps_blind, fun U hU hW => ⟨rfl, by show vS2 b0 sb adV U U.heap; rw [hU]; exact vS2_moved hW.alike hE⟩⟩ rfl rfl hl.1 rfl (lv_room (by decide)) jd_chr_12 ⟨Nat.le_refl _, Nat.le_refl _⟩) (fun L2 hL2 => ?_)
  exact W.zret (ty := .char) (v := sCh i j.toNatClampNeg) hx hb hr q6 (fun t ht hW => ⟨rfl, ht⟩) (fun q h => by cases hL q (hL2 q h)) jd_chr_15
