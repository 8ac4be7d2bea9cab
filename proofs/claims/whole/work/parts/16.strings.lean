/-! String.length and charAt of the four words: the library's own code, walked -/
theorem dj_coder_0 : decode cJ0_coder_7d493 0 = .ok (.getstatic 38, 3) := by decide +kernel
theorem dj_coder_3 : decode cJ0_coder_7d493 3 = .ok (.ifCond .eq 10, 3) := by decide +kernel
theorem dj_coder_6 : decode cJ0_coder_7d493 6 = .ok (.aload_n 0, 1) := by decide +kernel
theorem dj_coder_7 : decode cJ0_coder_7d493 7 = .ok (.getfield 15, 3) := by decide +kernel
theorem dj_coder_10 : decode cJ0_coder_7d493 10 = .ok (.goto 4, 3) := by decide +kernel
theorem dj_coder_13 : decode cJ0_coder_7d493 13 = .ok (.iconst 1, 1) := by decide +kernel
theorem dj_coder_14 : decode cJ0_coder_7d493 14 = .ok (.ireturn, 1) := by decide +kernel
set_option maxRecDepth 100000 in
theorem jc_coder : Cond.code yJ0_coder_7d493 cJ0_coder_7d493 1 (some .byte) ∈ zU := zU_mem (i := 562) rfl rfl
theorem dj_isLatin1_0 : decode cJ0_isLatin1_aae02 0 = .ok (.getstatic 38, 3) := by decide +kernel
theorem dj_isLatin1_3 : decode cJ0_isLatin1_aae02 3 = .ok (.ifCond .eq 14, 3) := by decide +kernel
theorem dj_isLatin1_6 : decode cJ0_isLatin1_aae02 6 = .ok (.aload_n 0, 1) := by decide +kernel
theorem dj_isLatin1_7 : decode cJ0_isLatin1_aae02 7 = .ok (.getfield 15, 3) := by decide +kernel
theorem dj_isLatin1_10 : decode cJ0_isLatin1_aae02 10 = .ok (.ifCond .ne 7, 3) := by decide +kernel
theorem dj_isLatin1_13 : decode cJ0_isLatin1_aae02 13 = .ok (.iconst 1, 1) := by decide +kernel
theorem dj_isLatin1_14 : decode cJ0_isLatin1_aae02 14 = .ok (.goto 4, 3) := by decide +kernel
theorem dj_isLatin1_17 : decode cJ0_isLatin1_aae02 17 = .ok (.iconst 0, 1) := by decide +kernel
theorem dj_isLatin1_18 : decode cJ0_isLatin1_aae02 18 = .ok (.ireturn, 1) := by decide +kernel
set_option maxRecDepth 100000 in
theorem jc_isLatin1 : Cond.code yJ0_isLatin1_aae02 cJ0_isLatin1_aae02 1 (some .boolean) ∈ zU := zU_mem (i := 572) rfl rfl
theorem dj_length_0 : decode cJ0_length_8abf5 0 = .ok (.aload_n 0, 1) := by decide +kernel
theorem dj_length_1 : decode cJ0_length_8abf5 1 = .ok (.getfield 9, 3) := by decide +kernel
theorem dj_length_4 : decode cJ0_length_8abf5 4 = .ok (.arraylength, 1) := by decide +kernel
theorem dj_length_5 : decode cJ0_length_8abf5 5 = .ok (.aload_n 0, 1) := by decide +kernel
theorem dj_length_6 : decode cJ0_length_8abf5 6 = .ok (.invokevirtual 335, 3) := by decide +kernel
theorem dj_length_9 : decode cJ0_length_8abf5 9 = .ok (.ishr, 1) := by decide +kernel
theorem dj_length_10 : decode cJ0_length_8abf5 10 = .ok (.ireturn, 1) := by decide +kernel
set_option maxRecDepth 100000 in
theorem jc_length : Cond.code yJ0_length_8abf5 cJ0_length_8abf5 1 (some .int) ∈ zU := zU_mem (i := 558) rfl rfl
theorem dj_charAt_0 : decode cJ0_charAt_5068e 0 = .ok (.aload_n 0, 1) := by decide +kernel
theorem dj_charAt_1 : decode cJ0_charAt_5068e 1 = .ok (.invokevirtual 492, 3) := by decide +kernel
theorem dj_charAt_4 : decode cJ0_charAt_5068e 4 = .ok (.ifCond .eq 12, 3) := by decide +kernel
theorem dj_charAt_7 : decode cJ0_charAt_5068e 7 = .ok (.aload_n 0, 1) := by decide +kernel
theorem dj_charAt_8 : decode cJ0_charAt_5068e 8 = .ok (.getfield 9, 3) := by decide +kernel
theorem dj_charAt_11 : decode cJ0_charAt_5068e 11 = .ok (.iload_n 1, 1) := by decide +kernel
theorem dj_charAt_12 : decode cJ0_charAt_5068e 12 = .ok (.invokestatic 495, 3) := by decide +kernel
theorem dj_charAt_15 : decode cJ0_charAt_5068e 15 = .ok (.ireturn, 1) := by decide +kernel
theorem dj_charAt_16 : decode cJ0_charAt_5068e 16 = .ok (.aload_n 0, 1) := by decide +kernel
theorem dj_charAt_17 : decode cJ0_charAt_5068e 17 = .ok (.getfield 9, 3) := by decide +kernel
theorem dj_charAt_20 : decode cJ0_charAt_5068e 20 = .ok (.iload_n 1, 1) := by decide +kernel
theorem dj_charAt_21 : decode cJ0_charAt_5068e 21 = .ok (.invokestatic 498, 3) := by decide +kernel
theorem dj_charAt_24 : decode cJ0_charAt_5068e 24 = .ok (.ireturn, 1) := by decide +kernel
set_option maxRecDepth 100000 in
theorem jc_charAt : Cond.code yJ0_charAt_5068e cJ0_charAt_5068e 2 (some .char) ∈ zU := zU_mem (i := 568) rfl rfl
theorem dj_latin_0 : decode cJ1_charAt_3b067 0 = .ok (.iload_n 1, 1) := by decide +kernel
theorem dj_latin_1 : decode cJ1_charAt_3b067 1 = .ok (.aload_n 0, 1) := by decide +kernel
theorem dj_latin_2 : decode cJ1_charAt_3b067 2 = .ok (.arraylength, 1) := by decide +kernel
theorem dj_latin_3 : decode cJ1_charAt_3b067 3 = .ok (.invokestatic 9, 3) := by decide +kernel
theorem dj_latin_6 : decode cJ1_charAt_3b067 6 = .ok (.aload_n 0, 1) := by decide +kernel
theorem dj_latin_7 : decode cJ1_charAt_3b067 7 = .ok (.iload_n 1, 1) := by decide +kernel
theorem dj_latin_8 : decode cJ1_charAt_3b067 8 = .ok (.baload, 1) := by decide +kernel
theorem dj_latin_9 : decode cJ1_charAt_3b067 9 = .ok (.sipush 255, 3) := by decide +kernel
theorem dj_latin_12 : decode cJ1_charAt_3b067 12 = .ok (.iand, 1) := by decide +kernel
theorem dj_latin_13 : decode cJ1_charAt_3b067 13 = .ok (.i2c, 1) := by decide +kernel
theorem dj_latin_14 : decode cJ1_charAt_3b067 14 = .ok (.ireturn, 1) := by decide +kernel
set_option maxRecDepth 100000 in
theorem jc_latin : Cond.code yJ1_charAt_3b067 cJ1_charAt_3b067 2 (some .char) ∈ zU := zU_mem (i := 575) rfl rfl
theorem dj_check_0 : decode cJ0_checkIndex_df160 0 = .ok (.iload_n 0, 1) := by decide +kernel
theorem dj_check_1 : decode cJ0_checkIndex_df160 1 = .ok (.iload_n 1, 1) := by decide +kernel
theorem dj_check_2 : decode cJ0_checkIndex_df160 2 = .ok (.getstatic 1053, 3) := by decide +kernel
theorem dj_check_5 : decode cJ0_checkIndex_df160 5 = .ok (.invokestatic 1059, 3) := by decide +kernel
theorem dj_check_8 : decode cJ0_checkIndex_df160 8 = .ok (.pop, 1) := by decide +kernel
theorem dj_check_9 : decode cJ0_checkIndex_df160 9 = .ok (.return_, 1) := by decide +kernel
set_option maxRecDepth 100000 in
theorem jc_check : Cond.code yJ0_checkIndex_df160 cJ0_checkIndex_df160 2 (none) ∈ zU := zU_mem (i := 578) rfl rfl
theorem dj_pre_0 : decode cJ3_checkIndex_8e157 0 = .ok (.iload_n 0, 1) := by decide +kernel
theorem dj_pre_1 : decode cJ3_checkIndex_8e157 1 = .ok (.ifCond .lt 8, 3) := by decide +kernel
theorem dj_pre_4 : decode cJ3_checkIndex_8e157 4 = .ok (.iload_n 0, 1) := by decide +kernel
theorem dj_pre_5 : decode cJ3_checkIndex_8e157 5 = .ok (.iload_n 1, 1) := by decide +kernel
theorem dj_pre_6 : decode cJ3_checkIndex_8e157 6 = .ok (.if_icmp .lt 10, 3) := by decide +kernel
theorem dj_pre_9 : decode cJ3_checkIndex_8e157 9 = .ok (.aload_n 2, 1) := by decide +kernel
theorem dj_pre_10 : decode cJ3_checkIndex_8e157 10 = .ok (.iload_n 0, 1) := by decide +kernel
theorem dj_pre_11 : decode cJ3_checkIndex_8e157 11 = .ok (.iload_n 1, 1) := by decide +kernel
theorem dj_pre_12 : decode cJ3_checkIndex_8e157 12 = .ok (.invokestatic 95, 3) := by decide +kernel
theorem dj_pre_16 : decode cJ3_checkIndex_8e157 16 = .ok (.iload_n 0, 1) := by decide +kernel
theorem dj_pre_17 : decode cJ3_checkIndex_8e157 17 = .ok (.ireturn, 1) := by decide +kernel
set_option maxRecDepth 100000 in
theorem jc_pre : Cond.code yJ3_checkIndex_8e157 cJ3_checkIndex_8e157 3 (some .int) ∈ zU := zU_mem (i := 583) rfl rfl
theorem jw_lcoder : (.methodLink RJ0 335 yJ0_coder_7d493 : Cond) ∈ zU := zU_mem (i := 559) (by decide +kernel) rfl
theorem jw_icoder : (.instanceMethod yJ0_coder_7d493 : Cond) ∈ zU := zU_mem (i := 560) (by decide +kernel) rfl
theorem jw_scoder : (.selects RJ0 yJ0_coder_7d493 yJ0_coder_7d493 : Cond) ∈ zU := zU_mem (i := 561) (by decide +kernel) rfl
theorem jw_llat : (.methodLink RJ0 492 yJ0_isLatin1_aae02 : Cond) ∈ zU := zU_mem (i := 569) (by decide +kernel) rfl
theorem jw_ilat : (.instanceMethod yJ0_isLatin1_aae02 : Cond) ∈ zU := zU_mem (i := 570) (by decide +kernel) rfl
theorem jw_slat : (.selects RJ0 yJ0_isLatin1_aae02 yJ0_isLatin1_aae02 : Cond) ∈ zU := zU_mem (i := 571) (by decide +kernel) rfl
theorem jw_l1 : (.methodLink RJ0 495 yJ1_charAt_3b067 : Cond) ∈ zU := zU_mem (i := 573) (by decide +kernel) rfl
theorem jw_s1 : (.static yJ1_charAt_3b067 : Cond) ∈ zU := zU_mem (i := 574) (by decide +kernel) rfl
theorem jw_lck : (.methodLink RJ1 9 yJ0_checkIndex_df160 : Cond) ∈ zU := zU_mem (i := 576) (by decide +kernel) rfl
theorem jw_sck : (.static yJ0_checkIndex_df160 : Cond) ∈ zU := zU_mem (i := 577) (by decide +kernel) rfl
theorem jw_lpr : (.methodLink RJ0 1059 yJ3_checkIndex_8e157 : Cond) ∈ zU := zU_mem (i := 581) (by decide +kernel) rfl
theorem jw_spr : (.static yJ3_checkIndex_8e157 : Cond) ∈ zU := zU_mem (i := 582) (by decide +kernel) rfl
theorem jw_ini0 : (.initialized RJ0 : Cond) ∈ zU := zU_mem (i := 105) (by decide +kernel) rfl
theorem jw_ini1 : (.initialized RJ1 : Cond) ∈ zU := zU_mem (i := 106) (by decide +kernel) rfl
theorem jw_ini3 : (.initialized RJ3 : Cond) ∈ zU := zU_mem (i := 107) (by decide +kernel) rfl
theorem jw_fcs : (.fieldLink RJ0 38 "java/lang/String" "COMPACT_STRINGS" "Z" : Cond) ∈ zU := zU_mem (i := 563) (by decide +kernel) rfl
theorem jw_fsi : (.fieldLink RJ0 1053 "jdk/internal/util/Preconditions" "SIOOBE_FORMATTER" "Ljava/util/function/BiFunction;" : Cond) ∈ zU := zU_mem (i := 579) (by decide +kernel) rfl
theorem jw_fva : (.fieldLink RJ0 9 "java/lang/String" "value" "[B" : Cond) ∈ zU := zU_mem (i := 1551) (by decide +kernel) rfl
theorem jw_fco : (.fieldLink RJ0 15 "java/lang/String" "coder" "B" : Cond) ∈ zU := zU_mem (i := 1552) (by decide +kernel) rfl
theorem jw_ilen : (.instanceMethod yJ0_length_8abf5 : Cond) ∈ zU := zU_mem (i := 556) (by decide +kernel) rfl
theorem jw_slen : (.selects RJ0 yJ0_length_8abf5 yJ0_length_8abf5 : Cond) ∈ zU := zU_mem (i := 557) (by decide +kernel) rfl
theorem jw_icha : (.instanceMethod yJ0_charAt_5068e : Cond) ∈ zU := zU_mem (i := 566) (by decide +kernel) rfl
theorem jw_scha : (.selects RJ0 yJ0_charAt_5068e yJ0_charAt_5068e : Cond) ∈ zU := zU_mem (i := 567) (by decide +kernel) rfl
def jQ (v : Option Value) : Array Value → State → Outcome → State → Prop := fun _ st oc t => oc = .returned v ∧ t.heap = st.heap
abbrev jMet (l : Launch) (Y : zY) (y : MethodName) (cc : ByteArray) (ml : Nat) (ret : Option FieldType) (d : Nat) (as : List Value) (v : Option Value) : Prop := Met l y (.code y cc ml ret :: zU) { frames := d, cells := 0, slots := 0, locals := 40 * d } (va_Pc as (fun U => yO Y U U.heap)) (jQ v) 0 0 (fun _ => False)
theorem jblind {Y : zY} {as : List Value} : FrameBlind (va_Pc as (fun U => yO Y U U.heap)) := by
  intro a U g mk q
  exact ⟨q.1, yO.moved (u := U) (U := U.calling g mk a) (Vm.Alike.refl U.vm) q.2⟩
theorem jgood {y : MethodName} {cc : ByteArray} {ml : Nat} {ret : Option FieldType} (hc : Cond.code y cc ml ret ∈ zU) : GoodIn zU (Cond.code y cc ml ret :: zU) := fun w hw => by
  rcases List.mem_cons.mp hw with h | h
  · subst h
    exact ⟨hc, Or.inl rfl⟩
  · exact ⟨h, zU_good w h⟩
section JS
variable {p : Program} {l : Launch} {e : Env} {R : Room} {s : State} {m : MethodId} {args : Array Value} {below : List Frame} {meth : Method} {c : Code} {Q : State → Prop} {Y : zY} {H : Heap} {locs : List Loc} {cells slots pc : Nat} {ls : Array Slot} {st0 rest : List Value} {a : Array Value} {v : Option Value}
theorem jrun (hr : va_Run p l e R s m args below meth c H locs cells slots 0 0 (F0 m pc ls st0) rest (jQ v a) (fun _ => False)) (kk : W p l e R s m args below meth c H locs cells slots Q (F0 m (pc + 3) ls (v.toList ++ rest))) : W p l e R s m args below meth c H locs cells slots Q (F0 m pc ls st0) := by
  intro T hT X
  obtain ⟨v', st₀, t, T', L, h0, X', hL, e1, e2, ⟨hv, hH⟩, st⟩ := hr T hT X
  cases hv
  have hL0 : L = [] := by
    cases L with
    | nil => rfl
    | cons q L => exact (hL q List.mem_cons_self).elim
  subst hL0
  rw [List.append_nil] at X'
  obtain ⟨t2, a1, b1⟩ := kk T' (by rw [e1, hH, h0]) X'
  exact ⟨t2, st t2 a1, b1⟩
theorem jPc (hO : yO Y s s.heap) (hb : Y.2.2.1 ≤ s.heap.size) (hS : va_S (yB Y) s.heap H locs) (as : List Value) : ∀ U : State, U.heap = H → s.WarmedH U.vm → va_Pc as (fun U => yO Y U U.heap) as.toArray U := fun U hU hW => ⟨rfl, by show yO Y U U.heap; rw [hU]; exact yO.moved hW.alike (hO.kept hb hS.2.1)⟩
end JS
set_option maxHeartbeats 4000000 in
set_option maxRecDepth 100000 in
theorem j_coder (l : Launch) (Y : zY) (i : Nat) (hi : i < 4) : jMet l Y yJ0_coder_7d493 cJ0_coder_7d493 1 (some .byte) 0 [.ref (Y.2.2.2.1 i)] (some (.int 0)) := by
  refine Met.ofW (cc := cJ0_coder_7d493) (maxL := 1) (ret := some .byte) (by decide +kernel) rfl ?_
  intro p e s m args below meth c s₁ B hml hv
  obtain ⟨rfl, hO⟩ := hv
  have hx := B.exec
  have hb := B.bytes
  have hr := B.returns
  have hts : ∀ w ∈ zU, w.before ([.ref (Y.2.2.2.1 i)] : List Value).toArray s = true := fun w hw => atoms_spec (ws := .code yJ0_coder_7d493 cJ0_coder_7d493 1 (some .byte) :: zU) B.pre w (List.mem_cons_of_mem _ hw)
  have hown : s.vm.findClass RJ0 = some m.cls := findClass_of_methodNamed B.named
  have hlocks := B.notSynchronized
  have hS : va_S (yB Y) s.heap s.heap [] := va_S.rf
  have hl := lv_entry ([.ref (Y.2.2.2.1 i)]) (n := 1) (Nat.le_of_ble_eq_true rfl)
  rw [lg_entry_eq]
  generalize (lg_sl ([.ref (Y.2.2.2.1 i)]) ++ List.replicate (1 - (lg_sl ([.ref (Y.2.2.2.1 i)])).length) Slot.unset).toArray = ls at hl ⊢
  have hl : lv_has ls 1 [(0, .ref (Y.2.2.2.1 i))] := hl
  refine va_gets hx hb hO.1.2.1 hS hown (hts _ jw_fcs) (fun _ h => h) dj_coder_0 ?_
  refine lv_if_eq (tgt := 13) hx hb dj_coder_3 (by decide) (fun q => absurd q (by decide)) (fun _ => ?_)
  refine lv_aload_n hx hb dj_coder_6 rfl (lv_at hl 0 rfl) ?_
  refine vk_getf hx hb (hO.1.1.1 i hi).2.1 hS hown (hts _ jw_fco) (fun _ h => h) dj_coder_7 ?_
  refine lv_goto (tgt := 14) hx hb dj_coder_10 (by decide) ?_
  exact W.zret (v := 0) hx hb hr (by decide +kernel) (fun t ht _ => ⟨rfl, ht⟩) (fun q h => by cases h) dj_coder_14

set_option maxHeartbeats 4000000 in
set_option maxRecDepth 100000 in
theorem j_isLatin1 (l : Launch) (Y : zY) (i : Nat) (hi : i < 4) : jMet l Y yJ0_isLatin1_aae02 cJ0_isLatin1_aae02 1 (some .boolean) 0 [.ref (Y.2.2.2.1 i)] (some (.int 1)) := by
  refine Met.ofW (cc := cJ0_isLatin1_aae02) (maxL := 1) (ret := some .boolean) (by decide +kernel) rfl ?_
  intro p e s m args below meth c s₁ B hml hv
  obtain ⟨rfl, hO⟩ := hv
  have hx := B.exec
  have hb := B.bytes
  have hr := B.returns
  have hts : ∀ w ∈ zU, w.before ([.ref (Y.2.2.2.1 i)] : List Value).toArray s = true := fun w hw => atoms_spec (ws := .code yJ0_isLatin1_aae02 cJ0_isLatin1_aae02 1 (some .boolean) :: zU) B.pre w (List.mem_cons_of_mem _ hw)
  have hown : s.vm.findClass RJ0 = some m.cls := findClass_of_methodNamed B.named
  have hlocks := B.notSynchronized
  have hS : va_S (yB Y) s.heap s.heap [] := va_S.rf
  have hl := lv_entry ([.ref (Y.2.2.2.1 i)]) (n := 1) (Nat.le_of_ble_eq_true rfl)
  rw [lg_entry_eq]
  generalize (lg_sl ([.ref (Y.2.2.2.1 i)]) ++ List.replicate (1 - (lg_sl ([.ref (Y.2.2.2.1 i)])).length) Slot.unset).toArray = ls at hl ⊢
  have hl : lv_has ls 1 [(0, .ref (Y.2.2.2.1 i))] := hl
  refine va_gets hx hb hO.1.2.1 hS hown (hts _ jw_fcs) (fun _ h => h) dj_isLatin1_0 ?_
  refine lv_if_eq (tgt := 17) hx hb dj_isLatin1_3 (by decide) (fun q => absurd q (by decide)) (fun _ => ?_)
  refine lv_aload_n hx hb dj_isLatin1_6 rfl (lv_at hl 0 rfl) ?_
  refine vk_getf hx hb (hO.1.1.1 i hi).2.1 hS hown (hts _ jw_fco) (fun _ h => h) dj_isLatin1_7 ?_
  refine lv_if_ne (tgt := 17) hx hb dj_isLatin1_10 (by decide) (fun q => absurd rfl q) (fun _ => ?_)
  refine lv_iconst (v := 1) hx hb dj_isLatin1_13 (by decide) ?_
  refine lv_goto (tgt := 18) hx hb dj_isLatin1_14 (by decide) ?_
  exact W.zret (v := 1) hx hb hr (by decide +kernel) (fun t ht _ => ⟨rfl, ht⟩) (fun q h => by cases h) dj_isLatin1_18

set_option maxHeartbeats 4000000 in
set_option maxRecDepth 100000 in
theorem j_pre (l : Launch) (Y : zY) (j n : Int32) (q : Value) (hq : q = .null ∨ ∃ t, q = .ref t) (h0 : ¬ j < 0) (h1 : j < n) : jMet l Y yJ3_checkIndex_8e157 cJ3_checkIndex_8e157 3 (some .int) 0 [.int j, .int n, q] (some (.int j)) := by
  have hlen3 : (lg_sl ([.int j, .int n, q] : List Value)).length ≤ 3 := by rcases hq with rfl | ⟨t, rfl⟩ <;> exact Nat.le_of_ble_eq_true rfl
  refine Met.ofW (cc := cJ3_checkIndex_8e157) (maxL := 3) (ret := some .int) (by decide +kernel) rfl ?_
  intro p e s m args below meth c s₁ B hml hv
  obtain ⟨rfl, hO⟩ := hv
  have hx := B.exec
  have hb := B.bytes
  have hr := B.returns
  have hts : ∀ w ∈ zU, w.before ([.int j, .int n, q] : List Value).toArray s = true := fun w hw => atoms_spec (ws := .code yJ3_checkIndex_8e157 cJ3_checkIndex_8e157 3 (some .int) :: zU) B.pre w (List.mem_cons_of_mem _ hw)
  have hown : s.vm.findClass RJ3 = some m.cls := findClass_of_methodNamed B.named
  have hlocks := B.notSynchronized
  have hS : va_S (yB Y) s.heap s.heap [] := va_S.rf
  have hl := lv_entry ([.int j, .int n, q]) (n := 3) hlen3
  rw [lg_entry_eq]
  generalize (lg_sl ([.int j, .int n, q]) ++ List.replicate (3 - (lg_sl ([.int j, .int n, q])).length) Slot.unset).toArray = ls at hl ⊢
  have hl : lv_has ls 3 [(0, .int j), (1, .int n), (2, q)] := hl
  refine lv_iload_n hx hb dj_pre_0 rfl (lv_at hl 0 rfl) ?_
  refine lv_if_lt (tgt := 9) hx hb dj_pre_1 (by decide) (fun z => absurd z h0) (fun _ => ?_)
  refine lv_iload_n hx hb dj_pre_4 rfl (lv_at hl 0 rfl) ?_
  refine lv_iload_n hx hb dj_pre_5 rfl (lv_at hl 1 rfl) ?_
  refine lv_icmp_lt (tgt := 16) hx hb dj_pre_6 (by decide) (fun _ => ?_) (fun z => absurd h1 z)
  refine lv_iload_n hx hb dj_pre_16 rfl (lv_at hl 0 rfl) ?_
  exact W.iret (v := j) hx hb hr (fun t ht _ => ⟨rfl, ht⟩) (fun q h => by cases h) dj_pre_17
set_option maxHeartbeats 4000000 in
set_option maxRecDepth 100000 in
theorem j_check (l : Launch) (Y : zY) (j n : Int32) (h0 : ¬ j < 0) (h1 : j < n) : jMet l Y yJ0_checkIndex_df160 cJ0_checkIndex_df160 2 none 1 [.int j, .int n] none := by
  refine Met.ofW (cc := cJ0_checkIndex_df160) (maxL := 2) (ret := none) (by decide +kernel) rfl ?_
  intro p e s m args below meth c s₁ B hml hv
  obtain ⟨rfl, hO⟩ := hv
  have hx := B.exec
  have hb := B.bytes
  have hr := B.returns
  have hts : ∀ w ∈ zU, w.before ([.int j, .int n] : List Value).toArray s = true := fun w hw => atoms_spec (ws := .code yJ0_checkIndex_df160 cJ0_checkIndex_df160 2 (none) :: zU) B.pre w (List.mem_cons_of_mem _ hw)
  have hown : s.vm.findClass RJ0 = some m.cls := findClass_of_methodNamed B.named
  have hlocks := B.notSynchronized
  have hS : va_S (yB Y) s.heap s.heap [] := va_S.rf
  have hl := lv_entry ([.int j, .int n]) (n := 2) (Nat.le_of_ble_eq_true rfl)
  rw [lg_entry_eq]
  generalize (lg_sl ([.int j, .int n]) ++ List.replicate (2 - (lg_sl ([.int j, .int n])).length) Slot.unset).toArray = ls at hl ⊢
  have hl : lv_has ls 2 [(0, .int j), (1, .int n)] := hl
  refine lv_iload_n hx hb dj_check_0 rfl (lv_at hl 0 rfl) ?_
  refine lv_iload_n hx hb dj_check_1 rfl (lv_at hl 1 rfl) ?_
  rcases hO.1.2.2 with hz | ⟨t, hz⟩
  · refine va_gets hx hb hz hS hown (hts _ jw_fsi) (fun _ h => h) dj_check_2 ?_
    have hPc : ∀ U : State, U.heap = s.heap → s.WarmedH U.vm → va_Pc [.int j, .int n, .null] (fun U => yO Y U U.heap) ([.int j, .int n, .null] : List Value).toArray U := fun U hU hW => ⟨rfl, by show yO Y U U.heap; rw [hU]; exact yO.moved hW.alike hO⟩
    refine jrun (va_runS (As := [.int j, .int n, .null]) (rest := []) (Ts := zU) (own := RJ0) ⟨hx, hb, hml, hown, hts⟩ (j_pre l Y j n (.null) (Or.inl rfl) h0 h1) ⟨callB_of 3 hts (jgood jc_pre) rfl rfl rfl (hts _ jw_ini3) (hts _ jw_lpr) (by decide +kernel) ⟨Nat.le_of_ble_eq_true rfl, Nat.le_of_ble_eq_true rfl⟩, hts _ jw_spr⟩ ⟨jblind, hPc⟩ rfl rfl hl.1 rfl (lv_room (Nat.le_of_ble_eq_true rfl)) dj_check_5 ⟨Nat.zero_le _, Nat.zero_le _⟩) ?_
    refine lv_pop hx hb dj_check_8 rfl ?_
    exact W.vret hx hb hr (fun t ht _ => ⟨rfl, ht⟩) (fun q h => by cases h) dj_check_9
  · refine va_gets hx hb hz hS hown (hts _ jw_fsi) (fun _ h => h) dj_check_2 ?_
    have hPc : ∀ U : State, U.heap = s.heap → s.WarmedH U.vm → va_Pc [.int j, .int n, .ref t] (fun U => yO Y U U.heap) ([.int j, .int n, .ref t] : List Value).toArray U := fun U hU hW => ⟨rfl, by show yO Y U U.heap; rw [hU]; exact yO.moved hW.alike hO⟩
    refine jrun (va_runS (As := [.int j, .int n, .ref t]) (rest := []) (Ts := zU) (own := RJ0) ⟨hx, hb, hml, hown, hts⟩ (j_pre l Y j n (.ref t) (Or.inr ⟨t, rfl⟩) h0 h1) ⟨callB_of 3 hts (jgood jc_pre) rfl rfl rfl (hts _ jw_ini3) (hts _ jw_lpr) (by decide +kernel) ⟨Nat.le_of_ble_eq_true rfl, Nat.le_of_ble_eq_true rfl⟩, hts _ jw_spr⟩ ⟨jblind, hPc⟩ rfl rfl hl.1 rfl (lv_room (Nat.le_of_ble_eq_true rfl)) dj_check_5 ⟨Nat.zero_le _, Nat.zero_le _⟩) ?_
    refine lv_pop hx hb dj_check_8 rfl ?_
    exact W.vret hx hb hr (fun t ht _ => ⟨rfl, ht⟩) (fun q h => by cases h) dj_check_9
theorem jlen (i : Nat) (hi : i < 4) : ([4, 5, 5, 4] : List Nat).getD i 0 = (zword i).length := by
  match i, hi with
  | 0, _ => rfl
  | 1, _ => rfl
  | 2, _ => rfl
  | 3, _ => rfl
theorem jbyt (i : Nat) (hi : i < 4) : ([zword 0, zword 1, zword 2, zword 3] : List (List Int32)).getD i [] = zword i := by
  match i, hi with
  | 0, _ => rfl
  | 1, _ => rfl
  | 2, _ => rfl
  | 3, _ => rfl
theorem jlen_lt (i : Nat) : (zword i).length < 6 := by
  unfold zword
  split <;> decide
theorem jin {i : Nat} {j : Int32} (h : ¬ (j < 0 ∨ (zword i).length ≤ j.toNatClampNeg)) : j < Int32.ofNat (zword i).length := by
  have h0 : ¬ j < 0 := fun q => h (Or.inl q)
  obtain ⟨k, hk, rfl⟩ := nI_of h0
  have hl := jlen_lt i
  have h1 : ¬ (zword i).length ≤ (nI k).toNatClampNeg := fun q => h (Or.inr q)
  rw [nI_clamp hk] at h1
  exact nI_lt (by omega) (by omega)
theorem jshr (i : Nat) (hi : i < 4) : (Int32.ofNat (zword i).length) >>> ((0 : Int32) &&& 31) = Int32.ofNat (zword i).length := by
  match i, hi with
  | 0, _ => decide
  | 1, _ => decide
  | 2, _ => decide
  | 3, _ => decide
theorem jnar (i : Nat) (hi : i < 4) (k : Nat) (hk : k < (zword i).length) : ((zword i).getD k 0).toUInt32.toUInt16.toUInt32.toInt32 = (zword i).getD k 0 := by
  match i, hi with
  | 0, _ => revert k; decide
  | 1, _ => revert k; decide
  | 2, _ => revert k; decide
  | 3, _ => revert k; decide
/-- a letter's byte is the letter -/
theorem jlet2 (i : Nat) (hi : i < 4) (k : Nat) (hk : k < (zword i).length) : (((zword i).getD k 0 &&& 255).toUInt32 % 65536).toInt32 = (zword i).getD k 0 := by
  match i, hi with
  | 0, _ => revert k; decide
  | 1, _ => revert k; decide
  | 2, _ => revert k; decide
  | 3, _ => revert k; decide
set_option maxHeartbeats 4000000 in
set_option maxRecDepth 100000 in
theorem j_latin (l : Launch) (Y : zY) (i : Nat) (hi : i < 4) (j : Int32) (hj : ¬ (j < 0 ∨ (zword i).length ≤ j.toNatClampNeg)) : jMet l Y yJ1_charAt_3b067 cJ1_charAt_3b067 2 (some .char) 2 [.ref (Y.2.2.2.2.1 i), .int j] (some (.int ((zword i).getD j.toNatClampNeg 0))) := by
  refine Met.ofW (cc := cJ1_charAt_3b067) (maxL := 2) (ret := some .char) (by decide +kernel) rfl ?_
  intro p e s m args below meth c s₁ B hml hv
  obtain ⟨rfl, hO⟩ := hv
  have hx := B.exec
  have hb := B.bytes
  have hr := B.returns
  have hts : ∀ w ∈ zU, w.before ([.ref (Y.2.2.2.2.1 i), .int j] : List Value).toArray s = true := fun w hw => atoms_spec (ws := .code yJ1_charAt_3b067 cJ1_charAt_3b067 2 (some .char) :: zU) B.pre w (List.mem_cons_of_mem _ hw)
  have hown : s.vm.findClass RJ1 = some m.cls := findClass_of_methodNamed B.named
  have hlocks := B.notSynchronized
  have hS : va_S (yB Y) s.heap s.heap [] := va_S.rf
  have hl := lv_entry ([.ref (Y.2.2.2.2.1 i), .int j]) (n := 2) (Nat.le_of_ble_eq_true rfl)
  rw [lg_entry_eq]
  generalize (lg_sl ([.ref (Y.2.2.2.2.1 i), .int j]) ++ List.replicate (2 - (lg_sl ([.ref (Y.2.2.2.2.1 i), .int j])).length) Slot.unset).toArray = ls at hl ⊢
  have hl : lv_has ls 2 [(0, .ref (Y.2.2.2.2.1 i)), (1, .int j)] := hl
  have hT := (hO.1.1.1 i hi).2.2.2
  rw [jlen i hi, jbyt i hi] at hT
  refine lv_iload_n hx hb dj_latin_0 rfl (lv_at hl 1 rfl) ?_
  refine lv_aload_n hx hb dj_latin_1 rfl (lv_at hl 0 rfl) ?_
  refine va_tlen hx hb hT hS rfl dj_latin_2 ?_
  have hPc : ∀ U : State, U.heap = s.heap → s.WarmedH U.vm → va_Pc [.int j, .int (Int32.ofNat (zword i).length)] (fun U => yO Y U U.heap) ([.int j, .int (Int32.ofNat (zword i).length)] : List Value).toArray U := fun U hU hW => ⟨rfl, by show yO Y U U.heap; rw [hU]; exact yO.moved hW.alike hO⟩
  refine jrun (va_runS (As := [.int j, .int (Int32.ofNat (zword i).length)]) (rest := []) (Ts := zU) (own := RJ1) ⟨hx, hb, hml, hown, hts⟩ (j_check l Y j (Int32.ofNat (zword i).length) (fun q => hj (Or.inl q)) (jin hj)) ⟨callB_of 2 hts (jgood jc_check) rfl rfl rfl (hts _ jw_ini0) (hts _ jw_lck) (by decide +kernel) ⟨Nat.le_of_ble_eq_true rfl, Nat.le_of_ble_eq_true rfl⟩, hts _ jw_sck⟩ ⟨jblind, hPc⟩ rfl rfl hl.1 rfl (lv_room (Nat.le_of_ble_eq_true rfl)) dj_latin_3 ⟨Nat.zero_le _, Nat.zero_le _⟩) ?_
  refine lv_aload_n hx hb dj_latin_6 rfl (lv_at hl 0 rfl) ?_
  refine lv_iload_n hx hb dj_latin_7 rfl (lv_at hl 1 rfl) ?_
  refine va_tb hx hb hT hS hj rfl dj_latin_8 ?_
  refine lv_sipush (v := 255) hx hb dj_latin_9 (by decide) ?_
  refine lv_iand hx hb dj_latin_12 ?_
  have hlt : j.toNatClampNeg < (zword i).length := Nat.not_le.mp fun q => hj (Or.inr q)
  refine lv_i2c (v := (zword i).getD j.toNatClampNeg 0) hx hb dj_latin_13 (jlet2 i hi _ hlt) ?_
  exact W.zret (v := (zword i).getD j.toNatClampNeg 0) hx hb hr (by show Value.int _ = _; rw [jnar i hi _ hlt]) (fun t ht _ => ⟨rfl, ht⟩) (fun q h => by cases h) dj_latin_14
set_option maxHeartbeats 4000000 in
set_option maxRecDepth 100000 in
theorem j_length (l : Launch) (Y : zY) (i : Nat) (hi : i < 4) : jMet l Y yJ0_length_8abf5 cJ0_length_8abf5 1 (some .int) 1 [.ref (Y.2.2.2.1 i)] (some (.int (Int32.ofNat (zword i).length))) := by
  refine Met.ofW (cc := cJ0_length_8abf5) (maxL := 1) (ret := some .int) (by decide +kernel) rfl ?_
  intro p e s m args below meth c s₁ B hml hv
  obtain ⟨rfl, hO⟩ := hv
  have hx := B.exec
  have hb := B.bytes
  have hr := B.returns
  have hts : ∀ w ∈ zU, w.before ([.ref (Y.2.2.2.1 i)] : List Value).toArray s = true := fun w hw => atoms_spec (ws := .code yJ0_length_8abf5 cJ0_length_8abf5 1 (some .int) :: zU) B.pre w (List.mem_cons_of_mem _ hw)
  have hown : s.vm.findClass RJ0 = some m.cls := findClass_of_methodNamed B.named
  have hlocks := B.notSynchronized
  have hS : va_S (yB Y) s.heap s.heap [] := va_S.rf
  have hl := lv_entry ([.ref (Y.2.2.2.1 i)]) (n := 1) (Nat.le_of_ble_eq_true rfl)
  rw [lg_entry_eq]
  generalize (lg_sl ([.ref (Y.2.2.2.1 i)]) ++ List.replicate (1 - (lg_sl ([.ref (Y.2.2.2.1 i)])).length) Slot.unset).toArray = ls at hl ⊢
  have hl : lv_has ls 1 [(0, .ref (Y.2.2.2.1 i))] := hl
  have hT := (hO.1.1.1 i hi).2.2.2
  rw [jlen i hi, jbyt i hi] at hT
  refine lv_aload_n hx hb dj_length_0 rfl (lv_at hl 0 rfl) ?_
  refine vk_getf hx hb (hO.1.1.1 i hi).2.2.1 hS hown (hts _ jw_fva) (fun _ h => h) dj_length_1 ?_
  refine va_tlen hx hb hT hS rfl dj_length_4 ?_
  refine lv_aload_n hx hb dj_length_5 rfl (lv_at hl 0 rfl) ?_
  have hPc : ∀ U : State, U.heap = s.heap → s.WarmedH U.vm → va_Pc [.ref (Y.2.2.2.1 i)] (fun U => yO Y U U.heap) ([.ref (Y.2.2.2.1 i)] : List Value).toArray U := fun U hU hW => ⟨rfl, by show yO Y U U.heap; rw [hU]; exact yO.moved hW.alike hO⟩
  refine jrun (va_runV (As := []) (rest := [.int (Int32.ofNat (zword i).length)]) (Ts := zU) (own := RJ0) (C := RJ0) ⟨hx, hb, hml, hown, hts⟩ (j_coder l Y i hi) ⟨callB_of 0 hts (jgood jc_coder) rfl rfl rfl (hts _ jw_ini0) (hts _ jw_lcoder) (by decide +kernel) ⟨Nat.le_of_ble_eq_true rfl, Nat.le_of_ble_eq_true rfl⟩, hts _ jw_icoder, hts _ jw_scoder⟩ ⟨jblind, vk_recv hO.1.1 hi hS, hPc⟩ rfl rfl hl.1 rfl (lv_room (Nat.le_of_ble_eq_true rfl)) dj_length_6 ⟨Nat.zero_le _, Nat.zero_le _⟩) ?_
  refine lv_ishr hx hb dj_length_9 ?_
  have h9 := jshr i hi
  rw [h9]
  exact W.iret (v := Int32.ofNat (zword i).length) hx hb hr (fun t ht _ => ⟨rfl, ht⟩) (fun q h => by cases h) dj_length_10
set_option maxHeartbeats 4000000 in
set_option maxRecDepth 100000 in
theorem j_charAt (l : Launch) (Y : zY) (i : Nat) (hi : i < 4) (j : Int32) (hj : ¬ (j < 0 ∨ (zword i).length ≤ j.toNatClampNeg)) : jMet l Y yJ0_charAt_5068e cJ0_charAt_5068e 2 (some .char) 3 [.ref (Y.2.2.2.1 i), .int j] (some (.int ((zword i).getD j.toNatClampNeg 0))) := by
  refine Met.ofW (cc := cJ0_charAt_5068e) (maxL := 2) (ret := some .char) (by decide +kernel) rfl ?_
  intro p e s m args below meth c s₁ B hml hv
  obtain ⟨rfl, hO⟩ := hv
  have hx := B.exec
  have hb := B.bytes
  have hr := B.returns
  have hts : ∀ w ∈ zU, w.before ([.ref (Y.2.2.2.1 i), .int j] : List Value).toArray s = true := fun w hw => atoms_spec (ws := .code yJ0_charAt_5068e cJ0_charAt_5068e 2 (some .char) :: zU) B.pre w (List.mem_cons_of_mem _ hw)
  have hown : s.vm.findClass RJ0 = some m.cls := findClass_of_methodNamed B.named
  have hlocks := B.notSynchronized
  have hS : va_S (yB Y) s.heap s.heap [] := va_S.rf
  have hl := lv_entry ([.ref (Y.2.2.2.1 i), .int j]) (n := 2) (Nat.le_of_ble_eq_true rfl)
  rw [lg_entry_eq]
  generalize (lg_sl ([.ref (Y.2.2.2.1 i), .int j]) ++ List.replicate (2 - (lg_sl ([.ref (Y.2.2.2.1 i), .int j])).length) Slot.unset).toArray = ls at hl ⊢
  have hl : lv_has ls 2 [(0, .ref (Y.2.2.2.1 i)), (1, .int j)] := hl
  have hlt : j.toNatClampNeg < (zword i).length := Nat.not_le.mp fun q => hj (Or.inr q)
  refine lv_aload_n hx hb dj_charAt_0 rfl (lv_at hl 0 rfl) ?_
  have hPc : ∀ U : State, U.heap = s.heap → s.WarmedH U.vm → va_Pc [.ref (Y.2.2.2.1 i)] (fun U => yO Y U U.heap) ([.ref (Y.2.2.2.1 i)] : List Value).toArray U := fun U hU hW => ⟨rfl, by show yO Y U U.heap; rw [hU]; exact yO.moved hW.alike hO⟩
  refine jrun (va_runV (As := []) (rest := []) (Ts := zU) (own := RJ0) (C := RJ0) ⟨hx, hb, hml, hown, hts⟩ (j_isLatin1 l Y i hi) ⟨callB_of 0 hts (jgood jc_isLatin1) rfl rfl rfl (hts _ jw_ini0) (hts _ jw_llat) (by decide +kernel) ⟨Nat.le_of_ble_eq_true rfl, Nat.le_of_ble_eq_true rfl⟩, hts _ jw_ilat, hts _ jw_slat⟩ ⟨jblind, vk_recv hO.1.1 hi hS, hPc⟩ rfl rfl hl.1 rfl (lv_room (Nat.le_of_ble_eq_true rfl)) dj_charAt_1 ⟨Nat.zero_le _, Nat.zero_le _⟩) ?_
  refine lv_if_eq (tgt := 16) hx hb dj_charAt_4 (by decide) (fun q => absurd q (by decide)) (fun _ => ?_)
  refine lv_aload_n hx hb dj_charAt_7 rfl (lv_at hl 0 rfl) ?_
  refine vk_getf hx hb (hO.1.1.1 i hi).2.2.1 hS hown (hts _ jw_fva) (fun _ h => h) dj_charAt_8 ?_
  refine lv_iload_n hx hb dj_charAt_11 rfl (lv_at hl 1 rfl) ?_
  have hPc2 : ∀ U : State, U.heap = s.heap → s.WarmedH U.vm → va_Pc [.ref (Y.2.2.2.2.1 i), .int j] (fun U => yO Y U U.heap) ([.ref (Y.2.2.2.2.1 i), .int j] : List Value).toArray U := fun U hU hW => ⟨rfl, by show yO Y U U.heap; rw [hU]; exact yO.moved hW.alike hO⟩
  refine jrun (va_runS (As := [.ref (Y.2.2.2.2.1 i), .int j]) (rest := []) (Ts := zU) (own := RJ0) ⟨hx, hb, hml, hown, hts⟩ (j_latin l Y i hi j hj) ⟨callB_of 2 hts (jgood jc_latin) rfl rfl rfl (hts _ jw_ini1) (hts _ jw_l1) (by decide +kernel) ⟨Nat.le_of_ble_eq_true rfl, Nat.le_of_ble_eq_true rfl⟩, hts _ jw_s1⟩ ⟨jblind, hPc2⟩ rfl rfl hl.1 rfl (lv_room (Nat.le_of_ble_eq_true rfl)) dj_charAt_12 ⟨Nat.zero_le _, Nat.zero_le _⟩) ?_
  exact W.zret (v := (zword i).getD j.toNatClampNeg 0) hx hb hr (by show Value.int _ = _; rw [jnar i hi _ hlt]) (fun t ht _ => ⟨rfl, ht⟩) (fun q h => by cases h) dj_charAt_15
