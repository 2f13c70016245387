/-! STRING CONSTANTS -/
def scT (i : Nat) (tx : Bs) : Prop := ∃ q : String × Nat × String × Bs, SC[i]? = some q ∧ q.2.2.2 = tx
section GSTR
variable {X : gX} {K : gK} {cc : ByteArray} {own : String} {mL rf rl pc : Nat} {E : gE} {lv : List (Nat × Value)} {st : List Value} {i : Nat} {tx : Bs}
theorem gC.str (C : gC X K cc own mL rf rl) (hs : scT i tx) : gStr (ks K i) (kv K i) tx (xA X) (xs X) (xs X).heap := by
  obtain ⟨q, h1, rfl⟩ := hs
  exact C.Z.1 i q h1
theorem g_sval (C : gC X K cc own mL rf rl) (hs : scT i tx) {index : Nat} (hlink : Cond.fieldLink own index "java/lang/String" "value" "[B" ∈ TB) (hdg : decode cc pc = .ok (.getfield index, 3)) (k : gW X K E (pc + 3) lv (.ref (kv K i) :: st)) : gW X K E pc lv (.ref (ks K i) :: st) :=
  fun H locs ls hH hl => vk_getf C.1 C.2.1 (C.str hs).2.2.1 hH.2.2 C.ow (C.ts _ hlink) (fun _ h => h) hdg (k H locs ls hH hl)
theorem g_scod (C : gC X K cc own mL rf rl) (hs : scT i tx) {index : Nat} (hlink : Cond.fieldLink own index "java/lang/String" "coder" "B" ∈ TB) (hdg : decode cc pc = .ok (.getfield index, 3)) (k : gW X K E (pc + 3) lv (.int (nI 0) :: st)) : gW X K E pc lv (.ref (ks K i) :: st) :=
  fun H locs ls hH hl => vk_getf C.1 C.2.1 (C.str hs).2.1 hH.2.2 C.ow (C.ts _ hlink) (fun _ h => h) hdg (k H locs ls hH hl)
theorem g_slen (C : gC X K cc own mL rf rl) (hs : scT i tx) (hdg : decode cc pc = .ok (.arraylength, 1)) (k : gW X K E (pc + 1) lv (.int (nI tx.length) :: st)) : gW X K E pc lv (.ref (kv K i) :: st) :=
  fun H locs ls hH hl => va_tlen C.1 C.2.1 (C.str hs).2.2.2 hH.2.2 rfl hdg (k H locs ls hH hl)
theorem g_sald (C : gC X K cc own mL rf rl) (hs : scT i tx) {j : Nat} (hj : j < tx.length) (hL : tx.length < 2 ^ 31) (hdg : decode cc pc = .ok (.baload, 1)) (k : gW X K E (pc + 1) lv (.int (ub tx[j]) :: st)) : gW X K E pc lv (.int (nI j) :: .ref (kv K i) :: st) :=
  fun H locs ls hH hl => va_tb C.1 C.2.1 (C.str hs).2.2.2 hH.2.2 (vp_in_nI hj hL) (v := .int (ub tx[j])) (by rw [nI_clamp (by omega)]; simp [List.getD, hj]) hdg (k H locs ls hH hl)
theorem g_compact (C : gC X K cc own mL rf rl) {index : Nat} (hlink : Cond.fieldLink own index "java/lang/String" "COMPACT_STRINGS" "Z" ∈ TB) (hdg : decode cc pc = .ok (.getstatic index, 3)) (k : gW X K E (pc + 3) lv (.int (nI 1) :: st)) : gW X K E pc lv st :=
  fun H locs ls hH hl => va_gets C.1 C.2.1 C.Z.2.1 hH.2.2 C.ow (C.ts _ hlink) (fun _ h => h) hdg (k H locs ls hH hl)
theorem g_sioobe (C : gC X K cc own mL rf rl) {index : Nat} (hlink : Cond.fieldLink own index "jdk/internal/util/Preconditions" "SIOOBE_FORMATTER" "Ljava/util/function/BiFunction;" ∈ TB) (hdg : decode cc pc = .ok (.getstatic index, 3)) (kn : gW X K E (pc + 3) lv (.null :: st)) (kr : ∀ t : Nat, gW X K E (pc + 3) lv (.ref t :: st)) : gW X K E pc lv st := by
  intro H locs ls hH hl
  rcases C.Z.2.2.2.2 with h | ⟨t, h⟩
  · exact va_gets C.1 C.2.1 h hH.2.2 C.ow (C.ts _ hlink) (fun _ h => h) hdg (kn H locs ls hH hl)
  · exact va_gets C.1 C.2.1 h hH.2.2 C.ow (C.ts _ hlink) (fun _ h => h) hdg (kr t H locs ls hH hl)
theorem g_i2c (C : gC X K cc own mL rf rl) {x v : Int32} (hdg : decode cc pc = .ok (.i2c, 1)) (hv : (x.toUInt32 % 65536).toInt32 = v) (k : gW X K E (pc + 1) lv (.int v :: st)) : gW X K E pc lv (.int x :: st) :=
  fun H locs ls hH hl => lv_i2c C.1 C.2.1 hdg hv (k H locs ls hH hl)
theorem g_ldcS (C : gC X K cc own mL rf rl) {index : Nat} {t : String} {b : Bs} (h : SC[i]? = some (own, index, t, b)) (hdg : decode cc pc = .ok (.ldc index, 2)) (k : gW X K E (pc + 2) lv (.ref (ks K i) :: st)) : gW X K E pc lv st :=
  fun H locs ls hH hl => va_ldcS C.1 C.2.1 C.ow (C.T.2.2 i _ h) hdg (k H locs ls hH hl)
variable {rest : List Value} {y : MethodName} {bytes : ByteArray} {mL' n index rf' rl' : Nat} {ret : Option FieldType} {As : List Value} {Q : Nat → Array Value → State → Outcome → State → Prop}
theorem g_rVS (C : gC X K cc own mL rf rl) (hs : scT i tx) (hy : y.cls = "java/lang/String") (hM : gM (xl X) y bytes mL' ret rf' rl' K E (.ref (ks K i) :: As) Q) (mw : gMW y bytes mL' ret n) (mo : gMO y) (hlink : Cond.methodLink own index y ∈ TB) (hr : rf' + 1 ≤ rf ∧ 8 + (mL' + 11) + rl' ≤ rl)
    (hn : As.length = n) (hst : st = As.reverse ++ .ref (ks K i) :: rest) (hcat : (rest.map fun v => v.category).sum ≤ 8) (hdg : decode cc pc = .ok (.invokevirtual index, 3)) : gRun X K E pc lv st rest Q (.ref (ks K i) :: As).toArray := by
  subst hst
  intro H locs ls hH hl
  have hrecv : ∃ cell : Cell, H[ks K i]? = some cell ∧ cell.vm.isStatics = false ∧ (xs X).vm.findClass y.cls = some cell.cls := by
    obtain ⟨cell, h1, h2, h3, -⟩ := (C.str hs).1.kept hH.2.2.2.1
    exact ⟨cell, h1, h2, by rw [hy]; exact h3⟩
  refine va_runV (As := As) (rest := rest) (n := n) ⟨C.1, C.2.1, C.2.2.2.1, C.ow, C.ts⟩ (hM H.size) (cwV n C.ts (fun w hw => ?_) rfl rfl rfl ⟨rfl, mw.2⟩ ⟨by rw [C.fr]; exact hr.1, by rw [C.lo]; exact hr.2⟩) ⟨gPc_blind, hrecv, gPc_at C hH _⟩ rfl hn hl.1 rfl (lv_room hcat) hdg ⟨C.kc, C.kn⟩
  rcases List.mem_append.mp hw with h | h
  · simp only [List.mem_cons, List.not_mem_nil, or_false] at h
    rcases h with rfl | rfl | rfl | rfl
    · exact tb_good _ hlink
    · exact tb_good _ mo.1
    · exact tb_good _ mo.2
    · exact tb_good _ mw.1.1
  · exact gGood mw.1.2 w h
end GSTR
theorem c2_all : ∀ n : Nat, n < 256 → ((nI n).toUInt32 % 65536).toInt32 = nI n := by decide +kernel
theorem chN_nar {n : Nat} (h : n < 256) : narrow .char (.int (nI n)) = .int (nI n) := (pk_charN (by omega)).1

theorem ml_Str_335 : Cond.methodLink "java/lang/String" 335 ⟨"java/lang/String", "coder", "()B"⟩ ∈ TB := tb2 54 rfl rfl
theorem ml_Str_492 : Cond.methodLink "java/lang/String" 492 ⟨"java/lang/String", "isLatin1", "()Z"⟩ ∈ TB := tb2 64 rfl rfl
theorem ml_Str_495 : Cond.methodLink "java/lang/String" 495 ⟨"java/lang/StringLatin1", "charAt", "([BI)C"⟩ ∈ TB := tb2 68 rfl rfl
theorem ml_Str_1059 : Cond.methodLink "java/lang/String" 1059 ⟨"jdk/internal/util/Preconditions", "checkIndex", "(IILjava/util/function/BiFunction;)I"⟩ ∈ TB := tb2 76 rfl rfl
theorem ml_Str_498 : Cond.methodLink "java/lang/String" 498 ⟨"java/lang/StringUTF16", "charAt", "([BI)C"⟩ ∈ TB := tb2 79 rfl rfl
theorem mw_Str_charAt : gMW y_Str_charAt b_Str_charAt 2 (some .char) 1 := ⟨⟨tb1 12 rfl rfl, tb2 63 rfl rfl⟩, by decide +kernel⟩
theorem mo_Str_charAt : gMO y_Str_charAt := ⟨tb2 61 rfl rfl, tb2 62 rfl rfl⟩
theorem mw_Str_checkIndex : gMW y_Str_checkIndex b_Str_checkIndex 2 none 2 := ⟨⟨tb1 12 rfl rfl, tb2 73 rfl rfl⟩, by decide +kernel⟩
theorem mo_Str_checkIndex : Cond.static y_Str_checkIndex ∈ TB := tb2 72 rfl rfl
theorem mw_Str_coder : gMW y_Str_coder b_Str_coder 1 (some .byte) 0 := ⟨⟨tb1 12 rfl rfl, tb2 57 rfl rfl⟩, by decide +kernel⟩
theorem mo_Str_coder : gMO y_Str_coder := ⟨tb2 55 rfl rfl, tb2 56 rfl rfl⟩
theorem mw_Str_isLatin1 : gMW y_Str_isLatin1 b_Str_isLatin1 1 (some .boolean) 0 := ⟨⟨tb1 12 rfl rfl, tb2 67 rfl rfl⟩, by decide +kernel⟩
theorem mo_Str_isLatin1 : gMO y_Str_isLatin1 := ⟨tb2 65 rfl rfl, tb2 66 rfl rfl⟩
theorem mw_Str_length : gMW y_Str_length b_Str_length 1 (some .int) 0 := ⟨⟨tb1 12 rfl rfl, tb2 53 rfl rfl⟩, by decide +kernel⟩
theorem mo_Str_length : gMO y_Str_length := ⟨tb2 51 rfl rfl, tb2 52 rfl rfl⟩
theorem d_Str_charAt_0 : decode b_Str_charAt 0 = .ok (.aload_n 0, 1) := by decide +kernel
theorem d_Str_charAt_1 : decode b_Str_charAt 1 = .ok (.invokevirtual 492, 3) := by decide +kernel
theorem d_Str_charAt_4 : decode b_Str_charAt 4 = .ok (.ifCond .eq 12, 3) := by decide +kernel
theorem d_Str_charAt_7 : decode b_Str_charAt 7 = .ok (.aload_n 0, 1) := by decide +kernel
theorem d_Str_charAt_8 : decode b_Str_charAt 8 = .ok (.getfield 9, 3) := by decide +kernel
theorem d_Str_charAt_11 : decode b_Str_charAt 11 = .ok (.iload_n 1, 1) := by decide +kernel
theorem d_Str_charAt_12 : decode b_Str_charAt 12 = .ok (.invokestatic 495, 3) := by decide +kernel
theorem d_Str_charAt_15 : decode b_Str_charAt 15 = .ok (.ireturn, 1) := by decide +kernel
theorem d_Str_checkIndex_0 : decode b_Str_checkIndex 0 = .ok (.iload_n 0, 1) := by decide +kernel
theorem d_Str_checkIndex_1 : decode b_Str_checkIndex 1 = .ok (.iload_n 1, 1) := by decide +kernel
theorem d_Str_checkIndex_2 : decode b_Str_checkIndex 2 = .ok (.getstatic 1053, 3) := by decide +kernel
theorem d_Str_checkIndex_5 : decode b_Str_checkIndex 5 = .ok (.invokestatic 1059, 3) := by decide +kernel
theorem d_Str_checkIndex_8 : decode b_Str_checkIndex 8 = .ok (.pop, 1) := by decide +kernel
theorem d_Str_checkIndex_9 : decode b_Str_checkIndex 9 = .ok (.return_, 1) := by decide +kernel
theorem d_Str_coder_0 : decode b_Str_coder 0 = .ok (.getstatic 38, 3) := by decide +kernel
theorem d_Str_coder_3 : decode b_Str_coder 3 = .ok (.ifCond .eq 10, 3) := by decide +kernel
theorem d_Str_coder_6 : decode b_Str_coder 6 = .ok (.aload_n 0, 1) := by decide +kernel
theorem d_Str_coder_7 : decode b_Str_coder 7 = .ok (.getfield 15, 3) := by decide +kernel
theorem d_Str_coder_10 : decode b_Str_coder 10 = .ok (.goto 4, 3) := by decide +kernel
theorem d_Str_coder_13 : decode b_Str_coder 13 = .ok (.iconst 1, 1) := by decide +kernel
theorem d_Str_coder_14 : decode b_Str_coder 14 = .ok (.ireturn, 1) := by decide +kernel
theorem d_Str_isLatin1_0 : decode b_Str_isLatin1 0 = .ok (.getstatic 38, 3) := by decide +kernel
theorem d_Str_isLatin1_3 : decode b_Str_isLatin1 3 = .ok (.ifCond .eq 14, 3) := by decide +kernel
theorem d_Str_isLatin1_6 : decode b_Str_isLatin1 6 = .ok (.aload_n 0, 1) := by decide +kernel
theorem d_Str_isLatin1_7 : decode b_Str_isLatin1 7 = .ok (.getfield 15, 3) := by decide +kernel
theorem d_Str_isLatin1_10 : decode b_Str_isLatin1 10 = .ok (.ifCond .ne 7, 3) := by decide +kernel
theorem d_Str_isLatin1_13 : decode b_Str_isLatin1 13 = .ok (.iconst 1, 1) := by decide +kernel
theorem d_Str_isLatin1_14 : decode b_Str_isLatin1 14 = .ok (.goto 4, 3) := by decide +kernel
theorem d_Str_isLatin1_17 : decode b_Str_isLatin1 17 = .ok (.iconst 0, 1) := by decide +kernel
theorem d_Str_isLatin1_18 : decode b_Str_isLatin1 18 = .ok (.ireturn, 1) := by decide +kernel
theorem d_Str_length_0 : decode b_Str_length 0 = .ok (.aload_n 0, 1) := by decide +kernel
theorem d_Str_length_1 : decode b_Str_length 1 = .ok (.getfield 9, 3) := by decide +kernel
theorem d_Str_length_4 : decode b_Str_length 4 = .ok (.arraylength, 1) := by decide +kernel
theorem d_Str_length_5 : decode b_Str_length 5 = .ok (.aload_n 0, 1) := by decide +kernel
theorem d_Str_length_6 : decode b_Str_length 6 = .ok (.invokevirtual 335, 3) := by decide +kernel
theorem d_Str_length_9 : decode b_Str_length 9 = .ok (.ishr, 1) := by decide +kernel
theorem d_Str_length_10 : decode b_Str_length 10 = .ok (.ireturn, 1) := by decide +kernel
theorem ml_SL1_9 : Cond.methodLink "java/lang/StringLatin1" 9 ⟨"java/lang/String", "checkIndex", "(II)V"⟩ ∈ TB := tb2 71 rfl rfl
theorem mw_SL1_charAt : gMW y_SL1_charAt b_SL1_charAt 2 (some .char) 2 := ⟨⟨tb1 13 rfl rfl, tb2 70 rfl rfl⟩, by decide +kernel⟩
theorem mo_SL1_charAt : Cond.static y_SL1_charAt ∈ TB := tb2 69 rfl rfl
theorem d_SL1_charAt_0 : decode b_SL1_charAt 0 = .ok (.iload_n 1, 1) := by decide +kernel
theorem d_SL1_charAt_1 : decode b_SL1_charAt 1 = .ok (.aload_n 0, 1) := by decide +kernel
theorem d_SL1_charAt_2 : decode b_SL1_charAt 2 = .ok (.arraylength, 1) := by decide +kernel
theorem d_SL1_charAt_3 : decode b_SL1_charAt 3 = .ok (.invokestatic 9, 3) := by decide +kernel
theorem d_SL1_charAt_6 : decode b_SL1_charAt 6 = .ok (.aload_n 0, 1) := by decide +kernel
theorem d_SL1_charAt_7 : decode b_SL1_charAt 7 = .ok (.iload_n 1, 1) := by decide +kernel
theorem d_SL1_charAt_8 : decode b_SL1_charAt 8 = .ok (.baload, 1) := by decide +kernel
theorem d_SL1_charAt_9 : decode b_SL1_charAt 9 = .ok (.sipush 255, 3) := by decide +kernel
theorem d_SL1_charAt_12 : decode b_SL1_charAt 12 = .ok (.iand, 1) := by decide +kernel
theorem d_SL1_charAt_13 : decode b_SL1_charAt 13 = .ok (.i2c, 1) := by decide +kernel
theorem d_SL1_charAt_14 : decode b_SL1_charAt 14 = .ok (.ireturn, 1) := by decide +kernel
theorem mw_Pre_checkIndex : gMW y_Pre_checkIndex b_Pre_checkIndex 3 (some .int) 3 := ⟨⟨tb1 14 rfl rfl, tb2 78 rfl rfl⟩, by decide +kernel⟩
theorem mo_Pre_checkIndex : Cond.static y_Pre_checkIndex ∈ TB := tb2 77 rfl rfl
theorem d_Pre_checkIndex_0 : decode b_Pre_checkIndex 0 = .ok (.iload_n 0, 1) := by decide +kernel
theorem d_Pre_checkIndex_1 : decode b_Pre_checkIndex 1 = .ok (.ifCond .lt 8, 3) := by decide +kernel
theorem d_Pre_checkIndex_4 : decode b_Pre_checkIndex 4 = .ok (.iload_n 0, 1) := by decide +kernel
theorem d_Pre_checkIndex_5 : decode b_Pre_checkIndex 5 = .ok (.iload_n 1, 1) := by decide +kernel
theorem d_Pre_checkIndex_6 : decode b_Pre_checkIndex 6 = .ok (.if_icmp .lt 10, 3) := by decide +kernel
theorem d_Pre_checkIndex_16 : decode b_Pre_checkIndex 16 = .ok (.iload_n 0, 1) := by decide +kernel
theorem d_Pre_checkIndex_17 : decode b_Pre_checkIndex 17 = .ok (.ireturn, 1) := by decide +kernel
theorem kf_Str_9 : Cond.fieldLink "java/lang/String" 9 "java/lang/String" "value" "[B" ∈ TB := tb5 180 rfl rfl
theorem kf_Str_15 : Cond.fieldLink "java/lang/String" 15 "java/lang/String" "coder" "B" ∈ TB := tb5 181 rfl rfl
theorem kf_Str_38 : Cond.fieldLink "java/lang/String" 38 "java/lang/String" "COMPACT_STRINGS" "Z" ∈ TB := tb2 58 rfl rfl
theorem kf_Str_1053 : Cond.fieldLink "java/lang/String" 1053 "jdk/internal/util/Preconditions" "SIOOBE_FORMATTER" "Ljava/util/function/BiFunction;" ∈ TB := tb2 74 rfl rfl
set_option maxHeartbeats 4000000 in
set_option maxRecDepth 100000 in
theorem c_Str_coder (l : Launch) (K : gK) (E : gE) (i : Nat) (tx : Bs) (hs : scT i tx) : gMi l y_Str_coder b_Str_coder 1 .byte 0 0 K E [.ref (ks K i)] (fun r E' => r = nI 0 ∧ E' = E) := by
  refine g_meti (by decide +kernel) (Nat.le_of_ble_eq_true rfl) (fun X hl C hR => ?_)
  subst hl
  show gW X K E 0 [(0, .ref (ks K i))] []
  refine g_compact (pc := 0) C kf_Str_38 d_Str_coder_0 ?_
  refine g_if_eqN (pc := 3) C 13 d_Str_coder_3 (by decide) (by omega) (fun h_3 => ?_) (fun h_3 => ?_)
  · exact absurd h_3 (by decide)
  · skip
    refine g_aload_n (pc := 6) C d_Str_coder_6 0 rfl ?_
    refine g_scod (pc := 7) C hs kf_Str_15 d_Str_coder_7 ?_
    refine g_goto (pc := 10) C 14 d_Str_coder_10 (by decide) ?_
    refine g_zret (pc := 14) C hR rfl d_Str_coder_14 ?_
    exact ⟨rfl, rfl⟩

set_option maxHeartbeats 4000000 in
set_option maxRecDepth 100000 in
theorem c_Str_isLatin1 (l : Launch) (K : gK) (E : gE) (i : Nat) (tx : Bs) (hs : scT i tx) : gMi l y_Str_isLatin1 b_Str_isLatin1 1 .boolean 0 0 K E [.ref (ks K i)] (fun r E' => r = bI true ∧ E' = E) := by
  refine g_meti (by decide +kernel) (Nat.le_of_ble_eq_true rfl) (fun X hl C hR => ?_)
  subst hl
  show gW X K E 0 [(0, .ref (ks K i))] []
  refine g_compact (pc := 0) C kf_Str_38 d_Str_isLatin1_0 ?_
  refine g_if_eqN (pc := 3) C 17 d_Str_isLatin1_3 (by decide) (by omega) (fun h_3 => ?_) (fun h_3 => ?_)
  · exact absurd h_3 (by decide)
  · skip
    refine g_aload_n (pc := 6) C d_Str_isLatin1_6 0 rfl ?_
    refine g_scod (pc := 7) C hs kf_Str_15 d_Str_isLatin1_7 ?_
    refine g_if_neN (pc := 10) C 17 d_Str_isLatin1_10 (by decide) (by omega) (fun h_10 => ?_) (fun h_10 => ?_)
    · exact absurd h_10 (by decide)
    · skip
      refine g_iconst (pc := 13) (v := nI 1) C d_Str_isLatin1_13 (by decide) ?_
      refine g_goto (pc := 14) C 18 d_Str_isLatin1_14 (by decide) ?_
      refine g_zret (pc := 18) C hR rfl d_Str_isLatin1_18 ?_
      exact ⟨rfl, rfl⟩

set_option maxHeartbeats 4000000 in
set_option maxRecDepth 100000 in
theorem c_Str_length (l : Launch) (K : gK) (E : gE) (i : Nat) (tx : Bs) (hs : scT i tx) : gMi l y_Str_length b_Str_length 1 .int 1 64 K E [.ref (ks K i)] (fun r E' => r = nI tx.length ∧ E' = E) := by
  refine g_meti (by decide +kernel) (Nat.le_of_ble_eq_true rfl) (fun X hl C hR => ?_)
  subst hl
  show gW X K E 0 [(0, .ref (ks K i))] []
  refine g_aload_n (pc := 0) C d_Str_length_0 0 rfl ?_
  refine g_sval (pc := 1) C hs kf_Str_9 d_Str_length_1 ?_
  refine g_slen (pc := 4) C hs d_Str_length_4 ?_
  refine g_aload_n (pc := 5) C d_Str_length_5 0 rfl ?_
  refine g_ci (pc := 6) C (g_rVS (As := []) (rest := [.int (nI tx.length)]) C hs rfl (c_Str_coder _ K _ i tx hs) mw_Str_coder mo_Str_coder ml_Str_335 (by decide) rfl rfl (Nat.le_of_ble_eq_true rfl) d_Str_length_6) (fun r6 E6 hp6 => ?_)
  rw [hp6.1, hp6.2]
  refine g_ishr (pc := 9) C d_Str_length_9 ?_
  refine g_iret (pc := 10) C hR d_Str_length_10 ?_
  exact ⟨sb_shr0 _, rfl⟩

set_option maxHeartbeats 4000000 in
set_option maxRecDepth 100000 in
theorem c_Pre_checkIndex_n (l : Launch) (K : gK) (E : gE) (j n t : Nat) (hj : j < n) (hn : n < 2 ^ 31) : gMi l y_Pre_checkIndex b_Pre_checkIndex 3 .int 0 0 K E [.int (nI j), .int (nI n), .null] (fun r E' => r = nI j ∧ E' = E) := by
  refine g_meti (by decide +kernel) (Nat.le_of_ble_eq_true rfl) (fun X hl C hR => ?_)
  subst hl
  show gW X K E 0 [(0, .int (nI j)), (1, .int (nI n)), (2, .null)] []
  refine g_iload_n (pc := 0) C d_Pre_checkIndex_0 0 rfl ?_
  refine g_if_ltN (pc := 1) C 9 d_Pre_checkIndex_1 (by decide) (by omega) ?_
  refine g_iload_n (pc := 4) C d_Pre_checkIndex_4 0 rfl ?_
  refine g_iload_n (pc := 5) C d_Pre_checkIndex_5 1 rfl ?_
  refine g_icmp_ltN (pc := 6) C 16 d_Pre_checkIndex_6 (by decide) (by omega) (by omega) (fun h_6 => ?_) (fun h_6 => ?_)
  · skip
    refine g_iload_n (pc := 16) C d_Pre_checkIndex_16 0 rfl ?_
    refine g_iret (pc := 17) C hR d_Pre_checkIndex_17 ?_
    exact ⟨rfl, rfl⟩
  · exact absurd h_6 (by omega)

set_option maxHeartbeats 4000000 in
set_option maxRecDepth 100000 in
theorem c_Pre_checkIndex_r (l : Launch) (K : gK) (E : gE) (j n t : Nat) (hj : j < n) (hn : n < 2 ^ 31) : gMi l y_Pre_checkIndex b_Pre_checkIndex 3 .int 0 0 K E [.int (nI j), .int (nI n), .ref t] (fun r E' => r = nI j ∧ E' = E) := by
  refine g_meti (by decide +kernel) (Nat.le_of_ble_eq_true rfl) (fun X hl C hR => ?_)
  subst hl
  show gW X K E 0 [(0, .int (nI j)), (1, .int (nI n)), (2, .ref t)] []
  refine g_iload_n (pc := 0) C d_Pre_checkIndex_0 0 rfl ?_
  refine g_if_ltN (pc := 1) C 9 d_Pre_checkIndex_1 (by decide) (by omega) ?_
  refine g_iload_n (pc := 4) C d_Pre_checkIndex_4 0 rfl ?_
  refine g_iload_n (pc := 5) C d_Pre_checkIndex_5 1 rfl ?_
  refine g_icmp_ltN (pc := 6) C 16 d_Pre_checkIndex_6 (by decide) (by omega) (by omega) (fun h_6 => ?_) (fun h_6 => ?_)
  · skip
    refine g_iload_n (pc := 16) C d_Pre_checkIndex_16 0 rfl ?_
    refine g_iret (pc := 17) C hR d_Pre_checkIndex_17 ?_
    exact ⟨rfl, rfl⟩
  · exact absurd h_6 (by omega)

set_option maxHeartbeats 4000000 in
set_option maxRecDepth 100000 in
theorem c_Str_checkIndex (l : Launch) (K : gK) (E : gE) (j n : Nat) (hj : j < n) (hn : n < 2 ^ 31) : gMv l y_Str_checkIndex b_Str_checkIndex 2 1 64 K E [.int (nI j), .int (nI n)] (fun E' => E' = E) := by
  refine g_metv (by decide +kernel) (Nat.le_of_ble_eq_true rfl) (fun X hl C hR => ?_)
  subst hl
  show gW X K E 0 [(0, .int (nI j)), (1, .int (nI n))] []
  refine g_iload_n (pc := 0) C d_Str_checkIndex_0 0 rfl ?_
  refine g_iload_n (pc := 1) C d_Str_checkIndex_1 1 rfl ?_
  refine g_sioobe (pc := 2) C kf_Str_1053 d_Str_checkIndex_2 ?_ (fun t => ?_)
  · skip
    refine g_ci (pc := 5) C (g_rS (As := [.int (nI j), .int (nI n), .null]) (rest := []) C (c_Pre_checkIndex_n _ K _ j n 0 hj hn) mw_Pre_checkIndex mo_Pre_checkIndex ml_Str_1059 (by decide) rfl rfl (Nat.le_of_ble_eq_true rfl) d_Str_checkIndex_5) (fun r5 E5 hp5 => ?_)
    rw [hp5.1, hp5.2]
    refine g_pop (pc := 8) C d_Str_checkIndex_8 rfl ?_
    refine g_vret (pc := 9) C hR d_Str_checkIndex_9 ?_
    exact rfl
  · skip
    refine g_ci (pc := 5) C (g_rS (As := [.int (nI j), .int (nI n), .ref t]) (rest := []) C (c_Pre_checkIndex_r _ K _ j n t hj hn) mw_Pre_checkIndex mo_Pre_checkIndex ml_Str_1059 (by decide) rfl rfl (Nat.le_of_ble_eq_true rfl) d_Str_checkIndex_5) (fun r5 E5 hp5 => ?_)
    rw [hp5.1, hp5.2]
    refine g_pop (pc := 8) C d_Str_checkIndex_8 rfl ?_
    refine g_vret (pc := 9) C hR d_Str_checkIndex_9 ?_
    exact rfl

set_option maxHeartbeats 4000000 in
set_option maxRecDepth 100000 in
theorem c_SL1_charAt (l : Launch) (K : gK) (E : gE) (i : Nat) (tx : Bs) (hs : scT i tx) (j : Nat) (hj : j < tx.length) (hn : tx.length < 2 ^ 31) : gMi l y_SL1_charAt b_SL1_charAt 2 .char 2 128 K E [.ref (kv K i), .int (nI j)] (fun r E' => r = nI tx[j].toNat ∧ E' = E) := by
  have hx := (tx[j]).toNat_lt
  refine g_meti (by decide +kernel) (Nat.le_of_ble_eq_true rfl) (fun X hl C hR => ?_)
  subst hl
  show gW X K E 0 [(0, .ref (kv K i)), (1, .int (nI j))] []
  refine g_iload_n (pc := 0) C d_SL1_charAt_0 1 rfl ?_
  refine g_aload_n (pc := 1) C d_SL1_charAt_1 0 rfl ?_
  refine g_slen (pc := 2) C hs d_SL1_charAt_2 ?_
  refine g_cv (pc := 3) C (g_rS (As := [.int (nI j), .int (nI tx.length)]) (rest := []) C (c_Str_checkIndex _ K _ j tx.length hj hn) mw_Str_checkIndex mo_Str_checkIndex ml_SL1_9 (by decide) rfl rfl (Nat.le_of_ble_eq_true rfl) d_SL1_charAt_3) (fun E3 hp3 => ?_)
  rw [hp3]
  refine g_aload_n (pc := 6) C d_SL1_charAt_6 0 rfl ?_
  refine g_iload_n (pc := 7) C d_SL1_charAt_7 1 rfl ?_
  refine g_sald (pc := 8) C hs hj hn d_SL1_charAt_8 ?_
  refine g_sipush (pc := 9) (v := nI 255) C d_SL1_charAt_9 (by decide) ?_
  refine g_iand (pc := 12) C d_SL1_charAt_12 ?_
  refine g_top (ub_andN _) ?_
  refine g_i2c (pc := 13) C d_SL1_charAt_13 (c2_all _ hx) ?_
  refine g_zret (pc := 14) C hR (chN_nar hx) d_SL1_charAt_14 ?_
  exact ⟨rfl, rfl⟩

set_option maxHeartbeats 4000000 in
set_option maxRecDepth 100000 in
theorem c_Str_charAt (l : Launch) (K : gK) (E : gE) (i : Nat) (tx : Bs) (hs : scT i tx) (j : Nat) (hj : j < tx.length) (hn : tx.length < 2 ^ 31) : gMi l y_Str_charAt b_Str_charAt 2 .char 3 192 K E [.ref (ks K i), .int (nI j)] (fun r E' => r = nI tx[j].toNat ∧ E' = E) := by
  have hx := (tx[j]).toNat_lt
  refine g_meti (by decide +kernel) (Nat.le_of_ble_eq_true rfl) (fun X hl C hR => ?_)
  subst hl
  show gW X K E 0 [(0, .ref (ks K i)), (1, .int (nI j))] []
  refine g_aload_n (pc := 0) C d_Str_charAt_0 0 rfl ?_
  refine g_ci (pc := 1) C (g_rVS (As := []) (rest := []) C hs rfl (c_Str_isLatin1 _ K _ i tx hs) mw_Str_isLatin1 mo_Str_isLatin1 ml_Str_492 (by decide) rfl rfl (Nat.le_of_ble_eq_true rfl) d_Str_charAt_1) (fun r1 E1 hp1 => ?_)
  rw [hp1.1, hp1.2]
  refine g_if_eqB (pc := 4) C 16 d_Str_charAt_4 (by decide) (fun h_4 => ?_) (fun h_4 => ?_)
  · exact absurd h_4 (by decide)
  · skip
    refine g_aload_n (pc := 7) C d_Str_charAt_7 0 rfl ?_
    refine g_sval (pc := 8) C hs kf_Str_9 d_Str_charAt_8 ?_
    refine g_iload_n (pc := 11) C d_Str_charAt_11 1 rfl ?_
    refine g_ci (pc := 12) C (g_rS (As := [.ref (kv K i), .int (nI j)]) (rest := []) C (c_SL1_charAt _ K _ i tx hs j hj hn) mw_SL1_charAt mo_SL1_charAt ml_Str_495 (by decide) rfl rfl (Nat.le_of_ble_eq_true rfl) d_Str_charAt_12) (fun r12 E12 hp12 => ?_)
    rw [hp12.1, hp12.2]
    refine g_zret (pc := 15) C hR (chN_nar hx) d_Str_charAt_15 ?_
    exact ⟨rfl, rfl⟩

/-- a text stands there -/
def textAt (bs tx : Bs) (j : Nat) : Bool := decide (j + tx.length ≤ bs.length ∧ part bs j (j + tx.length) = tx)
theorem textAt_sh {bs tx : Bs} {j : Nat} (h : bs.length < j + tx.length) : textAt bs tx j = false := decide_eq_false (fun q => by omega)
theorem textAt_t {bs tx : Bs} {j : Nat} (h : j + tx.length ≤ bs.length) (e : ∀ (m : Nat) (a : m < tx.length) (b : j + m < bs.length), bs[j + m] = tx[m]) : textAt bs tx j = true := by
  refine decide_eq_true ⟨h, List.ext_getElem (by rw [part_len]; omega) (fun m a b => ?_)⟩
  rw [part_get a (by omega)]
  exact e m b (by omega)
theorem textAt_f {bs tx : Bs} {j m : Nat} (a : m < tx.length) (b : j + m < bs.length) (e : bs[j + m] ≠ tx[m]) : textAt bs tx j = false := by
  refine decide_eq_false (fun q => e ?_)
  have hl : m < (part bs j (j + tx.length)).length := by rw [part_len]; omega
  rw [← part_get hl b]
  have := q.2
  simp only [this]

set_option maxHeartbeats 4000000 in
set_option maxRecDepth 100000 in
theorem w_hasTextAt {X : gX} {K : gK} (C : gC X K b_Bytes_hasTextAt "DavRoom$Bytes" 5 4 256) (E : gE) (b cap : Nat) (bs : Bs) (j : Nat) (i : Nat) (tx : Bs) (hs : scT i tx) (htx : tx.length ≤ 400) (hj : j + tx.length ≤ bs.length) (hB : isB K E b cap bs) (hR : gRi X K .boolean (fun r E' => r = bI (textAt bs tx j) ∧ E' = E)) : ∀ (d m : Nat), m ≤ tx.length → tx.length + 1 ≤ m + d → (∀ (k : Nat) (a : k < tx.length) (b : j + k < bs.length), k < m → bs[j + k] = tx[k]) → gW X K E 24 [(4, .int (nI m)), (3, .int (nI tx.length)), (0, .ref (ka K b)), (1, .int (nI j)), (2, .ref (ks K i))] [] := by
  obtain ⟨hb1, hle, hbN, hcap, f, hb2, hf⟩ := hB
  intro d
  induction d with
  | zero =>
    intro m h1 h2
    exact absurd h2 (by omega)
  | succ d ih =>
    intro m hm hd hinv
    refine g_iload (pc := 24) C d_Bytes_hasTextAt_24 0 rfl ?_
    refine g_iload_n (pc := 26) C d_Bytes_hasTextAt_26 1 rfl ?_
    refine g_icmp_geN (pc := 27) C 60 d_Bytes_hasTextAt_27 (by decide) (by omega) (by omega) (fun h_27 => ?_) (fun h_27 => ?_)
    · skip
      refine g_iconst (pc := 60) (v := nI 1) C d_Bytes_hasTextAt_60 (by decide) ?_
      refine g_zret (pc := 61) C hR rfl d_Bytes_hasTextAt_61 ?_
      exact ⟨by rw [textAt_t hj (fun k a b => hinv k a b (by omega))]; rfl, rfl⟩
    · skip
      have m1 : j + m < bs.length := by omega
      have x1 := (bs[j + m]).toNat_lt
      have x2 := (tx[m]).toNat_lt
      refine g_aload_n (pc := 30) C d_Bytes_hasTextAt_30 2 rfl ?_
      refine g_get (pc := 31) C fl_Bytes_13 hb1 (by omega) rfl d_Bytes_hasTextAt_31 ?_
      refine g_iload_n (pc := 34) C d_Bytes_hasTextAt_34 3 rfl ?_
      refine g_iload (pc := 35) C d_Bytes_hasTextAt_35 0 rfl ?_
      refine g_iaddN (pc := 37) C d_Bytes_hasTextAt_37 ?_
      refine g_baldN (pc := 38) C hb2 (by omega) (gt_B _) (by omega) (by omega) d_Bytes_hasTextAt_38 ?_
      refine g_sipush (pc := 39) (v := nI 255) C d_Bytes_hasTextAt_39 (by decide) ?_
      refine g_iand (pc := 42) C d_Bytes_hasTextAt_42 ?_
      refine g_top (y := nI (bs[j + m].toNat)) (by rw [hf (j + m) m1, ub_andN]) ?_
      refine g_aload_n (pc := 43) C d_Bytes_hasTextAt_43 4 rfl ?_
      refine g_iload (pc := 44) C d_Bytes_hasTextAt_44 0 rfl ?_
      refine g_ci (pc := 46) C (g_rVS (As := [.int (nI m)]) (rest := [.int (nI (bs[j + m].toNat))]) C hs rfl (c_Str_charAt _ K _ i tx hs m h_27 (by omega)) mw_Str_charAt mo_Str_charAt ml_Bytes_46 (by decide) rfl rfl (Nat.le_of_ble_eq_true rfl) d_Bytes_hasTextAt_46) (fun r46 E46 hp46 => ?_)
      rw [hp46.1, hp46.2]
      refine g_icmp_eqN (pc := 49) C 54 d_Bytes_hasTextAt_49 (by decide) (by omega) (by omega) (fun h_49 => ?_) (fun h_49 => ?_)
      · skip
        have h_49 := UInt8.toNat_inj.mp h_49
        refine g_iinc (pc := 54) (pl := 0) (v := nI (m + 1)) (lv' := [(4, .int (nI (m + 1))), (3, .int (nI tx.length)), (0, .ref (ka K b)), (1, .int (nI j)), (2, .ref (ks K i))]) C d_Bytes_hasTextAt_54 rfl (nI_1 _) (by decide) rfl ?_
        refine g_goto (pc := 57) C 24 d_Bytes_hasTextAt_57 (by decide) ?_
        exact g_lv [0, 1, 2, 3, 4] rfl (ih (m + 1) (by omega) (by omega) (fun k a b hk => by
          rcases Nat.lt_or_ge k m with q | q
          · exact hinv k a b q
          · have e : k = m := by omega
            subst e
            exact h_49))
      · skip
        refine g_iconst (pc := 52) (v := nI 0) C d_Bytes_hasTextAt_52 (by decide) ?_
        refine g_zret (pc := 53) C hR rfl d_Bytes_hasTextAt_53 ?_
        exact ⟨by rw [textAt_f h_27 m1 (fun e => h_49 (by rw [e]))]; rfl, rfl⟩

set_option maxHeartbeats 4000000 in
set_option maxRecDepth 100000 in
theorem c_Bytes_hasTextAt (l : Launch) (K : gK) (E : gE) (b cap : Nat) (bs : Bs) (j : Nat) (i : Nat) (tx : Bs) (hs : scT i tx) (hj : j < 2 ^ 30) (htx : tx.length ≤ 400) (hB : isB K E b cap bs) : gMi l y_Bytes_hasTextAt b_Bytes_hasTextAt 5 .boolean 4 256 K E [.ref (ka K b), .int (nI j), .ref (ks K i)] (fun r E' => r = bI (textAt bs tx j) ∧ E' = E) := by
  have hB0 := hB
  obtain ⟨hb1, hle, hbN, hcap, f, hb2, hf⟩ := hB
  refine g_meti (by decide +kernel) (Nat.le_of_ble_eq_true rfl) (fun X hl C hR => ?_)
  subst hl
  show gW X K E 0 [(0, .ref (ka K b)), (1, .int (nI j)), (2, .ref (ks K i))] []
  refine g_aload_n (pc := 0) C d_Bytes_hasTextAt_0 2 rfl ?_
  refine g_ci (pc := 1) C (g_rVS (As := []) (rest := []) C hs rfl (c_Str_length _ K _ i tx hs) mw_Str_length mo_Str_length ml_Bytes_41 (by decide) rfl rfl (Nat.le_of_ble_eq_true rfl) d_Bytes_hasTextAt_1) (fun r1 E1 hp1 => ?_)
  rw [hp1.1, hp1.2]
  refine g_istore_n (pc := 4) (lv' := [(3, .int (nI tx.length)), (0, .ref (ka K b)), (1, .int (nI j)), (2, .ref (ks K i))]) C d_Bytes_hasTextAt_4 rfl (by decide) rfl ?_
  refine g_iload_n (pc := 5) C d_Bytes_hasTextAt_5 2 rfl ?_
  refine g_if_ltN (pc := 6) C 19 d_Bytes_hasTextAt_6 (by decide) (by omega) ?_
  refine g_iload_n (pc := 9) C d_Bytes_hasTextAt_9 0 rfl ?_
  refine g_aload_n (pc := 10) C d_Bytes_hasTextAt_10 1 rfl ?_
  refine g_get (pc := 11) C fl_Bytes_19 hb1 (by omega) rfl d_Bytes_hasTextAt_11 ?_
  refine g_iload_n (pc := 14) C d_Bytes_hasTextAt_14 2 rfl ?_
  refine g_isub (pc := 15) C d_Bytes_hasTextAt_15 ?_
  refine g_icmp_le (pc := 16) C 21 d_Bytes_hasTextAt_16 (by decide) (fun h_16 => ?_) (fun h_16 => ?_)
  · skip
    have hle2 : j + tx.length ≤ bs.length := by
      rcases Nat.lt_or_ge bs.length (j + tx.length) with q | q
      · exfalso
        rcases Nat.lt_or_ge bs.length j with z | z
        · have h0 := pk_sneg (by omega) z
          have h1 := nI_pos' (n := tx.length) (by omega)
          rw [Int32.le_iff_toInt_le] at h_16 h1
          rw [Int32.lt_iff_toInt_lt] at h0
          omega
        · rw [pk_sub z, nI_leI (by omega) (by omega)] at h_16
          omega
      · exact q
    refine g_iconst (pc := 21) (v := nI 0) C d_Bytes_hasTextAt_21 (by decide) ?_
    refine g_istore (pc := 22) (lv' := [(4, .int (nI 0)), (3, .int (nI tx.length)), (0, .ref (ka K b)), (1, .int (nI j)), (2, .ref (ks K i))]) C d_Bytes_hasTextAt_22 (by decide) rfl ?_
    exact g_lv [0, 1, 2, 3, 4] rfl (w_hasTextAt C E b cap bs j i tx hs htx hle2 hB0 hR (tx.length + 1) 0 (Nat.zero_le _) (by omega) (fun k _ _ h => absurd h (Nat.not_lt_zero _)))
  · skip
    have hgt2 : bs.length < j + tx.length := by
      rcases Nat.lt_or_ge bs.length (j + tx.length) with q | q
      · exact q
      · exfalso
        rw [pk_sub (by omega), nI_leI (by omega) (by omega)] at h_16
        omega
    refine g_iconst (pc := 19) (v := nI 0) C d_Bytes_hasTextAt_19 (by decide) ?_
    refine g_zret (pc := 20) C hR rfl d_Bytes_hasTextAt_20 ?_
    exact ⟨by rw [textAt_sh hgt2]; rfl, rfl⟩

set_option maxHeartbeats 4000000 in
set_option maxRecDepth 100000 in
theorem c_Bytes_hasTextAt_m (l : Launch) (K : gK) (E : gE) (b cap : Nat) (bs : Bs) (i : Nat) (tx : Bs) (hs : scT i tx) (htx : tx.length ≤ 400) (hB : isB K E b cap bs) : gMi l y_Bytes_hasTextAt b_Bytes_hasTextAt 5 .boolean 4 256 K E [.ref (ka K b), .int (-1), .ref (ks K i)] (fun r E' => r = bI false ∧ E' = E) := by
  obtain ⟨hb1, hle, hbN, hcap, f, hb2, hf⟩ := hB
  refine g_meti (by decide +kernel) (Nat.le_of_ble_eq_true rfl) (fun X hl C hR => ?_)
  subst hl
  show gW X K E 0 [(0, .ref (ka K b)), (1, .int (-1)), (2, .ref (ks K i))] []
  refine g_aload_n (pc := 0) C d_Bytes_hasTextAt_0 2 rfl ?_
  refine g_ci (pc := 1) C (g_rVS (As := []) (rest := []) C hs rfl (c_Str_length _ K _ i tx hs) mw_Str_length mo_Str_length ml_Bytes_41 (by decide) rfl rfl (Nat.le_of_ble_eq_true rfl) d_Bytes_hasTextAt_1) (fun r1 E1 hp1 => ?_)
  rw [hp1.1, hp1.2]
  refine g_istore_n (pc := 4) (lv' := [(3, .int (nI tx.length)), (0, .ref (ka K b)), (1, .int (-1)), (2, .ref (ks K i))]) C d_Bytes_hasTextAt_4 rfl (by decide) rfl ?_
  refine g_iload_n (pc := 5) C d_Bytes_hasTextAt_5 2 rfl ?_
  refine g_if_lt (pc := 6) C 19 d_Bytes_hasTextAt_6 (by decide) (fun h_6 => ?_) (fun h_6 => ?_)
  · skip
    refine g_iconst (pc := 19) (v := nI 0) C d_Bytes_hasTextAt_19 (by decide) ?_
    refine g_zret (pc := 20) C hR rfl d_Bytes_hasTextAt_20 ?_
    exact ⟨rfl, rfl⟩
  · exact absurd (by decide) h_6
