set_option maxHeartbeats 4000000 in
set_option maxRecDepth 100000 in
theorem w_addNumber {X : gX} {K : gK} (C : gC X K b_Bytes_addNumber "DavRoom$Bytes" 3 1 64) (E : gE) (b cap t : Nat) (bs : Bs) (ht : t < 2 ^ 31) (hR : gRv X K (fun E' => isB K E' b cap (bs ++ numB t) ∧ fr2 b E E')) : ∀ (e : Nat), e ≤ 10 → ∀ (bs1 : Bs) (E1 : gE), isB K E1 b cap bs1 → fr2 b E E1 → bs1.length + e ≤ cap → bs1 ++ numF t e = bs ++ numB t → gW X K E1 3 [(2, .int (nI (10 ^ e / 10))), (0, .ref (ka K b)), (1, .int (nI t))] [] := by
  intro e
  induction e with
  | zero =>
    intro _ bs1 E1 hB1 hF1 _ heq
    show gW X K E1 3 [(2, .int (nI 0)), (0, .ref (ka K b)), (1, .int (nI t))] []
    refine g_iload_n (pc := 3) C d_Bytes_addNumber_3 0 rfl ?_
    refine g_if_leN (pc := 4) C 38 d_Bytes_addNumber_4 (by decide) (by omega) (fun h_4 => ?_) (fun h_4 => ?_)
    · skip
      refine g_vret (pc := 38) C hR d_Bytes_addNumber_38 ?_
      exact ⟨by rw [← heq]; simpa [numF] using hB1, hF1⟩
    · exact absurd h_4 (by decide)
  | succ e ih =>
    intro he bs1 E1 hB1 hF1 hrm heq
    have hbN : b < kN K := by have := hB1.2.2.1; omega
    have fb := hB1.1
    obtain ⟨u, hu⟩ : ∃ u, u = 10 ^ e := ⟨_, rfl⟩
    have hu1 : 10 ^ (e + 1) / 10 = u := by rw [hu, Nat.pow_succ, Nat.mul_div_cancel _ (by decide)]
    have hu2 : 0 < u := by rw [hu]; exact Nat.pow_pos (by decide)
    have hu3 : u ≤ 1000000000 := by rw [hu]; exact Nat.pow_le_pow_right (by decide) (show e ≤ 9 by omega)
    rw [hu1]
    refine g_iload_n (pc := 3) C d_Bytes_addNumber_3 0 rfl ?_
    refine g_if_leN (pc := 4) C 38 d_Bytes_addNumber_4 (by decide) (by omega) (fun h_4 => ?_) (fun h_4 => ?_)
    · exact absurd h_4 (by omega)
    · skip
      refine g_iload_n (pc := 7) C d_Bytes_addNumber_7 2 rfl ?_
      refine g_iload_n (pc := 8) C d_Bytes_addNumber_8 0 rfl ?_
      refine g_icmp_geN (pc := 9) C 17 d_Bytes_addNumber_9 (by decide) (by omega) (by omega) (fun h_9 => ?_) (fun h_9 => ?_)
      · skip
        refine g_aload_n (pc := 17) C d_Bytes_addNumber_17 1 rfl ?_
        refine g_bipush (pc := 18) (v := nI 48) C d_Bytes_addNumber_18 (by decide) ?_
        refine g_iload_n (pc := 20) C d_Bytes_addNumber_20 2 rfl ?_
        refine g_iload_n (pc := 21) C d_Bytes_addNumber_21 0 rfl ?_
        refine g_idiv (pc := 22) C d_Bytes_addNumber_22 (nI_ne0 hu2 (by omega)) ?_
        refine g_top (y := nI (t / u)) (pk_div ht hu2 (by omega)) ?_
        refine g_bipush (pc := 23) (v := nI 10) C d_Bytes_addNumber_23 (by decide) ?_
        refine g_irem (pc := 25) C d_Bytes_addNumber_25 (by decide) ?_
        refine g_top (y := nI (t / u % 10)) (pk_rem (Nat.lt_of_le_of_lt (Nat.div_le_self _ _) ht) (by decide) (by decide)) ?_
        refine g_iaddN (pc := 26) C d_Bytes_addNumber_26 ?_
        refine g_cv (pc := 27) C (g_rV (As := [.int (nI (48 + (t / u % 10)))]) (rest := []) C (c_Bytes_add _ K _ b cap bs1 (nI (48 + (t / u % 10))) (by omega) hB1) mw_Bytes_add mo_Bytes_add ml_Bytes_23 (by decide) fb rfl hbN rfl rfl (Nat.le_of_ble_eq_true rfl) d_Bytes_addNumber_27) (fun E2 hp => ?_)
        obtain ⟨hB2, hF2⟩ := hp
        refine g_iload_n (pc := 30) C d_Bytes_addNumber_30 0 rfl ?_
        refine g_bipush (pc := 31) (v := nI 10) C d_Bytes_addNumber_31 (by decide) ?_
        refine g_idiv (pc := 33) C d_Bytes_addNumber_33 (by decide) ?_
        refine g_top (y := nI (u / 10)) (pk_div (by omega) (by decide) (by decide)) ?_
        refine g_istore_n (pc := 34) (lv' := [(2, .int (nI (u / 10))), (0, .ref (ka K b)), (1, .int (nI t))]) C d_Bytes_addNumber_34 rfl (by decide) rfl ?_
        refine g_goto (pc := 35) C 3 d_Bytes_addNumber_35 (by decide) ?_
        rw [hu]
        exact ih (by omega) _ _ hB2 (fun k h1 h2 => (hF2 k h1 h2).trans (hF1 k h1 h2)) (by rw [List.length_append, List.length_singleton]; omega) (by rw [← heq, numF, dig, if_pos (by rw [← hu]; omega), ← hu, List.append_assoc])
      · skip
        refine g_iload_n (pc := 12) C d_Bytes_addNumber_12 0 rfl ?_
        refine g_iconst (pc := 13) (v := nI 1) C d_Bytes_addNumber_13 (by decide) ?_
        refine g_icmp_neN (pc := 14) C 30 d_Bytes_addNumber_14 (by decide) (by omega) (by omega) (fun h_14 => ?_) (fun h_14 => ?_)
        · skip
          refine g_iload_n (pc := 30) C d_Bytes_addNumber_30 0 rfl ?_
          refine g_bipush (pc := 31) (v := nI 10) C d_Bytes_addNumber_31 (by decide) ?_
          refine g_idiv (pc := 33) C d_Bytes_addNumber_33 (by decide) ?_
          refine g_top (y := nI (u / 10)) (pk_div (by omega) (by decide) (by decide)) ?_
          refine g_istore_n (pc := 34) (lv' := [(2, .int (nI (u / 10))), (0, .ref (ka K b)), (1, .int (nI t))]) C d_Bytes_addNumber_34 rfl (by decide) rfl ?_
          refine g_goto (pc := 35) C 3 d_Bytes_addNumber_35 (by decide) ?_
          rw [hu]
          exact ih (by omega) _ _ hB1 hF1 (by omega) (by rw [← heq, numF, dig, if_neg (by rw [← hu]; omega), List.nil_append])
        · skip
          refine g_aload_n (pc := 17) C d_Bytes_addNumber_17 1 rfl ?_
          refine g_bipush (pc := 18) (v := nI 48) C d_Bytes_addNumber_18 (by decide) ?_
          refine g_iload_n (pc := 20) C d_Bytes_addNumber_20 2 rfl ?_
          refine g_iload_n (pc := 21) C d_Bytes_addNumber_21 0 rfl ?_
          refine g_idiv (pc := 22) C d_Bytes_addNumber_22 (nI_ne0 hu2 (by omega)) ?_
          refine g_top (y := nI (t / u)) (pk_div ht hu2 (by omega)) ?_
          refine g_bipush (pc := 23) (v := nI 10) C d_Bytes_addNumber_23 (by decide) ?_
          refine g_irem (pc := 25) C d_Bytes_addNumber_25 (by decide) ?_
          refine g_top (y := nI (t / u % 10)) (pk_rem (Nat.lt_of_le_of_lt (Nat.div_le_self _ _) ht) (by decide) (by decide)) ?_
          refine g_iaddN (pc := 26) C d_Bytes_addNumber_26 ?_
          refine g_cv (pc := 27) C (g_rV (As := [.int (nI (48 + (t / u % 10)))]) (rest := []) C (c_Bytes_add _ K _ b cap bs1 (nI (48 + (t / u % 10))) (by omega) hB1) mw_Bytes_add mo_Bytes_add ml_Bytes_23 (by decide) fb rfl hbN rfl rfl (Nat.le_of_ble_eq_true rfl) d_Bytes_addNumber_27) (fun E2 hp => ?_)
          obtain ⟨hB2, hF2⟩ := hp
          refine g_iload_n (pc := 30) C d_Bytes_addNumber_30 0 rfl ?_
          refine g_bipush (pc := 31) (v := nI 10) C d_Bytes_addNumber_31 (by decide) ?_
          refine g_idiv (pc := 33) C d_Bytes_addNumber_33 (by decide) ?_
          refine g_top (y := nI (u / 10)) (pk_div (by omega) (by decide) (by decide)) ?_
          refine g_istore_n (pc := 34) (lv' := [(2, .int (nI (u / 10))), (0, .ref (ka K b)), (1, .int (nI t))]) C d_Bytes_addNumber_34 rfl (by decide) rfl ?_
          refine g_goto (pc := 35) C 3 d_Bytes_addNumber_35 (by decide) ?_
          rw [hu]
          exact ih (by omega) _ _ hB2 (fun k h1 h2 => (hF2 k h1 h2).trans (hF1 k h1 h2)) (by rw [List.length_append, List.length_singleton]; omega) (by rw [← heq, numF, dig, if_pos (by rw [← hu]; omega), ← hu, List.append_assoc])

set_option maxHeartbeats 4000000 in
set_option maxRecDepth 100000 in
theorem c_Bytes_addNumber (l : Launch) (K : gK) (E : gE) (b cap : Nat) (bs : Bs) (t : Nat) (ht : t < 2 ^ 31) (hr : bs.length + 10 ≤ cap) (hB : isB K E b cap bs) : gMv l y_Bytes_addNumber b_Bytes_addNumber 3 1 64 K E [.ref (ka K b), .int (nI t)] (fun E' => isB K E' b cap (bs ++ numB t) ∧ fr2 b E E') := by
  refine g_metv (by decide +kernel) (Nat.le_of_ble_eq_true rfl) (fun X hl C hR => ?_)
  subst hl
  show gW X K E 0 [(0, .ref (ka K b)), (1, .int (nI t))] []
  refine g_ldc (pc := 0) (v := nI 1000000000) C (tb3 147 rfl rfl) d_Bytes_addNumber_0 ?_
  refine g_istore_n (pc := 2) (lv' := [(2, .int (nI 1000000000)), (0, .ref (ka K b)), (1, .int (nI t))]) C d_Bytes_addNumber_2 rfl (by decide) rfl ?_
  exact w_addNumber C E b cap t bs ht hR 10 (Nat.le_refl _) bs E hB (fun k _ _ => rfl) hr rfl

set_option maxHeartbeats 4000000 in
set_option maxRecDepth 100000 in
theorem c_Bytes_become (l : Launch) (K : gK) (E : gE) (b cap : Nat) (bs : Bs) (s cap2 : Nat) (ss : Bs) (hs : ss.length ≤ cap) (n1 : s ≠ b) (n2 : s ≠ b + 1) (n3 : s + 1 ≠ b) (hB : isB K E b cap bs) (hO : isB K E s cap2 ss) : gMv l y_Bytes_become b_Bytes_become 2 1 64 K E [.ref (ka K b), .ref (ka K s)] (fun E' => isB K E' b cap (ss) ∧ fr2 b E E') := by
  obtain ⟨hb1, hle, hbN, hcap, f, hb2, hf⟩ := hB
  obtain ⟨ho1, hole, hoN, hocap, g, ho2, hg⟩ := hO
  refine g_metv (by decide +kernel) (Nat.le_of_ble_eq_true rfl) (fun X hl C hR => ?_)
  subst hl
  show gW X K E 0 [(0, .ref (ka K b)), (1, .ref (ka K s))] []
  refine g_aload_n (pc := 0) C d_Bytes_become_0 0 rfl ?_
  refine g_aload_n (pc := 1) C d_Bytes_become_1 1 rfl ?_
  refine g_get (pc := 2) C fl_Bytes_19 ho1 (by omega) rfl d_Bytes_become_2 ?_
  refine g_aload_n (pc := 5) C d_Bytes_become_5 0 rfl ?_
  refine g_get (pc := 6) C fl_Bytes_13 hb1 (by omega) rfl d_Bytes_become_6 ?_
  refine g_alen (pc := 9) C hb2 (by omega) (gt_B _) rfl d_Bytes_become_9 ?_
  refine g_mminI (pc := 10) C ml_Bytes_27 (by decide) (Nat.le_of_ble_eq_true rfl) d_Bytes_become_10 ?_
  refine g_top (min_nI (by omega) (by omega)) ?_
  refine g_top (y := nI ss.length) (by rw [Nat.min_eq_left hs]) ?_
  refine g_put (pc := 13) C fl_Bytes_19 fw_Bytes_length hb1 (by omega) (Nat.le_of_ble_eq_true rfl) ⟨rfl, rfl⟩ d_Bytes_become_13 (fun E13 hE13 => ?_)
  have fE13_1 : E13 b = .inr (0, [.ref (ka K (b + 1)), .int (nI ss.length)]) := by rw [hE13]; exact va_up_self _ _ _
  have fE13_2 := (congrFun hE13 (b + 1)).trans ((va_up_ne _ _ (show b + 1 ≠ b from by omega)).trans hb2)
  have fE13_3 := (congrFun hE13 s).trans ((va_up_ne _ _ (show s ≠ b from by omega)).trans ho1)
  have fE13_4 := (congrFun hE13 (s + 1)).trans ((va_up_ne _ _ (show s + 1 ≠ b from by omega)).trans ho2)
  refine g_aload_n (pc := 16) C d_Bytes_become_16 1 rfl ?_
  refine g_get (pc := 17) C fl_Bytes_13 fE13_3 (by omega) rfl d_Bytes_become_17 ?_
  refine g_iconst (pc := 20) (v := nI 0) C d_Bytes_become_20 (by decide) ?_
  refine g_aload_n (pc := 21) C d_Bytes_become_21 0 rfl ?_
  refine g_get (pc := 22) C fl_Bytes_13 fE13_1 (by omega) rfl d_Bytes_become_22 ?_
  refine g_iconst (pc := 25) (v := nI 0) C d_Bytes_become_25 (by decide) ?_
  refine g_aload_n (pc := 26) C d_Bytes_become_26 0 rfl ?_
  refine g_get (pc := 27) C fl_Bytes_19 fE13_1 (by omega) rfl d_Bytes_become_27 ?_
  refine g_copyN (pc := 30) C ml_Bytes_30 fE13_4 fE13_2 (by omega) (by omega) (by omega) (by omega) (by omega) (by omega) (fun q hq => by rw [hg _ (by omega)]; exact ub_fit _) (by decide) (Nat.le_of_ble_eq_true rfl) d_Bytes_become_30 (fun E30 hE30 => ?_)
  have fE30_1 := (congrFun hE30 b).trans ((va_up_ne _ _ (show b ≠ b + 1 from by omega)).trans fE13_1)
  have fE30_2 : E30 (b + 1) = .inl (kc K 0, cap, .inl (va_cpy g f 0 0 ss.length)) := by rw [hE30]; exact va_up_self _ _ _
  have fE30_3 := (congrFun hE30 s).trans ((va_up_ne _ _ (show s ≠ b + 1 from by omega)).trans fE13_3)
  have fE30_4 := (congrFun hE30 (s + 1)).trans ((va_up_ne _ _ (show s + 1 ≠ b + 1 from by omega)).trans fE13_4)
  refine g_vret (pc := 33) C hR d_Bytes_become_33 ?_
  exact ⟨⟨fE30_1, hs, hbN, hcap, _, fE30_2, B_all hg⟩, fun k h1 h2 => by rw [hE30, va_up_ne _ _ h2, hE13, va_up_ne _ _ h1]⟩

set_option maxHeartbeats 4000000 in
set_option maxRecDepth 100000 in
theorem c_Bytes_replaceHead (l : Launch) (K : gK) (E : gE) (b cap : Nat) (bs : Bs) (i s cap2 : Nat) (ss : Bs) (hi : i ≤ bs.length) (hs : ss.length + (bs.length - i) ≤ cap) (n1 : s ≠ b) (n2 : s ≠ b + 1) (n3 : s + 1 ≠ b) (hB : isB K E b cap bs) (hO : isB K E s cap2 ss) : gMv l y_Bytes_replaceHead b_Bytes_replaceHead 4 1 64 K E [.ref (ka K b), .int (nI i), .ref (ka K s)] (fun E' => isB K E' b cap (ss ++ bs.drop i) ∧ fr2 b E E') := by
  obtain ⟨hb1, hle, hbN, hcap, f, hb2, hf⟩ := hB
  obtain ⟨ho1, hole, hoN, hocap, g, ho2, hg⟩ := hO
  refine g_metv (by decide +kernel) (Nat.le_of_ble_eq_true rfl) (fun X hl C hR => ?_)
  subst hl
  show gW X K E 0 [(0, .ref (ka K b)), (1, .int (nI i)), (2, .ref (ka K s))] []
  refine g_aload_n (pc := 0) C d_Bytes_replaceHead_0 0 rfl ?_
  refine g_get (pc := 1) C fl_Bytes_19 hb1 (by omega) rfl d_Bytes_replaceHead_1 ?_
  refine g_iload_n (pc := 4) C d_Bytes_replaceHead_4 1 rfl ?_
  refine g_isubN (pc := 5) C hi d_Bytes_replaceHead_5 ?_
  refine g_istore_n (pc := 6) (lv' := [(3, .int (nI (bs.length - i))), (0, .ref (ka K b)), (1, .int (nI i)), (2, .ref (ka K s))]) C d_Bytes_replaceHead_6 rfl (by decide) rfl ?_
  refine g_iload_n (pc := 7) C d_Bytes_replaceHead_7 2 rfl ?_
  refine g_if_ltN (pc := 8) C 29 d_Bytes_replaceHead_8 (by decide) (by omega) ?_
  refine g_iload_n (pc := 11) C d_Bytes_replaceHead_11 0 rfl ?_
  refine g_if_ltN (pc := 12) C 29 d_Bytes_replaceHead_12 (by decide) (by omega) ?_
  refine g_aload_n (pc := 15) C d_Bytes_replaceHead_15 3 rfl ?_
  refine g_get (pc := 16) C fl_Bytes_19 ho1 (by omega) rfl d_Bytes_replaceHead_16 ?_
  refine g_iload_n (pc := 19) C d_Bytes_replaceHead_19 0 rfl ?_
  refine g_iaddN (pc := 20) C d_Bytes_replaceHead_20 ?_
  refine g_aload_n (pc := 21) C d_Bytes_replaceHead_21 1 rfl ?_
  refine g_get (pc := 22) C fl_Bytes_13 hb1 (by omega) rfl d_Bytes_replaceHead_22 ?_
  refine g_alen (pc := 25) C hb2 (by omega) (gt_B _) rfl d_Bytes_replaceHead_25 ?_
  refine g_icmp_leN (pc := 26) C 30 d_Bytes_replaceHead_26 (by decide) (by omega) (by omega) (fun h_26 => ?_) (fun h_26 => ?_)
  · skip
    refine g_aload_n (pc := 30) C d_Bytes_replaceHead_30 1 rfl ?_
    refine g_get (pc := 31) C fl_Bytes_13 hb1 (by omega) rfl d_Bytes_replaceHead_31 ?_
    refine g_iload_n (pc := 34) C d_Bytes_replaceHead_34 2 rfl ?_
    refine g_aload_n (pc := 35) C d_Bytes_replaceHead_35 1 rfl ?_
    refine g_get (pc := 36) C fl_Bytes_13 hb1 (by omega) rfl d_Bytes_replaceHead_36 ?_
    refine g_aload_n (pc := 39) C d_Bytes_replaceHead_39 3 rfl ?_
    refine g_get (pc := 40) C fl_Bytes_19 ho1 (by omega) rfl d_Bytes_replaceHead_40 ?_
    refine g_iload_n (pc := 43) C d_Bytes_replaceHead_43 0 rfl ?_
    refine g_copyN (pc := 44) C ml_Bytes_30 hb2 hb2 (by omega) (by omega) (by omega) (by omega) (by omega) (by omega) (fun q hq => by rw [hf _ (by omega)]; exact ub_fit _) (by decide) (Nat.le_of_ble_eq_true rfl) d_Bytes_replaceHead_44 (fun E44 hE44 => ?_)
    have fE44_1 := (congrFun hE44 b).trans ((va_up_ne _ _ (show b ≠ b + 1 from by omega)).trans hb1)
    have fE44_2 : E44 (b + 1) = .inl (kc K 0, cap, .inl (va_cpy f f i ss.length (bs.length - i))) := by rw [hE44]; exact va_up_self _ _ _
    have fE44_3 := (congrFun hE44 s).trans ((va_up_ne _ _ (show s ≠ b + 1 from by omega)).trans ho1)
    have fE44_4 := (congrFun hE44 (s + 1)).trans ((va_up_ne _ _ (show s + 1 ≠ b + 1 from by omega)).trans ho2)
    refine g_aload_n (pc := 47) C d_Bytes_replaceHead_47 3 rfl ?_
    refine g_get (pc := 48) C fl_Bytes_13 fE44_3 (by omega) rfl d_Bytes_replaceHead_48 ?_
    refine g_iconst (pc := 51) (v := nI 0) C d_Bytes_replaceHead_51 (by decide) ?_
    refine g_aload_n (pc := 52) C d_Bytes_replaceHead_52 1 rfl ?_
    refine g_get (pc := 53) C fl_Bytes_13 fE44_1 (by omega) rfl d_Bytes_replaceHead_53 ?_
    refine g_iconst (pc := 56) (v := nI 0) C d_Bytes_replaceHead_56 (by decide) ?_
    refine g_aload_n (pc := 57) C d_Bytes_replaceHead_57 3 rfl ?_
    refine g_get (pc := 58) C fl_Bytes_19 fE44_3 (by omega) rfl d_Bytes_replaceHead_58 ?_
    refine g_copyN (pc := 61) C ml_Bytes_30 fE44_4 fE44_2 (by omega) (by omega) (by omega) (by omega) (by omega) (by omega) (fun q hq => by rw [hg _ (by omega)]; exact ub_fit _) (by decide) (Nat.le_of_ble_eq_true rfl) d_Bytes_replaceHead_61 (fun E61 hE61 => ?_)
    have fE61_1 := (congrFun hE61 b).trans ((va_up_ne _ _ (show b ≠ b + 1 from by omega)).trans fE44_1)
    have fE61_2 : E61 (b + 1) = .inl (kc K 0, cap, .inl (va_cpy g (va_cpy f f i ss.length (bs.length - i)) 0 0 ss.length)) := by rw [hE61]; exact va_up_self _ _ _
    have fE61_3 := (congrFun hE61 s).trans ((va_up_ne _ _ (show s ≠ b + 1 from by omega)).trans fE44_3)
    have fE61_4 := (congrFun hE61 (s + 1)).trans ((va_up_ne _ _ (show s + 1 ≠ b + 1 from by omega)).trans fE44_4)
    refine g_aload_n (pc := 64) C d_Bytes_replaceHead_64 1 rfl ?_
    refine g_aload_n (pc := 65) C d_Bytes_replaceHead_65 3 rfl ?_
    refine g_get (pc := 66) C fl_Bytes_19 fE61_3 (by omega) rfl d_Bytes_replaceHead_66 ?_
    refine g_iload_n (pc := 69) C d_Bytes_replaceHead_69 0 rfl ?_
    refine g_iaddN (pc := 70) C d_Bytes_replaceHead_70 ?_
    refine g_put (pc := 71) C fl_Bytes_19 fw_Bytes_length fE61_1 (by omega) (Nat.le_of_ble_eq_true rfl) ⟨rfl, rfl⟩ d_Bytes_replaceHead_71 (fun E71 hE71 => ?_)
    have fE71_1 : E71 b = .inr (0, [.ref (ka K (b + 1)), .int (nI (ss.length + (bs.length - i)))]) := by rw [hE71]; exact va_up_self _ _ _
    have fE71_2 := (congrFun hE71 (b + 1)).trans ((va_up_ne _ _ (show b + 1 ≠ b from by omega)).trans fE61_2)
    have fE71_3 := (congrFun hE71 s).trans ((va_up_ne _ _ (show s ≠ b from by omega)).trans fE61_3)
    have fE71_4 := (congrFun hE71 (s + 1)).trans ((va_up_ne _ _ (show s + 1 ≠ b from by omega)).trans fE61_4)
    refine g_vret (pc := 74) C hR d_Bytes_replaceHead_74 ?_
    exact ⟨⟨by rw [List.length_append, List.length_drop]; exact fE71_1, by rw [List.length_append, List.length_drop]; exact hs, hbN, hcap, _, fE71_2, B_head hi hf hg⟩, fun k h1 h2 => by rw [hE71, va_up_ne _ _ h1, hE61, va_up_ne _ _ h2, hE44, va_up_ne _ _ h2]⟩
  · exact absurd h_26 (by omega)

set_option maxHeartbeats 4000000 in
set_option maxRecDepth 100000 in
theorem w_beginsLike {X : gX} {K : gK} (C : gC X K b_Bytes_beginsLike "DavRoom$Bytes" 4 0 0) (E : gE) (b cap : Nat) (bs : Bs) (s cap2 : Nat) (ss : Bs) (n : Nat) (hn1 : n ≤ bs.length) (hn2 : n ≤ ss.length) (hB : isB K E b cap bs) (hO : isB K E s cap2 ss) (hR : gRi X K .boolean (fun r E' => r = bI (sameN bs ss n) ∧ E' = E)) : ∀ (d i : Nat), i ≤ n → n + 1 ≤ i + d → (∀ (j : Nat) (a : j < bs.length) (b : j < ss.length), j < i → bs[j] = ss[j]) → gW X K E 20 [(3, .int (nI i)), (0, .ref (ka K b)), (1, .ref (ka K s)), (2, .int (nI n))] [] := by
  obtain ⟨hb1, hle, hbN, hcap, f, hb2, hf⟩ := hB
  obtain ⟨ho1, hole, hoN, hocap, g, ho2, hg⟩ := hO
  intro d
  induction d with
  | zero =>
    intro i h1 h2
    exact absurd h2 (by omega)
  | succ d ih =>
    intro i hi hd hinv
    refine g_iload_n (pc := 20) C d_Bytes_beginsLike_20 0 rfl ?_
    refine g_iload_n (pc := 21) C d_Bytes_beginsLike_21 3 rfl ?_
    refine g_icmp_geN (pc := 22) C 48 d_Bytes_beginsLike_22 (by decide) (by omega) (by omega) (fun h_22 => ?_) (fun h_22 => ?_)
    · skip
      refine g_iconst (pc := 48) (v := nI 1) C d_Bytes_beginsLike_48 (by decide) ?_
      refine g_zret (pc := 49) C hR rfl d_Bytes_beginsLike_49 ?_
      exact ⟨by rw [sameN_t hn1 hn2 (fun j a b hj => hinv j a b (by omega))]; rfl, rfl⟩
    · skip
      refine g_aload_n (pc := 25) C d_Bytes_beginsLike_25 1 rfl ?_
      refine g_get (pc := 26) C fl_Bytes_13 hb1 (by omega) rfl d_Bytes_beginsLike_26 ?_
      refine g_iload_n (pc := 29) C d_Bytes_beginsLike_29 0 rfl ?_
      refine g_baldN (pc := 30) C hb2 (by omega) (gt_B _) (by omega) (by omega) d_Bytes_beginsLike_30 ?_
      refine g_aload_n (pc := 31) C d_Bytes_beginsLike_31 2 rfl ?_
      refine g_get (pc := 32) C fl_Bytes_13 ho1 (by omega) rfl d_Bytes_beginsLike_32 ?_
      refine g_iload_n (pc := 35) C d_Bytes_beginsLike_35 0 rfl ?_
      refine g_baldN (pc := 36) C ho2 (by omega) (gt_B _) (by omega) (by omega) d_Bytes_beginsLike_36 ?_
      refine g_icmp_eq (pc := 37) C 42 d_Bytes_beginsLike_37 (by decide) (fun h_37 => ?_) (fun h_37 => ?_)
      · skip
        rw [hf i (by omega), hg i (by omega), ub_inj] at h_37
        refine g_iinc (pc := 42) (pl := 0) (v := nI (i + 1)) (lv' := [(3, .int (nI (i + 1))), (0, .ref (ka K b)), (1, .ref (ka K s)), (2, .int (nI n))]) C d_Bytes_beginsLike_42 rfl (nI_1 _) (by decide) rfl ?_
        refine g_goto (pc := 45) C 20 d_Bytes_beginsLike_45 (by decide) ?_
        exact g_lv [0, 1, 2, 3] rfl (ih (i + 1) (by omega) (by omega) (fun j a b hj => by
          rcases Nat.lt_or_ge j i with q | q
          · exact hinv j a b q
          · have e : j = i := by omega
            subst e
            exact h_37))
      · skip
        rw [hf i (by omega), hg i (by omega), ub_inj] at h_37
        refine g_iconst (pc := 40) (v := nI 0) C d_Bytes_beginsLike_40 (by decide) ?_
        refine g_zret (pc := 41) C hR rfl d_Bytes_beginsLike_41 ?_
        exact ⟨by rw [sameN_f (by omega) (by omega) (by omega) h_37]; rfl, rfl⟩

set_option maxHeartbeats 4000000 in
set_option maxRecDepth 100000 in
theorem c_Bytes_beginsLike (l : Launch) (K : gK) (E : gE) (b cap : Nat) (bs : Bs) (s cap2 : Nat) (ss : Bs) (n : Nat) (hn : n < 2 ^ 31) (hB : isB K E b cap bs) (hO : isB K E s cap2 ss) : gMi l y_Bytes_beginsLike b_Bytes_beginsLike 4 .boolean 0 0 K E [.ref (ka K b), .ref (ka K s), .int (nI n)] (fun r E' => r = bI (sameN bs ss n) ∧ E' = E) := by
  have hB0 := hB
  have hO0 := hO
  obtain ⟨hb1, hle, hbN, hcap, f, hb2, hf⟩ := hB
  obtain ⟨ho1, hole, hoN, hocap, g, ho2, hg⟩ := hO
  refine g_meti (by decide +kernel) (Nat.le_of_ble_eq_true rfl) (fun X hl C hR => ?_)
  subst hl
  show gW X K E 0 [(0, .ref (ka K b)), (1, .ref (ka K s)), (2, .int (nI n))] []
  refine g_iload_n (pc := 0) C d_Bytes_beginsLike_0 2 rfl ?_
  refine g_aload_n (pc := 1) C d_Bytes_beginsLike_1 0 rfl ?_
  refine g_get (pc := 2) C fl_Bytes_19 hb1 (by omega) rfl d_Bytes_beginsLike_2 ?_
  refine g_icmp_gtN (pc := 5) C 16 d_Bytes_beginsLike_5 (by decide) (by omega) (by omega) (fun h_5 => ?_) (fun h_5 => ?_)
  · skip
    refine g_iconst (pc := 16) (v := nI 0) C d_Bytes_beginsLike_16 (by decide) ?_
    refine g_zret (pc := 17) C hR rfl d_Bytes_beginsLike_17 ?_
    exact ⟨by rw [sameN_sh (by omega)]; rfl, rfl⟩
  · skip
    refine g_iload_n (pc := 8) C d_Bytes_beginsLike_8 2 rfl ?_
    refine g_aload_n (pc := 9) C d_Bytes_beginsLike_9 1 rfl ?_
    refine g_get (pc := 10) C fl_Bytes_19 ho1 (by omega) rfl d_Bytes_beginsLike_10 ?_
    refine g_icmp_leN (pc := 13) C 18 d_Bytes_beginsLike_13 (by decide) (by omega) (by omega) (fun h_13 => ?_) (fun h_13 => ?_)
    · skip
      refine g_iconst (pc := 18) (v := nI 0) C d_Bytes_beginsLike_18 (by decide) ?_
      refine g_istore_n (pc := 19) (lv' := [(3, .int (nI 0)), (0, .ref (ka K b)), (1, .ref (ka K s)), (2, .int (nI n))]) C d_Bytes_beginsLike_19 rfl (by decide) rfl ?_
      exact w_beginsLike C E b cap bs s cap2 ss n (by omega) (by omega) hB0 hO0 hR (n + 1) 0 (Nat.zero_le _) (by omega) (fun j _ _ h => absurd h (Nat.not_lt_zero _))
    · skip
      refine g_iconst (pc := 16) (v := nI 0) C d_Bytes_beginsLike_16 (by decide) ?_
      refine g_zret (pc := 17) C hR rfl d_Bytes_beginsLike_17 ?_
      exact ⟨by rw [sameN_sh (by omega)]; rfl, rfl⟩

set_option maxHeartbeats 4000000 in
set_option maxRecDepth 100000 in
theorem c_Bytes_isSame (l : Launch) (K : gK) (E : gE) (b cap : Nat) (bs : Bs) (s cap2 : Nat) (ss : Bs) (hB : isB K E b cap bs) (hO : isB K E s cap2 ss) : gMi l y_Bytes_isSame b_Bytes_isSame 2 .boolean 1 64 K E [.ref (ka K b), .ref (ka K s)] (fun r E' => r = bI (decide (bs = ss)) ∧ E' = E) := by
  have hB0 := hB
  have hO0 := hO
  obtain ⟨hb1, hle, hbN, hcap, f, hb2, hf⟩ := hB
  obtain ⟨ho1, hole, hoN, hocap, g, ho2, hg⟩ := hO
  refine g_meti (by decide +kernel) (Nat.le_of_ble_eq_true rfl) (fun X hl C hR => ?_)
  subst hl
  show gW X K E 0 [(0, .ref (ka K b)), (1, .ref (ka K s))] []
  refine g_aload_n (pc := 0) C d_Bytes_isSame_0 0 rfl ?_
  refine g_get (pc := 1) C fl_Bytes_19 hb1 (by omega) rfl d_Bytes_isSame_1 ?_
  refine g_aload_n (pc := 4) C d_Bytes_isSame_4 1 rfl ?_
  refine g_get (pc := 5) C fl_Bytes_19 ho1 (by omega) rfl d_Bytes_isSame_5 ?_
  refine g_icmp_neN (pc := 8) C 27 d_Bytes_isSame_8 (by decide) (by omega) (by omega) (fun h_8 => ?_) (fun h_8 => ?_)
  · skip
    refine g_iconst (pc := 27) (v := nI 0) C d_Bytes_isSame_27 (by decide) ?_
    refine g_zret (pc := 28) C hR rfl d_Bytes_isSame_28 ?_
    first
      | exact ⟨by rw [decide_eq_false (fun e => h_8 (by rw [e]))]; rfl, rfl⟩
      | exact ⟨by rw [← sameN_all h_8, h_20]; rfl, rfl⟩
  · skip
    refine g_aload_n (pc := 11) C d_Bytes_isSame_11 0 rfl ?_
    refine g_aload_n (pc := 12) C d_Bytes_isSame_12 1 rfl ?_
    refine g_aload_n (pc := 13) C d_Bytes_isSame_13 0 rfl ?_
    refine g_get (pc := 14) C fl_Bytes_19 hb1 (by omega) rfl d_Bytes_isSame_14 ?_
    refine g_ci (pc := 17) C (g_rV (As := [.ref (ka K s), .int (nI bs.length)]) (rest := []) C (c_Bytes_beginsLike _ K _ b cap bs s cap2 ss bs.length (by omega) hB0 hO0) mw_Bytes_beginsLike mo_Bytes_beginsLike ml_Bytes_37 (by decide) hb1 rfl (by omega) rfl rfl (Nat.le_of_ble_eq_true rfl) d_Bytes_isSame_17) (fun r17 E17 hp17 => ?_)
    rw [hp17.1, hp17.2]
    refine g_if_eqB (pc := 20) C 27 d_Bytes_isSame_20 (by decide) (fun h_20 => ?_) (fun h_20 => ?_)
    · skip
      refine g_iconst (pc := 27) (v := nI 0) C d_Bytes_isSame_27 (by decide) ?_
      refine g_zret (pc := 28) C hR rfl d_Bytes_isSame_28 ?_
      first
        | exact ⟨by rw [decide_eq_false (fun e => h_8 (by rw [e]))]; rfl, rfl⟩
        | exact ⟨by rw [← sameN_all h_8, h_20]; rfl, rfl⟩
    · skip
      refine g_iconst (pc := 23) (v := nI 1) C d_Bytes_isSame_23 (by decide) ?_
      refine g_goto (pc := 24) C 28 d_Bytes_isSame_24 (by decide) ?_
      refine g_zret (pc := 28) C hR rfl d_Bytes_isSame_28 ?_
      first
        | exact ⟨by rw [decide_eq_false (fun e => h_8 (by rw [e]))]; rfl, rfl⟩
        | exact ⟨by rw [← sameN_all h_8, h_20]; rfl, rfl⟩

set_option maxHeartbeats 4000000 in
set_option maxRecDepth 100000 in
theorem w_isBefore {X : gX} {K : gK} (C : gC X K b_Bytes_isBefore "DavRoom$Bytes" 5 1 64) (E : gE) (b cap : Nat) (bs : Bs) (s cap2 : Nat) (ss : Bs) (hB : isB K E b cap bs) (hO : isB K E s cap2 ss) (hR : gRi X K .boolean (fun r E' => r = bI (ltB bs ss) ∧ E' = E)) : ∀ (d i : Nat), i ≤ min bs.length ss.length → min bs.length ss.length + 1 ≤ i + d → (∀ (j : Nat) (a : j < bs.length) (b : j < ss.length), j < i → bs[j] = ss[j]) → gW X K E 14 [(3, .int (nI i)), (2, .int (nI (min bs.length ss.length))), (0, .ref (ka K b)), (1, .ref (ka K s))] [] := by
  obtain ⟨hb1, hle, hbN, hcap, f, hb2, hf⟩ := hB
  obtain ⟨ho1, hole, hoN, hocap, g, ho2, hg⟩ := hO
  intro d
  induction d with
  | zero =>
    intro i h1 h2
    exact absurd h2 (by omega)
  | succ d ih =>
    intro i hi hd hinv
    refine g_iload_n (pc := 14) C d_Bytes_isBefore_14 0 rfl ?_
    refine g_iload_n (pc := 15) C d_Bytes_isBefore_15 1 rfl ?_
    refine g_icmp_geN (pc := 16) C 64 d_Bytes_isBefore_16 (by decide) (by omega) (by omega) (fun h_16 => ?_) (fun h_16 => ?_)
    · skip
      refine g_aload_n (pc := 64) C d_Bytes_isBefore_64 2 rfl ?_
      refine g_get (pc := 65) C fl_Bytes_19 hb1 (by omega) rfl d_Bytes_isBefore_65 ?_
      refine g_aload_n (pc := 68) C d_Bytes_isBefore_68 3 rfl ?_
      refine g_get (pc := 69) C fl_Bytes_19 ho1 (by omega) rfl d_Bytes_isBefore_69 ?_
      refine g_icmp_geN (pc := 72) C 79 d_Bytes_isBefore_72 (by decide) (by omega) (by omega) (fun h_72 => ?_) (fun h_72 => ?_)
      · skip
        refine g_iconst (pc := 79) (v := nI 0) C d_Bytes_isBefore_79 (by decide) ?_
        refine g_zret (pc := 80) C hR rfl d_Bytes_isBefore_80 ?_
        rw [ltB_end (fun j a b => hinv j a b (by omega))]
        first
          | exact ⟨by rw [decide_eq_true (by omega)]; rfl, rfl⟩
          | exact ⟨by rw [decide_eq_false (by omega)]; rfl, rfl⟩
      · skip
        refine g_iconst (pc := 75) (v := nI 1) C d_Bytes_isBefore_75 (by decide) ?_
        refine g_goto (pc := 76) C 80 d_Bytes_isBefore_76 (by decide) ?_
        refine g_zret (pc := 80) C hR rfl d_Bytes_isBefore_80 ?_
        rw [ltB_end (fun j a b => hinv j a b (by omega))]
        first
          | exact ⟨by rw [decide_eq_true (by omega)]; rfl, rfl⟩
          | exact ⟨by rw [decide_eq_false (by omega)]; rfl, rfl⟩
    · skip
      have hi1 : i < bs.length := by omega
      have hi2 : i < ss.length := by omega
      have x1 := (bs[i]).toNat_lt
      have x2 := (ss[i]).toNat_lt
      refine g_aload_n (pc := 19) C d_Bytes_isBefore_19 2 rfl ?_
      refine g_get (pc := 20) C fl_Bytes_13 hb1 (by omega) rfl d_Bytes_isBefore_20 ?_
      refine g_iload_n (pc := 23) C d_Bytes_isBefore_23 0 rfl ?_
      refine g_baldN (pc := 24) C hb2 (by omega) (gt_B _) (by omega) (by omega) d_Bytes_isBefore_24 ?_
      refine g_sipush (pc := 25) (v := nI 255) C d_Bytes_isBefore_25 (by decide) ?_
      refine g_iand (pc := 28) C d_Bytes_isBefore_28 ?_
      refine g_top (y := nI (bs[i].toNat)) (by rw [hf i hi1, ub_andN]) ?_
      refine g_aload_n (pc := 29) C d_Bytes_isBefore_29 3 rfl ?_
      refine g_get (pc := 30) C fl_Bytes_13 ho1 (by omega) rfl d_Bytes_isBefore_30 ?_
      refine g_iload_n (pc := 33) C d_Bytes_isBefore_33 0 rfl ?_
      refine g_baldN (pc := 34) C ho2 (by omega) (gt_B _) (by omega) (by omega) d_Bytes_isBefore_34 ?_
      refine g_sipush (pc := 35) (v := nI 255) C d_Bytes_isBefore_35 (by decide) ?_
      refine g_iand (pc := 38) C d_Bytes_isBefore_38 ?_
      refine g_top (y := nI (ss[i].toNat)) (by rw [hg i hi2, ub_andN]) ?_
      refine g_isub (pc := 39) C d_Bytes_isBefore_39 ?_
      refine g_istore (pc := 40) (lv' := [(4, .int ((nI (bs[i].toNat)) - (nI (ss[i].toNat)))), (3, .int (nI i)), (2, .int (nI (min bs.length ss.length))), (0, .ref (ka K b)), (1, .ref (ka K s))]) C d_Bytes_isBefore_40 (by decide) rfl ?_
      refine g_iload (pc := 42) C d_Bytes_isBefore_42 0 rfl ?_
      refine g_if_eq (pc := 44) C 58 d_Bytes_isBefore_44 (by decide) (fun h_44 => ?_) (fun h_44 => ?_)
      · skip
        rw [subI_eq0 (by omega) (by omega)] at h_44
        have h_44 := UInt8.toNat_inj.mp h_44
        refine g_iinc (pc := 58) (pl := 1) (v := nI (i + 1)) (lv' := [(3, .int (nI (i + 1))), (4, .int ((nI (bs[i].toNat)) - (nI (ss[i].toNat)))), (2, .int (nI (min bs.length ss.length))), (0, .ref (ka K b)), (1, .ref (ka K s))]) C d_Bytes_isBefore_58 rfl (nI_1 _) (by decide) rfl ?_
        refine g_goto (pc := 61) C 14 d_Bytes_isBefore_61 (by decide) ?_
        exact g_lv [0, 2, 3, 4] rfl (ih (i + 1) (by omega) (by omega) (fun j a b hj => by
          rcases Nat.lt_or_ge j i with q | q
          · exact hinv j a b q
          · have e : j = i := by omega
            subst e
            exact h_44))
      · skip
        rw [subI_eq0 (by omega) (by omega)] at h_44
        refine g_iload (pc := 47) C d_Bytes_isBefore_47 0 rfl ?_
        refine g_if_ge (pc := 49) C 56 d_Bytes_isBefore_49 (by decide) (fun h_49 => ?_) (fun h_49 => ?_)
        · skip
          rw [subI_ge0 (by omega) (by omega)] at h_49
          refine g_iconst (pc := 56) (v := nI 0) C d_Bytes_isBefore_56 (by decide) ?_
          refine g_zret (pc := 57) C hR rfl d_Bytes_isBefore_57 ?_
          rw [ltB_ne hi1 hi2 hinv (fun e => h_44 (by rw [e]))]
          first
            | exact ⟨by rw [decide_eq_true (by omega)]; rfl, rfl⟩
            | exact ⟨by rw [decide_eq_false (by omega)]; rfl, rfl⟩
        · skip
          rw [subI_ge0 (by omega) (by omega)] at h_49
          refine g_iconst (pc := 52) (v := nI 1) C d_Bytes_isBefore_52 (by decide) ?_
          refine g_goto (pc := 53) C 57 d_Bytes_isBefore_53 (by decide) ?_
          refine g_zret (pc := 57) C hR rfl d_Bytes_isBefore_57 ?_
          rw [ltB_ne hi1 hi2 hinv (fun e => h_44 (by rw [e]))]
          first
            | exact ⟨by rw [decide_eq_true (by omega)]; rfl, rfl⟩
            | exact ⟨by rw [decide_eq_false (by omega)]; rfl, rfl⟩

set_option maxHeartbeats 4000000 in
set_option maxRecDepth 100000 in
theorem c_Bytes_isBefore (l : Launch) (K : gK) (E : gE) (b cap : Nat) (bs : Bs) (s cap2 : Nat) (ss : Bs) (hB : isB K E b cap bs) (hO : isB K E s cap2 ss) : gMi l y_Bytes_isBefore b_Bytes_isBefore 5 .boolean 1 64 K E [.ref (ka K b), .ref (ka K s)] (fun r E' => r = bI (ltB bs ss) ∧ E' = E) := by
  have hB0 := hB
  have hO0 := hO
  obtain ⟨hb1, hle, hbN, hcap, f, hb2, hf⟩ := hB
  obtain ⟨ho1, hole, hoN, hocap, g, ho2, hg⟩ := hO
  refine g_meti (by decide +kernel) (Nat.le_of_ble_eq_true rfl) (fun X hl C hR => ?_)
  subst hl
  show gW X K E 0 [(0, .ref (ka K b)), (1, .ref (ka K s))] []
  refine g_aload_n (pc := 0) C d_Bytes_isBefore_0 0 rfl ?_
  refine g_get (pc := 1) C fl_Bytes_19 hb1 (by omega) rfl d_Bytes_isBefore_1 ?_
  refine g_aload_n (pc := 4) C d_Bytes_isBefore_4 1 rfl ?_
  refine g_get (pc := 5) C fl_Bytes_19 ho1 (by omega) rfl d_Bytes_isBefore_5 ?_
  refine g_mminI (pc := 8) C ml_Bytes_27 (by decide) (Nat.le_of_ble_eq_true rfl) d_Bytes_isBefore_8 ?_
  refine g_top (min_nI (by omega) (by omega)) ?_
  refine g_istore_n (pc := 11) (lv' := [(2, .int (nI (min bs.length ss.length))), (0, .ref (ka K b)), (1, .ref (ka K s))]) C d_Bytes_isBefore_11 rfl (by decide) rfl ?_
  refine g_iconst (pc := 12) (v := nI 0) C d_Bytes_isBefore_12 (by decide) ?_
  refine g_istore_n (pc := 13) (lv' := [(3, .int (nI 0)), (2, .int (nI (min bs.length ss.length))), (0, .ref (ka K b)), (1, .ref (ka K s))]) C d_Bytes_isBefore_13 rfl (by decide) rfl ?_
  exact w_isBefore C E b cap bs s cap2 ss hB0 hO0 hR (min bs.length ss.length + 1) 0 (Nat.zero_le _) (by omega) (fun j _ _ h => absurd h (Nat.not_lt_zero _))

set_option maxHeartbeats 4000000 in
set_option maxRecDepth 100000 in
theorem w_indexOf {X : gX} {K : gK} (C : gC X K b_Bytes_indexOf "DavRoom$Bytes" 4 1 64) (E : gE) (b cap : Nat) (bs : Bs) (c : Int32) (k : Nat) (hB : isB K E b cap bs) (hR : gRi X K .int (fun r E' => r = idxF bs c k ∧ E' = E)) : ∀ (d i : Nat), i ≤ bs.length → bs.length + 1 ≤ i + d → idxF bs c i = idxF bs c k → gW X K E 6 [(3, .int (nI i)), (0, .ref (ka K b)), (1, .int c), (2, .int (nI k))] [] := by
  have hB0 := hB
  obtain ⟨hb1, hle, hbN, hcap, f, hb2, hf⟩ := hB
  intro d
  induction d with
  | zero =>
    intro i h1 h2
    exact absurd h2 (by omega)
  | succ d ih =>
    intro i hi hd hinv
    refine g_iload_n (pc := 6) C d_Bytes_indexOf_6 0 rfl ?_
    refine g_aload_n (pc := 7) C d_Bytes_indexOf_7 1 rfl ?_
    refine g_get (pc := 8) C fl_Bytes_19 hb1 (by omega) rfl d_Bytes_indexOf_8 ?_
    refine g_icmp_geN (pc := 11) C 31 d_Bytes_indexOf_11 (by decide) (by omega) (by omega) (fun h_11 => ?_) (fun h_11 => ?_)
    · skip
      refine g_iconst (pc := 31) (v := -1) C d_Bytes_indexOf_31 (by decide) ?_
      refine g_iret (pc := 32) C hR d_Bytes_indexOf_32 ?_
      exact ⟨by rw [← hinv, idxF_end h_11], rfl⟩
    · skip
      refine g_aload_n (pc := 14) C d_Bytes_indexOf_14 1 rfl ?_
      refine g_iload_n (pc := 15) C d_Bytes_indexOf_15 0 rfl ?_
      refine g_ci (pc := 16) C (g_rV (As := [.int (nI i)]) (rest := []) C (c_Bytes_at _ K _ b cap bs (nI i) hB0) mw_Bytes_at mo_Bytes_at ml_Bytes_50 (by decide) hb1 rfl (by omega) rfl rfl (Nat.le_of_ble_eq_true rfl) d_Bytes_indexOf_16) (fun r16 E16 hp16 => ?_)
      rw [hp16.1, hp16.2]
      refine g_top (y := nI (bs[i].toNat)) (atI_in h_11 (by omega)) ?_
      refine g_iload_n (pc := 19) C d_Bytes_indexOf_19 2 rfl ?_
      refine g_icmp_ne (pc := 20) C 25 d_Bytes_indexOf_20 (by decide) (fun h_20 => ?_) (fun h_20 => ?_)
      · skip
        refine g_iinc (pc := 25) (pl := 0) (v := nI (i + 1)) (lv' := [(3, .int (nI (i + 1))), (0, .ref (ka K b)), (1, .int c), (2, .int (nI k))]) C d_Bytes_indexOf_25 rfl (nI_1 _) (by decide) rfl ?_
        refine g_goto (pc := 28) C 6 d_Bytes_indexOf_28 (by decide) ?_
        exact g_lv [0, 1, 2, 3] rfl (ih (i + 1) (by omega) (by omega) (by rw [← hinv, idxF_step h_11 h_20]))
      · skip
        refine g_iload_n (pc := 23) C d_Bytes_indexOf_23 0 rfl ?_
        refine g_iret (pc := 24) C hR d_Bytes_indexOf_24 ?_
        exact ⟨by rw [← hinv, idxF_hit h_11 h_20], rfl⟩

set_option maxHeartbeats 4000000 in
set_option maxRecDepth 100000 in
theorem c_Bytes_indexOf (l : Launch) (K : gK) (E : gE) (b cap : Nat) (bs : Bs) (c : Int32) (k : Nat) (hk : k ≤ bs.length) (hB : isB K E b cap bs) : gMi l y_Bytes_indexOf b_Bytes_indexOf 4 .int 1 64 K E [.ref (ka K b), .int c, .int (nI k)] (fun r E' => r = idxF bs c k ∧ E' = E) := by
  have hB0 := hB
  obtain ⟨hb1, hle, hbN, hcap, f, hb2, hf⟩ := hB
  refine g_meti (by decide +kernel) (Nat.le_of_ble_eq_true rfl) (fun X hl C hR => ?_)
  subst hl
  show gW X K E 0 [(0, .ref (ka K b)), (1, .int c), (2, .int (nI k))] []
  refine g_iconst (pc := 0) (v := nI 0) C d_Bytes_indexOf_0 (by decide) ?_
  refine g_iload_n (pc := 1) C d_Bytes_indexOf_1 2 rfl ?_
  refine g_mmaxI (pc := 2) C ml_Bytes_7 (by decide) (Nat.le_of_ble_eq_true rfl) d_Bytes_indexOf_2 ?_
  refine g_top (max_nI (by omega) (by omega)) ?_
  refine g_top (y := nI k) (by rw [Nat.zero_max]) ?_
  refine g_istore_n (pc := 5) (lv' := [(3, .int (nI k)), (0, .ref (ka K b)), (1, .int c), (2, .int (nI k))]) C d_Bytes_indexOf_5 rfl (by decide) rfl ?_
  exact w_indexOf C E b cap bs c k hB0 hR (bs.length + 1) k hk (by omega) rfl
