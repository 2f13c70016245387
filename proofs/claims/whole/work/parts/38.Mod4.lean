/-! what the reference reads of a header -/
theorem dvN_lt : ∀ (l : Bs) (n : Nat), l.all digB = true → l.foldl (fun n c => n * 10 + (c.toNat - 48)) n < (n + 1) * 10 ^ l.length := by
  intro l
  induction l with
  | nil => intro n _; simp
  | cons c l ih =>
    intro n h
    rw [List.all_cons, Bool.and_eq_true] at h
    have h1 := of_decide_eq_true h.1
    have h2 := ih (n * 10 + (c.toNat - 48)) h.2
    rw [List.foldl_cons, List.length_cons, Nat.pow_succ]
    refine Nat.lt_of_lt_of_le h2 ?_
    have h3 : n * 10 + (c.toNat - 48) + 1 ≤ (n + 1) * 10 := by omega
    calc (n * 10 + (c.toNat - 48) + 1) * 10 ^ l.length ≤ (n + 1) * 10 * 10 ^ l.length := Nat.mul_le_mul_right _ h3
      _ = (n + 1) * (10 ^ l.length * 10) := by rw [Nat.mul_assoc, Nat.mul_comm 10]
theorem numV_cases (l : Bs) : numV l = -1 ∨ ∃ n, n < 2 ^ 31 ∧ numV l = nI n := by
  unfold numV
  split
  · rename_i h
    refine Or.inr ⟨dvN l, ?_, rfl⟩
    have h1 := dvN_lt l 0 h.2.2
    have h2 : 10 ^ l.length ≤ 10 ^ 9 := Nat.pow_le_pow_right (by decide) h.2.1
    unfold dvN
    omega
  · exact Or.inl rfl
theorem numV_nn (l : Bs) : 0 ≤ numV l ↔ ¬ numV l = -1 := by
  rcases numV_cases l with h | ⟨n, hn, h⟩
  · rw [h]
    decide
  · rw [h]
    exact ⟨fun _ => nI_ne_m1 hn, fun _ => nI_pos' hn⟩
theorem numV_neg (l : Bs) : numV l < 0 ↔ numV l = -1 := by
  rcases numV_cases l with h | ⟨n, hn, h⟩
  · rw [h]
    decide
  · rw [h]
    exact ⟨fun q => absurd q (nI_pos hn), fun q => absurd q (nI_ne_m1 hn)⟩
def valM : Nat → Bs → Int32
  | 0, l => if l = t_all then -1 else if l = t_d1 then nI 1 else nI 0
  | 2, l => if l = t_yes then nI 1 else nI 0
  | 7, l => if l = t_one then nI 1 else nI 0
  | _, l => numV l
def vlS : Nat → Bs → (Nat → Int32) → Nat → Int32
  | 1, _, vl => vl
  | 4, _, vl => vl
  | v, l, vl => upd vl v (valM v l)
def taS : Nat → Bs → Bs → Bs
  | 1, l, _ => if pathOK l = true then rp l else []
  | _, _, ta => ta

theorem z_all : scT 45 t_all := ⟨_, rfl, rfl⟩
theorem z_d1 : scT 46 t_d1 := ⟨_, rfl, rfl⟩
theorem z_d0 : scT 47 t_d0 := ⟨_, rfl, rfl⟩
theorem z_yes : scT 48 t_yes := ⟨_, rfl, rfl⟩
theorem z_no : scT 49 t_no := ⟨_, rfl, rfl⟩
theorem z_any : scT 50 t_any := ⟨_, rfl, rfl⟩
theorem z_one : scT 51 t_one := ⟨_, rfl, rfl⟩
theorem z_many : scT 52 t_many := ⟨_, rfl, rfl⟩
set_option maxHeartbeats 8000000 in
set_option maxRecDepth 100000 in
theorem c_Mod_readValue (l : Launch) (K : gK) (E : gE) (z : Nat) (tp os pa ta pr md : Bs) (ms : List Me) (ls : List Lk) (kms : List Me) (kls : List Lk) (bms : List Me) (bls : List Lk) (ck vn tn : Int32) (mt hs bo : Nat) (vl : Nat → Int32) (hZ : isZ K E z tp os pa ta pr md ms ls kms kls bms bls ck vn tn mt hs bo vl) (i j : Nat) (hij : i ≤ j) (hj : j ≤ tp.length) (n : Nat) (hn : n < 8) : gMi l y_Mod_readValue b_Mod_readValue 4 .boolean 6 384 K E [.ref (ka K z), .int (nI n), .int (nI i), .int (nI j)] (fun r E' => r = bI (okV n (part tp i j)) ∧ isZ K E' z tp os pa (taS n (part tp i j) ta) pr md ms ls kms kls bms bls ck vn tn mt hs bo (vlS n (part tp i j) vl) ∧ frN z 476 E E') := by
  have hzN := hZ.2.2.2.2.2.2.2.2.2.2.2.2.2
  have htl := hZ.2.2.2.1.1
  have hol := hZ.2.2.2.2.1.1
  have hnm := hZ.2.1.lim
  have hkm := hZ.2.2.1.lim
  have hbm := hZ.2.2.2.2.2.2.2.2.2.2.2.1.lim
  have hpal := hZ.2.2.2.2.2.2.2.1.2.1
  have htal := hZ.2.2.2.2.2.2.2.2.1.2.1
  have hprl := hZ.2.2.2.2.2.2.2.2.2.2.1.2.1
  have hmdl := hZ.2.2.2.2.2.2.2.2.2.2.2.2.1.2.1
  refine g_meti (by decide +kernel) (Nat.le_of_ble_eq_true rfl) (fun X hl C hR => ?_)
  subst hl
  rcases (show n = 0 ∨ n = 1 ∨ n = 2 ∨ n = 3 ∨ n = 4 ∨ n = 5 ∨ n = 6 ∨ n = 7 by omega) with rfl | rfl | rfl | rfl | rfl | rfl | rfl | rfl
  · skip
    show gW X K E 0 [(0, .ref (ka K z)), (1, .int (nI 0)), (2, .int (nI i)), (3, .int (nI j))] []
    refine g_iload_n (pc := 0) C d_Mod_readValue_0 1 rfl ?_
    refine g_tswI (pc := 1) C 44 d_Mod_readValue_1 (by decide) (by decide) rfl (by decide) ?_
    refine g_aload_n (pc := 44) C d_Mod_readValue_44 0 rfl ?_
    refine g_get (pc := 45) C fl_Mod_78 hZ.1 (by omega) rfl d_Mod_readValue_45 ?_
    refine g_iload_n (pc := 48) C d_Mod_readValue_48 1 rfl ?_
    refine g_aload_n (pc := 49) C d_Mod_readValue_49 0 rfl ?_
    refine g_iload_n (pc := 50) C d_Mod_readValue_50 2 rfl ?_
    refine g_iload_n (pc := 51) C d_Mod_readValue_51 3 rfl ?_
    refine g_ldcS (pc := 52) (i := 45) C rfl d_Mod_readValue_52 ?_
    refine g_ci (pc := 54) C (g_rV (As := [.int (nI i), .int (nI j), .ref (ks K 45)]) (rest := [.int (nI 0), .ref (ka K (z + 317))]) C (c_Mod_is _ K _ z tp os pa ta pr md ms ls kms kls bms bls ck vn tn mt hs bo vl hZ i j 45 t_all z_all (by omega) hj (by decide) (by decide) (by decide)) mw_Mod_is mo_Mod_is ml_Mod_108 (by decide) hZ.1 rfl (by omega) rfl rfl (Nat.le_of_ble_eq_true rfl) d_Mod_readValue_54) (fun r54 E54 hp54 => ?_)
    rw [show r54 = bI (decide (part tp i j = t_all)) from hp54.1, hp54.2]
    refine g_if_eqB (pc := 57) C 64 d_Mod_readValue_57 (by decide) (fun h_57 => ?_) (fun h_57 => ?_)
    · skip
      refine g_aload_n (pc := 64) C d_Mod_readValue_64 0 rfl ?_
      refine g_iload_n (pc := 65) C d_Mod_readValue_65 2 rfl ?_
      refine g_iload_n (pc := 66) C d_Mod_readValue_66 3 rfl ?_
      refine g_ldcS (pc := 67) (i := 46) C rfl d_Mod_readValue_67 ?_
      refine g_ci (pc := 69) C (g_rV (As := [.int (nI i), .int (nI j), .ref (ks K 46)]) (rest := [.int (nI 0), .ref (ka K (z + 317))]) C (c_Mod_is _ K _ z tp os pa ta pr md ms ls kms kls bms bls ck vn tn mt hs bo vl hZ i j 46 t_d1 z_d1 (by omega) hj (by decide) (by decide) (by decide)) mw_Mod_is mo_Mod_is ml_Mod_108 (by decide) hZ.1 rfl (by omega) rfl rfl (Nat.le_of_ble_eq_true rfl) d_Mod_readValue_69) (fun r69 E69 hp69 => ?_)
      rw [show r69 = bI (decide (part tp i j = t_d1)) from hp69.1, hp69.2]
      refine g_if_eqB (pc := 72) C 79 d_Mod_readValue_72 (by decide) (fun h_72 => ?_) (fun h_72 => ?_)
      · skip
        refine g_iconst (pc := 79) (v := nI 0) C d_Mod_readValue_79 (by decide) ?_
        refine g_iastN (pc := 80) C hZ.2.2.2.2.2.2.2.2.2.1 (by omega) (gt_I _) (by omega) (by omega) d_Mod_readValue_80 (fun E80 hE80 => ?_)
        have fE80_1 := (congrFun hE80 z).trans ((va_up_ne _ _ (show z ≠ z + 317 from by omega)).trans hZ.1)
        have fE80_2 := (congrFun hE80 (z + 1)).trans ((va_up_ne _ _ (show z + 1 ≠ z + 317 from by omega)).trans hZ.2.1.h)
        have fE80_3 := (congrFun hE80 (z + 155)).trans ((va_up_ne _ _ (show z + 155 ≠ z + 317 from by omega)).trans hZ.2.2.1.h)
        have fE80_4 := (congrFun hE80 (z + 320)).trans ((va_up_ne _ _ (show z + 320 ≠ z + 317 from by omega)).trans hZ.2.2.2.2.2.2.2.2.2.2.2.1.h)
        have fE80_5 := (congrFun hE80 (z + 313)).trans ((va_up_ne _ _ (show z + 313 ≠ z + 317 from by omega)).trans hZ.2.2.2.2.2.2.2.1.1)
        have fE80_6 := (congrFun hE80 (z + 315)).trans ((va_up_ne _ _ (show z + 315 ≠ z + 317 from by omega)).trans hZ.2.2.2.2.2.2.2.2.1.1)
        have fE80_7 := (congrFun hE80 (z + 318)).trans ((va_up_ne _ _ (show z + 318 ≠ z + 317 from by omega)).trans hZ.2.2.2.2.2.2.2.2.2.2.1.1)
        have fE80_8 := (congrFun hE80 (z + 474)).trans ((va_up_ne _ _ (show z + 474 ≠ z + 317 from by omega)).trans hZ.2.2.2.2.2.2.2.2.2.2.2.2.1.1)
        have fE80_9 : E80 (z + 317) = .inl (kc K 3, 8, .inl (upd vl 0 (nI 0))) := by rw [hE80]; exact va_up_self _ _ _
        have hF80 : frN (z + 317) 1 E E80 := fun k hk => by rw [hE80, va_up_ne _ _ (by omega)]
        have hZ80 := hZ.value hF80 fE80_9
        have hf80 : frN z 476 E E80 := hF80.wide (by omega) (by omega)
        refine g_aload_n (pc := 81) C d_Mod_readValue_81 0 rfl ?_
        refine g_get (pc := 82) C fl_Mod_78 hZ80.1 (by omega) rfl d_Mod_readValue_82 ?_
        refine g_iload_n (pc := 85) C d_Mod_readValue_85 1 rfl ?_
        refine g_ialdN (pc := 86) C hZ80.2.2.2.2.2.2.2.2.2.1 (by omega) (gt_I _) (by omega) (by omega) d_Mod_readValue_86 ?_
        refine g_top (y := nI 0) (pk_us) ?_
        refine g_if_neN (pc := 87) C 101 d_Mod_readValue_87 (by decide) (by omega) (fun h_87 => ?_) (fun h_87 => ?_)
        · exact absurd h_87 (by decide)
        · skip
          refine g_aload_n (pc := 90) C d_Mod_readValue_90 0 rfl ?_
          refine g_iload_n (pc := 91) C d_Mod_readValue_91 2 rfl ?_
          refine g_iload_n (pc := 92) C d_Mod_readValue_92 3 rfl ?_
          refine g_ldcS (pc := 93) (i := 47) C rfl d_Mod_readValue_93 ?_
          refine g_ci (pc := 95) C (g_rV (As := [.int (nI i), .int (nI j), .ref (ks K 47)]) (rest := []) C (c_Mod_is _ K _ z tp os pa ta pr md ms ls kms kls bms bls ck vn tn mt hs bo (upd vl 0 (nI 0)) hZ80 i j 47 t_d0 z_d0 (by omega) hj (by decide) (by decide) (by decide)) mw_Mod_is mo_Mod_is ml_Mod_108 (by decide) hZ80.1 rfl (by omega) rfl rfl (Nat.le_of_ble_eq_true rfl) d_Mod_readValue_95) (fun r95 E95 hp95 => ?_)
          rw [show r95 = bI (decide (part tp i j = t_d0)) from hp95.1, hp95.2]
          refine g_if_eqB (pc := 98) C 105 d_Mod_readValue_98 (by decide) (fun h_98 => ?_) (fun h_98 => ?_)
          · skip
            refine g_iconst (pc := 105) (v := nI 0) C d_Mod_readValue_105 (by decide) ?_
            refine g_zret (pc := 106) C hR rfl d_Mod_readValue_106 ?_
            refine ⟨?_, ?_, hf80⟩
            · show _ = bI (dpOK (part tp i j))
              rw [dpOK, h_57, h_72, h_98]
              rfl
            · have hvl : valM 0 (part tp i j) = nI 0 := by rw [valM, if_neg (of_decide_eq_false h_57), if_neg (of_decide_eq_false h_72)]
              show isZ K E80 z tp os pa ta pr md ms ls kms kls bms bls ck vn tn mt hs bo (upd vl 0 (valM 0 (part tp i j)))
              rw [hvl]
              exact hZ80
          · skip
            refine g_iconst (pc := 101) (v := nI 1) C d_Mod_readValue_101 (by decide) ?_
            refine g_goto (pc := 102) C 106 d_Mod_readValue_102 (by decide) ?_
            refine g_zret (pc := 106) C hR rfl d_Mod_readValue_106 ?_
            refine ⟨?_, ?_, hf80⟩
            · show _ = bI (dpOK (part tp i j))
              rw [dpOK, h_57, h_72, h_98]
              rfl
            · have hvl : valM 0 (part tp i j) = nI 0 := by rw [valM, if_neg (of_decide_eq_false h_57), if_neg (of_decide_eq_false h_72)]
              show isZ K E80 z tp os pa ta pr md ms ls kms kls bms bls ck vn tn mt hs bo (upd vl 0 (valM 0 (part tp i j)))
              rw [hvl]
              exact hZ80
      · skip
        refine g_iconst (pc := 75) (v := nI 1) C d_Mod_readValue_75 (by decide) ?_
        refine g_goto (pc := 76) C 80 d_Mod_readValue_76 (by decide) ?_
        refine g_iastN (pc := 80) C hZ.2.2.2.2.2.2.2.2.2.1 (by omega) (gt_I _) (by omega) (by omega) d_Mod_readValue_80 (fun E80 hE80 => ?_)
        have fE80_1 := (congrFun hE80 z).trans ((va_up_ne _ _ (show z ≠ z + 317 from by omega)).trans hZ.1)
        have fE80_2 := (congrFun hE80 (z + 1)).trans ((va_up_ne _ _ (show z + 1 ≠ z + 317 from by omega)).trans hZ.2.1.h)
        have fE80_3 := (congrFun hE80 (z + 155)).trans ((va_up_ne _ _ (show z + 155 ≠ z + 317 from by omega)).trans hZ.2.2.1.h)
        have fE80_4 := (congrFun hE80 (z + 320)).trans ((va_up_ne _ _ (show z + 320 ≠ z + 317 from by omega)).trans hZ.2.2.2.2.2.2.2.2.2.2.2.1.h)
        have fE80_5 := (congrFun hE80 (z + 313)).trans ((va_up_ne _ _ (show z + 313 ≠ z + 317 from by omega)).trans hZ.2.2.2.2.2.2.2.1.1)
        have fE80_6 := (congrFun hE80 (z + 315)).trans ((va_up_ne _ _ (show z + 315 ≠ z + 317 from by omega)).trans hZ.2.2.2.2.2.2.2.2.1.1)
        have fE80_7 := (congrFun hE80 (z + 318)).trans ((va_up_ne _ _ (show z + 318 ≠ z + 317 from by omega)).trans hZ.2.2.2.2.2.2.2.2.2.2.1.1)
        have fE80_8 := (congrFun hE80 (z + 474)).trans ((va_up_ne _ _ (show z + 474 ≠ z + 317 from by omega)).trans hZ.2.2.2.2.2.2.2.2.2.2.2.2.1.1)
        have fE80_9 : E80 (z + 317) = .inl (kc K 3, 8, .inl (upd vl 0 (nI 1))) := by rw [hE80]; exact va_up_self _ _ _
        have hF80 : frN (z + 317) 1 E E80 := fun k hk => by rw [hE80, va_up_ne _ _ (by omega)]
        have hZ80 := hZ.value hF80 fE80_9
        have hf80 : frN z 476 E E80 := hF80.wide (by omega) (by omega)
        refine g_aload_n (pc := 81) C d_Mod_readValue_81 0 rfl ?_
        refine g_get (pc := 82) C fl_Mod_78 hZ80.1 (by omega) rfl d_Mod_readValue_82 ?_
        refine g_iload_n (pc := 85) C d_Mod_readValue_85 1 rfl ?_
        refine g_ialdN (pc := 86) C hZ80.2.2.2.2.2.2.2.2.2.1 (by omega) (gt_I _) (by omega) (by omega) d_Mod_readValue_86 ?_
        refine g_top (y := nI 1) (pk_us) ?_
        refine g_if_neN (pc := 87) C 101 d_Mod_readValue_87 (by decide) (by omega) (fun h_87 => ?_) (fun h_87 => ?_)
        · skip
          refine g_iconst (pc := 101) (v := nI 1) C d_Mod_readValue_101 (by decide) ?_
          refine g_goto (pc := 102) C 106 d_Mod_readValue_102 (by decide) ?_
          refine g_zret (pc := 106) C hR rfl d_Mod_readValue_106 ?_
          refine ⟨?_, ?_, hf80⟩
          · show _ = bI (dpOK (part tp i j))
            rw [dpOK, h_57, h_72]
            rfl
          · have hvl : valM 0 (part tp i j) = nI 1 := by rw [valM, if_neg (of_decide_eq_false h_57), if_pos (of_decide_eq_true h_72)]
            show isZ K E80 z tp os pa ta pr md ms ls kms kls bms bls ck vn tn mt hs bo (upd vl 0 (valM 0 (part tp i j)))
            rw [hvl]
            exact hZ80
        · exact absurd h_87 (by decide)
    · skip
      refine g_iconst (pc := 60) (v := -1) C d_Mod_readValue_60 (by decide) ?_
      refine g_goto (pc := 61) C 80 d_Mod_readValue_61 (by decide) ?_
      refine g_iastN (pc := 80) C hZ.2.2.2.2.2.2.2.2.2.1 (by omega) (gt_I _) (by omega) (by omega) d_Mod_readValue_80 (fun E80 hE80 => ?_)
      have fE80_1 := (congrFun hE80 z).trans ((va_up_ne _ _ (show z ≠ z + 317 from by omega)).trans hZ.1)
      have fE80_2 := (congrFun hE80 (z + 1)).trans ((va_up_ne _ _ (show z + 1 ≠ z + 317 from by omega)).trans hZ.2.1.h)
      have fE80_3 := (congrFun hE80 (z + 155)).trans ((va_up_ne _ _ (show z + 155 ≠ z + 317 from by omega)).trans hZ.2.2.1.h)
      have fE80_4 := (congrFun hE80 (z + 320)).trans ((va_up_ne _ _ (show z + 320 ≠ z + 317 from by omega)).trans hZ.2.2.2.2.2.2.2.2.2.2.2.1.h)
      have fE80_5 := (congrFun hE80 (z + 313)).trans ((va_up_ne _ _ (show z + 313 ≠ z + 317 from by omega)).trans hZ.2.2.2.2.2.2.2.1.1)
      have fE80_6 := (congrFun hE80 (z + 315)).trans ((va_up_ne _ _ (show z + 315 ≠ z + 317 from by omega)).trans hZ.2.2.2.2.2.2.2.2.1.1)
      have fE80_7 := (congrFun hE80 (z + 318)).trans ((va_up_ne _ _ (show z + 318 ≠ z + 317 from by omega)).trans hZ.2.2.2.2.2.2.2.2.2.2.1.1)
      have fE80_8 := (congrFun hE80 (z + 474)).trans ((va_up_ne _ _ (show z + 474 ≠ z + 317 from by omega)).trans hZ.2.2.2.2.2.2.2.2.2.2.2.2.1.1)
      have fE80_9 : E80 (z + 317) = .inl (kc K 3, 8, .inl (upd vl 0 (-1))) := by rw [hE80]; exact va_up_self _ _ _
      have hF80 : frN (z + 317) 1 E E80 := fun k hk => by rw [hE80, va_up_ne _ _ (by omega)]
      have hZ80 := hZ.value hF80 fE80_9
      have hf80 : frN z 476 E E80 := hF80.wide (by omega) (by omega)
      refine g_aload_n (pc := 81) C d_Mod_readValue_81 0 rfl ?_
      refine g_get (pc := 82) C fl_Mod_78 hZ80.1 (by omega) rfl d_Mod_readValue_82 ?_
      refine g_iload_n (pc := 85) C d_Mod_readValue_85 1 rfl ?_
      refine g_ialdN (pc := 86) C hZ80.2.2.2.2.2.2.2.2.2.1 (by omega) (gt_I _) (by omega) (by omega) d_Mod_readValue_86 ?_
      refine g_top (y := -1) (pk_us) ?_
      refine g_if_ne (pc := 87) C 101 d_Mod_readValue_87 (by decide) (fun h_87 => ?_) (fun h_87 => ?_)
      · skip
        refine g_iconst (pc := 101) (v := nI 1) C d_Mod_readValue_101 (by decide) ?_
        refine g_goto (pc := 102) C 106 d_Mod_readValue_102 (by decide) ?_
        refine g_zret (pc := 106) C hR rfl d_Mod_readValue_106 ?_
        refine ⟨?_, ?_, hf80⟩
        · show _ = bI (dpOK (part tp i j))
          rw [dpOK, h_57]
          rfl
        · have hvl : valM 0 (part tp i j) = -1 := by rw [valM, if_pos (of_decide_eq_true h_57)]
          show isZ K E80 z tp os pa ta pr md ms ls kms kls bms bls ck vn tn mt hs bo (upd vl 0 (valM 0 (part tp i j)))
          rw [hvl]
          exact hZ80
      · exact absurd h_87 (by decide)
  · skip
    show gW X K E 0 [(0, .ref (ka K z)), (1, .int (nI 1)), (2, .int (nI i)), (3, .int (nI j))] []
    refine g_iload_n (pc := 0) C d_Mod_readValue_0 1 rfl ?_
    refine g_tswI (pc := 1) C 107 d_Mod_readValue_1 (by decide) (by decide) rfl (by decide) ?_
    refine g_aload_n (pc := 107) C d_Mod_readValue_107 0 rfl ?_
    refine g_iload_n (pc := 108) C d_Mod_readValue_108 2 rfl ?_
    refine g_iload_n (pc := 109) C d_Mod_readValue_109 3 rfl ?_
    refine g_aload_n (pc := 110) C d_Mod_readValue_110 0 rfl ?_
    refine g_get (pc := 111) C fl_Mod_76 hZ.1 (by omega) rfl d_Mod_readValue_111 ?_
    refine g_ci (pc := 114) C (g_rV (As := [.int (nI i), .int (nI j), .ref (ka K (z + 315))]) (rest := []) C (c_Mod_readPath_t _ K _ z tp os pa ta pr md ms ls kms kls bms bls ck vn tn mt hs bo vl hZ i j hij hj) mw_Mod_readPath mo_Mod_readPath ml_Mod_125 (by decide) hZ.1 rfl (by omega) rfl rfl (Nat.le_of_ble_eq_true rfl) d_Mod_readValue_114) (fun r114 E114 hp114 => ?_)
    obtain ⟨hr114, hZ114, hF114⟩ := hp114
    refine g_zret (pc := 117) C hR (by rw [hr114]; exact bI_nar _) d_Mod_readValue_117 ?_
    exact ⟨hr114, hZ114, hF114⟩
  · skip
    show gW X K E 0 [(0, .ref (ka K z)), (1, .int (nI 2)), (2, .int (nI i)), (3, .int (nI j))] []
    refine g_iload_n (pc := 0) C d_Mod_readValue_0 1 rfl ?_
    refine g_tswI (pc := 1) C 118 d_Mod_readValue_1 (by decide) (by decide) rfl (by decide) ?_
    refine g_aload_n (pc := 118) C d_Mod_readValue_118 0 rfl ?_
    refine g_get (pc := 119) C fl_Mod_78 hZ.1 (by omega) rfl d_Mod_readValue_119 ?_
    refine g_iload_n (pc := 122) C d_Mod_readValue_122 1 rfl ?_
    refine g_aload_n (pc := 123) C d_Mod_readValue_123 0 rfl ?_
    refine g_iload_n (pc := 124) C d_Mod_readValue_124 2 rfl ?_
    refine g_iload_n (pc := 125) C d_Mod_readValue_125 3 rfl ?_
    refine g_ldcS (pc := 126) (i := 48) C rfl d_Mod_readValue_126 ?_
    refine g_ci (pc := 128) C (g_rV (As := [.int (nI i), .int (nI j), .ref (ks K 48)]) (rest := [.int (nI 2), .ref (ka K (z + 317))]) C (c_Mod_is _ K _ z tp os pa ta pr md ms ls kms kls bms bls ck vn tn mt hs bo vl hZ i j 48 t_yes z_yes (by omega) hj (by decide) (by decide) (by decide)) mw_Mod_is mo_Mod_is ml_Mod_108 (by decide) hZ.1 rfl (by omega) rfl rfl (Nat.le_of_ble_eq_true rfl) d_Mod_readValue_128) (fun r128 E128 hp128 => ?_)
    rw [show r128 = bI (decide (part tp i j = t_yes)) from hp128.1, hp128.2]
    refine g_if_eqB (pc := 131) C 138 d_Mod_readValue_131 (by decide) (fun h_131 => ?_) (fun h_131 => ?_)
    · skip
      refine g_iconst (pc := 138) (v := nI 0) C d_Mod_readValue_138 (by decide) ?_
      refine g_iastN (pc := 139) C hZ.2.2.2.2.2.2.2.2.2.1 (by omega) (gt_I _) (by omega) (by omega) d_Mod_readValue_139 (fun E139 hE139 => ?_)
      have fE139_1 := (congrFun hE139 z).trans ((va_up_ne _ _ (show z ≠ z + 317 from by omega)).trans hZ.1)
      have fE139_2 := (congrFun hE139 (z + 1)).trans ((va_up_ne _ _ (show z + 1 ≠ z + 317 from by omega)).trans hZ.2.1.h)
      have fE139_3 := (congrFun hE139 (z + 155)).trans ((va_up_ne _ _ (show z + 155 ≠ z + 317 from by omega)).trans hZ.2.2.1.h)
      have fE139_4 := (congrFun hE139 (z + 320)).trans ((va_up_ne _ _ (show z + 320 ≠ z + 317 from by omega)).trans hZ.2.2.2.2.2.2.2.2.2.2.2.1.h)
      have fE139_5 := (congrFun hE139 (z + 313)).trans ((va_up_ne _ _ (show z + 313 ≠ z + 317 from by omega)).trans hZ.2.2.2.2.2.2.2.1.1)
      have fE139_6 := (congrFun hE139 (z + 315)).trans ((va_up_ne _ _ (show z + 315 ≠ z + 317 from by omega)).trans hZ.2.2.2.2.2.2.2.2.1.1)
      have fE139_7 := (congrFun hE139 (z + 318)).trans ((va_up_ne _ _ (show z + 318 ≠ z + 317 from by omega)).trans hZ.2.2.2.2.2.2.2.2.2.2.1.1)
      have fE139_8 := (congrFun hE139 (z + 474)).trans ((va_up_ne _ _ (show z + 474 ≠ z + 317 from by omega)).trans hZ.2.2.2.2.2.2.2.2.2.2.2.2.1.1)
      have fE139_9 : E139 (z + 317) = .inl (kc K 3, 8, .inl (upd vl 2 (nI 0))) := by rw [hE139]; exact va_up_self _ _ _
      have hF139 : frN (z + 317) 1 E E139 := fun k hk => by rw [hE139, va_up_ne _ _ (by omega)]
      have hZ139 := hZ.value hF139 fE139_9
      have hf139 : frN z 476 E E139 := hF139.wide (by omega) (by omega)
      refine g_aload_n (pc := 140) C d_Mod_readValue_140 0 rfl ?_
      refine g_get (pc := 141) C fl_Mod_78 hZ139.1 (by omega) rfl d_Mod_readValue_141 ?_
      refine g_iload_n (pc := 144) C d_Mod_readValue_144 1 rfl ?_
      refine g_ialdN (pc := 145) C hZ139.2.2.2.2.2.2.2.2.2.1 (by omega) (gt_I _) (by omega) (by omega) d_Mod_readValue_145 ?_
      refine g_top (y := nI 0) (pk_us) ?_
      refine g_iconst (pc := 146) (v := nI 1) C d_Mod_readValue_146 (by decide) ?_
      refine g_icmp_eqN (pc := 147) C 161 d_Mod_readValue_147 (by decide) (by omega) (by omega) (fun h_147 => ?_) (fun h_147 => ?_)
      · exact absurd h_147 (by decide)
      · skip
        refine g_aload_n (pc := 150) C d_Mod_readValue_150 0 rfl ?_
        refine g_iload_n (pc := 151) C d_Mod_readValue_151 2 rfl ?_
        refine g_iload_n (pc := 152) C d_Mod_readValue_152 3 rfl ?_
        refine g_ldcS (pc := 153) (i := 49) C rfl d_Mod_readValue_153 ?_
        refine g_ci (pc := 155) C (g_rV (As := [.int (nI i), .int (nI j), .ref (ks K 49)]) (rest := []) C (c_Mod_is _ K _ z tp os pa ta pr md ms ls kms kls bms bls ck vn tn mt hs bo (upd vl 2 (nI 0)) hZ139 i j 49 t_no z_no (by omega) hj (by decide) (by decide) (by decide)) mw_Mod_is mo_Mod_is ml_Mod_108 (by decide) hZ139.1 rfl (by omega) rfl rfl (Nat.le_of_ble_eq_true rfl) d_Mod_readValue_155) (fun r155 E155 hp155 => ?_)
        rw [show r155 = bI (decide (part tp i j = t_no)) from hp155.1, hp155.2]
        refine g_if_eqB (pc := 158) C 165 d_Mod_readValue_158 (by decide) (fun h_158 => ?_) (fun h_158 => ?_)
        · skip
          refine g_iconst (pc := 165) (v := nI 0) C d_Mod_readValue_165 (by decide) ?_
          refine g_zret (pc := 166) C hR rfl d_Mod_readValue_166 ?_
          refine ⟨?_, ?_, hf139⟩
          · show _ = bI (decide (part tp i j = t_no) || decide (part tp i j = t_yes))
            rw [h_131, h_158]
            rfl
          · have hvl : valM 2 (part tp i j) = nI 0 := by rw [valM, if_neg (of_decide_eq_false h_131)]
            show isZ K E139 z tp os pa ta pr md ms ls kms kls bms bls ck vn tn mt hs bo (upd vl 2 (valM 2 (part tp i j)))
            rw [hvl]
            exact hZ139
        · skip
          refine g_iconst (pc := 161) (v := nI 1) C d_Mod_readValue_161 (by decide) ?_
          refine g_goto (pc := 162) C 166 d_Mod_readValue_162 (by decide) ?_
          refine g_zret (pc := 166) C hR rfl d_Mod_readValue_166 ?_
          refine ⟨?_, ?_, hf139⟩
          · show _ = bI (decide (part tp i j = t_no) || decide (part tp i j = t_yes))
            rw [h_131, h_158]
            rfl
          · have hvl : valM 2 (part tp i j) = nI 0 := by rw [valM, if_neg (of_decide_eq_false h_131)]
            show isZ K E139 z tp os pa ta pr md ms ls kms kls bms bls ck vn tn mt hs bo (upd vl 2 (valM 2 (part tp i j)))
            rw [hvl]
            exact hZ139
    · skip
      refine g_iconst (pc := 134) (v := nI 1) C d_Mod_readValue_134 (by decide) ?_
      refine g_goto (pc := 135) C 139 d_Mod_readValue_135 (by decide) ?_
      refine g_iastN (pc := 139) C hZ.2.2.2.2.2.2.2.2.2.1 (by omega) (gt_I _) (by omega) (by omega) d_Mod_readValue_139 (fun E139 hE139 => ?_)
      have fE139_1 := (congrFun hE139 z).trans ((va_up_ne _ _ (show z ≠ z + 317 from by omega)).trans hZ.1)
      have fE139_2 := (congrFun hE139 (z + 1)).trans ((va_up_ne _ _ (show z + 1 ≠ z + 317 from by omega)).trans hZ.2.1.h)
      have fE139_3 := (congrFun hE139 (z + 155)).trans ((va_up_ne _ _ (show z + 155 ≠ z + 317 from by omega)).trans hZ.2.2.1.h)
      have fE139_4 := (congrFun hE139 (z + 320)).trans ((va_up_ne _ _ (show z + 320 ≠ z + 317 from by omega)).trans hZ.2.2.2.2.2.2.2.2.2.2.2.1.h)
      have fE139_5 := (congrFun hE139 (z + 313)).trans ((va_up_ne _ _ (show z + 313 ≠ z + 317 from by omega)).trans hZ.2.2.2.2.2.2.2.1.1)
      have fE139_6 := (congrFun hE139 (z + 315)).trans ((va_up_ne _ _ (show z + 315 ≠ z + 317 from by omega)).trans hZ.2.2.2.2.2.2.2.2.1.1)
      have fE139_7 := (congrFun hE139 (z + 318)).trans ((va_up_ne _ _ (show z + 318 ≠ z + 317 from by omega)).trans hZ.2.2.2.2.2.2.2.2.2.2.1.1)
      have fE139_8 := (congrFun hE139 (z + 474)).trans ((va_up_ne _ _ (show z + 474 ≠ z + 317 from by omega)).trans hZ.2.2.2.2.2.2.2.2.2.2.2.2.1.1)
      have fE139_9 : E139 (z + 317) = .inl (kc K 3, 8, .inl (upd vl 2 (nI 1))) := by rw [hE139]; exact va_up_self _ _ _
      have hF139 : frN (z + 317) 1 E E139 := fun k hk => by rw [hE139, va_up_ne _ _ (by omega)]
      have hZ139 := hZ.value hF139 fE139_9
      have hf139 : frN z 476 E E139 := hF139.wide (by omega) (by omega)
      refine g_aload_n (pc := 140) C d_Mod_readValue_140 0 rfl ?_
      refine g_get (pc := 141) C fl_Mod_78 hZ139.1 (by omega) rfl d_Mod_readValue_141 ?_
      refine g_iload_n (pc := 144) C d_Mod_readValue_144 1 rfl ?_
      refine g_ialdN (pc := 145) C hZ139.2.2.2.2.2.2.2.2.2.1 (by omega) (gt_I _) (by omega) (by omega) d_Mod_readValue_145 ?_
      refine g_top (y := nI 1) (pk_us) ?_
      refine g_iconst (pc := 146) (v := nI 1) C d_Mod_readValue_146 (by decide) ?_
      refine g_icmp_eqN (pc := 147) C 161 d_Mod_readValue_147 (by decide) (by omega) (by omega) (fun h_147 => ?_) (fun h_147 => ?_)
      · skip
        refine g_iconst (pc := 161) (v := nI 1) C d_Mod_readValue_161 (by decide) ?_
        refine g_goto (pc := 162) C 166 d_Mod_readValue_162 (by decide) ?_
        refine g_zret (pc := 166) C hR rfl d_Mod_readValue_166 ?_
        refine ⟨?_, ?_, hf139⟩
        · show _ = bI (decide (part tp i j = t_no) || decide (part tp i j = t_yes))
          rw [h_131, Bool.or_true]
          rfl
        · have hvl : valM 2 (part tp i j) = nI 1 := by rw [valM, if_pos (of_decide_eq_true h_131)]
          show isZ K E139 z tp os pa ta pr md ms ls kms kls bms bls ck vn tn mt hs bo (upd vl 2 (valM 2 (part tp i j)))
          rw [hvl]
          exact hZ139
      · exact absurd h_147 (by decide)
  · skip
    show gW X K E 0 [(0, .ref (ka K z)), (1, .int (nI 3)), (2, .int (nI i)), (3, .int (nI j))] []
    refine g_iload_n (pc := 0) C d_Mod_readValue_0 1 rfl ?_
    refine g_tswI (pc := 1) C 167 d_Mod_readValue_1 (by decide) (by decide) rfl (by decide) ?_
    refine g_aload_n (pc := 167) C d_Mod_readValue_167 0 rfl ?_
    refine g_get (pc := 168) C fl_Mod_78 hZ.1 (by omega) rfl d_Mod_readValue_168 ?_
    refine g_iload_n (pc := 171) C d_Mod_readValue_171 1 rfl ?_
    refine g_aload_n (pc := 172) C d_Mod_readValue_172 0 rfl ?_
    refine g_iload_n (pc := 173) C d_Mod_readValue_173 2 rfl ?_
    refine g_iload_n (pc := 174) C d_Mod_readValue_174 3 rfl ?_
    refine g_ci (pc := 175) C (g_rV (As := [.int (nI i), .int (nI j)]) (rest := [.int (nI 3), .ref (ka K (z + 317))]) C (c_Mod_number _ K _ z tp os pa ta pr md ms ls kms kls bms bls ck vn tn mt hs bo vl hZ i j hij hj) mw_Mod_number mo_Mod_number ml_Mod_133 (by decide) hZ.1 rfl (by omega) rfl rfl (Nat.le_of_ble_eq_true rfl) d_Mod_readValue_175) (fun r175 E175 hp175 => ?_)
    rw [show r175 = numV (part tp i j) from hp175.1, hp175.2]
    refine g_iastN (pc := 178) C hZ.2.2.2.2.2.2.2.2.2.1 (by omega) (gt_I _) (by omega) (by omega) d_Mod_readValue_178 (fun E178 hE178 => ?_)
    have fE178_1 := (congrFun hE178 z).trans ((va_up_ne _ _ (show z ≠ z + 317 from by omega)).trans hZ.1)
    have fE178_2 := (congrFun hE178 (z + 1)).trans ((va_up_ne _ _ (show z + 1 ≠ z + 317 from by omega)).trans hZ.2.1.h)
    have fE178_3 := (congrFun hE178 (z + 155)).trans ((va_up_ne _ _ (show z + 155 ≠ z + 317 from by omega)).trans hZ.2.2.1.h)
    have fE178_4 := (congrFun hE178 (z + 320)).trans ((va_up_ne _ _ (show z + 320 ≠ z + 317 from by omega)).trans hZ.2.2.2.2.2.2.2.2.2.2.2.1.h)
    have fE178_5 := (congrFun hE178 (z + 313)).trans ((va_up_ne _ _ (show z + 313 ≠ z + 317 from by omega)).trans hZ.2.2.2.2.2.2.2.1.1)
    have fE178_6 := (congrFun hE178 (z + 315)).trans ((va_up_ne _ _ (show z + 315 ≠ z + 317 from by omega)).trans hZ.2.2.2.2.2.2.2.2.1.1)
    have fE178_7 := (congrFun hE178 (z + 318)).trans ((va_up_ne _ _ (show z + 318 ≠ z + 317 from by omega)).trans hZ.2.2.2.2.2.2.2.2.2.2.1.1)
    have fE178_8 := (congrFun hE178 (z + 474)).trans ((va_up_ne _ _ (show z + 474 ≠ z + 317 from by omega)).trans hZ.2.2.2.2.2.2.2.2.2.2.2.2.1.1)
    have fE178_9 : E178 (z + 317) = .inl (kc K 3, 8, .inl (upd vl 3 (numV (part tp i j)))) := by rw [hE178]; exact va_up_self _ _ _
    have hF178 : frN (z + 317) 1 E E178 := fun k hk => by rw [hE178, va_up_ne _ _ (by omega)]
    have hZ178 := hZ.value hF178 fE178_9
    have hf178 : frN z 476 E E178 := hF178.wide (by omega) (by omega)
    refine g_aload_n (pc := 179) C d_Mod_readValue_179 0 rfl ?_
    refine g_get (pc := 180) C fl_Mod_78 hZ178.1 (by omega) rfl d_Mod_readValue_180 ?_
    refine g_iload_n (pc := 183) C d_Mod_readValue_183 1 rfl ?_
    refine g_ialdN (pc := 184) C hZ178.2.2.2.2.2.2.2.2.2.1 (by omega) (gt_I _) (by omega) (by omega) d_Mod_readValue_184 ?_
    refine g_top (y := numV (part tp i j)) (pk_us) ?_
    refine g_if_ge (pc := 185) C 199 d_Mod_readValue_185 (by decide) (fun h_185 => ?_) (fun h_185 => ?_)
    · skip
      refine g_iconst (pc := 199) (v := nI 1) C d_Mod_readValue_199 (by decide) ?_
      refine g_goto (pc := 200) C 204 d_Mod_readValue_200 (by decide) ?_
      refine g_zret (pc := 204) C hR rfl d_Mod_readValue_204 ?_
      refine ⟨?_, ?_, hf178⟩
      · show _ = bI (decide (part tp i j = t_any) || decide (¬ numV (part tp i j) = -1))
        first
          | (rw [decide_eq_true ((numV_nn _).mp h_185), Bool.or_true]; rfl)
          | (rw [decide_eq_false (fun q => h_185 ((numV_nn _).mpr q)), h_196]; rfl)
      · have hvl : valM 3 (part tp i j) = numV (part tp i j) := by rfl
        show isZ K E178 z tp os pa ta pr md ms ls kms kls bms bls ck vn tn mt hs bo (upd vl 3 (valM 3 (part tp i j)))
        rw [hvl]
        exact hZ178
    · skip
      refine g_aload_n (pc := 188) C d_Mod_readValue_188 0 rfl ?_
      refine g_iload_n (pc := 189) C d_Mod_readValue_189 2 rfl ?_
      refine g_iload_n (pc := 190) C d_Mod_readValue_190 3 rfl ?_
      refine g_ldcS (pc := 191) (i := 50) C rfl d_Mod_readValue_191 ?_
      refine g_ci (pc := 193) C (g_rV (As := [.int (nI i), .int (nI j), .ref (ks K 50)]) (rest := []) C (c_Mod_is _ K _ z tp os pa ta pr md ms ls kms kls bms bls ck vn tn mt hs bo (upd vl 3 (numV (part tp i j))) hZ178 i j 50 t_any z_any (by omega) hj (by decide) (by decide) (by decide)) mw_Mod_is mo_Mod_is ml_Mod_108 (by decide) hZ178.1 rfl (by omega) rfl rfl (Nat.le_of_ble_eq_true rfl) d_Mod_readValue_193) (fun r193 E193 hp193 => ?_)
      rw [show r193 = bI (decide (part tp i j = t_any)) from hp193.1, hp193.2]
      refine g_if_eqB (pc := 196) C 203 d_Mod_readValue_196 (by decide) (fun h_196 => ?_) (fun h_196 => ?_)
      · skip
        refine g_iconst (pc := 203) (v := nI 0) C d_Mod_readValue_203 (by decide) ?_
        refine g_zret (pc := 204) C hR rfl d_Mod_readValue_204 ?_
        refine ⟨?_, ?_, hf178⟩
        · show _ = bI (decide (part tp i j = t_any) || decide (¬ numV (part tp i j) = -1))
          first
            | (rw [decide_eq_true ((numV_nn _).mp h_185), Bool.or_true]; rfl)
            | (rw [decide_eq_false (fun q => h_185 ((numV_nn _).mpr q)), h_196]; rfl)
        · have hvl : valM 3 (part tp i j) = numV (part tp i j) := by rfl
          show isZ K E178 z tp os pa ta pr md ms ls kms kls bms bls ck vn tn mt hs bo (upd vl 3 (valM 3 (part tp i j)))
          rw [hvl]
          exact hZ178
      · skip
        refine g_iconst (pc := 199) (v := nI 1) C d_Mod_readValue_199 (by decide) ?_
        refine g_goto (pc := 200) C 204 d_Mod_readValue_200 (by decide) ?_
        refine g_zret (pc := 204) C hR rfl d_Mod_readValue_204 ?_
        refine ⟨?_, ?_, hf178⟩
        · show _ = bI (decide (part tp i j = t_any) || decide (¬ numV (part tp i j) = -1))
          first
            | (rw [decide_eq_true ((numV_nn _).mp h_185), Bool.or_true]; rfl)
            | (rw [decide_eq_false (fun q => h_185 ((numV_nn _).mpr q)), h_196]; rfl)
        · have hvl : valM 3 (part tp i j) = numV (part tp i j) := by rfl
          show isZ K E178 z tp os pa ta pr md ms ls kms kls bms bls ck vn tn mt hs bo (upd vl 3 (valM 3 (part tp i j)))
          rw [hvl]
          exact hZ178
  · skip
    show gW X K E 0 [(0, .ref (ka K z)), (1, .int (nI 4)), (2, .int (nI i)), (3, .int (nI j))] []
    refine g_iload_n (pc := 0) C d_Mod_readValue_0 1 rfl ?_
    refine g_tswI (pc := 1) C 205 d_Mod_readValue_1 (by decide) (by decide) rfl (by decide) ?_
    refine g_aload_n (pc := 205) C d_Mod_readValue_205 0 rfl ?_
    refine g_iload_n (pc := 206) C d_Mod_readValue_206 2 rfl ?_
    refine g_iload_n (pc := 207) C d_Mod_readValue_207 3 rfl ?_
    refine g_ldcS (pc := 208) (i := 50) C rfl d_Mod_readValue_208 ?_
    refine g_ci (pc := 210) C (g_rV (As := [.int (nI i), .int (nI j), .ref (ks K 50)]) (rest := []) C (c_Mod_is _ K _ z tp os pa ta pr md ms ls kms kls bms bls ck vn tn mt hs bo vl hZ i j 50 t_any z_any (by omega) hj (by decide) (by decide) (by decide)) mw_Mod_is mo_Mod_is ml_Mod_108 (by decide) hZ.1 rfl (by omega) rfl rfl (Nat.le_of_ble_eq_true rfl) d_Mod_readValue_210) (fun r210 E210 hp210 => ?_)
    obtain ⟨hr210, hE210⟩ := hp210
    rw [hE210]
    refine g_zret (pc := 213) C hR (by rw [hr210]; exact bI_nar _) d_Mod_readValue_213 ?_
    exact ⟨hr210, hZ, frN.refl⟩
  · skip
    show gW X K E 0 [(0, .ref (ka K z)), (1, .int (nI 5)), (2, .int (nI i)), (3, .int (nI j))] []
    refine g_iload_n (pc := 0) C d_Mod_readValue_0 1 rfl ?_
    refine g_tswI (pc := 1) C 214 d_Mod_readValue_1 (by decide) (by decide) rfl (by decide) ?_
    refine g_aload_n (pc := 214) C d_Mod_readValue_214 0 rfl ?_
    refine g_get (pc := 215) C fl_Mod_78 hZ.1 (by omega) rfl d_Mod_readValue_215 ?_
    refine g_iload_n (pc := 218) C d_Mod_readValue_218 1 rfl ?_
    refine g_aload_n (pc := 219) C d_Mod_readValue_219 0 rfl ?_
    refine g_iload_n (pc := 220) C d_Mod_readValue_220 2 rfl ?_
    refine g_iload_n (pc := 221) C d_Mod_readValue_221 3 rfl ?_
    refine g_ci (pc := 222) C (g_rV (As := [.int (nI i), .int (nI j)]) (rest := [.int (nI 5), .ref (ka K (z + 317))]) C (c_Mod_number _ K _ z tp os pa ta pr md ms ls kms kls bms bls ck vn tn mt hs bo vl hZ i j hij hj) mw_Mod_number mo_Mod_number ml_Mod_133 (by decide) hZ.1 rfl (by omega) rfl rfl (Nat.le_of_ble_eq_true rfl) d_Mod_readValue_222) (fun r222 E222 hp222 => ?_)
    rw [show r222 = numV (part tp i j) from hp222.1, hp222.2]
    refine g_iastN (pc := 225) C hZ.2.2.2.2.2.2.2.2.2.1 (by omega) (gt_I _) (by omega) (by omega) d_Mod_readValue_225 (fun E225 hE225 => ?_)
    have fE225_1 := (congrFun hE225 z).trans ((va_up_ne _ _ (show z ≠ z + 317 from by omega)).trans hZ.1)
    have fE225_2 := (congrFun hE225 (z + 1)).trans ((va_up_ne _ _ (show z + 1 ≠ z + 317 from by omega)).trans hZ.2.1.h)
    have fE225_3 := (congrFun hE225 (z + 155)).trans ((va_up_ne _ _ (show z + 155 ≠ z + 317 from by omega)).trans hZ.2.2.1.h)
    have fE225_4 := (congrFun hE225 (z + 320)).trans ((va_up_ne _ _ (show z + 320 ≠ z + 317 from by omega)).trans hZ.2.2.2.2.2.2.2.2.2.2.2.1.h)
    have fE225_5 := (congrFun hE225 (z + 313)).trans ((va_up_ne _ _ (show z + 313 ≠ z + 317 from by omega)).trans hZ.2.2.2.2.2.2.2.1.1)
    have fE225_6 := (congrFun hE225 (z + 315)).trans ((va_up_ne _ _ (show z + 315 ≠ z + 317 from by omega)).trans hZ.2.2.2.2.2.2.2.2.1.1)
    have fE225_7 := (congrFun hE225 (z + 318)).trans ((va_up_ne _ _ (show z + 318 ≠ z + 317 from by omega)).trans hZ.2.2.2.2.2.2.2.2.2.2.1.1)
    have fE225_8 := (congrFun hE225 (z + 474)).trans ((va_up_ne _ _ (show z + 474 ≠ z + 317 from by omega)).trans hZ.2.2.2.2.2.2.2.2.2.2.2.2.1.1)
    have fE225_9 : E225 (z + 317) = .inl (kc K 3, 8, .inl (upd vl 5 (numV (part tp i j)))) := by rw [hE225]; exact va_up_self _ _ _
    have hF225 : frN (z + 317) 1 E E225 := fun k hk => by rw [hE225, va_up_ne _ _ (by omega)]
    have hZ225 := hZ.value hF225 fE225_9
    have hf225 : frN z 476 E E225 := hF225.wide (by omega) (by omega)
    refine g_aload_n (pc := 226) C d_Mod_readValue_226 0 rfl ?_
    refine g_get (pc := 227) C fl_Mod_78 hZ225.1 (by omega) rfl d_Mod_readValue_227 ?_
    refine g_iload_n (pc := 230) C d_Mod_readValue_230 1 rfl ?_
    refine g_ialdN (pc := 231) C hZ225.2.2.2.2.2.2.2.2.2.1 (by omega) (gt_I _) (by omega) (by omega) d_Mod_readValue_231 ?_
    refine g_top (y := numV (part tp i j)) (pk_us) ?_
    refine g_if_lt (pc := 232) C 239 d_Mod_readValue_232 (by decide) (fun h_232 => ?_) (fun h_232 => ?_)
    · skip
      refine g_iconst (pc := 239) (v := nI 0) C d_Mod_readValue_239 (by decide) ?_
      refine g_zret (pc := 240) C hR rfl d_Mod_readValue_240 ?_
      refine ⟨?_, ?_, hf225⟩
      · show _ = bI (decide (¬ numV (part tp i j) = -1))
        first
          | (rw [decide_eq_false (fun q => q ((numV_neg _).mp h_232))]; rfl)
          | (rw [decide_eq_true (show ¬ numV (part tp i j) = -1 from fun q => h_232 ((numV_neg _).mpr q))]; rfl)
      · have hvl : valM 5 (part tp i j) = numV (part tp i j) := by rfl
        show isZ K E225 z tp os pa ta pr md ms ls kms kls bms bls ck vn tn mt hs bo (upd vl 5 (valM 5 (part tp i j)))
        rw [hvl]
        exact hZ225
    · skip
      refine g_iconst (pc := 235) (v := nI 1) C d_Mod_readValue_235 (by decide) ?_
      refine g_goto (pc := 236) C 240 d_Mod_readValue_236 (by decide) ?_
      refine g_zret (pc := 240) C hR rfl d_Mod_readValue_240 ?_
      refine ⟨?_, ?_, hf225⟩
      · show _ = bI (decide (¬ numV (part tp i j) = -1))
        first
          | (rw [decide_eq_false (fun q => q ((numV_neg _).mp h_232))]; rfl)
          | (rw [decide_eq_true (show ¬ numV (part tp i j) = -1 from fun q => h_232 ((numV_neg _).mpr q))]; rfl)
      · have hvl : valM 5 (part tp i j) = numV (part tp i j) := by rfl
        show isZ K E225 z tp os pa ta pr md ms ls kms kls bms bls ck vn tn mt hs bo (upd vl 5 (valM 5 (part tp i j)))
        rw [hvl]
        exact hZ225
  · skip
    show gW X K E 0 [(0, .ref (ka K z)), (1, .int (nI 6)), (2, .int (nI i)), (3, .int (nI j))] []
    refine g_iload_n (pc := 0) C d_Mod_readValue_0 1 rfl ?_
    refine g_tswI (pc := 1) C 241 d_Mod_readValue_1 (by decide) (by decide) rfl (by decide) ?_
    refine g_aload_n (pc := 241) C d_Mod_readValue_241 0 rfl ?_
    refine g_get (pc := 242) C fl_Mod_78 hZ.1 (by omega) rfl d_Mod_readValue_242 ?_
    refine g_iload_n (pc := 245) C d_Mod_readValue_245 1 rfl ?_
    refine g_aload_n (pc := 246) C d_Mod_readValue_246 0 rfl ?_
    refine g_iload_n (pc := 247) C d_Mod_readValue_247 2 rfl ?_
    refine g_iload_n (pc := 248) C d_Mod_readValue_248 3 rfl ?_
    refine g_ci (pc := 249) C (g_rV (As := [.int (nI i), .int (nI j)]) (rest := [.int (nI 6), .ref (ka K (z + 317))]) C (c_Mod_number _ K _ z tp os pa ta pr md ms ls kms kls bms bls ck vn tn mt hs bo vl hZ i j hij hj) mw_Mod_number mo_Mod_number ml_Mod_133 (by decide) hZ.1 rfl (by omega) rfl rfl (Nat.le_of_ble_eq_true rfl) d_Mod_readValue_249) (fun r249 E249 hp249 => ?_)
    rw [show r249 = numV (part tp i j) from hp249.1, hp249.2]
    refine g_iastN (pc := 252) C hZ.2.2.2.2.2.2.2.2.2.1 (by omega) (gt_I _) (by omega) (by omega) d_Mod_readValue_252 (fun E252 hE252 => ?_)
    have fE252_1 := (congrFun hE252 z).trans ((va_up_ne _ _ (show z ≠ z + 317 from by omega)).trans hZ.1)
    have fE252_2 := (congrFun hE252 (z + 1)).trans ((va_up_ne _ _ (show z + 1 ≠ z + 317 from by omega)).trans hZ.2.1.h)
    have fE252_3 := (congrFun hE252 (z + 155)).trans ((va_up_ne _ _ (show z + 155 ≠ z + 317 from by omega)).trans hZ.2.2.1.h)
    have fE252_4 := (congrFun hE252 (z + 320)).trans ((va_up_ne _ _ (show z + 320 ≠ z + 317 from by omega)).trans hZ.2.2.2.2.2.2.2.2.2.2.2.1.h)
    have fE252_5 := (congrFun hE252 (z + 313)).trans ((va_up_ne _ _ (show z + 313 ≠ z + 317 from by omega)).trans hZ.2.2.2.2.2.2.2.1.1)
    have fE252_6 := (congrFun hE252 (z + 315)).trans ((va_up_ne _ _ (show z + 315 ≠ z + 317 from by omega)).trans hZ.2.2.2.2.2.2.2.2.1.1)
    have fE252_7 := (congrFun hE252 (z + 318)).trans ((va_up_ne _ _ (show z + 318 ≠ z + 317 from by omega)).trans hZ.2.2.2.2.2.2.2.2.2.2.1.1)
    have fE252_8 := (congrFun hE252 (z + 474)).trans ((va_up_ne _ _ (show z + 474 ≠ z + 317 from by omega)).trans hZ.2.2.2.2.2.2.2.2.2.2.2.2.1.1)
    have fE252_9 : E252 (z + 317) = .inl (kc K 3, 8, .inl (upd vl 6 (numV (part tp i j)))) := by rw [hE252]; exact va_up_self _ _ _
    have hF252 : frN (z + 317) 1 E E252 := fun k hk => by rw [hE252, va_up_ne _ _ (by omega)]
    have hZ252 := hZ.value hF252 fE252_9
    have hf252 : frN z 476 E E252 := hF252.wide (by omega) (by omega)
    refine g_aload_n (pc := 253) C d_Mod_readValue_253 0 rfl ?_
    refine g_get (pc := 254) C fl_Mod_78 hZ252.1 (by omega) rfl d_Mod_readValue_254 ?_
    refine g_iload_n (pc := 257) C d_Mod_readValue_257 1 rfl ?_
    refine g_ialdN (pc := 258) C hZ252.2.2.2.2.2.2.2.2.2.1 (by omega) (gt_I _) (by omega) (by omega) d_Mod_readValue_258 ?_
    refine g_top (y := numV (part tp i j)) (pk_us) ?_
    refine g_iconst (pc := 259) (v := nI 1) C d_Mod_readValue_259 (by decide) ?_
    refine g_icmp_lt (pc := 260) C 279 d_Mod_readValue_260 (by decide) (fun h_260 => ?_) (fun h_260 => ?_)
    · skip
      refine g_iconst (pc := 279) (v := nI 0) C d_Mod_readValue_279 (by decide) ?_
      refine g_zret (pc := 280) C hR rfl d_Mod_readValue_280 ?_
      refine ⟨?_, ?_, hf252⟩
      · show _ = bI (decide (nI 1 ≤ numV (part tp i j)) && decide (numV (part tp i j) ≤ nI 1000))
        first
          | (rw [decide_eq_false (i_gt h_260)]; rfl)
          | (rw [decide_eq_true (i_ngt h_260), decide_eq_false (i_gt h_272)]; rfl)
          | (rw [decide_eq_true (i_ngt h_260), decide_eq_true (i_ngt h_272)]; rfl)
      · have hvl : valM 6 (part tp i j) = numV (part tp i j) := by rfl
        show isZ K E252 z tp os pa ta pr md ms ls kms kls bms bls ck vn tn mt hs bo (upd vl 6 (valM 6 (part tp i j)))
        rw [hvl]
        exact hZ252
    · skip
      refine g_aload_n (pc := 263) C d_Mod_readValue_263 0 rfl ?_
      refine g_get (pc := 264) C fl_Mod_78 hZ252.1 (by omega) rfl d_Mod_readValue_264 ?_
      refine g_iload_n (pc := 267) C d_Mod_readValue_267 1 rfl ?_
      refine g_ialdN (pc := 268) C hZ252.2.2.2.2.2.2.2.2.2.1 (by omega) (gt_I _) (by omega) (by omega) d_Mod_readValue_268 ?_
      refine g_top (y := numV (part tp i j)) (pk_us) ?_
      refine g_sipush (pc := 269) (v := nI 1000) C d_Mod_readValue_269 (by decide) ?_
      refine g_icmp_gt (pc := 272) C 279 d_Mod_readValue_272 (by decide) (fun h_272 => ?_) (fun h_272 => ?_)
      · skip
        refine g_iconst (pc := 279) (v := nI 0) C d_Mod_readValue_279 (by decide) ?_
        refine g_zret (pc := 280) C hR rfl d_Mod_readValue_280 ?_
        refine ⟨?_, ?_, hf252⟩
        · show _ = bI (decide (nI 1 ≤ numV (part tp i j)) && decide (numV (part tp i j) ≤ nI 1000))
          first
            | (rw [decide_eq_false (i_gt h_260)]; rfl)
            | (rw [decide_eq_true (i_ngt h_260), decide_eq_false (i_gt h_272)]; rfl)
            | (rw [decide_eq_true (i_ngt h_260), decide_eq_true (i_ngt h_272)]; rfl)
        · have hvl : valM 6 (part tp i j) = numV (part tp i j) := by rfl
          show isZ K E252 z tp os pa ta pr md ms ls kms kls bms bls ck vn tn mt hs bo (upd vl 6 (valM 6 (part tp i j)))
          rw [hvl]
          exact hZ252
      · skip
        refine g_iconst (pc := 275) (v := nI 1) C d_Mod_readValue_275 (by decide) ?_
        refine g_goto (pc := 276) C 280 d_Mod_readValue_276 (by decide) ?_
        refine g_zret (pc := 280) C hR rfl d_Mod_readValue_280 ?_
        refine ⟨?_, ?_, hf252⟩
        · show _ = bI (decide (nI 1 ≤ numV (part tp i j)) && decide (numV (part tp i j) ≤ nI 1000))
          first
            | (rw [decide_eq_false (i_gt h_260)]; rfl)
            | (rw [decide_eq_true (i_ngt h_260), decide_eq_false (i_gt h_272)]; rfl)
            | (rw [decide_eq_true (i_ngt h_260), decide_eq_true (i_ngt h_272)]; rfl)
        · have hvl : valM 6 (part tp i j) = numV (part tp i j) := by rfl
          show isZ K E252 z tp os pa ta pr md ms ls kms kls bms bls ck vn tn mt hs bo (upd vl 6 (valM 6 (part tp i j)))
          rw [hvl]
          exact hZ252
  · skip
    show gW X K E 0 [(0, .ref (ka K z)), (1, .int (nI 7)), (2, .int (nI i)), (3, .int (nI j))] []
    refine g_iload_n (pc := 0) C d_Mod_readValue_0 1 rfl ?_
    refine g_tswO (pc := 1) C 281 d_Mod_readValue_1 (by decide) (by decide) ?_
    refine g_aload_n (pc := 281) C d_Mod_readValue_281 0 rfl ?_
    refine g_get (pc := 282) C fl_Mod_78 hZ.1 (by omega) rfl d_Mod_readValue_282 ?_
    refine g_iload_n (pc := 285) C d_Mod_readValue_285 1 rfl ?_
    refine g_aload_n (pc := 286) C d_Mod_readValue_286 0 rfl ?_
    refine g_iload_n (pc := 287) C d_Mod_readValue_287 2 rfl ?_
    refine g_iload_n (pc := 288) C d_Mod_readValue_288 3 rfl ?_
    refine g_ldcS (pc := 289) (i := 51) C rfl d_Mod_readValue_289 ?_
    refine g_ci (pc := 291) C (g_rV (As := [.int (nI i), .int (nI j), .ref (ks K 51)]) (rest := [.int (nI 7), .ref (ka K (z + 317))]) C (c_Mod_is _ K _ z tp os pa ta pr md ms ls kms kls bms bls ck vn tn mt hs bo vl hZ i j 51 t_one z_one (by omega) hj (by decide) (by decide) (by decide)) mw_Mod_is mo_Mod_is ml_Mod_108 (by decide) hZ.1 rfl (by omega) rfl rfl (Nat.le_of_ble_eq_true rfl) d_Mod_readValue_291) (fun r291 E291 hp291 => ?_)
    rw [show r291 = bI (decide (part tp i j = t_one)) from hp291.1, hp291.2]
    refine g_if_eqB (pc := 294) C 301 d_Mod_readValue_294 (by decide) (fun h_294 => ?_) (fun h_294 => ?_)
    · skip
      refine g_iconst (pc := 301) (v := nI 0) C d_Mod_readValue_301 (by decide) ?_
      refine g_iastN (pc := 302) C hZ.2.2.2.2.2.2.2.2.2.1 (by omega) (gt_I _) (by omega) (by omega) d_Mod_readValue_302 (fun E302 hE302 => ?_)
      have fE302_1 := (congrFun hE302 z).trans ((va_up_ne _ _ (show z ≠ z + 317 from by omega)).trans hZ.1)
      have fE302_2 := (congrFun hE302 (z + 1)).trans ((va_up_ne _ _ (show z + 1 ≠ z + 317 from by omega)).trans hZ.2.1.h)
      have fE302_3 := (congrFun hE302 (z + 155)).trans ((va_up_ne _ _ (show z + 155 ≠ z + 317 from by omega)).trans hZ.2.2.1.h)
      have fE302_4 := (congrFun hE302 (z + 320)).trans ((va_up_ne _ _ (show z + 320 ≠ z + 317 from by omega)).trans hZ.2.2.2.2.2.2.2.2.2.2.2.1.h)
      have fE302_5 := (congrFun hE302 (z + 313)).trans ((va_up_ne _ _ (show z + 313 ≠ z + 317 from by omega)).trans hZ.2.2.2.2.2.2.2.1.1)
      have fE302_6 := (congrFun hE302 (z + 315)).trans ((va_up_ne _ _ (show z + 315 ≠ z + 317 from by omega)).trans hZ.2.2.2.2.2.2.2.2.1.1)
      have fE302_7 := (congrFun hE302 (z + 318)).trans ((va_up_ne _ _ (show z + 318 ≠ z + 317 from by omega)).trans hZ.2.2.2.2.2.2.2.2.2.2.1.1)
      have fE302_8 := (congrFun hE302 (z + 474)).trans ((va_up_ne _ _ (show z + 474 ≠ z + 317 from by omega)).trans hZ.2.2.2.2.2.2.2.2.2.2.2.2.1.1)
      have fE302_9 : E302 (z + 317) = .inl (kc K 3, 8, .inl (upd vl 7 (nI 0))) := by rw [hE302]; exact va_up_self _ _ _
      have hF302 : frN (z + 317) 1 E E302 := fun k hk => by rw [hE302, va_up_ne _ _ (by omega)]
      have hZ302 := hZ.value hF302 fE302_9
      have hf302 : frN z 476 E E302 := hF302.wide (by omega) (by omega)
      refine g_aload_n (pc := 303) C d_Mod_readValue_303 0 rfl ?_
      refine g_get (pc := 304) C fl_Mod_78 hZ302.1 (by omega) rfl d_Mod_readValue_304 ?_
      refine g_iload_n (pc := 307) C d_Mod_readValue_307 1 rfl ?_
      refine g_ialdN (pc := 308) C hZ302.2.2.2.2.2.2.2.2.2.1 (by omega) (gt_I _) (by omega) (by omega) d_Mod_readValue_308 ?_
      refine g_top (y := nI 0) (pk_us) ?_
      refine g_iconst (pc := 309) (v := nI 1) C d_Mod_readValue_309 (by decide) ?_
      refine g_icmp_eqN (pc := 310) C 324 d_Mod_readValue_310 (by decide) (by omega) (by omega) (fun h_310 => ?_) (fun h_310 => ?_)
      · exact absurd h_310 (by decide)
      · skip
        refine g_aload_n (pc := 313) C d_Mod_readValue_313 0 rfl ?_
        refine g_iload_n (pc := 314) C d_Mod_readValue_314 2 rfl ?_
        refine g_iload_n (pc := 315) C d_Mod_readValue_315 3 rfl ?_
        refine g_ldcS (pc := 316) (i := 52) C rfl d_Mod_readValue_316 ?_
        refine g_ci (pc := 318) C (g_rV (As := [.int (nI i), .int (nI j), .ref (ks K 52)]) (rest := []) C (c_Mod_is _ K _ z tp os pa ta pr md ms ls kms kls bms bls ck vn tn mt hs bo (upd vl 7 (nI 0)) hZ302 i j 52 t_many z_many (by omega) hj (by decide) (by decide) (by decide)) mw_Mod_is mo_Mod_is ml_Mod_108 (by decide) hZ302.1 rfl (by omega) rfl rfl (Nat.le_of_ble_eq_true rfl) d_Mod_readValue_318) (fun r318 E318 hp318 => ?_)
        rw [show r318 = bI (decide (part tp i j = t_many)) from hp318.1, hp318.2]
        refine g_if_eqB (pc := 321) C 328 d_Mod_readValue_321 (by decide) (fun h_321 => ?_) (fun h_321 => ?_)
        · skip
          refine g_iconst (pc := 328) (v := nI 0) C d_Mod_readValue_328 (by decide) ?_
          refine g_zret (pc := 329) C hR rfl d_Mod_readValue_329 ?_
          refine ⟨?_, ?_, hf302⟩
          · show _ = bI (decide (part tp i j = t_one) || decide (part tp i j = t_many))
            rw [h_294, h_321]
            rfl
          · have hvl : valM 7 (part tp i j) = nI 0 := by rw [valM, if_neg (of_decide_eq_false h_294)]
            show isZ K E302 z tp os pa ta pr md ms ls kms kls bms bls ck vn tn mt hs bo (upd vl 7 (valM 7 (part tp i j)))
            rw [hvl]
            exact hZ302
        · skip
          refine g_iconst (pc := 324) (v := nI 1) C d_Mod_readValue_324 (by decide) ?_
          refine g_goto (pc := 325) C 329 d_Mod_readValue_325 (by decide) ?_
          refine g_zret (pc := 329) C hR rfl d_Mod_readValue_329 ?_
          refine ⟨?_, ?_, hf302⟩
          · show _ = bI (decide (part tp i j = t_one) || decide (part tp i j = t_many))
            rw [h_294, h_321]
            rfl
          · have hvl : valM 7 (part tp i j) = nI 0 := by rw [valM, if_neg (of_decide_eq_false h_294)]
            show isZ K E302 z tp os pa ta pr md ms ls kms kls bms bls ck vn tn mt hs bo (upd vl 7 (valM 7 (part tp i j)))
            rw [hvl]
            exact hZ302
    · skip
      refine g_iconst (pc := 297) (v := nI 1) C d_Mod_readValue_297 (by decide) ?_
      refine g_goto (pc := 298) C 302 d_Mod_readValue_298 (by decide) ?_
      refine g_iastN (pc := 302) C hZ.2.2.2.2.2.2.2.2.2.1 (by omega) (gt_I _) (by omega) (by omega) d_Mod_readValue_302 (fun E302 hE302 => ?_)
      have fE302_1 := (congrFun hE302 z).trans ((va_up_ne _ _ (show z ≠ z + 317 from by omega)).trans hZ.1)
      have fE302_2 := (congrFun hE302 (z + 1)).trans ((va_up_ne _ _ (show z + 1 ≠ z + 317 from by omega)).trans hZ.2.1.h)
      have fE302_3 := (congrFun hE302 (z + 155)).trans ((va_up_ne _ _ (show z + 155 ≠ z + 317 from by omega)).trans hZ.2.2.1.h)
      have fE302_4 := (congrFun hE302 (z + 320)).trans ((va_up_ne _ _ (show z + 320 ≠ z + 317 from by omega)).trans hZ.2.2.2.2.2.2.2.2.2.2.2.1.h)
      have fE302_5 := (congrFun hE302 (z + 313)).trans ((va_up_ne _ _ (show z + 313 ≠ z + 317 from by omega)).trans hZ.2.2.2.2.2.2.2.1.1)
      have fE302_6 := (congrFun hE302 (z + 315)).trans ((va_up_ne _ _ (show z + 315 ≠ z + 317 from by omega)).trans hZ.2.2.2.2.2.2.2.2.1.1)
      have fE302_7 := (congrFun hE302 (z + 318)).trans ((va_up_ne _ _ (show z + 318 ≠ z + 317 from by omega)).trans hZ.2.2.2.2.2.2.2.2.2.2.1.1)
      have fE302_8 := (congrFun hE302 (z + 474)).trans ((va_up_ne _ _ (show z + 474 ≠ z + 317 from by omega)).trans hZ.2.2.2.2.2.2.2.2.2.2.2.2.1.1)
      have fE302_9 : E302 (z + 317) = .inl (kc K 3, 8, .inl (upd vl 7 (nI 1))) := by rw [hE302]; exact va_up_self _ _ _
      have hF302 : frN (z + 317) 1 E E302 := fun k hk => by rw [hE302, va_up_ne _ _ (by omega)]
      have hZ302 := hZ.value hF302 fE302_9
      have hf302 : frN z 476 E E302 := hF302.wide (by omega) (by omega)
      refine g_aload_n (pc := 303) C d_Mod_readValue_303 0 rfl ?_
      refine g_get (pc := 304) C fl_Mod_78 hZ302.1 (by omega) rfl d_Mod_readValue_304 ?_
      refine g_iload_n (pc := 307) C d_Mod_readValue_307 1 rfl ?_
      refine g_ialdN (pc := 308) C hZ302.2.2.2.2.2.2.2.2.2.1 (by omega) (gt_I _) (by omega) (by omega) d_Mod_readValue_308 ?_
      refine g_top (y := nI 1) (pk_us) ?_
      refine g_iconst (pc := 309) (v := nI 1) C d_Mod_readValue_309 (by decide) ?_
      refine g_icmp_eqN (pc := 310) C 324 d_Mod_readValue_310 (by decide) (by omega) (by omega) (fun h_310 => ?_) (fun h_310 => ?_)
      · skip
        refine g_iconst (pc := 324) (v := nI 1) C d_Mod_readValue_324 (by decide) ?_
        refine g_goto (pc := 325) C 329 d_Mod_readValue_325 (by decide) ?_
        refine g_zret (pc := 329) C hR rfl d_Mod_readValue_329 ?_
        refine ⟨?_, ?_, hf302⟩
        · show _ = bI (decide (part tp i j = t_one) || decide (part tp i j = t_many))
          rw [h_294]
          rfl
        · have hvl : valM 7 (part tp i j) = nI 1 := by rw [valM, if_pos (of_decide_eq_true h_294)]
          show isZ K E302 z tp os pa ta pr md ms ls kms kls bms bls ck vn tn mt hs bo (upd vl 7 (valM 7 (part tp i j)))
          rw [hvl]
          exact hZ302
      · exact absurd h_310 (by decide)
