set_option maxHeartbeats 4000000 in
set_option maxRecDepth 100000 in
theorem w_Z_tr440_c {X : gX} {K : gK} (C : gC X K b_Mod_transfer "DavRoomModel" 11 5 320) (E : gE) (z : Nat) (tp os pa ta pr md : Bs) (ms : List Me) (ls : List Lk) (kms : List Me) (kls : List Lk) (bms : List Me) (bls : List Lk) (ck vn tn : Int32) (mt hs bo : Nat) (vl : Nat → Int32) (al : Bool) (c5 c1 : Int32) (many tc : Nat) (hmy : many ≤ 41) (hc5 : ¬ 0 ≤ c5 ∧ tc = 201 ∨ 0 ≤ c5 ∧ tc = 204) (accF : List Me) (vnF : Int32) (post : Int32 → gE → Prop) (hfin : ∀ (E' : gE) (md' : Bs), isZ K E' z tp os pa ta pr md' accF ls kms kls bms bls ck vnF tn mt hs bo vl → frN z 476 E E' → post (nI tc) E') (hR : gRi X K .int (post)) : ∀ (xs : List Me) (la : Option Bs) (l7 : Int32) (c : Nat) (E1 : gE) (acc : List Me) (v1 : Int32) (md1 : Bs), sch bms (goX pa al) la xs → ((la = none ∧ l7 = -1) ∨ ∃ (lk : Nat) (h : lk < bms.length), la = some bms[lk].1 ∧ l7 = nI lk) → isZ K E1 z tp os pa ta pr md1 acc ls kms kls bms bls ck v1 tn mt hs bo vl → c + xs.length = many → acc.length + xs.length ≤ 41 → (∀ x ∈ xs, pa.length ≤ x.1.length ∧ ta.length + x.1.length - pa.length ≤ 48) → goM false pa ta acc v1 xs = (accF, vnF) → frN z 476 E E1 → gW X K E1 440 [(8, .int (nI c)), (7, .int l7), (5, .int c5), (4, .int (nI many)), (3, .int (bI al)), (0, .ref (ka K z)), (1, .int c1), (2, .int (nI 0))] [] := by
  intro xs
  induction xs with
  | nil =>
    intro la l7 c E1 acc v1 md1 hs hl hZ1 hc hfit hpx hgo hfr
    have hzN := hZ1.2.2.2.2.2.2.2.2.2.2.2.2.2
    have hol := hZ1.2.2.2.2.1.1
    have hnm := hZ1.2.1.lim
    have hpal := hZ1.2.2.2.2.2.2.2.1.2.1
    have htal := hZ1.2.2.2.2.2.2.2.2.1.2.1
    have hbm := hZ1.2.2.2.2.2.2.2.2.2.2.2.1.lim
    rw [List.length_nil] at hc hfit
    refine g_iload (pc := 440) C d_Mod_transfer_440 0 rfl ?_
    refine g_iload (pc := 442) C d_Mod_transfer_442 3 rfl ?_
    refine g_icmp_geN (pc := 444) C 678 d_Mod_transfer_444 (by decide) (by omega) (by omega) (fun h_444 => ?_) (fun h_444 => ?_)
    · skip
      refine g_iload (pc := 678) C d_Mod_transfer_678 2 rfl ?_
      refine g_if_ge (pc := 680) C 689 d_Mod_transfer_680 (by decide) (fun h_680 => ?_) (fun h_680 => ?_)
      · skip
        refine g_sipush (pc := 689) (v := nI 204) C d_Mod_transfer_689 (by decide) ?_
        refine g_iret (pc := 692) C hR d_Mod_transfer_692 ?_
        rw [goM] at hgo
        cases hgo
        rcases hc5 with ⟨q1, q2⟩ | ⟨q1, q2⟩
        · first
            | exact absurd h_680 q1
            | (subst q2; exact hfin E1 md1 hZ1 hfr)
        · first
            | exact absurd q1 h_680
            | (subst q2; exact hfin E1 md1 hZ1 hfr)
      · skip
        refine g_sipush (pc := 683) (v := nI 201) C d_Mod_transfer_683 (by decide) ?_
        refine g_goto (pc := 686) C 692 d_Mod_transfer_686 (by decide) ?_
        refine g_iret (pc := 692) C hR d_Mod_transfer_692 ?_
        rw [goM] at hgo
        cases hgo
        rcases hc5 with ⟨q1, q2⟩ | ⟨q1, q2⟩
        · first
            | exact absurd h_680 q1
            | (subst q2; exact hfin E1 md1 hZ1 hfr)
        · first
            | exact absurd q1 h_680
            | (subst q2; exact hfin E1 md1 hZ1 hfr)
    · exact absurd hc (by omega)
  | cons x xs ih =>
    intro la l7 c E1 acc v1 md1 hs hl hZ1 hc hfit hpx hgo hfr
    have hzN := hZ1.2.2.2.2.2.2.2.2.2.2.2.2.2
    have hol := hZ1.2.2.2.2.1.1
    have hnm := hZ1.2.1.lim
    have hpal := hZ1.2.2.2.2.2.2.2.1.2.1
    have htal := hZ1.2.2.2.2.2.2.2.2.1.2.1
    have hbm := hZ1.2.2.2.2.2.2.2.2.2.2.2.1.lim
    rw [List.length_cons] at hc hfit
    obtain ⟨i, hi, hs2, hxe, hs3⟩ := hs
    subst hxe
    have hpi := hpx _ List.mem_cons_self
    refine g_iload (pc := 440) C d_Mod_transfer_440 0 rfl ?_
    refine g_iload (pc := 442) C d_Mod_transfer_442 3 rfl ?_
    refine g_icmp_geN (pc := 444) C 678 d_Mod_transfer_444 (by decide) (by omega) (by omega) (fun h_444 => ?_) (fun h_444 => ?_)
    · exact absurd hc (by omega)
    · skip
      refine g_iconst (pc := 447) (v := -1) C d_Mod_transfer_447 (by decide) ?_
      refine g_istore (pc := 448) (lv' := [(9, .int (-1)), (8, .int (nI c)), (7, .int l7), (5, .int c5), (4, .int (nI many)), (3, .int (bI al)), (0, .ref (ka K z)), (1, .int c1), (2, .int (nI 0))]) C d_Mod_transfer_448 (by decide) rfl ?_
      refine g_iconst (pc := 450) (v := nI 0) C d_Mod_transfer_450 (by decide) ?_
      refine g_istore (pc := 451) (lv' := [(10, .int (nI 0)), (9, .int (-1)), (8, .int (nI c)), (7, .int l7), (5, .int c5), (4, .int (nI many)), (3, .int (bI al)), (0, .ref (ka K z)), (1, .int c1), (2, .int (nI 0))]) C d_Mod_transfer_451 (by decide) rfl ?_
      have hk9 : gW X K E1 558 [(9, .int (nI i)), (8, .int (nI c)), (5, .int c5), (4, .int (nI many)), (3, .int (bI al)), (0, .ref (ka K z)), (1, .int c1), (2, .int (nI 0))] [] := by
        refine g_aload_n (pc := 558) C d_Mod_transfer_558 5 rfl ?_
        refine g_get (pc := 559) C fl_Mod_10 hZ1.1 (by omega) rfl d_Mod_transfer_559 ?_
        refine g_getN (pc := 562) C fN_Mod_215 hZ1.2.1.h (by omega) rfl d_Mod_transfer_562 ?_
        refine g_istore (pc := 565) (lv' := [(10, .int (nI acc.length)), (9, .int (nI i)), (8, .int (nI c)), (5, .int c5), (4, .int (nI many)), (3, .int (bI al)), (0, .ref (ka K z)), (1, .int c1), (2, .int (nI 0))]) C d_Mod_transfer_565 (by decide) rfl ?_
        refine g_aload_n (pc := 567) C d_Mod_transfer_567 6 rfl ?_
        refine g_get (pc := 568) C fl_Mod_10 hZ1.1 (by omega) rfl d_Mod_transfer_568 ?_
        refine g_dup (pc := 571) C d_Mod_transfer_571 rfl ?_
        refine g_getN (pc := 572) C fN_Mod_215 hZ1.2.1.h (by omega) rfl d_Mod_transfer_572 ?_
        refine g_iconst (pc := 575) (v := nI 1) C d_Mod_transfer_575 (by decide) ?_
        refine g_iaddN (pc := 576) C d_Mod_transfer_576 ?_
        refine g_putN (pc := 577) C fN_Mod_215 fw_MRoom_count hZ1.2.1.h (by omega) (Nat.le_of_ble_eq_true rfl) ⟨rfl, rfl⟩ d_Mod_transfer_577 (fun E577 hE577 => ?_)
        have fE577_1 := (congrFun hE577 z).trans ((va_up_ne _ _ (show z ≠ z + 1 from by omega)).trans hZ1.1)
        have fE577_2 : E577 (z + 1) = .inr (8, [.ref (ka K (z + 1 + 1)), .ref (ka K (z + 1 + 2)), .ref (ka K (z + 1 + 3)), .ref (ka K (z + 1 + 4)), .ref (ka K (z + 1 + 5)), .int (nI (acc.length + 1)), .ref (ka K (z + 1 + 47)), .ref (ka K (z + 1 + 48)), .ref (ka K (z + 1 + 49)), .ref (ka K (z + 1 + 50)), .ref (ka K (z + 1 + 51)), .int (nI ls.length)]) := by rw [hE577]; exact va_up_self _ _ _
        have fE577_3 := (congrFun hE577 (z + 155)).trans ((va_up_ne _ _ (show z + 155 ≠ z + 1 from by omega)).trans hZ1.2.2.1.h)
        have fE577_4 := (congrFun hE577 (z + 320)).trans ((va_up_ne _ _ (show z + 320 ≠ z + 1 from by omega)).trans hZ1.2.2.2.2.2.2.2.2.2.2.2.1.h)
        have fE577_5 := (congrFun hE577 (z + 313)).trans ((va_up_ne _ _ (show z + 313 ≠ z + 1 from by omega)).trans hZ1.2.2.2.2.2.2.2.1.1)
        have fE577_6 := (congrFun hE577 (z + 315)).trans ((va_up_ne _ _ (show z + 315 ≠ z + 1 from by omega)).trans hZ1.2.2.2.2.2.2.2.2.1.1)
        have fE577_7 := (congrFun hE577 (z + 318)).trans ((va_up_ne _ _ (show z + 318 ≠ z + 1 from by omega)).trans hZ1.2.2.2.2.2.2.2.2.2.2.1.1)
        have fE577_8 := (congrFun hE577 (z + 474)).trans ((va_up_ne _ _ (show z + 474 ≠ z + 1 from by omega)).trans hZ1.2.2.2.2.2.2.2.2.2.2.2.2.1.1)
        have fE577_9 := (congrFun hE577 (z + 317)).trans ((va_up_ne _ _ (show z + 317 ≠ z + 1 from by omega)).trans hZ1.2.2.2.2.2.2.2.2.2.1)
        have hF577 : frN (z + 1) 1 E1 E577 := fun k hk => by rw [hE577, va_up_ne _ _ (by omega)]
        obtain ⟨v, w, hM, hv, hw⟩ := hZ1.2.1
        have hM577 := hM.num (n' := acc.length + 1) (m' := ls.length) hF577 fE577_2 (by omega) (by omega)
        obtain ⟨v2, w2, hB, hv2, hw2⟩ := hZ1.2.2.2.2.2.2.2.2.2.2.2.1
        have hB577 := hB.out hF577 (by omega)
        refine g_aload_n (pc := 580) C d_Mod_transfer_580 6 rfl ?_
        refine g_get (pc := 581) C fl_Mod_10 fE577_1 (by omega) rfl d_Mod_transfer_581 ?_
        refine g_aload_n (pc := 584) C d_Mod_transfer_584 6 rfl ?_
        refine g_get (pc := 585) C fl_Mod_85 fE577_1 (by omega) rfl d_Mod_transfer_585 ?_
        refine g_iload (pc := 588) C d_Mod_transfer_588 1 rfl ?_
        refine g_iload (pc := 590) C d_Mod_transfer_590 0 rfl ?_
        refine g_cv (pc := 592) C (g_rV (As := [.ref (ka K (z + 320)), .int (nI i), .int (nI acc.length)]) (rest := []) C (c_MRoom_copyResource _ K _ (z + 1) (acc.length + 1) v ls.length w hM577 (z + 320) bms.length v2 bls.length w2 hB577 (by omega) i acc.length (by omega) (by omega)) mw_MRoom_copyResource mo_MRoom_copyResource ml_Mod_296 (by decide) fE577_2 rfl (by omega) rfl rfl (Nat.le_of_ble_eq_true rfl) d_Mod_transfer_592) (fun E592 hp592 => ?_)
        obtain ⟨hM592, hF592⟩ := hp592
        have hMM := isMM.of hM592 (mapr_upd (mapr_of hv)) (mapr_of hw)
        rw [hv2 i hi] at hMM
        have hFn : frN (z + 1) 154 E1 E592 := (hF577.wide (Nat.le_refl _) (by omega)).trans hF592
        have hZ592 := hZ1.now hFn hMM
        have hf592 : frN z 476 E E592 := hfr.trans (hFn.wide (by omega) (by omega))
        obtain ⟨vb, wb, hB2, hvb, hwb⟩ := hZ592.2.2.2.2.2.2.2.2.2.2.2.1
        obtain ⟨kdb, veb, szb, tokb, enb, dpb, onb, dtb, fpb, fdb, flb, hab, hbb⟩ := hB2
        have hxi := hbb.p i (by omega)
        rw [hvb i hi] at hxi
        refine g_aload_n (pc := 595) C d_Mod_transfer_595 6 rfl ?_
        refine g_aload_n (pc := 596) C d_Mod_transfer_596 6 rfl ?_
        refine g_get (pc := 597) C fl_Mod_85 hZ592.1 (by omega) rfl d_Mod_transfer_597 ?_
        refine g_getN (pc := 600) C fN_Mod_216 hab.o (by omega) rfl d_Mod_transfer_600 ?_
        refine g_iload (pc := 603) C d_Mod_transfer_603 1 rfl ?_
        refine g_aldN (pc := 605) C hab.p (by omega) (gt_P _) (by omega) (by omega) d_Mod_transfer_605 (hv := rf_at (hab.p' i (by omega))) ?_
        refine g_cv (pc := 606) C (g_rV (As := [.ref (ka K (z + 320 + 52 + 2 * i))]) (rest := []) C (c_Mod_target _ K _ z tp os pa ta pr md1 (acc ++ [bms[i]]) ls kms kls bms bls ck v1 tn mt hs bo vl hZ592 (z + 320 + 52 + 2 * i) bms[i].1 hxi (by omega) hpi.1 hpi.2) mw_Mod_target mo_Mod_target ml_Mod_300 (by decide) hZ592.1 rfl (by omega) rfl rfl (Nat.le_of_ble_eq_true rfl) d_Mod_transfer_606) (fun E606 hp606 => ?_)
        obtain ⟨hZ606, hF606⟩ := hp606
        have hf606 : frN z 476 E E606 := hf592.trans hF606
        obtain ⟨v3, w3, hM3, hv3, hw3⟩ := hZ606.2.1
        obtain ⟨kd, ve, sz, tok, en, dp, on, dt, fp, fd, fl, ha, hb⟩ := hM3
        have hal : acc.length < (acc ++ [bms[i]]).length := by rw [List.length_append, List.length_singleton]; omega
        have hv9 := (hv3 acc.length hal).trans (last_at hal)
        have hpn := hb.p acc.length (by omega)
        have hpn1 := hpn.1
        have hbn := ha.b acc.length (by omega)
        have hpa := hZ606.2.2.2.2.2.2.2.2.2.2.2.2.1
        have hkn := hb.k acc.length (by omega)
        rw [hv9] at hkn
        have hvn := hb.v acc.length (by omega)
        rw [hv9] at hvn
        have hsn := hb.s acc.length (by omega)
        rw [hv9] at hsn
        have hzn := hb.z acc.length (by omega)
        rw [hv9] at hzn
        have hbb9 := hb.b acc.length (by omega)
        simp only [hv9] at hbb9
        refine g_aload_n (pc := 609) C d_Mod_transfer_609 6 rfl ?_
        refine g_get (pc := 610) C fl_Mod_10 hZ606.1 (by omega) rfl d_Mod_transfer_610 ?_
        refine g_getN (pc := 613) C fN_Mod_216 ha.o (by omega) rfl d_Mod_transfer_613 ?_
        refine g_iload (pc := 616) C d_Mod_transfer_616 0 rfl ?_
        refine g_aldN (pc := 618) C ha.p (by omega) (gt_P _) (by omega) (by omega) d_Mod_transfer_618 (hv := rf_at (ha.p' acc.length (by omega))) ?_
        refine g_aload_n (pc := 619) C d_Mod_transfer_619 6 rfl ?_
        refine g_get (pc := 620) C fl_Mod_88 hZ606.1 (by omega) rfl d_Mod_transfer_620 ?_
        refine g_cv (pc := 623) C (g_rV (As := [.ref (ka K (z + 474))]) (rest := []) C (c_MPath_copy _ K _ (z + 1 + 52 + 2 * acc.length) (v3 acc.length).1 (z + 474) (ta ++ bms[i].1.drop pa.length) (by omega) hpn hpa) mw_MPath_copy mo_MPath_copy ml_Mod_267 (by decide) hpn1 rfl (by omega) rfl rfl (Nat.le_of_ble_eq_true rfl) d_Mod_transfer_623) (fun E623 hp623 => ?_)
        obtain ⟨hP623, hF623⟩ := hp623
        have rE623_1 := (hF623 z (by omega)).trans (hZ606.1)
        have rE623_2 := (hF623 (z + 1) (by omega)).trans (ha.o)
        have rE623_3 := (hF623 (z + 1 + 1) (by omega)).trans (ha.p)
        have rE623_4 := (hF623 (z + 1 + 2) (by omega)).trans (ha.k)
        have rE623_5 := (hF623 (z + 1 + 3) (by omega)).trans (ha.v)
        have rE623_6 := (hF623 (z + 1 + 4) (by omega)).trans (ha.s)
        have rE623_8 := (hF623 (z + 474) (by omega)).trans (hZ606.2.2.2.2.2.2.2.2.2.2.2.2.1.1)
        have rE623_9 := (hF623 (z + 1 + 6 + acc.length) (by omega)).trans (hbn)
        refine g_iload_n (pc := 626) C d_Mod_transfer_626 8 rfl ?_
        refine g_if_neN (pc := 627) C 668 d_Mod_transfer_627 (by decide) (by omega) (fun h_627 => ?_) (fun h_627 => ?_)
        · exact absurd h_627 (by decide)
        · skip
          refine g_aload_n (pc := 630) C d_Mod_transfer_630 6 rfl ?_
          refine g_get (pc := 631) C fl_Mod_10 rE623_1 (by omega) rfl d_Mod_transfer_631 ?_
          refine g_getN (pc := 634) C fN_Mod_183 rE623_2 (by omega) rfl d_Mod_transfer_634 ?_
          refine g_iload (pc := 637) C d_Mod_transfer_637 0 rfl ?_
          refine g_ialdN (pc := 639) C rE623_4 (by omega) (gt_I _) (by omega) (by omega) d_Mod_transfer_639 ?_
          refine g_iconst (pc := 640) (v := nI 1) C d_Mod_transfer_640 (by decide) ?_
          refine g_icmp_ne (pc := 641) C 668 d_Mod_transfer_641 (by decide) (fun h_641 => ?_) (fun h_641 => ?_)
          · skip
            refine g_iload (pc := 668) C d_Mod_transfer_668 1 rfl ?_
            refine g_istore (pc := 670) (lv' := [(7, .int (nI i)), (10, .int (nI acc.length)), (9, .int (nI i)), (8, .int (nI c)), (5, .int c5), (4, .int (nI many)), (3, .int (bI al)), (0, .ref (ka K z)), (1, .int c1), (2, .int (nI 0))]) C d_Mod_transfer_670 (by decide) rfl ?_
            refine g_iinc (pc := 672) (pl := 3) (v := nI (c + 1)) (lv' := [(8, .int (nI (c + 1))), (7, .int (nI i)), (10, .int (nI acc.length)), (9, .int (nI i)), (5, .int c5), (4, .int (nI many)), (3, .int (bI al)), (0, .ref (ka K z)), (1, .int c1), (2, .int (nI 0))]) C d_Mod_transfer_672 rfl (nI_1 _) (by decide) rfl ?_
            refine g_goto (pc := 675) C 440 d_Mod_transfer_675 (by decide) ?_
            have hM4 := isM.setR ha hb (j := acc.length) (by omega) (mvX pa ta bms[i] bms[i].2.2.1) (k1 := kd acc.length) (v1 := ve acc.length) (s1 := sz acc.length) hzn hkn hvn hsn (by rw [upd_self_eq]; exact rE623_4) (by rw [upd_self_eq]; exact rE623_5) (by rw [upd_self_eq]; exact rE623_6) rE623_9 hbb9 hP623 (fun k z1 z2 z3 z4 z5 z6 => hF623 k (by omega))
            have hMM4 := isMM.of hM4 (set_of hv3 hal) (mapr_of hw3)
            rw [set_last] at hMM4
            have hF4 : frN (z + 1) 154 E606 E623 := hF623.wide (by omega) (by omega)
            have hZ4 := hZ606.now hF4 hMM4
            rw [goM, if_neg (by rw [show (!false && decide (bms[i].2.1 = nI 1)) = false from by rw [decide_eq_false (by rw [← hkn]; exact h_641)]; rfl]; decide)] at hgo
            exact g_lv [0, 1, 4, 5, 6, 7, 8, 9] rfl (ih (some bms[i].1) (nI i) (c + 1) E623 (acc ++ [(mvX pa ta bms[i] bms[i].2.2.1)]) v1 (ta ++ bms[i].1.drop pa.length) hs3 (Or.inr ⟨i, hi, rfl, rfl⟩) hZ4 (by omega) (by rw [List.length_append, List.length_singleton]; omega) (fun x hx => hpx x (List.mem_cons_of_mem _ hx)) hgo (hf606.trans (hF4.wide (by omega) (by omega))))
          · skip
            refine g_aload_n (pc := 644) C d_Mod_transfer_644 6 rfl ?_
            refine g_dup (pc := 645) C d_Mod_transfer_645 rfl ?_
            refine g_get (pc := 646) C fl_Mod_277 rE623_1 (by omega) rfl d_Mod_transfer_646 ?_
            refine g_iconst (pc := 649) (v := nI 1) C d_Mod_transfer_649 (by decide) ?_
            refine g_iadd (pc := 650) C d_Mod_transfer_650 ?_
            refine g_put (pc := 651) C fl_Mod_277 fw_Mod_versions rE623_1 (by omega) (Nat.le_of_ble_eq_true rfl) ⟨rfl, rfl⟩ d_Mod_transfer_651 (fun E651 hE651 => ?_)
            have fE651_1 : E651 z = .inr (9, [.ref (ka K (z + 1)), .ref (ka K (z + 155)), .int ck, .int (v1 + (nI 1)), .int tn, .ref (ka K (z + 309)), .int (nI tp.length), .ref (ka K (z + 310)), .int (nI os.length), .ref (ka K (z + 311)), .ref (ka K (z + 312)), .int (nI mt), .ref (ka K (z + 313)), .ref (ka K (z + 315)), .int (nI hs), .ref (ka K (z + 317)), .int (nI bo), .ref (ka K (z + 318)), .ref (ka K (z + 320)), .ref (ka K (z + 474))]) := by rw [hE651]; exact va_up_self _ _ _
            have fE651_2 := (congrFun hE651 (z + 1)).trans ((va_up_ne _ _ (show z + 1 ≠ z from by omega)).trans rE623_2)
            have fE651_3 := (congrFun hE651 (z + 1 + 1)).trans ((va_up_ne _ _ (show z + 1 + 1 ≠ z from by omega)).trans rE623_3)
            have fE651_4 := (congrFun hE651 (z + 1 + 2)).trans ((va_up_ne _ _ (show z + 1 + 2 ≠ z from by omega)).trans rE623_4)
            have fE651_5 := (congrFun hE651 (z + 1 + 3)).trans ((va_up_ne _ _ (show z + 1 + 3 ≠ z from by omega)).trans rE623_5)
            have fE651_6 := (congrFun hE651 (z + 1 + 4)).trans ((va_up_ne _ _ (show z + 1 + 4 ≠ z from by omega)).trans rE623_6)
            have fE651_7 := (congrFun hE651 (z + 474)).trans ((va_up_ne _ _ (show z + 474 ≠ z from by omega)).trans rE623_8)
            have fE651_8 := (congrFun hE651 (z + 1 + 6 + acc.length)).trans ((va_up_ne _ _ (show z + 1 + 6 + acc.length ≠ z from by omega)).trans rE623_9)
            refine g_aload_n (pc := 654) C d_Mod_transfer_654 6 rfl ?_
            refine g_get (pc := 655) C fl_Mod_10 fE651_1 (by omega) rfl d_Mod_transfer_655 ?_
            refine g_getN (pc := 658) C fN_Mod_186 fE651_2 (by omega) rfl d_Mod_transfer_658 ?_
            refine g_iload (pc := 661) C d_Mod_transfer_661 0 rfl ?_
            refine g_aload_n (pc := 663) C d_Mod_transfer_663 6 rfl ?_
            refine g_get (pc := 664) C fl_Mod_277 fE651_1 (by omega) rfl d_Mod_transfer_664 ?_
            refine g_iastN (pc := 667) C fE651_5 (by omega) (gt_I _) (by omega) (by omega) d_Mod_transfer_667 (fun E667 hE667 => ?_)
            have fE667_1 := (congrFun hE667 z).trans ((va_up_ne _ _ (show z ≠ z + 1 + 3 from by omega)).trans fE651_1)
            have fE667_2 := (congrFun hE667 (z + 1)).trans ((va_up_ne _ _ (show z + 1 ≠ z + 1 + 3 from by omega)).trans fE651_2)
            have fE667_3 := (congrFun hE667 (z + 1 + 1)).trans ((va_up_ne _ _ (show z + 1 + 1 ≠ z + 1 + 3 from by omega)).trans fE651_3)
            have fE667_4 := (congrFun hE667 (z + 1 + 2)).trans ((va_up_ne _ _ (show z + 1 + 2 ≠ z + 1 + 3 from by omega)).trans fE651_4)
            have fE667_5 : E667 (z + 1 + 3) = .inl (kc K 3, 41, .inl (upd ve acc.length (v1 + (nI 1)))) := by rw [hE667]; exact va_up_self _ _ _
            have fE667_6 := (congrFun hE667 (z + 1 + 4)).trans ((va_up_ne _ _ (show z + 1 + 4 ≠ z + 1 + 3 from by omega)).trans fE651_6)
            have fE667_7 := (congrFun hE667 (z + 474)).trans ((va_up_ne _ _ (show z + 474 ≠ z + 1 + 3 from by omega)).trans fE651_7)
            have fE667_8 := (congrFun hE667 (z + 1 + 6 + acc.length)).trans ((va_up_ne _ _ (show z + 1 + 6 + acc.length ≠ z + 1 + 3 from by omega)).trans fE651_8)
            refine g_iload (pc := 668) C d_Mod_transfer_668 1 rfl ?_
            refine g_istore (pc := 670) (lv' := [(7, .int (nI i)), (10, .int (nI acc.length)), (9, .int (nI i)), (8, .int (nI c)), (5, .int c5), (4, .int (nI many)), (3, .int (bI al)), (0, .ref (ka K z)), (1, .int c1), (2, .int (nI 0))]) C d_Mod_transfer_670 (by decide) rfl ?_
            refine g_iinc (pc := 672) (pl := 3) (v := nI (c + 1)) (lv' := [(8, .int (nI (c + 1))), (7, .int (nI i)), (10, .int (nI acc.length)), (9, .int (nI i)), (5, .int c5), (4, .int (nI many)), (3, .int (bI al)), (0, .ref (ka K z)), (1, .int c1), (2, .int (nI 0))]) C d_Mod_transfer_672 rfl (nI_1 _) (by decide) rfl ?_
            refine g_goto (pc := 675) C 440 d_Mod_transfer_675 (by decide) ?_
            have hq9 : ∀ k, k ≠ z → k ≠ z + 1 + 3 → E667 k = E623 k := fun k z1 z2 => by rw [hE667, va_up_ne _ _ z2, hE651, va_up_ne _ _ z1]
            have hX9 : ∀ k, k ≠ z → (va_up E667 z (E606 z)) k = E667 k := fun k z1 => va_up_ne _ _ z1
            have hM4 := isM.setR (E' := (va_up E667 z (E606 z))) ha hb (j := acc.length) (by omega) (mvX pa ta bms[i] (v1 + nI 1)) (k1 := kd acc.length) (v1 := v1 + nI 1) (s1 := sz acc.length) hzn hkn rfl hsn (by rw [upd_self_eq]; exact (hX9 _ (by omega)).trans fE667_4) ((hX9 _ (by omega)).trans fE667_5) (by rw [upd_self_eq]; exact (hX9 _ (by omega)).trans fE667_6) ((hX9 _ (by omega)).trans fE667_8) hbb9 (hP623.at (fun k g1 g2 => (hX9 k (by omega)).trans (hq9 k (by omega) (by omega)))) (fun k z1 z2 z3 z4 z5 z6 => by
              by_cases e : k = z
              · rw [e, va_up_self]
              · exact (hX9 k e).trans ((hq9 k e z2).trans (hF623 k (by omega))))
            have hMM4 := isMM.of hM4 (set_of hv3 hal) (mapr_of hw3)
            rw [set_last] at hMM4
            have hF4 : frN (z + 1) 154 E606 (va_up E667 z (E606 z)) := fun k hk => by
              by_cases e : k = z
              · rw [e, va_up_self]
              · exact (hX9 k e).trans ((hq9 k e (by omega)).trans (hF623 k (by omega)))
            have hZ4 := hZ606.now hF4 hMM4
            have hF5 : frN z 1 (va_up E667 z (E606 z)) E667 := fun k hk => (hX9 k (by omega)).symm
            have hZ5 := hZ4.obj hF5 fE667_1 hZ4.2.2.2.1 hZ4.2.2.2.2.1
            rw [goM, if_pos (show (!false && decide (bms[i].2.1 = nI 1)) = true by rw [decide_eq_true (by rw [← hkn]; exact h_641)]; rfl)] at hgo
            exact g_lv [0, 1, 4, 5, 6, 7, 8, 9] rfl (ih (some bms[i].1) (nI i) (c + 1) E667 (acc ++ [(mvX pa ta bms[i] (v1 + nI 1))]) (v1 + nI 1) (ta ++ bms[i].1.drop pa.length) hs3 (Or.inr ⟨i, hi, rfl, rfl⟩) hZ5 (by omega) (by rw [List.length_append, List.length_singleton]; omega) (fun x hx => hpx x (List.mem_cons_of_mem _ hx)) hgo (hf606.trans ((hF4.wide (by omega) (by omega)).trans (hF5.wide (Nat.le_refl _) (by omega)))))
      rcases hl with ⟨rfl, rfl⟩ | ⟨lk, hlk, rfl, rfl⟩
      · exact g_lv [0, 1, 2, 3, 4, 5, 6, 7, 8, 9] rfl (w_Z_tr453_n C E1 z tp os pa ta pr md1 acc ls kms kls bms bls ck v1 tn mt hs bo vl hZ1 al (nI c) c5 (nI many) c1 (nI 0) post (by rw [hs2]; exact hk9) hR (bms.length + 1) 0 (Nat.zero_le _) (by omega))
      · exact g_lv [0, 1, 2, 3, 4, 5, 6, 7, 8, 9] rfl (w_Z_tr453_s C E1 z tp os pa ta pr md1 acc ls kms kls bms bls ck v1 tn mt hs bo vl hZ1 al (nI c) c5 (nI many) c1 (nI 0) lk hlk post (by rw [hs2]; exact hk9) hR (bms.length + 1) 0 (Nat.zero_le _) (by omega))

set_option maxHeartbeats 4000000 in
set_option maxRecDepth 100000 in
theorem w_Z_tr440_m {X : gX} {K : gK} (C : gC X K b_Mod_transfer "DavRoomModel" 11 5 320) (E : gE) (z : Nat) (tp os pa ta pr md : Bs) (ms : List Me) (ls : List Lk) (kms : List Me) (kls : List Lk) (bms : List Me) (bls : List Lk) (ck vn tn : Int32) (mt hs bo : Nat) (vl : Nat → Int32) (al : Bool) (c5 c1 : Int32) (many tc : Nat) (hmy : many ≤ 41) (hc5 : ¬ 0 ≤ c5 ∧ tc = 201 ∨ 0 ≤ c5 ∧ tc = 204) (accF : List Me) (vnF : Int32) (post : Int32 → gE → Prop) (hfin : ∀ (E' : gE) (md' : Bs), isZ K E' z tp os pa ta pr md' accF ls kms kls bms bls ck vnF tn mt hs bo vl → frN z 476 E E' → post (nI tc) E') (hR : gRi X K .int (post)) : ∀ (xs : List Me) (la : Option Bs) (l7 : Int32) (c : Nat) (E1 : gE) (acc : List Me) (v1 : Int32) (md1 : Bs), sch bms (goX pa al) la xs → ((la = none ∧ l7 = -1) ∨ ∃ (lk : Nat) (h : lk < bms.length), la = some bms[lk].1 ∧ l7 = nI lk) → isZ K E1 z tp os pa ta pr md1 acc ls kms kls bms bls ck v1 tn mt hs bo vl → c + xs.length = many → acc.length + xs.length ≤ 41 → (∀ x ∈ xs, pa.length ≤ x.1.length ∧ ta.length + x.1.length - pa.length ≤ 48) → goM true pa ta acc v1 xs = (accF, vnF) → frN z 476 E E1 → gW X K E1 440 [(8, .int (nI c)), (7, .int l7), (5, .int c5), (4, .int (nI many)), (3, .int (bI al)), (0, .ref (ka K z)), (1, .int c1), (2, .int (nI 1))] [] := by
  intro xs
  induction xs with
  | nil =>
    intro la l7 c E1 acc v1 md1 hs hl hZ1 hc hfit hpx hgo hfr
    have hzN := hZ1.2.2.2.2.2.2.2.2.2.2.2.2.2
    have hol := hZ1.2.2.2.2.1.1
    have hnm := hZ1.2.1.lim
    have hpal := hZ1.2.2.2.2.2.2.2.1.2.1
    have htal := hZ1.2.2.2.2.2.2.2.2.1.2.1
    have hbm := hZ1.2.2.2.2.2.2.2.2.2.2.2.1.lim
    rw [List.length_nil] at hc hfit
    refine g_iload (pc := 440) C d_Mod_transfer_440 0 rfl ?_
    refine g_iload (pc := 442) C d_Mod_transfer_442 3 rfl ?_
    refine g_icmp_geN (pc := 444) C 678 d_Mod_transfer_444 (by decide) (by omega) (by omega) (fun h_444 => ?_) (fun h_444 => ?_)
    · skip
      refine g_iload (pc := 678) C d_Mod_transfer_678 2 rfl ?_
      refine g_if_ge (pc := 680) C 689 d_Mod_transfer_680 (by decide) (fun h_680 => ?_) (fun h_680 => ?_)
      · skip
        refine g_sipush (pc := 689) (v := nI 204) C d_Mod_transfer_689 (by decide) ?_
        refine g_iret (pc := 692) C hR d_Mod_transfer_692 ?_
        rw [goM] at hgo
        cases hgo
        rcases hc5 with ⟨q1, q2⟩ | ⟨q1, q2⟩
        · first
            | exact absurd h_680 q1
            | (subst q2; exact hfin E1 md1 hZ1 hfr)
        · first
            | exact absurd q1 h_680
            | (subst q2; exact hfin E1 md1 hZ1 hfr)
      · skip
        refine g_sipush (pc := 683) (v := nI 201) C d_Mod_transfer_683 (by decide) ?_
        refine g_goto (pc := 686) C 692 d_Mod_transfer_686 (by decide) ?_
        refine g_iret (pc := 692) C hR d_Mod_transfer_692 ?_
        rw [goM] at hgo
        cases hgo
        rcases hc5 with ⟨q1, q2⟩ | ⟨q1, q2⟩
        · first
            | exact absurd h_680 q1
            | (subst q2; exact hfin E1 md1 hZ1 hfr)
        · first
            | exact absurd q1 h_680
            | (subst q2; exact hfin E1 md1 hZ1 hfr)
    · exact absurd hc (by omega)
  | cons x xs ih =>
    intro la l7 c E1 acc v1 md1 hs hl hZ1 hc hfit hpx hgo hfr
    have hzN := hZ1.2.2.2.2.2.2.2.2.2.2.2.2.2
    have hol := hZ1.2.2.2.2.1.1
    have hnm := hZ1.2.1.lim
    have hpal := hZ1.2.2.2.2.2.2.2.1.2.1
    have htal := hZ1.2.2.2.2.2.2.2.2.1.2.1
    have hbm := hZ1.2.2.2.2.2.2.2.2.2.2.2.1.lim
    rw [List.length_cons] at hc hfit
    obtain ⟨i, hi, hs2, hxe, hs3⟩ := hs
    subst hxe
    have hpi := hpx _ List.mem_cons_self
    refine g_iload (pc := 440) C d_Mod_transfer_440 0 rfl ?_
    refine g_iload (pc := 442) C d_Mod_transfer_442 3 rfl ?_
    refine g_icmp_geN (pc := 444) C 678 d_Mod_transfer_444 (by decide) (by omega) (by omega) (fun h_444 => ?_) (fun h_444 => ?_)
    · exact absurd hc (by omega)
    · skip
      refine g_iconst (pc := 447) (v := -1) C d_Mod_transfer_447 (by decide) ?_
      refine g_istore (pc := 448) (lv' := [(9, .int (-1)), (8, .int (nI c)), (7, .int l7), (5, .int c5), (4, .int (nI many)), (3, .int (bI al)), (0, .ref (ka K z)), (1, .int c1), (2, .int (nI 1))]) C d_Mod_transfer_448 (by decide) rfl ?_
      refine g_iconst (pc := 450) (v := nI 0) C d_Mod_transfer_450 (by decide) ?_
      refine g_istore (pc := 451) (lv' := [(10, .int (nI 0)), (9, .int (-1)), (8, .int (nI c)), (7, .int l7), (5, .int c5), (4, .int (nI many)), (3, .int (bI al)), (0, .ref (ka K z)), (1, .int c1), (2, .int (nI 1))]) C d_Mod_transfer_451 (by decide) rfl ?_
      have hk9 : gW X K E1 558 [(9, .int (nI i)), (8, .int (nI c)), (5, .int c5), (4, .int (nI many)), (3, .int (bI al)), (0, .ref (ka K z)), (1, .int c1), (2, .int (nI 1))] [] := by
        refine g_aload_n (pc := 558) C d_Mod_transfer_558 5 rfl ?_
        refine g_get (pc := 559) C fl_Mod_10 hZ1.1 (by omega) rfl d_Mod_transfer_559 ?_
        refine g_getN (pc := 562) C fN_Mod_215 hZ1.2.1.h (by omega) rfl d_Mod_transfer_562 ?_
        refine g_istore (pc := 565) (lv' := [(10, .int (nI acc.length)), (9, .int (nI i)), (8, .int (nI c)), (5, .int c5), (4, .int (nI many)), (3, .int (bI al)), (0, .ref (ka K z)), (1, .int c1), (2, .int (nI 1))]) C d_Mod_transfer_565 (by decide) rfl ?_
        refine g_aload_n (pc := 567) C d_Mod_transfer_567 6 rfl ?_
        refine g_get (pc := 568) C fl_Mod_10 hZ1.1 (by omega) rfl d_Mod_transfer_568 ?_
        refine g_dup (pc := 571) C d_Mod_transfer_571 rfl ?_
        refine g_getN (pc := 572) C fN_Mod_215 hZ1.2.1.h (by omega) rfl d_Mod_transfer_572 ?_
        refine g_iconst (pc := 575) (v := nI 1) C d_Mod_transfer_575 (by decide) ?_
        refine g_iaddN (pc := 576) C d_Mod_transfer_576 ?_
        refine g_putN (pc := 577) C fN_Mod_215 fw_MRoom_count hZ1.2.1.h (by omega) (Nat.le_of_ble_eq_true rfl) ⟨rfl, rfl⟩ d_Mod_transfer_577 (fun E577 hE577 => ?_)
        have fE577_1 := (congrFun hE577 z).trans ((va_up_ne _ _ (show z ≠ z + 1 from by omega)).trans hZ1.1)
        have fE577_2 : E577 (z + 1) = .inr (8, [.ref (ka K (z + 1 + 1)), .ref (ka K (z + 1 + 2)), .ref (ka K (z + 1 + 3)), .ref (ka K (z + 1 + 4)), .ref (ka K (z + 1 + 5)), .int (nI (acc.length + 1)), .ref (ka K (z + 1 + 47)), .ref (ka K (z + 1 + 48)), .ref (ka K (z + 1 + 49)), .ref (ka K (z + 1 + 50)), .ref (ka K (z + 1 + 51)), .int (nI ls.length)]) := by rw [hE577]; exact va_up_self _ _ _
        have fE577_3 := (congrFun hE577 (z + 155)).trans ((va_up_ne _ _ (show z + 155 ≠ z + 1 from by omega)).trans hZ1.2.2.1.h)
        have fE577_4 := (congrFun hE577 (z + 320)).trans ((va_up_ne _ _ (show z + 320 ≠ z + 1 from by omega)).trans hZ1.2.2.2.2.2.2.2.2.2.2.2.1.h)
        have fE577_5 := (congrFun hE577 (z + 313)).trans ((va_up_ne _ _ (show z + 313 ≠ z + 1 from by omega)).trans hZ1.2.2.2.2.2.2.2.1.1)
        have fE577_6 := (congrFun hE577 (z + 315)).trans ((va_up_ne _ _ (show z + 315 ≠ z + 1 from by omega)).trans hZ1.2.2.2.2.2.2.2.2.1.1)
        have fE577_7 := (congrFun hE577 (z + 318)).trans ((va_up_ne _ _ (show z + 318 ≠ z + 1 from by omega)).trans hZ1.2.2.2.2.2.2.2.2.2.2.1.1)
        have fE577_8 := (congrFun hE577 (z + 474)).trans ((va_up_ne _ _ (show z + 474 ≠ z + 1 from by omega)).trans hZ1.2.2.2.2.2.2.2.2.2.2.2.2.1.1)
        have fE577_9 := (congrFun hE577 (z + 317)).trans ((va_up_ne _ _ (show z + 317 ≠ z + 1 from by omega)).trans hZ1.2.2.2.2.2.2.2.2.2.1)
        have hF577 : frN (z + 1) 1 E1 E577 := fun k hk => by rw [hE577, va_up_ne _ _ (by omega)]
        obtain ⟨v, w, hM, hv, hw⟩ := hZ1.2.1
        have hM577 := hM.num (n' := acc.length + 1) (m' := ls.length) hF577 fE577_2 (by omega) (by omega)
        obtain ⟨v2, w2, hB, hv2, hw2⟩ := hZ1.2.2.2.2.2.2.2.2.2.2.2.1
        have hB577 := hB.out hF577 (by omega)
        refine g_aload_n (pc := 580) C d_Mod_transfer_580 6 rfl ?_
        refine g_get (pc := 581) C fl_Mod_10 fE577_1 (by omega) rfl d_Mod_transfer_581 ?_
        refine g_aload_n (pc := 584) C d_Mod_transfer_584 6 rfl ?_
        refine g_get (pc := 585) C fl_Mod_85 fE577_1 (by omega) rfl d_Mod_transfer_585 ?_
        refine g_iload (pc := 588) C d_Mod_transfer_588 1 rfl ?_
        refine g_iload (pc := 590) C d_Mod_transfer_590 0 rfl ?_
        refine g_cv (pc := 592) C (g_rV (As := [.ref (ka K (z + 320)), .int (nI i), .int (nI acc.length)]) (rest := []) C (c_MRoom_copyResource _ K _ (z + 1) (acc.length + 1) v ls.length w hM577 (z + 320) bms.length v2 bls.length w2 hB577 (by omega) i acc.length (by omega) (by omega)) mw_MRoom_copyResource mo_MRoom_copyResource ml_Mod_296 (by decide) fE577_2 rfl (by omega) rfl rfl (Nat.le_of_ble_eq_true rfl) d_Mod_transfer_592) (fun E592 hp592 => ?_)
        obtain ⟨hM592, hF592⟩ := hp592
        have hMM := isMM.of hM592 (mapr_upd (mapr_of hv)) (mapr_of hw)
        rw [hv2 i hi] at hMM
        have hFn : frN (z + 1) 154 E1 E592 := (hF577.wide (Nat.le_refl _) (by omega)).trans hF592
        have hZ592 := hZ1.now hFn hMM
        have hf592 : frN z 476 E E592 := hfr.trans (hFn.wide (by omega) (by omega))
        obtain ⟨vb, wb, hB2, hvb, hwb⟩ := hZ592.2.2.2.2.2.2.2.2.2.2.2.1
        obtain ⟨kdb, veb, szb, tokb, enb, dpb, onb, dtb, fpb, fdb, flb, hab, hbb⟩ := hB2
        have hxi := hbb.p i (by omega)
        rw [hvb i hi] at hxi
        refine g_aload_n (pc := 595) C d_Mod_transfer_595 6 rfl ?_
        refine g_aload_n (pc := 596) C d_Mod_transfer_596 6 rfl ?_
        refine g_get (pc := 597) C fl_Mod_85 hZ592.1 (by omega) rfl d_Mod_transfer_597 ?_
        refine g_getN (pc := 600) C fN_Mod_216 hab.o (by omega) rfl d_Mod_transfer_600 ?_
        refine g_iload (pc := 603) C d_Mod_transfer_603 1 rfl ?_
        refine g_aldN (pc := 605) C hab.p (by omega) (gt_P _) (by omega) (by omega) d_Mod_transfer_605 (hv := rf_at (hab.p' i (by omega))) ?_
        refine g_cv (pc := 606) C (g_rV (As := [.ref (ka K (z + 320 + 52 + 2 * i))]) (rest := []) C (c_Mod_target _ K _ z tp os pa ta pr md1 (acc ++ [bms[i]]) ls kms kls bms bls ck v1 tn mt hs bo vl hZ592 (z + 320 + 52 + 2 * i) bms[i].1 hxi (by omega) hpi.1 hpi.2) mw_Mod_target mo_Mod_target ml_Mod_300 (by decide) hZ592.1 rfl (by omega) rfl rfl (Nat.le_of_ble_eq_true rfl) d_Mod_transfer_606) (fun E606 hp606 => ?_)
        obtain ⟨hZ606, hF606⟩ := hp606
        have hf606 : frN z 476 E E606 := hf592.trans hF606
        obtain ⟨v3, w3, hM3, hv3, hw3⟩ := hZ606.2.1
        obtain ⟨kd, ve, sz, tok, en, dp, on, dt, fp, fd, fl, ha, hb⟩ := hM3
        have hal : acc.length < (acc ++ [bms[i]]).length := by rw [List.length_append, List.length_singleton]; omega
        have hv9 := (hv3 acc.length hal).trans (last_at hal)
        have hpn := hb.p acc.length (by omega)
        have hpn1 := hpn.1
        have hbn := ha.b acc.length (by omega)
        have hpa := hZ606.2.2.2.2.2.2.2.2.2.2.2.2.1
        have hkn := hb.k acc.length (by omega)
        rw [hv9] at hkn
        have hvn := hb.v acc.length (by omega)
        rw [hv9] at hvn
        have hsn := hb.s acc.length (by omega)
        rw [hv9] at hsn
        have hzn := hb.z acc.length (by omega)
        rw [hv9] at hzn
        have hbb9 := hb.b acc.length (by omega)
        simp only [hv9] at hbb9
        refine g_aload_n (pc := 609) C d_Mod_transfer_609 6 rfl ?_
        refine g_get (pc := 610) C fl_Mod_10 hZ606.1 (by omega) rfl d_Mod_transfer_610 ?_
        refine g_getN (pc := 613) C fN_Mod_216 ha.o (by omega) rfl d_Mod_transfer_613 ?_
        refine g_iload (pc := 616) C d_Mod_transfer_616 0 rfl ?_
        refine g_aldN (pc := 618) C ha.p (by omega) (gt_P _) (by omega) (by omega) d_Mod_transfer_618 (hv := rf_at (ha.p' acc.length (by omega))) ?_
        refine g_aload_n (pc := 619) C d_Mod_transfer_619 6 rfl ?_
        refine g_get (pc := 620) C fl_Mod_88 hZ606.1 (by omega) rfl d_Mod_transfer_620 ?_
        refine g_cv (pc := 623) C (g_rV (As := [.ref (ka K (z + 474))]) (rest := []) C (c_MPath_copy _ K _ (z + 1 + 52 + 2 * acc.length) (v3 acc.length).1 (z + 474) (ta ++ bms[i].1.drop pa.length) (by omega) hpn hpa) mw_MPath_copy mo_MPath_copy ml_Mod_267 (by decide) hpn1 rfl (by omega) rfl rfl (Nat.le_of_ble_eq_true rfl) d_Mod_transfer_623) (fun E623 hp623 => ?_)
        obtain ⟨hP623, hF623⟩ := hp623
        have rE623_1 := (hF623 z (by omega)).trans (hZ606.1)
        have rE623_2 := (hF623 (z + 1) (by omega)).trans (ha.o)
        have rE623_3 := (hF623 (z + 1 + 1) (by omega)).trans (ha.p)
        have rE623_4 := (hF623 (z + 1 + 2) (by omega)).trans (ha.k)
        have rE623_5 := (hF623 (z + 1 + 3) (by omega)).trans (ha.v)
        have rE623_6 := (hF623 (z + 1 + 4) (by omega)).trans (ha.s)
        have rE623_8 := (hF623 (z + 474) (by omega)).trans (hZ606.2.2.2.2.2.2.2.2.2.2.2.2.1.1)
        have rE623_9 := (hF623 (z + 1 + 6 + acc.length) (by omega)).trans (hbn)
        refine g_iload_n (pc := 626) C d_Mod_transfer_626 8 rfl ?_
        refine g_if_neN (pc := 627) C 668 d_Mod_transfer_627 (by decide) (by omega) (fun h_627 => ?_) (fun h_627 => ?_)
        · skip
          refine g_iload (pc := 668) C d_Mod_transfer_668 1 rfl ?_
          refine g_istore (pc := 670) (lv' := [(7, .int (nI i)), (10, .int (nI acc.length)), (9, .int (nI i)), (8, .int (nI c)), (5, .int c5), (4, .int (nI many)), (3, .int (bI al)), (0, .ref (ka K z)), (1, .int c1), (2, .int (nI 1))]) C d_Mod_transfer_670 (by decide) rfl ?_
          refine g_iinc (pc := 672) (pl := 3) (v := nI (c + 1)) (lv' := [(8, .int (nI (c + 1))), (7, .int (nI i)), (10, .int (nI acc.length)), (9, .int (nI i)), (5, .int c5), (4, .int (nI many)), (3, .int (bI al)), (0, .ref (ka K z)), (1, .int c1), (2, .int (nI 1))]) C d_Mod_transfer_672 rfl (nI_1 _) (by decide) rfl ?_
          refine g_goto (pc := 675) C 440 d_Mod_transfer_675 (by decide) ?_
          have hM4 := isM.setR ha hb (j := acc.length) (by omega) (mvX pa ta bms[i] bms[i].2.2.1) (k1 := kd acc.length) (v1 := ve acc.length) (s1 := sz acc.length) hzn hkn hvn hsn (by rw [upd_self_eq]; exact rE623_4) (by rw [upd_self_eq]; exact rE623_5) (by rw [upd_self_eq]; exact rE623_6) rE623_9 hbb9 hP623 (fun k z1 z2 z3 z4 z5 z6 => hF623 k (by omega))
          have hMM4 := isMM.of hM4 (set_of hv3 hal) (mapr_of hw3)
          rw [set_last] at hMM4
          have hF4 : frN (z + 1) 154 E606 E623 := hF623.wide (by omega) (by omega)
          have hZ4 := hZ606.now hF4 hMM4
          rw [goM, if_neg (by rw [show (!true && decide (bms[i].2.1 = nI 1)) = false from rfl]; decide)] at hgo
          exact g_lv [0, 1, 4, 5, 6, 7, 8, 9] rfl (ih (some bms[i].1) (nI i) (c + 1) E623 (acc ++ [(mvX pa ta bms[i] bms[i].2.2.1)]) v1 (ta ++ bms[i].1.drop pa.length) hs3 (Or.inr ⟨i, hi, rfl, rfl⟩) hZ4 (by omega) (by rw [List.length_append, List.length_singleton]; omega) (fun x hx => hpx x (List.mem_cons_of_mem _ hx)) hgo (hf606.trans (hF4.wide (by omega) (by omega))))
        · exact absurd h_627 (by decide)
      rcases hl with ⟨rfl, rfl⟩ | ⟨lk, hlk, rfl, rfl⟩
      · exact g_lv [0, 1, 2, 3, 4, 5, 6, 7, 8, 9] rfl (w_Z_tr453_n C E1 z tp os pa ta pr md1 acc ls kms kls bms bls ck v1 tn mt hs bo vl hZ1 al (nI c) c5 (nI many) c1 (nI 1) post (by rw [hs2]; exact hk9) hR (bms.length + 1) 0 (Nat.zero_le _) (by omega))
      · exact g_lv [0, 1, 2, 3, 4, 5, 6, 7, 8, 9] rfl (w_Z_tr453_s C E1 z tp os pa ta pr md1 acc ls kms kls bms bls ck v1 tn mt hs bo vl hZ1 al (nI c) c5 (nI many) c1 (nI 1) lk hlk post (by rw [hs2]; exact hk9) hR (bms.length + 1) 0 (Nat.zero_le _) (by omega))
