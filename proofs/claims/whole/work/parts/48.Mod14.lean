/-! COPY and MOVE of the reference -/
def goX (pa : Bs) (al : Bool) (x : Me) : Bool := goesM pa al x.1
def deM (pa ta : Bs) (al : Bool) (x : Me) : Bool := goesM pa al x.1 && decide (5 + prtN pa < prtN ta + prtN x.1)
def mvX (pa ta : Bs) (x : Me) (v : Int32) : Me := (ta ++ x.1.drop pa.length, x.2.1, v, x.2.2.2)
def goM (mv : Bool) (pa ta : Bs) : List Me → Int32 → List Me → List Me × Int32
  | acc, vn, [] => (acc, vn)
  | acc, vn, x :: xs => if (!mv && decide (x.2.1 = nI 1)) = true then goM mv pa ta (acc ++ [mvX pa ta x (vn + nI 1)]) (vn + nI 1) xs else goM mv pa ta (acc ++ [mvX pa ta x x.2.2.1]) vn xs
theorem prt_le (p : Bs) : prtN p ≤ p.length := List.countP_le_length
theorem goes_prt {pa p : Bs} {al : Bool} (h : goesM pa al p = true) : prtN pa ≤ prtN p := by
  rw [goesM, Bool.or_eq_true] at h
  rcases h with h | h
  · rw [of_decide_eq_true h]
    exact Nat.le_refl _
  · rw [Bool.and_eq_true] at h
    have h2 := h.2
    rw [inP, Bool.and_eq_true, Bool.and_eq_true] at h2
    have h3 := (of_decide_eq_true (p := _ ∧ _ ∧ _) h2.1.2).2.2
    rw [List.take_length] at h3
    rw [← h3]
    exact (List.take_sublist _ _).countP_le
theorem tk_anyF {α : Type} {l : List α} {k : Nat} (p : α → Bool) (h : k < l.length) (h1 : (l.take k).any p = false) (h2 : p l[k] = false) : (l.take (k + 1)).any p = false := by
  rw [tk_app h, List.any_append, h1, List.any_cons, h2]
  rfl
def filM (p : Bs) (ms : List Me) : List Me := ms.filter (fun x : Me => !goneP p x.1)
def filL (p : Bs) (ls : List Lk) : List Lk := ls.filter (fun x : Lk => !goneP p x.1)
theorem last_at {α : Type} {l : List α} {x : α} (h : l.length < (l ++ [x]).length) : (l ++ [x])[l.length] = x := by simp
theorem isM.at0 {K : gK} {E : gE} {r n m : Nat} {v : Nat → Me} {w : Nat → Lk} {z : Nat} {y : va_E} (h : isM K (va_up E z y) r n v m w) (hz : z < r) : isM K E r n v m w := h.out (c := z) (k := 1) (fun k hk => (va_up_ne _ _ (by omega)).symm) (by omega)

set_option maxHeartbeats 4000000 in
set_option maxRecDepth 100000 in
theorem w_Z_tr453_n {X : gX} {K : gK} (C : gC X K b_Mod_transfer "DavRoomModel" 11 5 320) (E : gE) (z : Nat) (tp os pa ta pr md : Bs) (ms : List Me) (ls : List Lk) (kms : List Me) (kls : List Lk) (bms : List Me) (bls : List Lk) (ck vn tn : Int32) (mt hs bo : Nat) (vl : Nat → Int32) (hZ : isZ K E z tp os pa ta pr md ms ls kms kls bms bls ck vn tn mt hs bo vl) (al : Bool) (c8 c5 c4 c1 c2 : Int32) (post : Int32 → gE → Prop) (hfin : gW X K E 558 [(9, .int (fiI (bestF bms (selQ (goX pa al) (none)) bms.length))), (8, .int c8), (5, .int c5), (4, .int c4), (3, .int (bI al)), (0, .ref (ka K z)), (1, .int c1), (2, .int c2)] []) (hR : gRi X K .int (post)) : ∀ (d k : Nat), k ≤ bms.length → bms.length + 1 ≤ k + d → gW X K E 453 [(10, .int (nI k)), (9, .int (fiI (bestF bms (selQ (goX pa al) (none)) k))), (8, .int c8), (7, .int (-1)), (5, .int c5), (4, .int c4), (3, .int (bI al)), (0, .ref (ka K z)), (1, .int c1), (2, .int c2)] [] := by
  have hzN := hZ.2.2.2.2.2.2.2.2.2.2.2.2.2
  have htl := hZ.2.2.2.1.1
  have hol := hZ.2.2.2.2.1.1
  have hnm := hZ.2.1.lim
  have hkm := hZ.2.2.1.lim
  have hbm := hZ.2.2.2.2.2.2.2.2.2.2.2.1.lim
  have hpal := hZ.2.2.2.2.2.2.2.1.2.1
  have htal := hZ.2.2.2.2.2.2.2.2.1.2.1
  have hprl := hZ.2.2.2.2.2.2.2.2.2.2.1.2.1
  have hmdl := hZ.2.2.2.2.2.2.2.2.2.2.2.2.1.2.1
  obtain ⟨v, w, hM, hv, hw⟩ := hZ.2.2.2.2.2.2.2.2.2.2.2.1
  obtain ⟨kd, ve, sz, tok, en, dp, on, dt, fp, fd, fl, ha, hb⟩ := hM
  have hrN := ha.N
  intro d
  induction d with
  | zero =>
    intro k h1 h2
    exact absurd h2 (by omega)
  | succ d ih =>
    intro k hk hd
    refine g_iload (pc := 453) C d_Mod_transfer_453 0 rfl ?_
    refine g_aload_n (pc := 455) C d_Mod_transfer_455 7 rfl ?_
    refine g_get (pc := 456) C fl_Mod_85 hZ.1 (by omega) rfl d_Mod_transfer_456 ?_
    refine g_getN (pc := 459) C fN_Mod_215 ha.o (by omega) rfl d_Mod_transfer_459 ?_
    refine g_icmp_geN (pc := 462) C 558 d_Mod_transfer_462 (by decide) (by omega) (by omega) (fun h_462 => ?_) (fun h_462 => ?_)
    · skip
      have ek : k = bms.length := by omega
      subst ek
      exact g_lv [1, 2, 4, 5, 6, 7, 8, 9] rfl hfin
    · skip
      have hkl : k < bms.length := by omega
      have hxk := hb.p k (by omega)
      have hxk1 := hxk.1
      have hvk := hv k (by omega)
      refine g_aload_n (pc := 465) C d_Mod_transfer_465 7 rfl ?_
      refine g_aload_n (pc := 466) C d_Mod_transfer_466 7 rfl ?_
      refine g_get (pc := 467) C fl_Mod_85 hZ.1 (by omega) rfl d_Mod_transfer_467 ?_
      refine g_getN (pc := 470) C fN_Mod_216 ha.o (by omega) rfl d_Mod_transfer_470 ?_
      refine g_iload (pc := 473) C d_Mod_transfer_473 0 rfl ?_
      refine g_aldN (pc := 475) C ha.p (by omega) (gt_P _) (by omega) (by omega) d_Mod_transfer_475 (hv := rf_at (ha.p' k (by omega))) ?_
      refine g_iload_n (pc := 476) C d_Mod_transfer_476 6 rfl ?_
      refine g_ci (pc := 477) C (g_rV (As := [.ref (ka K (z + 320 + 52 + 2 * k)), .int (bI al)]) (rest := []) C (c_Mod_goes _ K _ z tp os pa ta pr md ms ls kms kls bms bls ck vn tn mt hs bo vl hZ (z + 320 + 52 + 2 * k) (v k).1 hxk al) mw_Mod_goes mo_Mod_goes ml_Mod_286 (by decide) hZ.1 rfl (by omega) rfl rfl (Nat.le_of_ble_eq_true rfl) d_Mod_transfer_477) (fun r477 E477 hp477 => ?_)
      rw [show r477 = bI (goesM pa al (v k).1) from hp477.1, hp477.2]
      refine g_if_eqB (pc := 480) C 552 d_Mod_transfer_480 (by decide) (fun h_480 => ?_) (fun h_480 => ?_)
      · skip
        refine g_iinc (pc := 552) (pl := 0) (v := nI (k + 1)) (lv' := [(10, .int (nI (k + 1))), (9, .int (fiI (bestF bms (selQ (goX pa al) (none)) k))), (8, .int c8), (7, .int (-1)), (5, .int c5), (4, .int c4), (3, .int (bI al)), (0, .ref (ka K z)), (1, .int c1), (2, .int c2)]) C d_Mod_transfer_552 rfl (nI_1 _) (by decide) rfl ?_
        refine g_goto (pc := 555) C 453 d_Mod_transfer_555 (by decide) ?_
        have hq : (selQ (goX pa al) (none)) bms[k] = false := by
          first
            | (rw [selQ, goX, ← hvk, h_480]; rfl)
        have e := ih (k + 1) (by omega) (by omega)
        rw [best_no hkl hq] at e
        exact g_lv [0, 1, 2, 3, 4, 5, 6, 7, 8, 9] rfl e
      · skip
        refine g_iload (pc := 483) C d_Mod_transfer_483 3 rfl ?_
        refine g_if_lt (pc := 485) C 517 d_Mod_transfer_485 (by decide) (fun h_485 => ?_) (fun h_485 => ?_)
        · skip
          have hask : goX pa al bms[k] = true := by rw [goX, ← hvk]; exact h_480
          have hq : (selQ (goX pa al) (none)) bms[k] = true := by
            rw [selQ, hask]
            rfl
          rcases hbe : bestF bms (selQ (goX pa al) (none)) k with _ | j
          · skip
            skip
            show gW X K E 517 [(10, .int (nI k)), (9, .int (-1)), (8, .int c8), (7, .int (-1)), (5, .int c5), (4, .int c4), (3, .int (bI al)), (0, .ref (ka K z)), (1, .int c1), (2, .int c2)] []
            refine g_iload (pc := 517) C d_Mod_transfer_517 1 rfl ?_
            refine g_if_lt (pc := 519) C 548 d_Mod_transfer_519 (by decide) (fun h_519 => ?_) (fun h_519 => ?_)
            · skip
              refine g_iload (pc := 548) C d_Mod_transfer_548 0 rfl ?_
              refine g_istore (pc := 550) (lv' := [(9, .int (nI k)), (10, .int (nI k)), (8, .int c8), (7, .int (-1)), (5, .int c5), (4, .int c4), (3, .int (bI al)), (0, .ref (ka K z)), (1, .int c1), (2, .int c2)]) C d_Mod_transfer_550 (by decide) rfl ?_
              refine g_iinc (pc := 552) (pl := 1) (v := nI (k + 1)) (lv' := [(10, .int (nI (k + 1))), (9, .int (nI k)), (8, .int c8), (7, .int (-1)), (5, .int c5), (4, .int c4), (3, .int (bI al)), (0, .ref (ka K z)), (1, .int c1), (2, .int c2)]) C d_Mod_transfer_552 rfl (nI_1 _) (by decide) rfl ?_
              refine g_goto (pc := 555) C 453 d_Mod_transfer_555 (by decide) ?_
              have e := ih (k + 1) (by omega) (by omega)
              rw [best_0 hkl hq hbe] at e
              exact g_lv [0, 1, 2, 3, 4, 5, 6, 7, 8, 9] rfl e
            · exact absurd (by decide) h_519
          · skip
            obtain ⟨hjk, hjl, -⟩ := best_lt hbe
            have hxj := hb.p j (by omega)
            have hxj1 := hxj.1
            have hvj := hv j (by omega)
            show gW X K E 517 [(10, .int (nI k)), (9, .int (nI j)), (8, .int c8), (7, .int (-1)), (5, .int c5), (4, .int c4), (3, .int (bI al)), (0, .ref (ka K z)), (1, .int c1), (2, .int c2)] []
            refine g_iload (pc := 517) C d_Mod_transfer_517 1 rfl ?_
            refine g_if_ltN (pc := 519) C 548 d_Mod_transfer_519 (by decide) (by omega) ?_
            refine g_aload_n (pc := 522) C d_Mod_transfer_522 7 rfl ?_
            refine g_get (pc := 523) C fl_Mod_85 hZ.1 (by omega) rfl d_Mod_transfer_523 ?_
            refine g_getN (pc := 526) C fN_Mod_216 ha.o (by omega) rfl d_Mod_transfer_526 ?_
            refine g_iload (pc := 529) C d_Mod_transfer_529 0 rfl ?_
            refine g_aldN (pc := 531) C ha.p (by omega) (gt_P _) (by omega) (by omega) d_Mod_transfer_531 (hv := rf_at (ha.p' k (by omega))) ?_
            refine g_aload_n (pc := 532) C d_Mod_transfer_532 7 rfl ?_
            refine g_get (pc := 533) C fl_Mod_85 hZ.1 (by omega) rfl d_Mod_transfer_533 ?_
            refine g_getN (pc := 536) C fN_Mod_216 ha.o (by omega) rfl d_Mod_transfer_536 ?_
            refine g_iload (pc := 539) C d_Mod_transfer_539 1 rfl ?_
            refine g_aldN (pc := 541) C ha.p (by omega) (gt_P _) (by omega) (by omega) d_Mod_transfer_541 (hv := rf_at (ha.p' j (by omega))) ?_
            refine g_ci (pc := 542) C (g_rV (As := [.ref (ka K (z + 320 + 52 + 2 * j))]) (rest := []) C (c_MPath_isBefore _ K _ (z + 320 + 52 + 2 * k) (v k).1 (z + 320 + 52 + 2 * j) (v j).1 hxk hxj) mw_MPath_isBefore mo_MPath_isBefore ml_Mod_229 (by decide) hxk1 rfl (by omega) rfl rfl (Nat.le_of_ble_eq_true rfl) d_Mod_transfer_542) (fun r542 E542 hp542 => ?_)
            rw [hp542.1, hp542.2]
            refine g_if_eqB (pc := 545) C 552 d_Mod_transfer_545 (by decide) (fun h_545 => ?_) (fun h_545 => ?_)
            · skip
              refine g_iinc (pc := 552) (pl := 0) (v := nI (k + 1)) (lv' := [(10, .int (nI (k + 1))), (9, .int (nI j)), (8, .int c8), (7, .int (-1)), (5, .int c5), (4, .int c4), (3, .int (bI al)), (0, .ref (ka K z)), (1, .int c1), (2, .int c2)]) C d_Mod_transfer_552 rfl (nI_1 _) (by decide) rfl ?_
              refine g_goto (pc := 555) C 453 d_Mod_transfer_555 (by decide) ?_
              have e := ih (k + 1) (by omega) (by omega)
              rw [best_s hkl hq hbe hjl, if_neg (by rw [← hvk, ← hvj, h_545]; decide)] at e
              exact g_lv [0, 1, 2, 3, 4, 5, 6, 7, 8, 9] rfl e
            · skip
              refine g_iload (pc := 548) C d_Mod_transfer_548 0 rfl ?_
              refine g_istore (pc := 550) (lv' := [(9, .int (nI k)), (10, .int (nI k)), (8, .int c8), (7, .int (-1)), (5, .int c5), (4, .int c4), (3, .int (bI al)), (0, .ref (ka K z)), (1, .int c1), (2, .int c2)]) C d_Mod_transfer_550 (by decide) rfl ?_
              refine g_iinc (pc := 552) (pl := 1) (v := nI (k + 1)) (lv' := [(10, .int (nI (k + 1))), (9, .int (nI k)), (8, .int c8), (7, .int (-1)), (5, .int c5), (4, .int c4), (3, .int (bI al)), (0, .ref (ka K z)), (1, .int c1), (2, .int c2)]) C d_Mod_transfer_552 rfl (nI_1 _) (by decide) rfl ?_
              refine g_goto (pc := 555) C 453 d_Mod_transfer_555 (by decide) ?_
              have e := ih (k + 1) (by omega) (by omega)
              rw [best_s hkl hq hbe hjl, if_pos (by rw [← hvk, ← hvj]; exact h_545)] at e
              exact g_lv [0, 1, 2, 3, 4, 5, 6, 7, 8, 9] rfl e
        · exact absurd (by decide) h_485

set_option maxHeartbeats 4000000 in
set_option maxRecDepth 100000 in
theorem w_Z_tr453_s {X : gX} {K : gK} (C : gC X K b_Mod_transfer "DavRoomModel" 11 5 320) (E : gE) (z : Nat) (tp os pa ta pr md : Bs) (ms : List Me) (ls : List Lk) (kms : List Me) (kls : List Lk) (bms : List Me) (bls : List Lk) (ck vn tn : Int32) (mt hs bo : Nat) (vl : Nat → Int32) (hZ : isZ K E z tp os pa ta pr md ms ls kms kls bms bls ck vn tn mt hs bo vl) (al : Bool) (c8 c5 c4 c1 c2 : Int32) (lk : Nat) (hlk : lk < bms.length) (post : Int32 → gE → Prop) (hfin : gW X K E 558 [(9, .int (fiI (bestF bms (selQ (goX pa al) (some bms[lk].1)) bms.length))), (8, .int c8), (5, .int c5), (4, .int c4), (3, .int (bI al)), (0, .ref (ka K z)), (1, .int c1), (2, .int c2)] []) (hR : gRi X K .int (post)) : ∀ (d k : Nat), k ≤ bms.length → bms.length + 1 ≤ k + d → gW X K E 453 [(10, .int (nI k)), (9, .int (fiI (bestF bms (selQ (goX pa al) (some bms[lk].1)) k))), (8, .int c8), (7, .int (nI lk)), (5, .int c5), (4, .int c4), (3, .int (bI al)), (0, .ref (ka K z)), (1, .int c1), (2, .int c2)] [] := by
  have hzN := hZ.2.2.2.2.2.2.2.2.2.2.2.2.2
  have htl := hZ.2.2.2.1.1
  have hol := hZ.2.2.2.2.1.1
  have hnm := hZ.2.1.lim
  have hkm := hZ.2.2.1.lim
  have hbm := hZ.2.2.2.2.2.2.2.2.2.2.2.1.lim
  have hpal := hZ.2.2.2.2.2.2.2.1.2.1
  have htal := hZ.2.2.2.2.2.2.2.2.1.2.1
  have hprl := hZ.2.2.2.2.2.2.2.2.2.2.1.2.1
  have hmdl := hZ.2.2.2.2.2.2.2.2.2.2.2.2.1.2.1
  obtain ⟨v, w, hM, hv, hw⟩ := hZ.2.2.2.2.2.2.2.2.2.2.2.1
  obtain ⟨kd, ve, sz, tok, en, dp, on, dt, fp, fd, fl, ha, hb⟩ := hM
  have hrN := ha.N
  intro d
  induction d with
  | zero =>
    intro k h1 h2
    exact absurd h2 (by omega)
  | succ d ih =>
    intro k hk hd
    refine g_iload (pc := 453) C d_Mod_transfer_453 0 rfl ?_
    refine g_aload_n (pc := 455) C d_Mod_transfer_455 7 rfl ?_
    refine g_get (pc := 456) C fl_Mod_85 hZ.1 (by omega) rfl d_Mod_transfer_456 ?_
    refine g_getN (pc := 459) C fN_Mod_215 ha.o (by omega) rfl d_Mod_transfer_459 ?_
    refine g_icmp_geN (pc := 462) C 558 d_Mod_transfer_462 (by decide) (by omega) (by omega) (fun h_462 => ?_) (fun h_462 => ?_)
    · skip
      have ek : k = bms.length := by omega
      subst ek
      exact g_lv [1, 2, 4, 5, 6, 7, 8, 9] rfl hfin
    · skip
      have hkl : k < bms.length := by omega
      have hxk := hb.p k (by omega)
      have hxk1 := hxk.1
      have hvk := hv k (by omega)
      have hxl := hb.p lk (by omega)
      have hxl1 := hxl.1
      have hvl := hv lk (by omega)
      refine g_aload_n (pc := 465) C d_Mod_transfer_465 7 rfl ?_
      refine g_aload_n (pc := 466) C d_Mod_transfer_466 7 rfl ?_
      refine g_get (pc := 467) C fl_Mod_85 hZ.1 (by omega) rfl d_Mod_transfer_467 ?_
      refine g_getN (pc := 470) C fN_Mod_216 ha.o (by omega) rfl d_Mod_transfer_470 ?_
      refine g_iload (pc := 473) C d_Mod_transfer_473 0 rfl ?_
      refine g_aldN (pc := 475) C ha.p (by omega) (gt_P _) (by omega) (by omega) d_Mod_transfer_475 (hv := rf_at (ha.p' k (by omega))) ?_
      refine g_iload_n (pc := 476) C d_Mod_transfer_476 6 rfl ?_
      refine g_ci (pc := 477) C (g_rV (As := [.ref (ka K (z + 320 + 52 + 2 * k)), .int (bI al)]) (rest := []) C (c_Mod_goes _ K _ z tp os pa ta pr md ms ls kms kls bms bls ck vn tn mt hs bo vl hZ (z + 320 + 52 + 2 * k) (v k).1 hxk al) mw_Mod_goes mo_Mod_goes ml_Mod_286 (by decide) hZ.1 rfl (by omega) rfl rfl (Nat.le_of_ble_eq_true rfl) d_Mod_transfer_477) (fun r477 E477 hp477 => ?_)
      rw [show r477 = bI (goesM pa al (v k).1) from hp477.1, hp477.2]
      refine g_if_eqB (pc := 480) C 552 d_Mod_transfer_480 (by decide) (fun h_480 => ?_) (fun h_480 => ?_)
      · skip
        refine g_iinc (pc := 552) (pl := 0) (v := nI (k + 1)) (lv' := [(10, .int (nI (k + 1))), (9, .int (fiI (bestF bms (selQ (goX pa al) (some bms[lk].1)) k))), (8, .int c8), (7, .int (nI lk)), (5, .int c5), (4, .int c4), (3, .int (bI al)), (0, .ref (ka K z)), (1, .int c1), (2, .int c2)]) C d_Mod_transfer_552 rfl (nI_1 _) (by decide) rfl ?_
        refine g_goto (pc := 555) C 453 d_Mod_transfer_555 (by decide) ?_
        have hq : (selQ (goX pa al) (some bms[lk].1)) bms[k] = false := by
          first
            | (rw [selQ, goX, ← hvk, h_480]; rfl)
            | (rw [selQ]; simp only [← hvl, ← hvk, h_511, Bool.and_false])
        have e := ih (k + 1) (by omega) (by omega)
        rw [best_no hkl hq] at e
        exact g_lv [0, 1, 2, 3, 4, 5, 6, 7, 8, 9] rfl e
      · skip
        refine g_iload (pc := 483) C d_Mod_transfer_483 3 rfl ?_
        refine g_if_ltN (pc := 485) C 517 d_Mod_transfer_485 (by decide) (by omega) ?_
        refine g_aload_n (pc := 488) C d_Mod_transfer_488 7 rfl ?_
        refine g_get (pc := 489) C fl_Mod_85 hZ.1 (by omega) rfl d_Mod_transfer_489 ?_
        refine g_getN (pc := 492) C fN_Mod_216 ha.o (by omega) rfl d_Mod_transfer_492 ?_
        refine g_iload (pc := 495) C d_Mod_transfer_495 3 rfl ?_
        refine g_aldN (pc := 497) C ha.p (by omega) (gt_P _) (by omega) (by omega) d_Mod_transfer_497 (hv := rf_at (ha.p' lk (by omega))) ?_
        refine g_aload_n (pc := 498) C d_Mod_transfer_498 7 rfl ?_
        refine g_get (pc := 499) C fl_Mod_85 hZ.1 (by omega) rfl d_Mod_transfer_499 ?_
        refine g_getN (pc := 502) C fN_Mod_216 ha.o (by omega) rfl d_Mod_transfer_502 ?_
        refine g_iload (pc := 505) C d_Mod_transfer_505 0 rfl ?_
        refine g_aldN (pc := 507) C ha.p (by omega) (gt_P _) (by omega) (by omega) d_Mod_transfer_507 (hv := rf_at (ha.p' k (by omega))) ?_
        refine g_ci (pc := 508) C (g_rV (As := [.ref (ka K (z + 320 + 52 + 2 * k))]) (rest := []) C (c_MPath_isBefore _ K _ (z + 320 + 52 + 2 * lk) (v lk).1 (z + 320 + 52 + 2 * k) (v k).1 hxl hxk) mw_MPath_isBefore mo_MPath_isBefore ml_Mod_229 (by decide) hxl1 rfl (by omega) rfl rfl (Nat.le_of_ble_eq_true rfl) d_Mod_transfer_508) (fun r508 E508 hp508 => ?_)
        rw [hp508.1, hp508.2]
        refine g_if_neB (pc := 511) C 517 d_Mod_transfer_511 (by decide) (fun h_511 => ?_) (fun h_511 => ?_)
        · skip
          have hask : goX pa al bms[k] = true := by rw [goX, ← hvk]; exact h_480
          have hq : (selQ (goX pa al) (some bms[lk].1)) bms[k] = true := by
            rw [selQ, hask]
            simp only [Bool.true_and]
            rw [← hvl, ← hvk]
            exact h_511
          rcases hbe : bestF bms (selQ (goX pa al) (some bms[lk].1)) k with _ | j
          · skip
            skip
            show gW X K E 517 [(10, .int (nI k)), (9, .int (-1)), (8, .int c8), (7, .int (nI lk)), (5, .int c5), (4, .int c4), (3, .int (bI al)), (0, .ref (ka K z)), (1, .int c1), (2, .int c2)] []
            refine g_iload (pc := 517) C d_Mod_transfer_517 1 rfl ?_
            refine g_if_lt (pc := 519) C 548 d_Mod_transfer_519 (by decide) (fun h_519 => ?_) (fun h_519 => ?_)
            · skip
              refine g_iload (pc := 548) C d_Mod_transfer_548 0 rfl ?_
              refine g_istore (pc := 550) (lv' := [(9, .int (nI k)), (10, .int (nI k)), (8, .int c8), (7, .int (nI lk)), (5, .int c5), (4, .int c4), (3, .int (bI al)), (0, .ref (ka K z)), (1, .int c1), (2, .int c2)]) C d_Mod_transfer_550 (by decide) rfl ?_
              refine g_iinc (pc := 552) (pl := 1) (v := nI (k + 1)) (lv' := [(10, .int (nI (k + 1))), (9, .int (nI k)), (8, .int c8), (7, .int (nI lk)), (5, .int c5), (4, .int c4), (3, .int (bI al)), (0, .ref (ka K z)), (1, .int c1), (2, .int c2)]) C d_Mod_transfer_552 rfl (nI_1 _) (by decide) rfl ?_
              refine g_goto (pc := 555) C 453 d_Mod_transfer_555 (by decide) ?_
              have e := ih (k + 1) (by omega) (by omega)
              rw [best_0 hkl hq hbe] at e
              exact g_lv [0, 1, 2, 3, 4, 5, 6, 7, 8, 9] rfl e
            · exact absurd (by decide) h_519
          · skip
            obtain ⟨hjk, hjl, -⟩ := best_lt hbe
            have hxj := hb.p j (by omega)
            have hxj1 := hxj.1
            have hvj := hv j (by omega)
            show gW X K E 517 [(10, .int (nI k)), (9, .int (nI j)), (8, .int c8), (7, .int (nI lk)), (5, .int c5), (4, .int c4), (3, .int (bI al)), (0, .ref (ka K z)), (1, .int c1), (2, .int c2)] []
            refine g_iload (pc := 517) C d_Mod_transfer_517 1 rfl ?_
            refine g_if_ltN (pc := 519) C 548 d_Mod_transfer_519 (by decide) (by omega) ?_
            refine g_aload_n (pc := 522) C d_Mod_transfer_522 7 rfl ?_
            refine g_get (pc := 523) C fl_Mod_85 hZ.1 (by omega) rfl d_Mod_transfer_523 ?_
            refine g_getN (pc := 526) C fN_Mod_216 ha.o (by omega) rfl d_Mod_transfer_526 ?_
            refine g_iload (pc := 529) C d_Mod_transfer_529 0 rfl ?_
            refine g_aldN (pc := 531) C ha.p (by omega) (gt_P _) (by omega) (by omega) d_Mod_transfer_531 (hv := rf_at (ha.p' k (by omega))) ?_
            refine g_aload_n (pc := 532) C d_Mod_transfer_532 7 rfl ?_
            refine g_get (pc := 533) C fl_Mod_85 hZ.1 (by omega) rfl d_Mod_transfer_533 ?_
            refine g_getN (pc := 536) C fN_Mod_216 ha.o (by omega) rfl d_Mod_transfer_536 ?_
            refine g_iload (pc := 539) C d_Mod_transfer_539 1 rfl ?_
            refine g_aldN (pc := 541) C ha.p (by omega) (gt_P _) (by omega) (by omega) d_Mod_transfer_541 (hv := rf_at (ha.p' j (by omega))) ?_
            refine g_ci (pc := 542) C (g_rV (As := [.ref (ka K (z + 320 + 52 + 2 * j))]) (rest := []) C (c_MPath_isBefore _ K _ (z + 320 + 52 + 2 * k) (v k).1 (z + 320 + 52 + 2 * j) (v j).1 hxk hxj) mw_MPath_isBefore mo_MPath_isBefore ml_Mod_229 (by decide) hxk1 rfl (by omega) rfl rfl (Nat.le_of_ble_eq_true rfl) d_Mod_transfer_542) (fun r542 E542 hp542 => ?_)
            rw [hp542.1, hp542.2]
            refine g_if_eqB (pc := 545) C 552 d_Mod_transfer_545 (by decide) (fun h_545 => ?_) (fun h_545 => ?_)
            · skip
              refine g_iinc (pc := 552) (pl := 0) (v := nI (k + 1)) (lv' := [(10, .int (nI (k + 1))), (9, .int (nI j)), (8, .int c8), (7, .int (nI lk)), (5, .int c5), (4, .int c4), (3, .int (bI al)), (0, .ref (ka K z)), (1, .int c1), (2, .int c2)]) C d_Mod_transfer_552 rfl (nI_1 _) (by decide) rfl ?_
              refine g_goto (pc := 555) C 453 d_Mod_transfer_555 (by decide) ?_
              have e := ih (k + 1) (by omega) (by omega)
              rw [best_s hkl hq hbe hjl, if_neg (by rw [← hvk, ← hvj, h_545]; decide)] at e
              exact g_lv [0, 1, 2, 3, 4, 5, 6, 7, 8, 9] rfl e
            · skip
              refine g_iload (pc := 548) C d_Mod_transfer_548 0 rfl ?_
              refine g_istore (pc := 550) (lv' := [(9, .int (nI k)), (10, .int (nI k)), (8, .int c8), (7, .int (nI lk)), (5, .int c5), (4, .int c4), (3, .int (bI al)), (0, .ref (ka K z)), (1, .int c1), (2, .int c2)]) C d_Mod_transfer_550 (by decide) rfl ?_
              refine g_iinc (pc := 552) (pl := 1) (v := nI (k + 1)) (lv' := [(10, .int (nI (k + 1))), (9, .int (nI k)), (8, .int c8), (7, .int (nI lk)), (5, .int c5), (4, .int c4), (3, .int (bI al)), (0, .ref (ka K z)), (1, .int c1), (2, .int c2)]) C d_Mod_transfer_552 rfl (nI_1 _) (by decide) rfl ?_
              refine g_goto (pc := 555) C 453 d_Mod_transfer_555 (by decide) ?_
              have e := ih (k + 1) (by omega) (by omega)
              rw [best_s hkl hq hbe hjl, if_pos (by rw [← hvk, ← hvj]; exact h_545)] at e
              exact g_lv [0, 1, 2, 3, 4, 5, 6, 7, 8, 9] rfl e
        · skip
          refine g_goto (pc := 514) C 552 d_Mod_transfer_514 (by decide) ?_
          refine g_iinc (pc := 552) (pl := 0) (v := nI (k + 1)) (lv' := [(10, .int (nI (k + 1))), (9, .int (fiI (bestF bms (selQ (goX pa al) (some bms[lk].1)) k))), (8, .int c8), (7, .int (nI lk)), (5, .int c5), (4, .int c4), (3, .int (bI al)), (0, .ref (ka K z)), (1, .int c1), (2, .int c2)]) C d_Mod_transfer_552 rfl (nI_1 _) (by decide) rfl ?_
          refine g_goto (pc := 555) C 453 d_Mod_transfer_555 (by decide) ?_
          have hq : (selQ (goX pa al) (some bms[lk].1)) bms[k] = false := by
            first
              | (rw [selQ, goX, ← hvk, h_480]; rfl)
              | (rw [selQ]; simp only [← hvl, ← hvk, h_511, Bool.and_false])
          have e := ih (k + 1) (by omega) (by omega)
          rw [best_no hkl hq] at e
          exact g_lv [0, 1, 2, 3, 4, 5, 6, 7, 8, 9] rfl e
