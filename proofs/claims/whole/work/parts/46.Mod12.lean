/-! what is put out in order: a schedule of the selected -/
theorem lo8_ub (x : UInt8) : lo8 (ub x) = x := ub_inj.mp (by rw [← lo8_nar, ub_nar])
def sch (ms : List Me) (g : Me → Bool) : Option Bs → List Me → Prop
  | la, [] => bestF ms (selQ g la) ms.length = none
  | la, x :: xs => ∃ i, ∃ h : i < ms.length, bestF ms (selQ g la) ms.length = some i ∧ ms[i] = x ∧ sch ms g (some x.1) xs
def lnG (pa : Bs) (x : Me) : Bs := x.1.drop (pa.length + 1) ++ [10]
def lnL (x : Me) : Bs := [47] ++ x.1.drop 1 ++ [10]
def lstM (al : Bool) (pa : Bs) : Bs → List Me → Bs
  | o, [] => o
  | o, x :: xs => if (al && !decide (x.1 = pa)) = true then lstM al pa o xs else if o.length + max x.1.length 1 + 1 ≤ 400 then lstM al pa (o ++ lnL x) xs else o
theorem out_step {o tgt p : Bs} {k : Nat} (h : o ++ p.drop k = tgt) (hk : k < p.length) : (o ++ [p[k]]) ++ p.drop (k + 1) = tgt := by
  rw [← h, List.drop_eq_getElem_cons hk, List.append_assoc]
  rfl
theorem out_len {o tgt p : Bs} {k : Nat} (h : o ++ p.drop k = tgt) (ht : tgt.length ≤ 400) (hk : k < p.length) : o.length < 400 := by
  have e := congrArg List.length h
  rw [List.length_append, List.length_drop] at e
  omega
theorem out_end {o tgt p : Bs} {k : Nat} (h : o ++ p.drop k = tgt) (hk : p.length ≤ k) : o = tgt := by
  rw [← h, List.drop_eq_nil_of_le hk, List.append_nil]

set_option maxHeartbeats 4000000 in
set_option maxRecDepth 100000 in
theorem w_Z_get15 {X : gX} {K : gK} (C : gC X K b_Mod_get "DavRoomModel" 4 4 256) (E : gE) (z : Nat) (tp os pa ta pr md : Bs) (ms : List Me) (ls : List Lk) (kms : List Me) (kls : List Lk) (bms : List Me) (bls : List Lk) (ck vn tn : Int32) (mt hs bo : Nat) (vl : Nat → Int32) (i9 : Nat) (hi : i9 < ms.length) (hroom : os.length + 80 ≤ 400) (post : Int32 → gE → Prop) (hfin : ∀ E' : gE, isZ K E' z tp (os ++ ms[i9].2.2.2) pa ta pr md ms ls kms kls bms bls ck vn tn mt hs bo vl → frN z 476 E E' → post (nI 200) E') (hR : gRi X K .int (post)) : ∀ (d k : Nat) (E1 : gE) (o1 : Bs), k ≤ ms[i9].2.2.2.length → ms[i9].2.2.2.length + 1 ≤ k + d → isZ K E1 z tp o1 pa ta pr md ms ls kms kls bms bls ck vn tn mt hs bo vl → o1 = os ++ ms[i9].2.2.2.take k → frN z 476 E E1 → gW X K E1 15 [(2, .int (nI k)), (0, .ref (ka K z)), (1, .int (nI i9))] [] := by
  intro d
  induction d with
  | zero =>
    intro k E1 o1 h1 h2
    exact absurd h2 (by omega)
  | succ d ih =>
    intro k E1 o1 hk hd hZ1 ho hfr
    have hzN := hZ1.2.2.2.2.2.2.2.2.2.2.2.2.2
    have hol := hZ1.2.2.2.2.1.1
    have hnm := hZ1.2.1.lim
    have hpal := hZ1.2.2.2.2.2.2.2.1.2.1
    obtain ⟨v, w, hM, hv, hw⟩ := hZ1.2.1
    obtain ⟨kd, ve, sz, tok, en, dp, on, dt, fp, fd, fl, ha, hb⟩ := hM
    have hrN := ha.N
    have hvi := hv i9 hi
    have hbn := ha.b i9 (by omega)
    have hbz := hb.z i9 (by omega)
    have hsz := hb.s i9 (by omega)
    have hbb := hb.b i9 (by omega)
    rw [hvi] at hsz hbz
    simp only [hvi] at hbb
    refine g_iload_n (pc := 15) C d_Mod_get_15 0 rfl ?_
    refine g_aload_n (pc := 16) C d_Mod_get_16 1 rfl ?_
    refine g_get (pc := 17) C fl_Mod_10 hZ1.1 (by omega) rfl d_Mod_get_17 ?_
    refine g_getN (pc := 20) C fN_Mod_232 ha.o (by omega) rfl d_Mod_get_20 ?_
    refine g_iload_n (pc := 23) C d_Mod_get_23 2 rfl ?_
    refine g_ialdN (pc := 24) C ha.s (by omega) (gt_I _) (by omega) (by omega) d_Mod_get_24 ?_
    refine g_top (y := nI (ms[i9].2.2.2.length)) (hsz) ?_
    refine g_icmp_geN (pc := 25) C 49 d_Mod_get_25 (by decide) (by omega) (by omega) (fun h_25 => ?_) (fun h_25 => ?_)
    · skip
      refine g_sipush (pc := 49) (v := nI 200) C d_Mod_get_49 (by decide) ?_
      refine g_iret (pc := 52) C hR d_Mod_get_52 ?_
      have ek : k = ms[i9].2.2.2.length := by omega
      rw [ek, List.take_length] at ho
      subst ho
      exact hfin E1 hZ1 hfr
    · skip
      refine g_aload_n (pc := 28) C d_Mod_get_28 1 rfl ?_
      refine g_aload_n (pc := 29) C d_Mod_get_29 1 rfl ?_
      refine g_get (pc := 30) C fl_Mod_10 hZ1.1 (by omega) rfl d_Mod_get_30 ?_
      refine g_getN (pc := 33) C fN_Mod_234 ha.o (by omega) rfl d_Mod_get_33 ?_
      refine g_iload_n (pc := 36) C d_Mod_get_36 2 rfl ?_
      refine g_aldA (pc := 37) C ha.d (by omega) (gt_BB _) (by omega) (by omega) d_Mod_get_37 (hv := rf_at (ha.d' i9 (by omega))) ?_
      refine g_iload_n (pc := 38) C d_Mod_get_38 0 rfl ?_
      refine g_baldN (pc := 39) C hbn (by omega) (gt_B _) (by omega) (by omega) d_Mod_get_39 ?_
      refine g_cv (pc := 40) C (g_rV (As := [.int (dt i9 k)]) (rest := []) C (c_Mod_put _ K _ z tp o1 pa ta pr md ms ls kms kls bms bls ck vn tn mt hs bo vl hZ1 (dt i9 k) (by rw [ho, List.length_append, List.length_take]; omega)) mw_Mod_put mo_Mod_put ml_Mod_238 (by decide) hZ1.1 rfl (by omega) rfl rfl (Nat.le_of_ble_eq_true rfl) d_Mod_get_40) (fun E40 hp40 => ?_)
      obtain ⟨hZ40, hF40⟩ := hp40
      have hf40 : frN z 476 E E40 := hfr.trans hF40
      refine g_iinc (pc := 43) (pl := 0) (v := nI (k + 1)) (lv' := [(2, .int (nI (k + 1))), (0, .ref (ka K z)), (1, .int (nI i9))]) C d_Mod_get_43 rfl (nI_1 _) (by decide) rfl ?_
      refine g_goto (pc := 46) C 15 d_Mod_get_46 (by decide) ?_
      exact g_lv [0, 1, 2] rfl (ih (k + 1) E40 _ (by omega) (by omega) hZ40 (by rw [ho, hbb k (by omega), lo8_ub, List.append_assoc, List.take_append_getElem]) hf40)

set_option maxHeartbeats 4000000 in
set_option maxRecDepth 100000 in
theorem w_Z_get79 {X : gX} {K : gK} (C : gC X K b_Mod_get "DavRoomModel" 4 4 256) (E : gE) (z : Nat) (tp os pa ta pr md : Bs) (ms : List Me) (ls : List Lk) (kms : List Me) (kls : List Lk) (bms : List Me) (bls : List Lk) (ck vn tn : Int32) (mt hs bo : Nat) (vl : Nat → Int32) (i : Nat) (hi : i < ms.length) (tgt : Bs) (htl9 : tgt.length ≤ 400) (post : Int32 → gE → Prop) (bx : Bool) (i9 : Int32) (by9 bz : Bool) (hfin : ∀ (E' : gE) (q : Nat), isZ K E' z tp tgt pa ta pr md ms ls kms kls bms bls ck vn tn mt hs bo vl → frN z 476 E E' → gW X K E' 119 [(3, .int (nI q)), (2, .int (nI i)), (0, .ref (ka K z)), (1, .int i9)] []) (hR : gRi X K .int (post)) : ∀ (d k : Nat) (E1 : gE) (o1 : Bs), k ≤ 60 → 61 ≤ k + d → isZ K E1 z tp o1 pa ta pr md ms ls kms kls bms bls ck vn tn mt hs bo vl → o1 ++ ms[i].1.drop k = tgt → frN z 476 E E1 → gW X K E1 79 [(3, .int (nI k)), (2, .int (nI i)), (0, .ref (ka K z)), (1, .int i9)] [] := by
  intro d
  induction d with
  | zero =>
    intro k E1 o1 h1 h2
    exact absurd h2 (by omega)
  | succ d ih =>
    intro k E1 o1 hk hd hZ1 ho hfr
    have hzN := hZ1.2.2.2.2.2.2.2.2.2.2.2.2.2
    have hol := hZ1.2.2.2.2.1.1
    have hnm := hZ1.2.1.lim
    have hpal := hZ1.2.2.2.2.2.2.2.1.2.1
    obtain ⟨v, w, hM, hv, hw⟩ := hZ1.2.1
    obtain ⟨kd, ve, sz, tok, en, dp, on, dt, fp, fd, fl, ha, hb⟩ := hM
    have hrN := ha.N
    have hxi := hb.p i (by omega)
    rw [hv i hi] at hxi
    obtain ⟨-, hpli, -, pfi, hpfi, hpvi⟩ := (show isP K _ _ _ from hxi)
    refine g_iload_n (pc := 79) C d_Mod_get_79 0 rfl ?_
    refine g_aload_n (pc := 80) C d_Mod_get_80 2 rfl ?_
    refine g_get (pc := 81) C fl_Mod_10 hZ1.1 (by omega) rfl d_Mod_get_81 ?_
    refine g_getN (pc := 84) C fN_Mod_216 ha.o (by omega) rfl d_Mod_get_84 ?_
    refine g_iload_n (pc := 87) C d_Mod_get_87 1 rfl ?_
    refine g_aldN (pc := 88) C ha.p (by omega) (gt_P _) (by omega) (by omega) d_Mod_get_88 (hv := rf_at (ha.p' i (by omega))) ?_
    refine g_getN (pc := 89) C fN_Mod_103 hxi.1 (by omega) rfl d_Mod_get_89 ?_
    refine g_icmp_geN (pc := 92) C 119 d_Mod_get_92 (by decide) (by omega) (by omega) (fun h_92 => ?_) (fun h_92 => ?_)
    · skip
      have e9 := out_end ho (by omega)
      subst e9
      exact hfin E1 k hZ1 hfr
    · skip
      refine g_aload_n (pc := 95) C d_Mod_get_95 2 rfl ?_
      refine g_aload_n (pc := 96) C d_Mod_get_96 2 rfl ?_
      refine g_get (pc := 97) C fl_Mod_10 hZ1.1 (by omega) rfl d_Mod_get_97 ?_
      refine g_getN (pc := 100) C fN_Mod_216 ha.o (by omega) rfl d_Mod_get_100 ?_
      refine g_iload_n (pc := 103) C d_Mod_get_103 1 rfl ?_
      refine g_aldN (pc := 104) C ha.p (by omega) (gt_P _) (by omega) (by omega) d_Mod_get_104 (hv := rf_at (ha.p' i (by omega))) ?_
      refine g_getN (pc := 105) C fN_Mod_116 hxi.1 (by omega) rfl d_Mod_get_105 ?_
      refine g_iload_n (pc := 108) C d_Mod_get_108 0 rfl ?_
      refine g_baldN (pc := 109) C hpfi (by omega) (gt_B _) (by omega) (by omega) d_Mod_get_109 ?_
      refine g_cv (pc := 110) C (g_rV (As := [.int (pfi k)]) (rest := []) C (c_Mod_put _ K _ z tp o1 pa ta pr md ms ls kms kls bms bls ck vn tn mt hs bo vl hZ1 (pfi k) (out_len ho htl9 (by omega))) mw_Mod_put mo_Mod_put ml_Mod_238 (by decide) hZ1.1 rfl (by omega) rfl rfl (Nat.le_of_ble_eq_true rfl) d_Mod_get_110) (fun E110 hp110 => ?_)
      obtain ⟨hZ110, hF110⟩ := hp110
      have hf110 : frN z 476 E E110 := hfr.trans hF110
      refine g_iinc (pc := 113) (pl := 0) (v := nI (k + 1)) (lv' := [(3, .int (nI (k + 1))), (2, .int (nI i)), (0, .ref (ka K z)), (1, .int i9)]) C d_Mod_get_113 rfl (nI_1 _) (by decide) rfl ?_
      refine g_goto (pc := 116) C 79 d_Mod_get_116 (by decide) ?_
      exact g_lv [0, 1, 2, 3] rfl (ih (k + 1) E110 _ (by omega) (by omega) hZ110 (by rw [hpvi k (by omega), lo8_ub]; exact out_step ho (by omega)) hf110)

set_option maxHeartbeats 4000000 in
set_option maxRecDepth 100000 in
theorem w_Z_get65 {X : gX} {K : gK} (C : gC X K b_Mod_get "DavRoomModel" 4 4 256) (E : gE) (z : Nat) (tp os pa ta pr md : Bs) (ms : List Me) (ls : List Lk) (kms : List Me) (kls : List Lk) (bms : List Me) (bls : List Lk) (ck vn tn : Int32) (mt hs bo : Nat) (vl : Nat → Int32) (i9 : Int32) (os2 : Bs) (post : Int32 → gE → Prop) (hfin : ∀ E' : gE, isZ K E' z tp os2 pa ta pr md ms ls kms kls bms bls ck vn tn mt hs bo vl → frN z 476 E E' → post (nI 200) E') (hR : gRi X K .int (post)) : ∀ (xs : List Me) (la : Option Bs) (E1 : gE) (o1 : Bs), sch ms (askM true false pa) la xs → isZ K E1 z tp o1 pa ta pr md ms ls kms kls bms bls ck vn tn mt hs bo vl → o1 ++ xs.flatMap (lnG pa) = os2 → frN z 476 E E1 → o1.length + (xs.flatMap (lnG pa)).length ≤ 400 → gW X K E1 65 [(2, .int (fiI (bestF ms (selQ (askM true false pa) la) ms.length))), (0, .ref (ka K z)), (1, .int i9)] [] := by
  intro xs
  induction xs with
  | nil =>
    intro la E1 o1 hs hZ1 ho hfr hlen
    have hs2 : bestF ms (selQ (askM true false pa) la) ms.length = none := hs
    rw [hs2]
    show gW X K E1 65 [(2, .int (-1)), (0, .ref (ka K z)), (1, .int i9)] []
    refine g_iload_n (pc := 65) C d_Mod_get_65 0 rfl ?_
    refine g_if_lt (pc := 66) C 140 d_Mod_get_66 (by decide) (fun h_66 => ?_) (fun h_66 => ?_)
    · skip
      refine g_sipush (pc := 140) (v := nI 200) C d_Mod_get_140 (by decide) ?_
      refine g_iret (pc := 143) C hR d_Mod_get_143 ?_
      rw [List.flatMap_nil, List.append_nil] at ho
      subst ho
      exact hfin E1 hZ1 hfr
    · exact absurd (by decide) h_66
  | cons x xs ih =>
    intro la E1 o1 hs hZ1 ho hfr hlen
    obtain ⟨i, hi, hs2, hxe, hs3⟩ := hs
    subst hxe
    rw [hs2]
    have hlg : (lnG pa ms[i]).length = (ms[i].1.drop (pa.length + 1)).length + 1 := by rw [lnG, List.length_append]; rfl
    rw [List.flatMap_cons, List.length_append] at hlen
    have hzN := hZ1.2.2.2.2.2.2.2.2.2.2.2.2.2
    have hol := hZ1.2.2.2.2.1.1
    have hnm := hZ1.2.1.lim
    have hpal := hZ1.2.2.2.2.2.2.2.1.2.1
    show gW X K E1 65 [(2, .int (nI i)), (0, .ref (ka K z)), (1, .int i9)] []
    refine g_iload_n (pc := 65) C d_Mod_get_65 0 rfl ?_
    refine g_if_ltN (pc := 66) C 140 d_Mod_get_66 (by decide) (by omega) ?_
    refine g_aload_n (pc := 69) C d_Mod_get_69 1 rfl ?_
    refine g_get (pc := 70) C fl_Mod_72 hZ1.1 (by omega) rfl d_Mod_get_70 ?_
    refine g_getN (pc := 73) C fN_Mod_103 hZ1.2.2.2.2.2.2.2.1.1 (by omega) rfl d_Mod_get_73 ?_
    refine g_iconst (pc := 76) (v := nI 1) C d_Mod_get_76 (by decide) ?_
    refine g_iaddN (pc := 77) C d_Mod_get_77 ?_
    refine g_istore_n (pc := 78) (lv' := [(3, .int (nI (pa.length + 1))), (2, .int (nI i)), (0, .ref (ka K z)), (1, .int i9)]) C d_Mod_get_78 rfl (by decide) rfl ?_
    refine g_lv [0, 1, 2, 3] rfl (w_Z_get79 C E z tp os pa ta pr md ms ls kms kls bms bls ck vn tn mt hs bo vl i hi (o1 ++ ms[i].1.drop (pa.length + 1)) (by rw [List.length_append]; omega) post true i9 true true (fun E2 q hZ2 hfr2 => ?_) hR 61 (pa.length + 1) E1 o1 (by omega) (by omega) hZ1 rfl hfr)
    refine g_aload_n (pc := 119) C d_Mod_get_119 2 rfl ?_
    refine g_bipush (pc := 120) (v := nI 10) C d_Mod_get_120 (by decide) ?_
    refine g_cv (pc := 122) C (g_rV (As := [.int (nI 10)]) (rest := []) C (c_Mod_put _ K _ z tp (o1 ++ ms[i].1.drop (pa.length + 1)) pa ta pr md ms ls kms kls bms bls ck vn tn mt hs bo vl hZ2 (nI 10) (by rw [List.length_append]; omega)) mw_Mod_put mo_Mod_put ml_Mod_238 (by decide) hZ2.1 rfl (by omega) rfl rfl (Nat.le_of_ble_eq_true rfl) d_Mod_get_122) (fun E122 hp122 => ?_)
    obtain ⟨hZ122, hF122⟩ := hp122
    have hf122 : frN z 476 E E122 := hfr2.trans hF122
    refine g_aload_n (pc := 125) C d_Mod_get_125 2 rfl ?_
    refine g_iload_n (pc := 126) C d_Mod_get_126 1 rfl ?_
    refine g_aload_n (pc := 127) C d_Mod_get_127 2 rfl ?_
    refine g_get (pc := 128) C fl_Mod_72 hZ122.1 (by omega) rfl d_Mod_get_128 ?_
    refine g_iconst (pc := 131) (v := nI 1) C d_Mod_get_131 (by decide) ?_
    refine g_top (y := bI true) (rfl) ?_
    refine g_iconst (pc := 132) (v := nI 0) C d_Mod_get_132 (by decide) ?_
    refine g_top (y := bI false) (rfl) ?_
    refine g_ci (pc := 133) C (g_rV (As := [.int (nI i), .ref (ka K (z + 313)), .int (bI true), .int (bI false)]) (rest := []) C (c_Mod_after _ K _ z tp ((o1 ++ ms[i].1.drop (pa.length + 1)) ++ [lo8 (nI 10)]) pa ta pr md ms ls kms kls bms bls ck vn tn mt hs bo vl hZ122 (z + 313) pa hZ122.2.2.2.2.2.2.2.1 true false i hi) mw_Mod_after mo_Mod_after ml_Mod_242 (by decide) hZ122.1 rfl (by omega) rfl rfl (Nat.le_of_ble_eq_true rfl) d_Mod_get_133) (fun r133 E133 hp133 => ?_)
    rw [show r133 = fiI (bestF ms (selQ (askM true false pa) (some ms[i].1)) ms.length) from hp133.1, hp133.2]
    refine g_istore_n (pc := 136) (lv' := [(2, .int (fiI (bestF ms (selQ (askM true false pa) (some ms[i].1)) ms.length))), (3, .int (nI q)), (0, .ref (ka K z)), (1, .int i9)]) C d_Mod_get_136 rfl (by decide) rfl ?_
    refine g_goto (pc := 137) C 65 d_Mod_get_137 (by decide) ?_
    refine g_lv [0, 2, 3] rfl (ih (some ms[i].1) E122 _ hs3 hZ122 ?_ hf122 ?_)
    · rw [← ho, List.flatMap_cons, lnG, lo8_10]
      simp only [List.append_assoc]
    · rw [List.length_append, List.length_append, List.length_singleton]
      omega

set_option maxHeartbeats 4000000 in
set_option maxRecDepth 100000 in
theorem c_Mod_get (l : Launch) (K : gK) (E : gE) (z : Nat) (tp os pa ta pr md : Bs) (ms : List Me) (ls : List Lk) (kms : List Me) (kls : List Lk) (bms : List Me) (bls : List Lk) (ck vn tn : Int32) (mt hs bo : Nat) (vl : Nat → Int32) (hZ : isZ K E z tp os pa ta pr md ms ls kms kls bms bls ck vn tn mt hs bo vl) (i9 : Nat) (hi9 : i9 < ms.length) (hroom : os.length + 80 ≤ 400) (xs : List Me) (hxs : sch ms (askM true false pa) none xs) (hlen : os.length + (xs.flatMap (lnG pa)).length ≤ 400) : gMi l y_Mod_get b_Mod_get 4 .int 4 256 K E [.ref (ka K z), .int (nI i9)] (fun r E' => r = nI 200 ∧ isZ K E' z tp (os ++ (if ms[i9].2.1 = nI 1 then ms[i9].2.2.2 else xs.flatMap (lnG pa))) pa ta pr md ms ls kms kls bms bls ck vn tn mt hs bo vl ∧ frN z 476 E E') := by
  have hzN := hZ.2.2.2.2.2.2.2.2.2.2.2.2.2
  have htl := hZ.2.2.2.1.1
  have hol := hZ.2.2.2.2.1.1
  have hnm := hZ.2.1.lim
  have hkm := hZ.2.2.1.lim
  have hbm := hZ.2.2.2.2.2.2.2.2.2.2.2.1.lim
  have hpal := hZ.2.2.2.2.2.2.2.1.2.1
  have htal := hZ.2.2.2.2.2.2.2.2.1.2.1
  have hprl := hZ.2.2.2.2.2.2.2.2.2.2.1.2.1
  have hmdl := hZ.2.2.2.2.2.2.2.2.2.2.2.2.1.2.1
  obtain ⟨v, w, hM, hv, hw⟩ := hZ.2.1
  obtain ⟨kd, ve, sz, tok, en, dp, on, dt, fp, fd, fl, ha, hb⟩ := hM
  have hrN := ha.N
  have hvi := hv i9 hi9
  refine g_meti (by decide +kernel) (Nat.le_of_ble_eq_true rfl) (fun X hl C hR => ?_)
  subst hl
  show gW X K E 0 [(0, .ref (ka K z)), (1, .int (nI i9))] []
  refine g_aload_n (pc := 0) C d_Mod_get_0 0 rfl ?_
  refine g_get (pc := 1) C fl_Mod_10 hZ.1 (by omega) rfl d_Mod_get_1 ?_
  refine g_getN (pc := 4) C fN_Mod_183 ha.o (by omega) rfl d_Mod_get_4 ?_
  refine g_iload_n (pc := 7) C d_Mod_get_7 1 rfl ?_
  refine g_ialdN (pc := 8) C ha.k (by omega) (gt_I _) (by omega) (by omega) d_Mod_get_8 ?_
  refine g_iconst (pc := 9) (v := nI 1) C d_Mod_get_9 (by decide) ?_
  refine g_icmp_ne (pc := 10) C 53 d_Mod_get_10 (by decide) (fun h_10 => ?_) (fun h_10 => ?_)
  · skip
    rw [hb.k i9 (by omega), hvi] at h_10
    refine g_aload_n (pc := 53) C d_Mod_get_53 0 rfl ?_
    refine g_iconst (pc := 54) (v := -1) C d_Mod_get_54 (by decide) ?_
    refine g_aload_n (pc := 55) C d_Mod_get_55 0 rfl ?_
    refine g_get (pc := 56) C fl_Mod_72 hZ.1 (by omega) rfl d_Mod_get_56 ?_
    refine g_iconst (pc := 59) (v := nI 1) C d_Mod_get_59 (by decide) ?_
    refine g_top (y := bI true) (rfl) ?_
    refine g_iconst (pc := 60) (v := nI 0) C d_Mod_get_60 (by decide) ?_
    refine g_top (y := bI false) (rfl) ?_
    refine g_ci (pc := 61) C (g_rV (As := [.int (-1), .ref (ka K (z + 313)), .int (bI true), .int (bI false)]) (rest := []) C (c_Mod_after_n _ K _ z tp os pa ta pr md ms ls kms kls bms bls ck vn tn mt hs bo vl hZ (z + 313) pa hZ.2.2.2.2.2.2.2.1 true false) mw_Mod_after mo_Mod_after ml_Mod_242 (by decide) hZ.1 rfl (by omega) rfl rfl (Nat.le_of_ble_eq_true rfl) d_Mod_get_61) (fun r61 E61 hp61 => ?_)
    rw [show r61 = fiI (bestF ms (selQ (askM true false pa) none) ms.length) from hp61.1, hp61.2]
    refine g_istore_n (pc := 64) (lv' := [(2, .int (fiI (bestF ms (selQ (askM true false pa) none) ms.length))), (0, .ref (ka K z)), (1, .int (nI i9))]) C d_Mod_get_64 rfl (by decide) rfl ?_
    exact g_lv [0, 1, 2] rfl (w_Z_get65 C E z tp os pa ta pr md ms ls kms kls bms bls ck vn tn mt hs bo vl (nI i9) _ _ (fun E' y1 y2 => ⟨rfl, by rw [if_neg h_10]; exact y1, y2⟩) hR xs none E os hxs hZ rfl frN.refl hlen)
  · skip
    rw [hb.k i9 (by omega), hvi] at h_10
    refine g_iconst (pc := 13) (v := nI 0) C d_Mod_get_13 (by decide) ?_
    refine g_istore_n (pc := 14) (lv' := [(2, .int (nI 0)), (0, .ref (ka K z)), (1, .int (nI i9))]) C d_Mod_get_14 rfl (by decide) rfl ?_
    exact g_lv [0, 1, 2] rfl (w_Z_get15 C E z tp os pa ta pr md ms ls kms kls bms bls ck vn tn mt hs bo vl i9 hi9 hroom _ (fun E' y1 y2 => ⟨rfl, by rw [if_pos h_10]; exact y1, y2⟩) hR (ms[i9].2.2.2.length + 1) 0 E os (Nat.zero_le _) (by omega) hZ (by rw [List.take_zero, List.append_nil]) frN.refl)

set_option maxHeartbeats 4000000 in
set_option maxRecDepth 100000 in
theorem w_Z_list143 {X : gX} {K : gK} (C : gC X K b_Mod_list "DavRoomModel" 6 4 256) (E : gE) (z : Nat) (tp os pa ta pr md : Bs) (ms : List Me) (ls : List Lk) (kms : List Me) (kls : List Lk) (bms : List Me) (bls : List Lk) (ck vn tn : Int32) (mt hs bo : Nat) (vl : Nat → Int32) (i : Nat) (hi : i < ms.length) (tgt : Bs) (htl9 : tgt.length ≤ 400) (post : Int32 → gE → Prop) (bx : Bool) (i9 : Int32) (by9 bz : Bool) (hfin : ∀ (E' : gE) (q : Nat), isZ K E' z tp tgt pa ta pr md ms ls kms kls bms bls ck vn tn mt hs bo vl → frN z 476 E E' → gW X K E' 185 [(5, .int (nI q)), (3, .int (nI i)), (0, .ref (ka K z)), (1, .int (bI bx)), (2, .int (bI by9))] []) (hR : gRi X K .int (post)) : ∀ (d k : Nat) (E1 : gE) (o1 : Bs), k ≤ 60 → 61 ≤ k + d → isZ K E1 z tp o1 pa ta pr md ms ls kms kls bms bls ck vn tn mt hs bo vl → o1 ++ ms[i].1.drop k = tgt → frN z 476 E E1 → gW X K E1 143 [(5, .int (nI k)), (3, .int (nI i)), (0, .ref (ka K z)), (1, .int (bI bx)), (2, .int (bI by9))] [] := by
  intro d
  induction d with
  | zero =>
    intro k E1 o1 h1 h2
    exact absurd h2 (by omega)
  | succ d ih =>
    intro k E1 o1 hk hd hZ1 ho hfr
    have hzN := hZ1.2.2.2.2.2.2.2.2.2.2.2.2.2
    have hol := hZ1.2.2.2.2.1.1
    have hnm := hZ1.2.1.lim
    have hpal := hZ1.2.2.2.2.2.2.2.1.2.1
    obtain ⟨v, w, hM, hv, hw⟩ := hZ1.2.1
    obtain ⟨kd, ve, sz, tok, en, dp, on, dt, fp, fd, fl, ha, hb⟩ := hM
    have hrN := ha.N
    have hxi := hb.p i (by omega)
    rw [hv i hi] at hxi
    obtain ⟨-, hpli, -, pfi, hpfi, hpvi⟩ := (show isP K _ _ _ from hxi)
    refine g_iload (pc := 143) C d_Mod_list_143 0 rfl ?_
    refine g_aload_n (pc := 145) C d_Mod_list_145 2 rfl ?_
    refine g_get (pc := 146) C fl_Mod_10 hZ1.1 (by omega) rfl d_Mod_list_146 ?_
    refine g_getN (pc := 149) C fN_Mod_216 ha.o (by omega) rfl d_Mod_list_149 ?_
    refine g_iload_n (pc := 152) C d_Mod_list_152 1 rfl ?_
    refine g_aldN (pc := 153) C ha.p (by omega) (gt_P _) (by omega) (by omega) d_Mod_list_153 (hv := rf_at (ha.p' i (by omega))) ?_
    refine g_getN (pc := 154) C fN_Mod_103 hxi.1 (by omega) rfl d_Mod_list_154 ?_
    refine g_icmp_geN (pc := 157) C 185 d_Mod_list_157 (by decide) (by omega) (by omega) (fun h_157 => ?_) (fun h_157 => ?_)
    · skip
      have e9 := out_end ho (by omega)
      subst e9
      exact hfin E1 k hZ1 hfr
    · skip
      refine g_aload_n (pc := 160) C d_Mod_list_160 2 rfl ?_
      refine g_aload_n (pc := 161) C d_Mod_list_161 2 rfl ?_
      refine g_get (pc := 162) C fl_Mod_10 hZ1.1 (by omega) rfl d_Mod_list_162 ?_
      refine g_getN (pc := 165) C fN_Mod_216 ha.o (by omega) rfl d_Mod_list_165 ?_
      refine g_iload_n (pc := 168) C d_Mod_list_168 1 rfl ?_
      refine g_aldN (pc := 169) C ha.p (by omega) (gt_P _) (by omega) (by omega) d_Mod_list_169 (hv := rf_at (ha.p' i (by omega))) ?_
      refine g_getN (pc := 170) C fN_Mod_116 hxi.1 (by omega) rfl d_Mod_list_170 ?_
      refine g_iload (pc := 173) C d_Mod_list_173 0 rfl ?_
      refine g_baldN (pc := 175) C hpfi (by omega) (gt_B _) (by omega) (by omega) d_Mod_list_175 ?_
      refine g_cv (pc := 176) C (g_rV (As := [.int (pfi k)]) (rest := []) C (c_Mod_put _ K _ z tp o1 pa ta pr md ms ls kms kls bms bls ck vn tn mt hs bo vl hZ1 (pfi k) (out_len ho htl9 (by omega))) mw_Mod_put mo_Mod_put ml_Mod_238 (by decide) hZ1.1 rfl (by omega) rfl rfl (Nat.le_of_ble_eq_true rfl) d_Mod_list_176) (fun E176 hp176 => ?_)
      obtain ⟨hZ176, hF176⟩ := hp176
      have hf176 : frN z 476 E E176 := hfr.trans hF176
      refine g_iinc (pc := 179) (pl := 0) (v := nI (k + 1)) (lv' := [(5, .int (nI (k + 1))), (3, .int (nI i)), (0, .ref (ka K z)), (1, .int (bI bx)), (2, .int (bI by9))]) C d_Mod_list_179 rfl (nI_1 _) (by decide) rfl ?_
      refine g_goto (pc := 182) C 143 d_Mod_list_182 (by decide) ?_
      exact g_lv [0, 1, 2, 3, 4] rfl (ih (k + 1) E176 _ (by omega) (by omega) hZ176 (by rw [hpvi k (by omega), lo8_ub]; exact out_step ho (by omega)) hf176)

set_option maxHeartbeats 4000000 in
set_option maxRecDepth 100000 in
theorem w_Z_list67 {X : gX} {K : gK} (C : gC X K b_Mod_list "DavRoomModel" 6 4 256) (E : gE) (z : Nat) (tp os pa ta pr md : Bs) (ms : List Me) (ls : List Lk) (kms : List Me) (kls : List Lk) (bms : List Me) (bls : List Lk) (ck vn tn : Int32) (mt hs bo : Nat) (vl : Nat → Int32) (al de : Bool) (os2 : Bs) (post : Int32 → gE → Prop) (hfin : ∀ E' : gE, isZ K E' z tp os2 pa ta pr md ms ls kms kls bms bls ck vn tn mt hs bo vl → frN z 476 E E' → post (nI 207) E') (hR : gRi X K .int (post)) : ∀ (xs : List Me) (la : Option Bs) (E1 : gE) (o1 : Bs), sch ms (askM (!de) true pa) la xs → isZ K E1 z tp o1 pa ta pr md ms ls kms kls bms bls ck vn tn mt hs bo vl → lstM al pa o1 xs = os2 → frN z 476 E E1 → gW X K E1 67 [(3, .int (fiI (bestF ms (selQ (askM (!de) true pa) la) ms.length))), (0, .ref (ka K z)), (1, .int (bI al)), (2, .int (bI de))] [] := by
  intro xs
  induction xs with
  | nil =>
    intro la E1 o1 hs hZ1 ho hfr
    have hs2 : bestF ms (selQ (askM (!de) true pa) la) ms.length = none := hs
    rw [hs2]
    show gW X K E1 67 [(3, .int (-1)), (0, .ref (ka K z)), (1, .int (bI al)), (2, .int (bI de))] []
    refine g_iload_n (pc := 67) C d_Mod_list_67 0 rfl ?_
    refine g_if_lt (pc := 68) C 214 d_Mod_list_68 (by decide) (fun h_68 => ?_) (fun h_68 => ?_)
    · skip
      refine g_sipush (pc := 214) (v := nI 207) C d_Mod_list_214 (by decide) ?_
      refine g_iret (pc := 217) C hR d_Mod_list_217 ?_
      subst ho
      exact hfin E1 hZ1 hfr
    · exact absurd (by decide) h_68
  | cons x xs ih =>
    intro la E1 o1 hs hZ1 ho hfr
    obtain ⟨i, hi, hs2, hxe, hs3⟩ := hs
    subst hxe
    rw [hs2]
    rw [lstM] at ho
    have hzN := hZ1.2.2.2.2.2.2.2.2.2.2.2.2.2
    have hol := hZ1.2.2.2.2.1.1
    have hnm := hZ1.2.1.lim
    have hpal := hZ1.2.2.2.2.2.2.2.1.2.1
    obtain ⟨v, w, hM, hv, hw⟩ := hZ1.2.1
    obtain ⟨kd, ve, sz, tok, en, dp, on, dt, fp, fd, fl, ha, hb⟩ := hM
    have hrN := ha.N
    have hxi := hb.p i (by omega)
    rw [hv i hi] at hxi
    have hxl := hxi.2.1
    show gW X K E1 67 [(3, .int (nI i)), (0, .ref (ka K z)), (1, .int (bI al)), (2, .int (bI de))] []
    refine g_iload_n (pc := 67) C d_Mod_list_67 0 rfl ?_
    refine g_if_ltN (pc := 68) C 214 d_Mod_list_68 (by decide) (by omega) ?_
    refine g_iload_n (pc := 71) C d_Mod_list_71 2 rfl ?_
    refine g_if_eqB (pc := 72) C 97 d_Mod_list_72 (by decide) (fun h_72 => ?_) (fun h_72 => ?_)
    · skip
      have hsk : (al && !decide (ms[i].1 = pa)) = false := by
        first
          | rw [h_72]; rfl
          | rw [h_91]; simp
      rw [if_neg (by rw [hsk]; decide)] at ho
      refine g_aload_n (pc := 97) C d_Mod_list_97 1 rfl ?_
      refine g_get (pc := 98) C fl_Mod_10 hZ1.1 (by omega) rfl d_Mod_list_98 ?_
      refine g_getN (pc := 101) C fN_Mod_216 ha.o (by omega) rfl d_Mod_list_101 ?_
      refine g_iload_n (pc := 104) C d_Mod_list_104 0 rfl ?_
      refine g_aldN (pc := 105) C ha.p (by omega) (gt_P _) (by omega) (by omega) d_Mod_list_105 (hv := rf_at (ha.p' i (by omega))) ?_
      refine g_getN (pc := 106) C fN_Mod_103 hxi.1 (by omega) rfl d_Mod_list_106 ?_
      refine g_iconst (pc := 109) (v := nI 1) C d_Mod_list_109 (by decide) ?_
      refine g_mmaxI (pc := 110) C ml_Mod_246 (by decide) (Nat.le_of_ble_eq_true rfl) d_Mod_list_110 ?_
      refine g_top (max_nI (by omega) (by omega)) ?_
      refine g_istore (pc := 113) (lv' := [(4, .int (nI (max ((ms[i].1).length) 1))), (3, .int (nI i)), (0, .ref (ka K z)), (1, .int (bI al)), (2, .int (bI de))]) C d_Mod_list_113 (by decide) rfl ?_
      refine g_aload_n (pc := 115) C d_Mod_list_115 2 rfl ?_
      refine g_get (pc := 116) C fl_Mod_170 hZ1.1 (by omega) rfl d_Mod_list_116 ?_
      refine g_iload (pc := 119) C d_Mod_list_119 0 rfl ?_
      refine g_iaddN (pc := 121) C d_Mod_list_121 ?_
      refine g_iconst (pc := 122) (v := nI 1) C d_Mod_list_122 (by decide) ?_
      refine g_iaddN (pc := 123) C d_Mod_list_123 ?_
      refine g_sipush (pc := 124) (v := nI 400) C d_Mod_list_124 (by decide) ?_
      refine g_icmp_leN (pc := 127) C 134 d_Mod_list_127 (by decide) (by omega) (by omega) (fun h_127 => ?_) (fun h_127 => ?_)
      · skip
        refine g_aload_n (pc := 134) C d_Mod_list_134 2 rfl ?_
        refine g_bipush (pc := 135) (v := nI 47) C d_Mod_list_135 (by decide) ?_
        refine g_cv (pc := 137) C (g_rV (As := [.int (nI 47)]) (rest := []) C (c_Mod_put _ K _ z tp o1 pa ta pr md ms ls kms kls bms bls ck vn tn mt hs bo vl hZ1 (nI 47) (by omega)) mw_Mod_put mo_Mod_put ml_Mod_238 (by decide) hZ1.1 rfl (by omega) rfl rfl (Nat.le_of_ble_eq_true rfl) d_Mod_list_137) (fun E137 hp137 => ?_)
        obtain ⟨hZ137, hF137⟩ := hp137
        have hf137 : frN z 476 E E137 := hfr.trans hF137
        refine g_iconst (pc := 140) (v := nI 1) C d_Mod_list_140 (by decide) ?_
        refine g_istore (pc := 141) (lv' := [(5, .int (nI 1)), (4, .int (nI (max ((ms[i].1).length) 1))), (3, .int (nI i)), (0, .ref (ka K z)), (1, .int (bI al)), (2, .int (bI de))]) C d_Mod_list_141 (by decide) rfl ?_
        refine g_lv [0, 2, 3, 4, 5] rfl (w_Z_list143 C E z tp os pa ta pr md ms ls kms kls bms bls ck vn tn mt hs bo vl i hi (o1 ++ [lo8 (nI 47)] ++ ms[i].1.drop 1) (by rw [List.length_append, List.length_append, List.length_singleton, List.length_drop]; omega) post al 0 de true (fun E2 q hZ2 hfr2 => ?_) hR 61 1 E137 _ (by omega) (by omega) hZ137 rfl hf137)
        refine g_aload_n (pc := 185) C d_Mod_list_185 2 rfl ?_
        refine g_bipush (pc := 186) (v := nI 10) C d_Mod_list_186 (by decide) ?_
        refine g_cv (pc := 188) C (g_rV (As := [.int (nI 10)]) (rest := []) C (c_Mod_put _ K _ z tp (o1 ++ [lo8 (nI 47)] ++ ms[i].1.drop 1) pa ta pr md ms ls kms kls bms bls ck vn tn mt hs bo vl hZ2 (nI 10) (by rw [List.length_append, List.length_append, List.length_singleton, List.length_drop]; omega)) mw_Mod_put mo_Mod_put ml_Mod_238 (by decide) hZ2.1 rfl (by omega) rfl rfl (Nat.le_of_ble_eq_true rfl) d_Mod_list_188) (fun E188 hp188 => ?_)
        obtain ⟨hZ188, hF188⟩ := hp188
        have hf188 : frN z 476 E E188 := hfr2.trans hF188
        refine g_aload_n (pc := 191) C d_Mod_list_191 2 rfl ?_
        refine g_iload_n (pc := 192) C d_Mod_list_192 1 rfl ?_
        refine g_aload_n (pc := 193) C d_Mod_list_193 2 rfl ?_
        refine g_get (pc := 194) C fl_Mod_72 hZ188.1 (by omega) rfl d_Mod_list_194 ?_
        refine g_iload_n (pc := 197) C d_Mod_list_197 4 rfl ?_
        refine g_if_neB (pc := 198) C 205 d_Mod_list_198 (by decide) (fun h_198 => ?_) (fun h_198 => ?_)
        · skip
          refine g_iconst (pc := 205) (v := nI 0) C d_Mod_list_205 (by decide) ?_
          refine g_top (y := bI !de) (by rw [h_198]; rfl) ?_
          refine g_iconst (pc := 206) (v := nI 1) C d_Mod_list_206 (by decide) ?_
          refine g_top (y := bI true) (rfl) ?_
          refine g_ci (pc := 207) C (g_rV (As := [.int (nI i), .ref (ka K (z + 313)), .int (bI !de), .int (bI true)]) (rest := []) C (c_Mod_after _ K _ z tp ((o1 ++ [lo8 (nI 47)] ++ ms[i].1.drop 1) ++ [lo8 (nI 10)]) pa ta pr md ms ls kms kls bms bls ck vn tn mt hs bo vl hZ188 (z + 313) pa hZ188.2.2.2.2.2.2.2.1 (!de) true i hi) mw_Mod_after mo_Mod_after ml_Mod_242 (by decide) hZ188.1 rfl (by omega) rfl rfl (Nat.le_of_ble_eq_true rfl) d_Mod_list_207) (fun r207 E207 hp207 => ?_)
          rw [show r207 = fiI (bestF ms (selQ (askM (!de) true pa) (some ms[i].1)) ms.length) from hp207.1, hp207.2]
          refine g_istore_n (pc := 210) (lv' := [(3, .int (fiI (bestF ms (selQ (askM (!de) true pa) (some ms[i].1)) ms.length))), (5, .int (nI q)), (0, .ref (ka K z)), (1, .int (bI al)), (2, .int (bI de))]) C d_Mod_list_210 rfl (by decide) rfl ?_
          refine g_goto (pc := 211) C 67 d_Mod_list_211 (by decide) ?_
          refine g_lv [0, 2, 3, 4] rfl (ih (some ms[i].1) E188 _ hs3 hZ188 ?_ hf188)
          rw [if_pos h_127] at ho
          rw [← ho, lnL, lo8_10, show lo8 (nI 47) = 47 by decide]
          simp only [List.append_assoc]
        · skip
          refine g_iconst (pc := 201) (v := nI 1) C d_Mod_list_201 (by decide) ?_
          refine g_goto (pc := 202) C 206 d_Mod_list_202 (by decide) ?_
          refine g_top (y := bI !de) (by rw [h_198]; rfl) ?_
          refine g_iconst (pc := 206) (v := nI 1) C d_Mod_list_206 (by decide) ?_
          refine g_top (y := bI true) (rfl) ?_
          refine g_ci (pc := 207) C (g_rV (As := [.int (nI i), .ref (ka K (z + 313)), .int (bI !de), .int (bI true)]) (rest := []) C (c_Mod_after _ K _ z tp ((o1 ++ [lo8 (nI 47)] ++ ms[i].1.drop 1) ++ [lo8 (nI 10)]) pa ta pr md ms ls kms kls bms bls ck vn tn mt hs bo vl hZ188 (z + 313) pa hZ188.2.2.2.2.2.2.2.1 (!de) true i hi) mw_Mod_after mo_Mod_after ml_Mod_242 (by decide) hZ188.1 rfl (by omega) rfl rfl (Nat.le_of_ble_eq_true rfl) d_Mod_list_207) (fun r207 E207 hp207 => ?_)
          rw [show r207 = fiI (bestF ms (selQ (askM (!de) true pa) (some ms[i].1)) ms.length) from hp207.1, hp207.2]
          refine g_istore_n (pc := 210) (lv' := [(3, .int (fiI (bestF ms (selQ (askM (!de) true pa) (some ms[i].1)) ms.length))), (5, .int (nI q)), (0, .ref (ka K z)), (1, .int (bI al)), (2, .int (bI de))]) C d_Mod_list_210 rfl (by decide) rfl ?_
          refine g_goto (pc := 211) C 67 d_Mod_list_211 (by decide) ?_
          refine g_lv [0, 2, 3, 4] rfl (ih (some ms[i].1) E188 _ hs3 hZ188 ?_ hf188)
          rw [if_pos h_127] at ho
          rw [← ho, lnL, lo8_10, show lo8 (nI 47) = 47 by decide]
          simp only [List.append_assoc]
      · skip
        refine g_sipush (pc := 130) (v := nI 207) C d_Mod_list_130 (by decide) ?_
        refine g_iret (pc := 133) C hR d_Mod_list_133 ?_
        rw [if_neg (by omega)] at ho
        subst ho
        exact hfin E1 hZ1 hfr
    · skip
      refine g_aload_n (pc := 75) C d_Mod_list_75 1 rfl ?_
      refine g_get (pc := 76) C fl_Mod_10 hZ1.1 (by omega) rfl d_Mod_list_76 ?_
      refine g_getN (pc := 79) C fN_Mod_216 ha.o (by omega) rfl d_Mod_list_79 ?_
      refine g_iload_n (pc := 82) C d_Mod_list_82 0 rfl ?_
      refine g_aldN (pc := 83) C ha.p (by omega) (gt_P _) (by omega) (by omega) d_Mod_list_83 (hv := rf_at (ha.p' i (by omega))) ?_
      refine g_aload_n (pc := 84) C d_Mod_list_84 1 rfl ?_
      refine g_get (pc := 85) C fl_Mod_72 hZ1.1 (by omega) rfl d_Mod_list_85 ?_
      refine g_ci (pc := 88) C (g_rV (As := [.ref (ka K (z + 313))]) (rest := []) C (c_MPath_same _ K _ (z + 1 + 52 + 2 * i) ms[i].1 (z + 313) pa hxi hZ1.2.2.2.2.2.2.2.1) mw_MPath_same mo_MPath_same ml_Mod_219 (by decide) hxi.1 rfl (by omega) rfl rfl (Nat.le_of_ble_eq_true rfl) d_Mod_list_88) (fun r88 E88 hp88 => ?_)
      rw [show r88 = bI (decide (ms[i].1 = pa)) from hp88.1, hp88.2]
      refine g_if_neB (pc := 91) C 97 d_Mod_list_91 (by decide) (fun h_91 => ?_) (fun h_91 => ?_)
      · skip
        have hsk : (al && !decide (ms[i].1 = pa)) = false := by
          first
            | rw [h_72]; rfl
            | rw [h_91]; simp
        rw [if_neg (by rw [hsk]; decide)] at ho
        refine g_aload_n (pc := 97) C d_Mod_list_97 1 rfl ?_
        refine g_get (pc := 98) C fl_Mod_10 hZ1.1 (by omega) rfl d_Mod_list_98 ?_
        refine g_getN (pc := 101) C fN_Mod_216 ha.o (by omega) rfl d_Mod_list_101 ?_
        refine g_iload_n (pc := 104) C d_Mod_list_104 0 rfl ?_
        refine g_aldN (pc := 105) C ha.p (by omega) (gt_P _) (by omega) (by omega) d_Mod_list_105 (hv := rf_at (ha.p' i (by omega))) ?_
        refine g_getN (pc := 106) C fN_Mod_103 hxi.1 (by omega) rfl d_Mod_list_106 ?_
        refine g_iconst (pc := 109) (v := nI 1) C d_Mod_list_109 (by decide) ?_
        refine g_mmaxI (pc := 110) C ml_Mod_246 (by decide) (Nat.le_of_ble_eq_true rfl) d_Mod_list_110 ?_
        refine g_top (max_nI (by omega) (by omega)) ?_
        refine g_istore (pc := 113) (lv' := [(4, .int (nI (max ((ms[i].1).length) 1))), (3, .int (nI i)), (0, .ref (ka K z)), (1, .int (bI al)), (2, .int (bI de))]) C d_Mod_list_113 (by decide) rfl ?_
        refine g_aload_n (pc := 115) C d_Mod_list_115 2 rfl ?_
        refine g_get (pc := 116) C fl_Mod_170 hZ1.1 (by omega) rfl d_Mod_list_116 ?_
        refine g_iload (pc := 119) C d_Mod_list_119 0 rfl ?_
        refine g_iaddN (pc := 121) C d_Mod_list_121 ?_
        refine g_iconst (pc := 122) (v := nI 1) C d_Mod_list_122 (by decide) ?_
        refine g_iaddN (pc := 123) C d_Mod_list_123 ?_
        refine g_sipush (pc := 124) (v := nI 400) C d_Mod_list_124 (by decide) ?_
        refine g_icmp_leN (pc := 127) C 134 d_Mod_list_127 (by decide) (by omega) (by omega) (fun h_127 => ?_) (fun h_127 => ?_)
        · skip
          refine g_aload_n (pc := 134) C d_Mod_list_134 2 rfl ?_
          refine g_bipush (pc := 135) (v := nI 47) C d_Mod_list_135 (by decide) ?_
          refine g_cv (pc := 137) C (g_rV (As := [.int (nI 47)]) (rest := []) C (c_Mod_put _ K _ z tp o1 pa ta pr md ms ls kms kls bms bls ck vn tn mt hs bo vl hZ1 (nI 47) (by omega)) mw_Mod_put mo_Mod_put ml_Mod_238 (by decide) hZ1.1 rfl (by omega) rfl rfl (Nat.le_of_ble_eq_true rfl) d_Mod_list_137) (fun E137 hp137 => ?_)
          obtain ⟨hZ137, hF137⟩ := hp137
          have hf137 : frN z 476 E E137 := hfr.trans hF137
          refine g_iconst (pc := 140) (v := nI 1) C d_Mod_list_140 (by decide) ?_
          refine g_istore (pc := 141) (lv' := [(5, .int (nI 1)), (4, .int (nI (max ((ms[i].1).length) 1))), (3, .int (nI i)), (0, .ref (ka K z)), (1, .int (bI al)), (2, .int (bI de))]) C d_Mod_list_141 (by decide) rfl ?_
          refine g_lv [0, 2, 3, 4, 5] rfl (w_Z_list143 C E z tp os pa ta pr md ms ls kms kls bms bls ck vn tn mt hs bo vl i hi (o1 ++ [lo8 (nI 47)] ++ ms[i].1.drop 1) (by rw [List.length_append, List.length_append, List.length_singleton, List.length_drop]; omega) post al 0 de true (fun E2 q hZ2 hfr2 => ?_) hR 61 1 E137 _ (by omega) (by omega) hZ137 rfl hf137)
          refine g_aload_n (pc := 185) C d_Mod_list_185 2 rfl ?_
          refine g_bipush (pc := 186) (v := nI 10) C d_Mod_list_186 (by decide) ?_
          refine g_cv (pc := 188) C (g_rV (As := [.int (nI 10)]) (rest := []) C (c_Mod_put _ K _ z tp (o1 ++ [lo8 (nI 47)] ++ ms[i].1.drop 1) pa ta pr md ms ls kms kls bms bls ck vn tn mt hs bo vl hZ2 (nI 10) (by rw [List.length_append, List.length_append, List.length_singleton, List.length_drop]; omega)) mw_Mod_put mo_Mod_put ml_Mod_238 (by decide) hZ2.1 rfl (by omega) rfl rfl (Nat.le_of_ble_eq_true rfl) d_Mod_list_188) (fun E188 hp188 => ?_)
          obtain ⟨hZ188, hF188⟩ := hp188
          have hf188 : frN z 476 E E188 := hfr2.trans hF188
          refine g_aload_n (pc := 191) C d_Mod_list_191 2 rfl ?_
          refine g_iload_n (pc := 192) C d_Mod_list_192 1 rfl ?_
          refine g_aload_n (pc := 193) C d_Mod_list_193 2 rfl ?_
          refine g_get (pc := 194) C fl_Mod_72 hZ188.1 (by omega) rfl d_Mod_list_194 ?_
          refine g_iload_n (pc := 197) C d_Mod_list_197 4 rfl ?_
          refine g_if_neB (pc := 198) C 205 d_Mod_list_198 (by decide) (fun h_198 => ?_) (fun h_198 => ?_)
          · skip
            refine g_iconst (pc := 205) (v := nI 0) C d_Mod_list_205 (by decide) ?_
            refine g_top (y := bI !de) (by rw [h_198]; rfl) ?_
            refine g_iconst (pc := 206) (v := nI 1) C d_Mod_list_206 (by decide) ?_
            refine g_top (y := bI true) (rfl) ?_
            refine g_ci (pc := 207) C (g_rV (As := [.int (nI i), .ref (ka K (z + 313)), .int (bI !de), .int (bI true)]) (rest := []) C (c_Mod_after _ K _ z tp ((o1 ++ [lo8 (nI 47)] ++ ms[i].1.drop 1) ++ [lo8 (nI 10)]) pa ta pr md ms ls kms kls bms bls ck vn tn mt hs bo vl hZ188 (z + 313) pa hZ188.2.2.2.2.2.2.2.1 (!de) true i hi) mw_Mod_after mo_Mod_after ml_Mod_242 (by decide) hZ188.1 rfl (by omega) rfl rfl (Nat.le_of_ble_eq_true rfl) d_Mod_list_207) (fun r207 E207 hp207 => ?_)
            rw [show r207 = fiI (bestF ms (selQ (askM (!de) true pa) (some ms[i].1)) ms.length) from hp207.1, hp207.2]
            refine g_istore_n (pc := 210) (lv' := [(3, .int (fiI (bestF ms (selQ (askM (!de) true pa) (some ms[i].1)) ms.length))), (5, .int (nI q)), (0, .ref (ka K z)), (1, .int (bI al)), (2, .int (bI de))]) C d_Mod_list_210 rfl (by decide) rfl ?_
            refine g_goto (pc := 211) C 67 d_Mod_list_211 (by decide) ?_
            refine g_lv [0, 2, 3, 4] rfl (ih (some ms[i].1) E188 _ hs3 hZ188 ?_ hf188)
            rw [if_pos h_127] at ho
            rw [← ho, lnL, lo8_10, show lo8 (nI 47) = 47 by decide]
            simp only [List.append_assoc]
          · skip
            refine g_iconst (pc := 201) (v := nI 1) C d_Mod_list_201 (by decide) ?_
            refine g_goto (pc := 202) C 206 d_Mod_list_202 (by decide) ?_
            refine g_top (y := bI !de) (by rw [h_198]; rfl) ?_
            refine g_iconst (pc := 206) (v := nI 1) C d_Mod_list_206 (by decide) ?_
            refine g_top (y := bI true) (rfl) ?_
            refine g_ci (pc := 207) C (g_rV (As := [.int (nI i), .ref (ka K (z + 313)), .int (bI !de), .int (bI true)]) (rest := []) C (c_Mod_after _ K _ z tp ((o1 ++ [lo8 (nI 47)] ++ ms[i].1.drop 1) ++ [lo8 (nI 10)]) pa ta pr md ms ls kms kls bms bls ck vn tn mt hs bo vl hZ188 (z + 313) pa hZ188.2.2.2.2.2.2.2.1 (!de) true i hi) mw_Mod_after mo_Mod_after ml_Mod_242 (by decide) hZ188.1 rfl (by omega) rfl rfl (Nat.le_of_ble_eq_true rfl) d_Mod_list_207) (fun r207 E207 hp207 => ?_)
            rw [show r207 = fiI (bestF ms (selQ (askM (!de) true pa) (some ms[i].1)) ms.length) from hp207.1, hp207.2]
            refine g_istore_n (pc := 210) (lv' := [(3, .int (fiI (bestF ms (selQ (askM (!de) true pa) (some ms[i].1)) ms.length))), (5, .int (nI q)), (0, .ref (ka K z)), (1, .int (bI al)), (2, .int (bI de))]) C d_Mod_list_210 rfl (by decide) rfl ?_
            refine g_goto (pc := 211) C 67 d_Mod_list_211 (by decide) ?_
            refine g_lv [0, 2, 3, 4] rfl (ih (some ms[i].1) E188 _ hs3 hZ188 ?_ hf188)
            rw [if_pos h_127] at ho
            rw [← ho, lnL, lo8_10, show lo8 (nI 47) = 47 by decide]
            simp only [List.append_assoc]
        · skip
          refine g_sipush (pc := 130) (v := nI 207) C d_Mod_list_130 (by decide) ?_
          refine g_iret (pc := 133) C hR d_Mod_list_133 ?_
          rw [if_neg (by omega)] at ho
          subst ho
          exact hfin E1 hZ1 hfr
      · skip
        refine g_goto (pc := 94) C 191 d_Mod_list_94 (by decide) ?_
        refine g_aload_n (pc := 191) C d_Mod_list_191 1 rfl ?_
        refine g_iload_n (pc := 192) C d_Mod_list_192 0 rfl ?_
        refine g_aload_n (pc := 193) C d_Mod_list_193 1 rfl ?_
        refine g_get (pc := 194) C fl_Mod_72 hZ1.1 (by omega) rfl d_Mod_list_194 ?_
        refine g_iload_n (pc := 197) C d_Mod_list_197 3 rfl ?_
        refine g_if_neB (pc := 198) C 205 d_Mod_list_198 (by decide) (fun h_198 => ?_) (fun h_198 => ?_)
        · skip
          refine g_iconst (pc := 205) (v := nI 0) C d_Mod_list_205 (by decide) ?_
          refine g_top (y := bI !de) (by rw [h_198]; rfl) ?_
          refine g_iconst (pc := 206) (v := nI 1) C d_Mod_list_206 (by decide) ?_
          refine g_top (y := bI true) (rfl) ?_
          refine g_ci (pc := 207) C (g_rV (As := [.int (nI i), .ref (ka K (z + 313)), .int (bI !de), .int (bI true)]) (rest := []) C (c_Mod_after _ K _ z tp o1 pa ta pr md ms ls kms kls bms bls ck vn tn mt hs bo vl hZ1 (z + 313) pa hZ1.2.2.2.2.2.2.2.1 (!de) true i hi) mw_Mod_after mo_Mod_after ml_Mod_242 (by decide) hZ1.1 rfl (by omega) rfl rfl (Nat.le_of_ble_eq_true rfl) d_Mod_list_207) (fun r207 E207 hp207 => ?_)
          rw [show r207 = fiI (bestF ms (selQ (askM (!de) true pa) (some ms[i].1)) ms.length) from hp207.1, hp207.2]
          refine g_istore_n (pc := 210) (lv' := [(3, .int (fiI (bestF ms (selQ (askM (!de) true pa) (some ms[i].1)) ms.length))), (0, .ref (ka K z)), (1, .int (bI al)), (2, .int (bI de))]) C d_Mod_list_210 rfl (by decide) rfl ?_
          refine g_goto (pc := 211) C 67 d_Mod_list_211 (by decide) ?_
          refine g_lv [0, 1, 2, 3] rfl (ih (some ms[i].1) E1 _ hs3 hZ1 ?_ hfr)
          rw [if_pos (by rw [h_72, h_91]; rfl)] at ho
          exact ho
        · skip
          refine g_iconst (pc := 201) (v := nI 1) C d_Mod_list_201 (by decide) ?_
          refine g_goto (pc := 202) C 206 d_Mod_list_202 (by decide) ?_
          refine g_top (y := bI !de) (by rw [h_198]; rfl) ?_
          refine g_iconst (pc := 206) (v := nI 1) C d_Mod_list_206 (by decide) ?_
          refine g_top (y := bI true) (rfl) ?_
          refine g_ci (pc := 207) C (g_rV (As := [.int (nI i), .ref (ka K (z + 313)), .int (bI !de), .int (bI true)]) (rest := []) C (c_Mod_after _ K _ z tp o1 pa ta pr md ms ls kms kls bms bls ck vn tn mt hs bo vl hZ1 (z + 313) pa hZ1.2.2.2.2.2.2.2.1 (!de) true i hi) mw_Mod_after mo_Mod_after ml_Mod_242 (by decide) hZ1.1 rfl (by omega) rfl rfl (Nat.le_of_ble_eq_true rfl) d_Mod_list_207) (fun r207 E207 hp207 => ?_)
          rw [show r207 = fiI (bestF ms (selQ (askM (!de) true pa) (some ms[i].1)) ms.length) from hp207.1, hp207.2]
          refine g_istore_n (pc := 210) (lv' := [(3, .int (fiI (bestF ms (selQ (askM (!de) true pa) (some ms[i].1)) ms.length))), (0, .ref (ka K z)), (1, .int (bI al)), (2, .int (bI de))]) C d_Mod_list_210 rfl (by decide) rfl ?_
          refine g_goto (pc := 211) C 67 d_Mod_list_211 (by decide) ?_
          refine g_lv [0, 1, 2, 3] rfl (ih (some ms[i].1) E1 _ hs3 hZ1 ?_ hfr)
          rw [if_pos (by rw [h_72, h_91]; rfl)] at ho
          exact ho

set_option maxHeartbeats 4000000 in
set_option maxRecDepth 100000 in
theorem c_Mod_list (l : Launch) (K : gK) (E : gE) (z : Nat) (tp os pa ta pr md : Bs) (ms : List Me) (ls : List Lk) (kms : List Me) (kls : List Lk) (bms : List Me) (bls : List Lk) (ck vn tn : Int32) (mt hs bo : Nat) (vl : Nat → Int32) (hZ : isZ K E z tp os pa ta pr md ms ls kms kls bms bls ck vn tn mt hs bo vl) (hh : hs < 256) (xs : List Me) (hxs : sch ms (askM (!(bitN hs 0 && decide (vl 0 = -1))) true pa) none xs) : gMi l y_Mod_list b_Mod_list 6 .int 4 256 K E [.ref (ka K z)] (fun r E' => r = nI 207 ∧ isZ K E' z tp (lstM (bitN hs 0 && decide (vl 0 = 0)) pa os xs) pa ta pr md ms ls kms kls bms bls ck vn tn mt hs bo vl ∧ frN z 476 E E') := by
  have hzN := hZ.2.2.2.2.2.2.2.2.2.2.2.2.2
  have htl := hZ.2.2.2.1.1
  have hol := hZ.2.2.2.2.1.1
  have hnm := hZ.2.1.lim
  have hkm := hZ.2.2.1.lim
  have hbm := hZ.2.2.2.2.2.2.2.2.2.2.2.1.lim
  have hpal := hZ.2.2.2.2.2.2.2.1.2.1
  have htal := hZ.2.2.2.2.2.2.2.2.1.2.1
  have hprl := hZ.2.2.2.2.2.2.2.2.2.2.1.2.1
  have hmdl := hZ.2.2.2.2.2.2.2.2.2.2.2.2.1.2.1
  refine g_meti (by decide +kernel) (Nat.le_of_ble_eq_true rfl) (fun X hl C hR => ?_)
  subst hl
  show gW X K E 0 [(0, .ref (ka K z))] []
  refine g_aload_n (pc := 0) C d_Mod_list_0 0 rfl ?_
  refine g_iconst (pc := 1) (v := nI 0) C d_Mod_list_1 (by decide) ?_
  refine g_ci (pc := 2) C (g_rV (As := [.int (nI 0)]) (rest := []) C (c_Mod_has _ K _ z tp os pa ta pr md ms ls kms kls bms bls ck vn tn mt hs bo vl hZ hh 0 (by decide)) mw_Mod_has mo_Mod_has ml_Mod_168 (by decide) hZ.1 rfl (by omega) rfl rfl (Nat.le_of_ble_eq_true rfl) d_Mod_list_2) (fun r2 E2 hp2 => ?_)
  rw [show r2 = bI (bitN hs 0) from hp2.1, hp2.2]
  refine g_if_eqB (pc := 5) C 21 d_Mod_list_5 (by decide) (fun h_5 => ?_) (fun h_5 => ?_)
  · skip
    refine g_iconst (pc := 21) (v := nI 0) C d_Mod_list_21 (by decide) ?_
    refine g_top (y := bI (bitN hs 0 && decide (vl 0 = 0))) (by
  first
    | (rw [h_5]; rfl)
    | (rw [h_5, decide_eq_true h_14]; rfl)
    | (rw [h_5, decide_eq_false h_14]; rfl)) ?_
    refine g_istore_n (pc := 22) (lv' := [(1, .int (bI (bitN hs 0 && decide (vl 0 = 0)))), (0, .ref (ka K z))]) C d_Mod_list_22 rfl (by decide) rfl ?_
    refine g_aload_n (pc := 23) C d_Mod_list_23 1 rfl ?_
    refine g_iconst (pc := 24) (v := nI 0) C d_Mod_list_24 (by decide) ?_
    refine g_ci (pc := 25) C (g_rV (As := [.int (nI 0)]) (rest := []) C (c_Mod_has _ K _ z tp os pa ta pr md ms ls kms kls bms bls ck vn tn mt hs bo vl hZ hh 0 (by decide)) mw_Mod_has mo_Mod_has ml_Mod_168 (by decide) hZ.1 rfl (by omega) rfl rfl (Nat.le_of_ble_eq_true rfl) d_Mod_list_25) (fun r25 E25 hp25 => ?_)
    rw [show r25 = bI (bitN hs 0) from hp25.1, hp25.2]
    refine g_if_eqB (pc := 28) C 45 d_Mod_list_28 (by decide) (fun h_28 => ?_) (fun h_28 => ?_)
    · skip
      refine g_iconst (pc := 45) (v := nI 0) C d_Mod_list_45 (by decide) ?_
      refine g_top (y := bI (bitN hs 0 && decide (vl 0 = -1))) (by
  first
    | (rw [h_28]; rfl)
    | (rw [h_28, decide_eq_true h_38]; rfl)
    | (rw [h_28, decide_eq_false h_38]; rfl)) ?_
      refine g_istore_n (pc := 46) (lv' := [(2, .int (bI (bitN hs 0 && decide (vl 0 = -1)))), (1, .int (bI (bitN hs 0 && decide (vl 0 = 0)))), (0, .ref (ka K z))]) C d_Mod_list_46 rfl (by decide) rfl ?_
      refine g_aload_n (pc := 47) C d_Mod_list_47 2 rfl ?_
      refine g_iconst (pc := 48) (v := -1) C d_Mod_list_48 (by decide) ?_
      refine g_aload_n (pc := 49) C d_Mod_list_49 2 rfl ?_
      refine g_get (pc := 50) C fl_Mod_72 hZ.1 (by omega) rfl d_Mod_list_50 ?_
      refine g_iload_n (pc := 53) C d_Mod_list_53 0 rfl ?_
      refine g_if_neB (pc := 54) C 61 d_Mod_list_54 (by decide) (fun h_54 => ?_) (fun h_54 => ?_)
      · skip
        refine g_iconst (pc := 61) (v := nI 0) C d_Mod_list_61 (by decide) ?_
        refine g_top (y := bI (!(bitN hs 0 && decide (vl 0 = -1)))) (by rw [h_54]; rfl) ?_
        refine g_iconst (pc := 62) (v := nI 1) C d_Mod_list_62 (by decide) ?_
        refine g_top (y := bI true) (rfl) ?_
        refine g_ci (pc := 63) C (g_rV (As := [.int (-1), .ref (ka K (z + 313)), .int (bI (!(bitN hs 0 && decide (vl 0 = -1)))), .int (bI true)]) (rest := []) C (c_Mod_after_n _ K _ z tp os pa ta pr md ms ls kms kls bms bls ck vn tn mt hs bo vl hZ (z + 313) pa hZ.2.2.2.2.2.2.2.1 (!(bitN hs 0 && decide (vl 0 = -1))) true) mw_Mod_after mo_Mod_after ml_Mod_242 (by decide) hZ.1 rfl (by omega) rfl rfl (Nat.le_of_ble_eq_true rfl) d_Mod_list_63) (fun r63 E63 hp63 => ?_)
        rw [show r63 = fiI (bestF ms (selQ (askM (!(bitN hs 0 && decide (vl 0 = -1))) true pa) none) ms.length) from hp63.1, hp63.2]
        refine g_istore_n (pc := 66) (lv' := [(3, .int (fiI (bestF ms (selQ (askM (!(bitN hs 0 && decide (vl 0 = -1))) true pa) none) ms.length))), (2, .int (bI (bitN hs 0 && decide (vl 0 = -1)))), (1, .int (bI (bitN hs 0 && decide (vl 0 = 0)))), (0, .ref (ka K z))]) C d_Mod_list_66 rfl (by decide) rfl ?_
        exact g_lv [0, 3, 2, 1] rfl (w_Z_list67 C E z tp os pa ta pr md ms ls kms kls bms bls ck vn tn mt hs bo vl (bitN hs 0 && decide (vl 0 = 0)) (bitN hs 0 && decide (vl 0 = -1)) _ _ (fun E' y1 y2 => ⟨rfl, y1, y2⟩) hR xs none E os hxs hZ rfl frN.refl)
      · skip
        refine g_iconst (pc := 57) (v := nI 1) C d_Mod_list_57 (by decide) ?_
        refine g_goto (pc := 58) C 62 d_Mod_list_58 (by decide) ?_
        refine g_top (y := bI (!(bitN hs 0 && decide (vl 0 = -1)))) (by rw [h_54]; rfl) ?_
        refine g_iconst (pc := 62) (v := nI 1) C d_Mod_list_62 (by decide) ?_
        refine g_top (y := bI true) (rfl) ?_
        refine g_ci (pc := 63) C (g_rV (As := [.int (-1), .ref (ka K (z + 313)), .int (bI (!(bitN hs 0 && decide (vl 0 = -1)))), .int (bI true)]) (rest := []) C (c_Mod_after_n _ K _ z tp os pa ta pr md ms ls kms kls bms bls ck vn tn mt hs bo vl hZ (z + 313) pa hZ.2.2.2.2.2.2.2.1 (!(bitN hs 0 && decide (vl 0 = -1))) true) mw_Mod_after mo_Mod_after ml_Mod_242 (by decide) hZ.1 rfl (by omega) rfl rfl (Nat.le_of_ble_eq_true rfl) d_Mod_list_63) (fun r63 E63 hp63 => ?_)
        rw [show r63 = fiI (bestF ms (selQ (askM (!(bitN hs 0 && decide (vl 0 = -1))) true pa) none) ms.length) from hp63.1, hp63.2]
        refine g_istore_n (pc := 66) (lv' := [(3, .int (fiI (bestF ms (selQ (askM (!(bitN hs 0 && decide (vl 0 = -1))) true pa) none) ms.length))), (2, .int (bI (bitN hs 0 && decide (vl 0 = -1)))), (1, .int (bI (bitN hs 0 && decide (vl 0 = 0)))), (0, .ref (ka K z))]) C d_Mod_list_66 rfl (by decide) rfl ?_
        exact g_lv [0, 3, 2, 1] rfl (w_Z_list67 C E z tp os pa ta pr md ms ls kms kls bms bls ck vn tn mt hs bo vl (bitN hs 0 && decide (vl 0 = 0)) (bitN hs 0 && decide (vl 0 = -1)) _ _ (fun E' y1 y2 => ⟨rfl, y1, y2⟩) hR xs none E os hxs hZ rfl frN.refl)
    · skip
      refine g_aload_n (pc := 31) C d_Mod_list_31 1 rfl ?_
      refine g_get (pc := 32) C fl_Mod_78 hZ.1 (by omega) rfl d_Mod_list_32 ?_
      refine g_iconst (pc := 35) (v := nI 0) C d_Mod_list_35 (by decide) ?_
      refine g_ialdN (pc := 36) C hZ.2.2.2.2.2.2.2.2.2.1 (by omega) (gt_I _) (by omega) (by omega) d_Mod_list_36 ?_
      refine g_iconst (pc := 37) (v := -1) C d_Mod_list_37 (by decide) ?_
      refine g_icmp_ne (pc := 38) C 45 d_Mod_list_38 (by decide) (fun h_38 => ?_) (fun h_38 => ?_)
      · skip
        refine g_iconst (pc := 45) (v := nI 0) C d_Mod_list_45 (by decide) ?_
        refine g_top (y := bI (bitN hs 0 && decide (vl 0 = -1))) (by
  first
    | (rw [h_28]; rfl)
    | (rw [h_28, decide_eq_true h_38]; rfl)
    | (rw [h_28, decide_eq_false h_38]; rfl)) ?_
        refine g_istore_n (pc := 46) (lv' := [(2, .int (bI (bitN hs 0 && decide (vl 0 = -1)))), (1, .int (bI (bitN hs 0 && decide (vl 0 = 0)))), (0, .ref (ka K z))]) C d_Mod_list_46 rfl (by decide) rfl ?_
        refine g_aload_n (pc := 47) C d_Mod_list_47 2 rfl ?_
        refine g_iconst (pc := 48) (v := -1) C d_Mod_list_48 (by decide) ?_
        refine g_aload_n (pc := 49) C d_Mod_list_49 2 rfl ?_
        refine g_get (pc := 50) C fl_Mod_72 hZ.1 (by omega) rfl d_Mod_list_50 ?_
        refine g_iload_n (pc := 53) C d_Mod_list_53 0 rfl ?_
        refine g_if_neB (pc := 54) C 61 d_Mod_list_54 (by decide) (fun h_54 => ?_) (fun h_54 => ?_)
        · skip
          refine g_iconst (pc := 61) (v := nI 0) C d_Mod_list_61 (by decide) ?_
          refine g_top (y := bI (!(bitN hs 0 && decide (vl 0 = -1)))) (by rw [h_54]; rfl) ?_
          refine g_iconst (pc := 62) (v := nI 1) C d_Mod_list_62 (by decide) ?_
          refine g_top (y := bI true) (rfl) ?_
          refine g_ci (pc := 63) C (g_rV (As := [.int (-1), .ref (ka K (z + 313)), .int (bI (!(bitN hs 0 && decide (vl 0 = -1)))), .int (bI true)]) (rest := []) C (c_Mod_after_n _ K _ z tp os pa ta pr md ms ls kms kls bms bls ck vn tn mt hs bo vl hZ (z + 313) pa hZ.2.2.2.2.2.2.2.1 (!(bitN hs 0 && decide (vl 0 = -1))) true) mw_Mod_after mo_Mod_after ml_Mod_242 (by decide) hZ.1 rfl (by omega) rfl rfl (Nat.le_of_ble_eq_true rfl) d_Mod_list_63) (fun r63 E63 hp63 => ?_)
          rw [show r63 = fiI (bestF ms (selQ (askM (!(bitN hs 0 && decide (vl 0 = -1))) true pa) none) ms.length) from hp63.1, hp63.2]
          refine g_istore_n (pc := 66) (lv' := [(3, .int (fiI (bestF ms (selQ (askM (!(bitN hs 0 && decide (vl 0 = -1))) true pa) none) ms.length))), (2, .int (bI (bitN hs 0 && decide (vl 0 = -1)))), (1, .int (bI (bitN hs 0 && decide (vl 0 = 0)))), (0, .ref (ka K z))]) C d_Mod_list_66 rfl (by decide) rfl ?_
          exact g_lv [0, 3, 2, 1] rfl (w_Z_list67 C E z tp os pa ta pr md ms ls kms kls bms bls ck vn tn mt hs bo vl (bitN hs 0 && decide (vl 0 = 0)) (bitN hs 0 && decide (vl 0 = -1)) _ _ (fun E' y1 y2 => ⟨rfl, y1, y2⟩) hR xs none E os hxs hZ rfl frN.refl)
        · skip
          refine g_iconst (pc := 57) (v := nI 1) C d_Mod_list_57 (by decide) ?_
          refine g_goto (pc := 58) C 62 d_Mod_list_58 (by decide) ?_
          refine g_top (y := bI (!(bitN hs 0 && decide (vl 0 = -1)))) (by rw [h_54]; rfl) ?_
          refine g_iconst (pc := 62) (v := nI 1) C d_Mod_list_62 (by decide) ?_
          refine g_top (y := bI true) (rfl) ?_
          refine g_ci (pc := 63) C (g_rV (As := [.int (-1), .ref (ka K (z + 313)), .int (bI (!(bitN hs 0 && decide (vl 0 = -1)))), .int (bI true)]) (rest := []) C (c_Mod_after_n _ K _ z tp os pa ta pr md ms ls kms kls bms bls ck vn tn mt hs bo vl hZ (z + 313) pa hZ.2.2.2.2.2.2.2.1 (!(bitN hs 0 && decide (vl 0 = -1))) true) mw_Mod_after mo_Mod_after ml_Mod_242 (by decide) hZ.1 rfl (by omega) rfl rfl (Nat.le_of_ble_eq_true rfl) d_Mod_list_63) (fun r63 E63 hp63 => ?_)
          rw [show r63 = fiI (bestF ms (selQ (askM (!(bitN hs 0 && decide (vl 0 = -1))) true pa) none) ms.length) from hp63.1, hp63.2]
          refine g_istore_n (pc := 66) (lv' := [(3, .int (fiI (bestF ms (selQ (askM (!(bitN hs 0 && decide (vl 0 = -1))) true pa) none) ms.length))), (2, .int (bI (bitN hs 0 && decide (vl 0 = -1)))), (1, .int (bI (bitN hs 0 && decide (vl 0 = 0)))), (0, .ref (ka K z))]) C d_Mod_list_66 rfl (by decide) rfl ?_
          exact g_lv [0, 3, 2, 1] rfl (w_Z_list67 C E z tp os pa ta pr md ms ls kms kls bms bls ck vn tn mt hs bo vl (bitN hs 0 && decide (vl 0 = 0)) (bitN hs 0 && decide (vl 0 = -1)) _ _ (fun E' y1 y2 => ⟨rfl, y1, y2⟩) hR xs none E os hxs hZ rfl frN.refl)
      · skip
        refine g_iconst (pc := 41) (v := nI 1) C d_Mod_list_41 (by decide) ?_
        refine g_goto (pc := 42) C 46 d_Mod_list_42 (by decide) ?_
        refine g_top (y := bI (bitN hs 0 && decide (vl 0 = -1))) (by
  first
    | (rw [h_28]; rfl)
    | (rw [h_28, decide_eq_true h_38]; rfl)
    | (rw [h_28, decide_eq_false h_38]; rfl)) ?_
        refine g_istore_n (pc := 46) (lv' := [(2, .int (bI (bitN hs 0 && decide (vl 0 = -1)))), (1, .int (bI (bitN hs 0 && decide (vl 0 = 0)))), (0, .ref (ka K z))]) C d_Mod_list_46 rfl (by decide) rfl ?_
        refine g_aload_n (pc := 47) C d_Mod_list_47 2 rfl ?_
        refine g_iconst (pc := 48) (v := -1) C d_Mod_list_48 (by decide) ?_
        refine g_aload_n (pc := 49) C d_Mod_list_49 2 rfl ?_
        refine g_get (pc := 50) C fl_Mod_72 hZ.1 (by omega) rfl d_Mod_list_50 ?_
        refine g_iload_n (pc := 53) C d_Mod_list_53 0 rfl ?_
        refine g_if_neB (pc := 54) C 61 d_Mod_list_54 (by decide) (fun h_54 => ?_) (fun h_54 => ?_)
        · skip
          refine g_iconst (pc := 61) (v := nI 0) C d_Mod_list_61 (by decide) ?_
          refine g_top (y := bI (!(bitN hs 0 && decide (vl 0 = -1)))) (by rw [h_54]; rfl) ?_
          refine g_iconst (pc := 62) (v := nI 1) C d_Mod_list_62 (by decide) ?_
          refine g_top (y := bI true) (rfl) ?_
          refine g_ci (pc := 63) C (g_rV (As := [.int (-1), .ref (ka K (z + 313)), .int (bI (!(bitN hs 0 && decide (vl 0 = -1)))), .int (bI true)]) (rest := []) C (c_Mod_after_n _ K _ z tp os pa ta pr md ms ls kms kls bms bls ck vn tn mt hs bo vl hZ (z + 313) pa hZ.2.2.2.2.2.2.2.1 (!(bitN hs 0 && decide (vl 0 = -1))) true) mw_Mod_after mo_Mod_after ml_Mod_242 (by decide) hZ.1 rfl (by omega) rfl rfl (Nat.le_of_ble_eq_true rfl) d_Mod_list_63) (fun r63 E63 hp63 => ?_)
          rw [show r63 = fiI (bestF ms (selQ (askM (!(bitN hs 0 && decide (vl 0 = -1))) true pa) none) ms.length) from hp63.1, hp63.2]
          refine g_istore_n (pc := 66) (lv' := [(3, .int (fiI (bestF ms (selQ (askM (!(bitN hs 0 && decide (vl 0 = -1))) true pa) none) ms.length))), (2, .int (bI (bitN hs 0 && decide (vl 0 = -1)))), (1, .int (bI (bitN hs 0 && decide (vl 0 = 0)))), (0, .ref (ka K z))]) C d_Mod_list_66 rfl (by decide) rfl ?_
          exact g_lv [0, 3, 2, 1] rfl (w_Z_list67 C E z tp os pa ta pr md ms ls kms kls bms bls ck vn tn mt hs bo vl (bitN hs 0 && decide (vl 0 = 0)) (bitN hs 0 && decide (vl 0 = -1)) _ _ (fun E' y1 y2 => ⟨rfl, y1, y2⟩) hR xs none E os hxs hZ rfl frN.refl)
        · skip
          refine g_iconst (pc := 57) (v := nI 1) C d_Mod_list_57 (by decide) ?_
          refine g_goto (pc := 58) C 62 d_Mod_list_58 (by decide) ?_
          refine g_top (y := bI (!(bitN hs 0 && decide (vl 0 = -1)))) (by rw [h_54]; rfl) ?_
          refine g_iconst (pc := 62) (v := nI 1) C d_Mod_list_62 (by decide) ?_
          refine g_top (y := bI true) (rfl) ?_
          refine g_ci (pc := 63) C (g_rV (As := [.int (-1), .ref (ka K (z + 313)), .int (bI (!(bitN hs 0 && decide (vl 0 = -1)))), .int (bI true)]) (rest := []) C (c_Mod_after_n _ K _ z tp os pa ta pr md ms ls kms kls bms bls ck vn tn mt hs bo vl hZ (z + 313) pa hZ.2.2.2.2.2.2.2.1 (!(bitN hs 0 && decide (vl 0 = -1))) true) mw_Mod_after mo_Mod_after ml_Mod_242 (by decide) hZ.1 rfl (by omega) rfl rfl (Nat.le_of_ble_eq_true rfl) d_Mod_list_63) (fun r63 E63 hp63 => ?_)
          rw [show r63 = fiI (bestF ms (selQ (askM (!(bitN hs 0 && decide (vl 0 = -1))) true pa) none) ms.length) from hp63.1, hp63.2]
          refine g_istore_n (pc := 66) (lv' := [(3, .int (fiI (bestF ms (selQ (askM (!(bitN hs 0 && decide (vl 0 = -1))) true pa) none) ms.length))), (2, .int (bI (bitN hs 0 && decide (vl 0 = -1)))), (1, .int (bI (bitN hs 0 && decide (vl 0 = 0)))), (0, .ref (ka K z))]) C d_Mod_list_66 rfl (by decide) rfl ?_
          exact g_lv [0, 3, 2, 1] rfl (w_Z_list67 C E z tp os pa ta pr md ms ls kms kls bms bls ck vn tn mt hs bo vl (bitN hs 0 && decide (vl 0 = 0)) (bitN hs 0 && decide (vl 0 = -1)) _ _ (fun E' y1 y2 => ⟨rfl, y1, y2⟩) hR xs none E os hxs hZ rfl frN.refl)
  · skip
    refine g_aload_n (pc := 8) C d_Mod_list_8 0 rfl ?_
    refine g_get (pc := 9) C fl_Mod_78 hZ.1 (by omega) rfl d_Mod_list_9 ?_
    refine g_iconst (pc := 12) (v := nI 0) C d_Mod_list_12 (by decide) ?_
    refine g_ialdN (pc := 13) C hZ.2.2.2.2.2.2.2.2.2.1 (by omega) (gt_I _) (by omega) (by omega) d_Mod_list_13 ?_
    refine g_if_ne (pc := 14) C 21 d_Mod_list_14 (by decide) (fun h_14 => ?_) (fun h_14 => ?_)
    · skip
      refine g_iconst (pc := 21) (v := nI 0) C d_Mod_list_21 (by decide) ?_
      refine g_top (y := bI (bitN hs 0 && decide (vl 0 = 0))) (by
  first
    | (rw [h_5]; rfl)
    | (rw [h_5, decide_eq_true h_14]; rfl)
    | (rw [h_5, decide_eq_false h_14]; rfl)) ?_
      refine g_istore_n (pc := 22) (lv' := [(1, .int (bI (bitN hs 0 && decide (vl 0 = 0)))), (0, .ref (ka K z))]) C d_Mod_list_22 rfl (by decide) rfl ?_
      refine g_aload_n (pc := 23) C d_Mod_list_23 1 rfl ?_
      refine g_iconst (pc := 24) (v := nI 0) C d_Mod_list_24 (by decide) ?_
      refine g_ci (pc := 25) C (g_rV (As := [.int (nI 0)]) (rest := []) C (c_Mod_has _ K _ z tp os pa ta pr md ms ls kms kls bms bls ck vn tn mt hs bo vl hZ hh 0 (by decide)) mw_Mod_has mo_Mod_has ml_Mod_168 (by decide) hZ.1 rfl (by omega) rfl rfl (Nat.le_of_ble_eq_true rfl) d_Mod_list_25) (fun r25 E25 hp25 => ?_)
      rw [show r25 = bI (bitN hs 0) from hp25.1, hp25.2]
      refine g_if_eqB (pc := 28) C 45 d_Mod_list_28 (by decide) (fun h_28 => ?_) (fun h_28 => ?_)
      · skip
        refine g_iconst (pc := 45) (v := nI 0) C d_Mod_list_45 (by decide) ?_
        refine g_top (y := bI (bitN hs 0 && decide (vl 0 = -1))) (by
  first
    | (rw [h_28]; rfl)
    | (rw [h_28, decide_eq_true h_38]; rfl)
    | (rw [h_28, decide_eq_false h_38]; rfl)) ?_
        refine g_istore_n (pc := 46) (lv' := [(2, .int (bI (bitN hs 0 && decide (vl 0 = -1)))), (1, .int (bI (bitN hs 0 && decide (vl 0 = 0)))), (0, .ref (ka K z))]) C d_Mod_list_46 rfl (by decide) rfl ?_
        refine g_aload_n (pc := 47) C d_Mod_list_47 2 rfl ?_
        refine g_iconst (pc := 48) (v := -1) C d_Mod_list_48 (by decide) ?_
        refine g_aload_n (pc := 49) C d_Mod_list_49 2 rfl ?_
        refine g_get (pc := 50) C fl_Mod_72 hZ.1 (by omega) rfl d_Mod_list_50 ?_
        refine g_iload_n (pc := 53) C d_Mod_list_53 0 rfl ?_
        refine g_if_neB (pc := 54) C 61 d_Mod_list_54 (by decide) (fun h_54 => ?_) (fun h_54 => ?_)
        · skip
          refine g_iconst (pc := 61) (v := nI 0) C d_Mod_list_61 (by decide) ?_
          refine g_top (y := bI (!(bitN hs 0 && decide (vl 0 = -1)))) (by rw [h_54]; rfl) ?_
          refine g_iconst (pc := 62) (v := nI 1) C d_Mod_list_62 (by decide) ?_
          refine g_top (y := bI true) (rfl) ?_
          refine g_ci (pc := 63) C (g_rV (As := [.int (-1), .ref (ka K (z + 313)), .int (bI (!(bitN hs 0 && decide (vl 0 = -1)))), .int (bI true)]) (rest := []) C (c_Mod_after_n _ K _ z tp os pa ta pr md ms ls kms kls bms bls ck vn tn mt hs bo vl hZ (z + 313) pa hZ.2.2.2.2.2.2.2.1 (!(bitN hs 0 && decide (vl 0 = -1))) true) mw_Mod_after mo_Mod_after ml_Mod_242 (by decide) hZ.1 rfl (by omega) rfl rfl (Nat.le_of_ble_eq_true rfl) d_Mod_list_63) (fun r63 E63 hp63 => ?_)
          rw [show r63 = fiI (bestF ms (selQ (askM (!(bitN hs 0 && decide (vl 0 = -1))) true pa) none) ms.length) from hp63.1, hp63.2]
          refine g_istore_n (pc := 66) (lv' := [(3, .int (fiI (bestF ms (selQ (askM (!(bitN hs 0 && decide (vl 0 = -1))) true pa) none) ms.length))), (2, .int (bI (bitN hs 0 && decide (vl 0 = -1)))), (1, .int (bI (bitN hs 0 && decide (vl 0 = 0)))), (0, .ref (ka K z))]) C d_Mod_list_66 rfl (by decide) rfl ?_
          exact g_lv [0, 3, 2, 1] rfl (w_Z_list67 C E z tp os pa ta pr md ms ls kms kls bms bls ck vn tn mt hs bo vl (bitN hs 0 && decide (vl 0 = 0)) (bitN hs 0 && decide (vl 0 = -1)) _ _ (fun E' y1 y2 => ⟨rfl, y1, y2⟩) hR xs none E os hxs hZ rfl frN.refl)
        · skip
          refine g_iconst (pc := 57) (v := nI 1) C d_Mod_list_57 (by decide) ?_
          refine g_goto (pc := 58) C 62 d_Mod_list_58 (by decide) ?_
          refine g_top (y := bI (!(bitN hs 0 && decide (vl 0 = -1)))) (by rw [h_54]; rfl) ?_
          refine g_iconst (pc := 62) (v := nI 1) C d_Mod_list_62 (by decide) ?_
          refine g_top (y := bI true) (rfl) ?_
          refine g_ci (pc := 63) C (g_rV (As := [.int (-1), .ref (ka K (z + 313)), .int (bI (!(bitN hs 0 && decide (vl 0 = -1)))), .int (bI true)]) (rest := []) C (c_Mod_after_n _ K _ z tp os pa ta pr md ms ls kms kls bms bls ck vn tn mt hs bo vl hZ (z + 313) pa hZ.2.2.2.2.2.2.2.1 (!(bitN hs 0 && decide (vl 0 = -1))) true) mw_Mod_after mo_Mod_after ml_Mod_242 (by decide) hZ.1 rfl (by omega) rfl rfl (Nat.le_of_ble_eq_true rfl) d_Mod_list_63) (fun r63 E63 hp63 => ?_)
          rw [show r63 = fiI (bestF ms (selQ (askM (!(bitN hs 0 && decide (vl 0 = -1))) true pa) none) ms.length) from hp63.1, hp63.2]
          refine g_istore_n (pc := 66) (lv' := [(3, .int (fiI (bestF ms (selQ (askM (!(bitN hs 0 && decide (vl 0 = -1))) true pa) none) ms.length))), (2, .int (bI (bitN hs 0 && decide (vl 0 = -1)))), (1, .int (bI (bitN hs 0 && decide (vl 0 = 0)))), (0, .ref (ka K z))]) C d_Mod_list_66 rfl (by decide) rfl ?_
          exact g_lv [0, 3, 2, 1] rfl (w_Z_list67 C E z tp os pa ta pr md ms ls kms kls bms bls ck vn tn mt hs bo vl (bitN hs 0 && decide (vl 0 = 0)) (bitN hs 0 && decide (vl 0 = -1)) _ _ (fun E' y1 y2 => ⟨rfl, y1, y2⟩) hR xs none E os hxs hZ rfl frN.refl)
      · skip
        refine g_aload_n (pc := 31) C d_Mod_list_31 1 rfl ?_
        refine g_get (pc := 32) C fl_Mod_78 hZ.1 (by omega) rfl d_Mod_list_32 ?_
        refine g_iconst (pc := 35) (v := nI 0) C d_Mod_list_35 (by decide) ?_
        refine g_ialdN (pc := 36) C hZ.2.2.2.2.2.2.2.2.2.1 (by omega) (gt_I _) (by omega) (by omega) d_Mod_list_36 ?_
        refine g_iconst (pc := 37) (v := -1) C d_Mod_list_37 (by decide) ?_
        refine g_icmp_ne (pc := 38) C 45 d_Mod_list_38 (by decide) (fun h_38 => ?_) (fun h_38 => ?_)
        · skip
          refine g_iconst (pc := 45) (v := nI 0) C d_Mod_list_45 (by decide) ?_
          refine g_top (y := bI (bitN hs 0 && decide (vl 0 = -1))) (by
  first
    | (rw [h_28]; rfl)
    | (rw [h_28, decide_eq_true h_38]; rfl)
    | (rw [h_28, decide_eq_false h_38]; rfl)) ?_
          refine g_istore_n (pc := 46) (lv' := [(2, .int (bI (bitN hs 0 && decide (vl 0 = -1)))), (1, .int (bI (bitN hs 0 && decide (vl 0 = 0)))), (0, .ref (ka K z))]) C d_Mod_list_46 rfl (by decide) rfl ?_
          refine g_aload_n (pc := 47) C d_Mod_list_47 2 rfl ?_
          refine g_iconst (pc := 48) (v := -1) C d_Mod_list_48 (by decide) ?_
          refine g_aload_n (pc := 49) C d_Mod_list_49 2 rfl ?_
          refine g_get (pc := 50) C fl_Mod_72 hZ.1 (by omega) rfl d_Mod_list_50 ?_
          refine g_iload_n (pc := 53) C d_Mod_list_53 0 rfl ?_
          refine g_if_neB (pc := 54) C 61 d_Mod_list_54 (by decide) (fun h_54 => ?_) (fun h_54 => ?_)
          · skip
            refine g_iconst (pc := 61) (v := nI 0) C d_Mod_list_61 (by decide) ?_
            refine g_top (y := bI (!(bitN hs 0 && decide (vl 0 = -1)))) (by rw [h_54]; rfl) ?_
            refine g_iconst (pc := 62) (v := nI 1) C d_Mod_list_62 (by decide) ?_
            refine g_top (y := bI true) (rfl) ?_
            refine g_ci (pc := 63) C (g_rV (As := [.int (-1), .ref (ka K (z + 313)), .int (bI (!(bitN hs 0 && decide (vl 0 = -1)))), .int (bI true)]) (rest := []) C (c_Mod_after_n _ K _ z tp os pa ta pr md ms ls kms kls bms bls ck vn tn mt hs bo vl hZ (z + 313) pa hZ.2.2.2.2.2.2.2.1 (!(bitN hs 0 && decide (vl 0 = -1))) true) mw_Mod_after mo_Mod_after ml_Mod_242 (by decide) hZ.1 rfl (by omega) rfl rfl (Nat.le_of_ble_eq_true rfl) d_Mod_list_63) (fun r63 E63 hp63 => ?_)
            rw [show r63 = fiI (bestF ms (selQ (askM (!(bitN hs 0 && decide (vl 0 = -1))) true pa) none) ms.length) from hp63.1, hp63.2]
            refine g_istore_n (pc := 66) (lv' := [(3, .int (fiI (bestF ms (selQ (askM (!(bitN hs 0 && decide (vl 0 = -1))) true pa) none) ms.length))), (2, .int (bI (bitN hs 0 && decide (vl 0 = -1)))), (1, .int (bI (bitN hs 0 && decide (vl 0 = 0)))), (0, .ref (ka K z))]) C d_Mod_list_66 rfl (by decide) rfl ?_
            exact g_lv [0, 3, 2, 1] rfl (w_Z_list67 C E z tp os pa ta pr md ms ls kms kls bms bls ck vn tn mt hs bo vl (bitN hs 0 && decide (vl 0 = 0)) (bitN hs 0 && decide (vl 0 = -1)) _ _ (fun E' y1 y2 => ⟨rfl, y1, y2⟩) hR xs none E os hxs hZ rfl frN.refl)
          · skip
            refine g_iconst (pc := 57) (v := nI 1) C d_Mod_list_57 (by decide) ?_
            refine g_goto (pc := 58) C 62 d_Mod_list_58 (by decide) ?_
            refine g_top (y := bI (!(bitN hs 0 && decide (vl 0 = -1)))) (by rw [h_54]; rfl) ?_
            refine g_iconst (pc := 62) (v := nI 1) C d_Mod_list_62 (by decide) ?_
            refine g_top (y := bI true) (rfl) ?_
            refine g_ci (pc := 63) C (g_rV (As := [.int (-1), .ref (ka K (z + 313)), .int (bI (!(bitN hs 0 && decide (vl 0 = -1)))), .int (bI true)]) (rest := []) C (c_Mod_after_n _ K _ z tp os pa ta pr md ms ls kms kls bms bls ck vn tn mt hs bo vl hZ (z + 313) pa hZ.2.2.2.2.2.2.2.1 (!(bitN hs 0 && decide (vl 0 = -1))) true) mw_Mod_after mo_Mod_after ml_Mod_242 (by decide) hZ.1 rfl (by omega) rfl rfl (Nat.le_of_ble_eq_true rfl) d_Mod_list_63) (fun r63 E63 hp63 => ?_)
            rw [show r63 = fiI (bestF ms (selQ (askM (!(bitN hs 0 && decide (vl 0 = -1))) true pa) none) ms.length) from hp63.1, hp63.2]
            refine g_istore_n (pc := 66) (lv' := [(3, .int (fiI (bestF ms (selQ (askM (!(bitN hs 0 && decide (vl 0 = -1))) true pa) none) ms.length))), (2, .int (bI (bitN hs 0 && decide (vl 0 = -1)))), (1, .int (bI (bitN hs 0 && decide (vl 0 = 0)))), (0, .ref (ka K z))]) C d_Mod_list_66 rfl (by decide) rfl ?_
            exact g_lv [0, 3, 2, 1] rfl (w_Z_list67 C E z tp os pa ta pr md ms ls kms kls bms bls ck vn tn mt hs bo vl (bitN hs 0 && decide (vl 0 = 0)) (bitN hs 0 && decide (vl 0 = -1)) _ _ (fun E' y1 y2 => ⟨rfl, y1, y2⟩) hR xs none E os hxs hZ rfl frN.refl)
        · skip
          refine g_iconst (pc := 41) (v := nI 1) C d_Mod_list_41 (by decide) ?_
          refine g_goto (pc := 42) C 46 d_Mod_list_42 (by decide) ?_
          refine g_top (y := bI (bitN hs 0 && decide (vl 0 = -1))) (by
  first
    | (rw [h_28]; rfl)
    | (rw [h_28, decide_eq_true h_38]; rfl)
    | (rw [h_28, decide_eq_false h_38]; rfl)) ?_
          refine g_istore_n (pc := 46) (lv' := [(2, .int (bI (bitN hs 0 && decide (vl 0 = -1)))), (1, .int (bI (bitN hs 0 && decide (vl 0 = 0)))), (0, .ref (ka K z))]) C d_Mod_list_46 rfl (by decide) rfl ?_
          refine g_aload_n (pc := 47) C d_Mod_list_47 2 rfl ?_
          refine g_iconst (pc := 48) (v := -1) C d_Mod_list_48 (by decide) ?_
          refine g_aload_n (pc := 49) C d_Mod_list_49 2 rfl ?_
          refine g_get (pc := 50) C fl_Mod_72 hZ.1 (by omega) rfl d_Mod_list_50 ?_
          refine g_iload_n (pc := 53) C d_Mod_list_53 0 rfl ?_
          refine g_if_neB (pc := 54) C 61 d_Mod_list_54 (by decide) (fun h_54 => ?_) (fun h_54 => ?_)
          · skip
            refine g_iconst (pc := 61) (v := nI 0) C d_Mod_list_61 (by decide) ?_
            refine g_top (y := bI (!(bitN hs 0 && decide (vl 0 = -1)))) (by rw [h_54]; rfl) ?_
            refine g_iconst (pc := 62) (v := nI 1) C d_Mod_list_62 (by decide) ?_
            refine g_top (y := bI true) (rfl) ?_
            refine g_ci (pc := 63) C (g_rV (As := [.int (-1), .ref (ka K (z + 313)), .int (bI (!(bitN hs 0 && decide (vl 0 = -1)))), .int (bI true)]) (rest := []) C (c_Mod_after_n _ K _ z tp os pa ta pr md ms ls kms kls bms bls ck vn tn mt hs bo vl hZ (z + 313) pa hZ.2.2.2.2.2.2.2.1 (!(bitN hs 0 && decide (vl 0 = -1))) true) mw_Mod_after mo_Mod_after ml_Mod_242 (by decide) hZ.1 rfl (by omega) rfl rfl (Nat.le_of_ble_eq_true rfl) d_Mod_list_63) (fun r63 E63 hp63 => ?_)
            rw [show r63 = fiI (bestF ms (selQ (askM (!(bitN hs 0 && decide (vl 0 = -1))) true pa) none) ms.length) from hp63.1, hp63.2]
            refine g_istore_n (pc := 66) (lv' := [(3, .int (fiI (bestF ms (selQ (askM (!(bitN hs 0 && decide (vl 0 = -1))) true pa) none) ms.length))), (2, .int (bI (bitN hs 0 && decide (vl 0 = -1)))), (1, .int (bI (bitN hs 0 && decide (vl 0 = 0)))), (0, .ref (ka K z))]) C d_Mod_list_66 rfl (by decide) rfl ?_
            exact g_lv [0, 3, 2, 1] rfl (w_Z_list67 C E z tp os pa ta pr md ms ls kms kls bms bls ck vn tn mt hs bo vl (bitN hs 0 && decide (vl 0 = 0)) (bitN hs 0 && decide (vl 0 = -1)) _ _ (fun E' y1 y2 => ⟨rfl, y1, y2⟩) hR xs none E os hxs hZ rfl frN.refl)
          · skip
            refine g_iconst (pc := 57) (v := nI 1) C d_Mod_list_57 (by decide) ?_
            refine g_goto (pc := 58) C 62 d_Mod_list_58 (by decide) ?_
            refine g_top (y := bI (!(bitN hs 0 && decide (vl 0 = -1)))) (by rw [h_54]; rfl) ?_
            refine g_iconst (pc := 62) (v := nI 1) C d_Mod_list_62 (by decide) ?_
            refine g_top (y := bI true) (rfl) ?_
            refine g_ci (pc := 63) C (g_rV (As := [.int (-1), .ref (ka K (z + 313)), .int (bI (!(bitN hs 0 && decide (vl 0 = -1)))), .int (bI true)]) (rest := []) C (c_Mod_after_n _ K _ z tp os pa ta pr md ms ls kms kls bms bls ck vn tn mt hs bo vl hZ (z + 313) pa hZ.2.2.2.2.2.2.2.1 (!(bitN hs 0 && decide (vl 0 = -1))) true) mw_Mod_after mo_Mod_after ml_Mod_242 (by decide) hZ.1 rfl (by omega) rfl rfl (Nat.le_of_ble_eq_true rfl) d_Mod_list_63) (fun r63 E63 hp63 => ?_)
            rw [show r63 = fiI (bestF ms (selQ (askM (!(bitN hs 0 && decide (vl 0 = -1))) true pa) none) ms.length) from hp63.1, hp63.2]
            refine g_istore_n (pc := 66) (lv' := [(3, .int (fiI (bestF ms (selQ (askM (!(bitN hs 0 && decide (vl 0 = -1))) true pa) none) ms.length))), (2, .int (bI (bitN hs 0 && decide (vl 0 = -1)))), (1, .int (bI (bitN hs 0 && decide (vl 0 = 0)))), (0, .ref (ka K z))]) C d_Mod_list_66 rfl (by decide) rfl ?_
            exact g_lv [0, 3, 2, 1] rfl (w_Z_list67 C E z tp os pa ta pr md ms ls kms kls bms bls ck vn tn mt hs bo vl (bitN hs 0 && decide (vl 0 = 0)) (bitN hs 0 && decide (vl 0 = -1)) _ _ (fun E' y1 y2 => ⟨rfl, y1, y2⟩) hR xs none E os hxs hZ rfl frN.refl)
    · skip
      refine g_iconst (pc := 17) (v := nI 1) C d_Mod_list_17 (by decide) ?_
      refine g_goto (pc := 18) C 22 d_Mod_list_18 (by decide) ?_
      refine g_top (y := bI (bitN hs 0 && decide (vl 0 = 0))) (by
  first
    | (rw [h_5]; rfl)
    | (rw [h_5, decide_eq_true h_14]; rfl)
    | (rw [h_5, decide_eq_false h_14]; rfl)) ?_
      refine g_istore_n (pc := 22) (lv' := [(1, .int (bI (bitN hs 0 && decide (vl 0 = 0)))), (0, .ref (ka K z))]) C d_Mod_list_22 rfl (by decide) rfl ?_
      refine g_aload_n (pc := 23) C d_Mod_list_23 1 rfl ?_
      refine g_iconst (pc := 24) (v := nI 0) C d_Mod_list_24 (by decide) ?_
      refine g_ci (pc := 25) C (g_rV (As := [.int (nI 0)]) (rest := []) C (c_Mod_has _ K _ z tp os pa ta pr md ms ls kms kls bms bls ck vn tn mt hs bo vl hZ hh 0 (by decide)) mw_Mod_has mo_Mod_has ml_Mod_168 (by decide) hZ.1 rfl (by omega) rfl rfl (Nat.le_of_ble_eq_true rfl) d_Mod_list_25) (fun r25 E25 hp25 => ?_)
      rw [show r25 = bI (bitN hs 0) from hp25.1, hp25.2]
      refine g_if_eqB (pc := 28) C 45 d_Mod_list_28 (by decide) (fun h_28 => ?_) (fun h_28 => ?_)
      · skip
        refine g_iconst (pc := 45) (v := nI 0) C d_Mod_list_45 (by decide) ?_
        refine g_top (y := bI (bitN hs 0 && decide (vl 0 = -1))) (by
  first
    | (rw [h_28]; rfl)
    | (rw [h_28, decide_eq_true h_38]; rfl)
    | (rw [h_28, decide_eq_false h_38]; rfl)) ?_
        refine g_istore_n (pc := 46) (lv' := [(2, .int (bI (bitN hs 0 && decide (vl 0 = -1)))), (1, .int (bI (bitN hs 0 && decide (vl 0 = 0)))), (0, .ref (ka K z))]) C d_Mod_list_46 rfl (by decide) rfl ?_
        refine g_aload_n (pc := 47) C d_Mod_list_47 2 rfl ?_
        refine g_iconst (pc := 48) (v := -1) C d_Mod_list_48 (by decide) ?_
        refine g_aload_n (pc := 49) C d_Mod_list_49 2 rfl ?_
        refine g_get (pc := 50) C fl_Mod_72 hZ.1 (by omega) rfl d_Mod_list_50 ?_
        refine g_iload_n (pc := 53) C d_Mod_list_53 0 rfl ?_
        refine g_if_neB (pc := 54) C 61 d_Mod_list_54 (by decide) (fun h_54 => ?_) (fun h_54 => ?_)
        · skip
          refine g_iconst (pc := 61) (v := nI 0) C d_Mod_list_61 (by decide) ?_
          refine g_top (y := bI (!(bitN hs 0 && decide (vl 0 = -1)))) (by rw [h_54]; rfl) ?_
          refine g_iconst (pc := 62) (v := nI 1) C d_Mod_list_62 (by decide) ?_
          refine g_top (y := bI true) (rfl) ?_
          refine g_ci (pc := 63) C (g_rV (As := [.int (-1), .ref (ka K (z + 313)), .int (bI (!(bitN hs 0 && decide (vl 0 = -1)))), .int (bI true)]) (rest := []) C (c_Mod_after_n _ K _ z tp os pa ta pr md ms ls kms kls bms bls ck vn tn mt hs bo vl hZ (z + 313) pa hZ.2.2.2.2.2.2.2.1 (!(bitN hs 0 && decide (vl 0 = -1))) true) mw_Mod_after mo_Mod_after ml_Mod_242 (by decide) hZ.1 rfl (by omega) rfl rfl (Nat.le_of_ble_eq_true rfl) d_Mod_list_63) (fun r63 E63 hp63 => ?_)
          rw [show r63 = fiI (bestF ms (selQ (askM (!(bitN hs 0 && decide (vl 0 = -1))) true pa) none) ms.length) from hp63.1, hp63.2]
          refine g_istore_n (pc := 66) (lv' := [(3, .int (fiI (bestF ms (selQ (askM (!(bitN hs 0 && decide (vl 0 = -1))) true pa) none) ms.length))), (2, .int (bI (bitN hs 0 && decide (vl 0 = -1)))), (1, .int (bI (bitN hs 0 && decide (vl 0 = 0)))), (0, .ref (ka K z))]) C d_Mod_list_66 rfl (by decide) rfl ?_
          exact g_lv [0, 3, 2, 1] rfl (w_Z_list67 C E z tp os pa ta pr md ms ls kms kls bms bls ck vn tn mt hs bo vl (bitN hs 0 && decide (vl 0 = 0)) (bitN hs 0 && decide (vl 0 = -1)) _ _ (fun E' y1 y2 => ⟨rfl, y1, y2⟩) hR xs none E os hxs hZ rfl frN.refl)
        · skip
          refine g_iconst (pc := 57) (v := nI 1) C d_Mod_list_57 (by decide) ?_
          refine g_goto (pc := 58) C 62 d_Mod_list_58 (by decide) ?_
          refine g_top (y := bI (!(bitN hs 0 && decide (vl 0 = -1)))) (by rw [h_54]; rfl) ?_
          refine g_iconst (pc := 62) (v := nI 1) C d_Mod_list_62 (by decide) ?_
          refine g_top (y := bI true) (rfl) ?_
          refine g_ci (pc := 63) C (g_rV (As := [.int (-1), .ref (ka K (z + 313)), .int (bI (!(bitN hs 0 && decide (vl 0 = -1)))), .int (bI true)]) (rest := []) C (c_Mod_after_n _ K _ z tp os pa ta pr md ms ls kms kls bms bls ck vn tn mt hs bo vl hZ (z + 313) pa hZ.2.2.2.2.2.2.2.1 (!(bitN hs 0 && decide (vl 0 = -1))) true) mw_Mod_after mo_Mod_after ml_Mod_242 (by decide) hZ.1 rfl (by omega) rfl rfl (Nat.le_of_ble_eq_true rfl) d_Mod_list_63) (fun r63 E63 hp63 => ?_)
          rw [show r63 = fiI (bestF ms (selQ (askM (!(bitN hs 0 && decide (vl 0 = -1))) true pa) none) ms.length) from hp63.1, hp63.2]
          refine g_istore_n (pc := 66) (lv' := [(3, .int (fiI (bestF ms (selQ (askM (!(bitN hs 0 && decide (vl 0 = -1))) true pa) none) ms.length))), (2, .int (bI (bitN hs 0 && decide (vl 0 = -1)))), (1, .int (bI (bitN hs 0 && decide (vl 0 = 0)))), (0, .ref (ka K z))]) C d_Mod_list_66 rfl (by decide) rfl ?_
          exact g_lv [0, 3, 2, 1] rfl (w_Z_list67 C E z tp os pa ta pr md ms ls kms kls bms bls ck vn tn mt hs bo vl (bitN hs 0 && decide (vl 0 = 0)) (bitN hs 0 && decide (vl 0 = -1)) _ _ (fun E' y1 y2 => ⟨rfl, y1, y2⟩) hR xs none E os hxs hZ rfl frN.refl)
      · skip
        refine g_aload_n (pc := 31) C d_Mod_list_31 1 rfl ?_
        refine g_get (pc := 32) C fl_Mod_78 hZ.1 (by omega) rfl d_Mod_list_32 ?_
        refine g_iconst (pc := 35) (v := nI 0) C d_Mod_list_35 (by decide) ?_
        refine g_ialdN (pc := 36) C hZ.2.2.2.2.2.2.2.2.2.1 (by omega) (gt_I _) (by omega) (by omega) d_Mod_list_36 ?_
        refine g_iconst (pc := 37) (v := -1) C d_Mod_list_37 (by decide) ?_
        refine g_icmp_ne (pc := 38) C 45 d_Mod_list_38 (by decide) (fun h_38 => ?_) (fun h_38 => ?_)
        · skip
          refine g_iconst (pc := 45) (v := nI 0) C d_Mod_list_45 (by decide) ?_
          refine g_top (y := bI (bitN hs 0 && decide (vl 0 = -1))) (by
  first
    | (rw [h_28]; rfl)
    | (rw [h_28, decide_eq_true h_38]; rfl)
    | (rw [h_28, decide_eq_false h_38]; rfl)) ?_
          refine g_istore_n (pc := 46) (lv' := [(2, .int (bI (bitN hs 0 && decide (vl 0 = -1)))), (1, .int (bI (bitN hs 0 && decide (vl 0 = 0)))), (0, .ref (ka K z))]) C d_Mod_list_46 rfl (by decide) rfl ?_
          refine g_aload_n (pc := 47) C d_Mod_list_47 2 rfl ?_
          refine g_iconst (pc := 48) (v := -1) C d_Mod_list_48 (by decide) ?_
          refine g_aload_n (pc := 49) C d_Mod_list_49 2 rfl ?_
          refine g_get (pc := 50) C fl_Mod_72 hZ.1 (by omega) rfl d_Mod_list_50 ?_
          refine g_iload_n (pc := 53) C d_Mod_list_53 0 rfl ?_
          refine g_if_neB (pc := 54) C 61 d_Mod_list_54 (by decide) (fun h_54 => ?_) (fun h_54 => ?_)
          · skip
            refine g_iconst (pc := 61) (v := nI 0) C d_Mod_list_61 (by decide) ?_
            refine g_top (y := bI (!(bitN hs 0 && decide (vl 0 = -1)))) (by rw [h_54]; rfl) ?_
            refine g_iconst (pc := 62) (v := nI 1) C d_Mod_list_62 (by decide) ?_
            refine g_top (y := bI true) (rfl) ?_
            refine g_ci (pc := 63) C (g_rV (As := [.int (-1), .ref (ka K (z + 313)), .int (bI (!(bitN hs 0 && decide (vl 0 = -1)))), .int (bI true)]) (rest := []) C (c_Mod_after_n _ K _ z tp os pa ta pr md ms ls kms kls bms bls ck vn tn mt hs bo vl hZ (z + 313) pa hZ.2.2.2.2.2.2.2.1 (!(bitN hs 0 && decide (vl 0 = -1))) true) mw_Mod_after mo_Mod_after ml_Mod_242 (by decide) hZ.1 rfl (by omega) rfl rfl (Nat.le_of_ble_eq_true rfl) d_Mod_list_63) (fun r63 E63 hp63 => ?_)
            rw [show r63 = fiI (bestF ms (selQ (askM (!(bitN hs 0 && decide (vl 0 = -1))) true pa) none) ms.length) from hp63.1, hp63.2]
            refine g_istore_n (pc := 66) (lv' := [(3, .int (fiI (bestF ms (selQ (askM (!(bitN hs 0 && decide (vl 0 = -1))) true pa) none) ms.length))), (2, .int (bI (bitN hs 0 && decide (vl 0 = -1)))), (1, .int (bI (bitN hs 0 && decide (vl 0 = 0)))), (0, .ref (ka K z))]) C d_Mod_list_66 rfl (by decide) rfl ?_
            exact g_lv [0, 3, 2, 1] rfl (w_Z_list67 C E z tp os pa ta pr md ms ls kms kls bms bls ck vn tn mt hs bo vl (bitN hs 0 && decide (vl 0 = 0)) (bitN hs 0 && decide (vl 0 = -1)) _ _ (fun E' y1 y2 => ⟨rfl, y1, y2⟩) hR xs none E os hxs hZ rfl frN.refl)
          · skip
            refine g_iconst (pc := 57) (v := nI 1) C d_Mod_list_57 (by decide) ?_
            refine g_goto (pc := 58) C 62 d_Mod_list_58 (by decide) ?_
            refine g_top (y := bI (!(bitN hs 0 && decide (vl 0 = -1)))) (by rw [h_54]; rfl) ?_
            refine g_iconst (pc := 62) (v := nI 1) C d_Mod_list_62 (by decide) ?_
            refine g_top (y := bI true) (rfl) ?_
            refine g_ci (pc := 63) C (g_rV (As := [.int (-1), .ref (ka K (z + 313)), .int (bI (!(bitN hs 0 && decide (vl 0 = -1)))), .int (bI true)]) (rest := []) C (c_Mod_after_n _ K _ z tp os pa ta pr md ms ls kms kls bms bls ck vn tn mt hs bo vl hZ (z + 313) pa hZ.2.2.2.2.2.2.2.1 (!(bitN hs 0 && decide (vl 0 = -1))) true) mw_Mod_after mo_Mod_after ml_Mod_242 (by decide) hZ.1 rfl (by omega) rfl rfl (Nat.le_of_ble_eq_true rfl) d_Mod_list_63) (fun r63 E63 hp63 => ?_)
            rw [show r63 = fiI (bestF ms (selQ (askM (!(bitN hs 0 && decide (vl 0 = -1))) true pa) none) ms.length) from hp63.1, hp63.2]
            refine g_istore_n (pc := 66) (lv' := [(3, .int (fiI (bestF ms (selQ (askM (!(bitN hs 0 && decide (vl 0 = -1))) true pa) none) ms.length))), (2, .int (bI (bitN hs 0 && decide (vl 0 = -1)))), (1, .int (bI (bitN hs 0 && decide (vl 0 = 0)))), (0, .ref (ka K z))]) C d_Mod_list_66 rfl (by decide) rfl ?_
            exact g_lv [0, 3, 2, 1] rfl (w_Z_list67 C E z tp os pa ta pr md ms ls kms kls bms bls ck vn tn mt hs bo vl (bitN hs 0 && decide (vl 0 = 0)) (bitN hs 0 && decide (vl 0 = -1)) _ _ (fun E' y1 y2 => ⟨rfl, y1, y2⟩) hR xs none E os hxs hZ rfl frN.refl)
        · skip
          refine g_iconst (pc := 41) (v := nI 1) C d_Mod_list_41 (by decide) ?_
          refine g_goto (pc := 42) C 46 d_Mod_list_42 (by decide) ?_
          refine g_top (y := bI (bitN hs 0 && decide (vl 0 = -1))) (by
  first
    | (rw [h_28]; rfl)
    | (rw [h_28, decide_eq_true h_38]; rfl)
    | (rw [h_28, decide_eq_false h_38]; rfl)) ?_
          refine g_istore_n (pc := 46) (lv' := [(2, .int (bI (bitN hs 0 && decide (vl 0 = -1)))), (1, .int (bI (bitN hs 0 && decide (vl 0 = 0)))), (0, .ref (ka K z))]) C d_Mod_list_46 rfl (by decide) rfl ?_
          refine g_aload_n (pc := 47) C d_Mod_list_47 2 rfl ?_
          refine g_iconst (pc := 48) (v := -1) C d_Mod_list_48 (by decide) ?_
          refine g_aload_n (pc := 49) C d_Mod_list_49 2 rfl ?_
          refine g_get (pc := 50) C fl_Mod_72 hZ.1 (by omega) rfl d_Mod_list_50 ?_
          refine g_iload_n (pc := 53) C d_Mod_list_53 0 rfl ?_
          refine g_if_neB (pc := 54) C 61 d_Mod_list_54 (by decide) (fun h_54 => ?_) (fun h_54 => ?_)
          · skip
            refine g_iconst (pc := 61) (v := nI 0) C d_Mod_list_61 (by decide) ?_
            refine g_top (y := bI (!(bitN hs 0 && decide (vl 0 = -1)))) (by rw [h_54]; rfl) ?_
            refine g_iconst (pc := 62) (v := nI 1) C d_Mod_list_62 (by decide) ?_
            refine g_top (y := bI true) (rfl) ?_
            refine g_ci (pc := 63) C (g_rV (As := [.int (-1), .ref (ka K (z + 313)), .int (bI (!(bitN hs 0 && decide (vl 0 = -1)))), .int (bI true)]) (rest := []) C (c_Mod_after_n _ K _ z tp os pa ta pr md ms ls kms kls bms bls ck vn tn mt hs bo vl hZ (z + 313) pa hZ.2.2.2.2.2.2.2.1 (!(bitN hs 0 && decide (vl 0 = -1))) true) mw_Mod_after mo_Mod_after ml_Mod_242 (by decide) hZ.1 rfl (by omega) rfl rfl (Nat.le_of_ble_eq_true rfl) d_Mod_list_63) (fun r63 E63 hp63 => ?_)
            rw [show r63 = fiI (bestF ms (selQ (askM (!(bitN hs 0 && decide (vl 0 = -1))) true pa) none) ms.length) from hp63.1, hp63.2]
            refine g_istore_n (pc := 66) (lv' := [(3, .int (fiI (bestF ms (selQ (askM (!(bitN hs 0 && decide (vl 0 = -1))) true pa) none) ms.length))), (2, .int (bI (bitN hs 0 && decide (vl 0 = -1)))), (1, .int (bI (bitN hs 0 && decide (vl 0 = 0)))), (0, .ref (ka K z))]) C d_Mod_list_66 rfl (by decide) rfl ?_
            exact g_lv [0, 3, 2, 1] rfl (w_Z_list67 C E z tp os pa ta pr md ms ls kms kls bms bls ck vn tn mt hs bo vl (bitN hs 0 && decide (vl 0 = 0)) (bitN hs 0 && decide (vl 0 = -1)) _ _ (fun E' y1 y2 => ⟨rfl, y1, y2⟩) hR xs none E os hxs hZ rfl frN.refl)
          · skip
            refine g_iconst (pc := 57) (v := nI 1) C d_Mod_list_57 (by decide) ?_
            refine g_goto (pc := 58) C 62 d_Mod_list_58 (by decide) ?_
            refine g_top (y := bI (!(bitN hs 0 && decide (vl 0 = -1)))) (by rw [h_54]; rfl) ?_
            refine g_iconst (pc := 62) (v := nI 1) C d_Mod_list_62 (by decide) ?_
            refine g_top (y := bI true) (rfl) ?_
            refine g_ci (pc := 63) C (g_rV (As := [.int (-1), .ref (ka K (z + 313)), .int (bI (!(bitN hs 0 && decide (vl 0 = -1)))), .int (bI true)]) (rest := []) C (c_Mod_after_n _ K _ z tp os pa ta pr md ms ls kms kls bms bls ck vn tn mt hs bo vl hZ (z + 313) pa hZ.2.2.2.2.2.2.2.1 (!(bitN hs 0 && decide (vl 0 = -1))) true) mw_Mod_after mo_Mod_after ml_Mod_242 (by decide) hZ.1 rfl (by omega) rfl rfl (Nat.le_of_ble_eq_true rfl) d_Mod_list_63) (fun r63 E63 hp63 => ?_)
            rw [show r63 = fiI (bestF ms (selQ (askM (!(bitN hs 0 && decide (vl 0 = -1))) true pa) none) ms.length) from hp63.1, hp63.2]
            refine g_istore_n (pc := 66) (lv' := [(3, .int (fiI (bestF ms (selQ (askM (!(bitN hs 0 && decide (vl 0 = -1))) true pa) none) ms.length))), (2, .int (bI (bitN hs 0 && decide (vl 0 = -1)))), (1, .int (bI (bitN hs 0 && decide (vl 0 = 0)))), (0, .ref (ka K z))]) C d_Mod_list_66 rfl (by decide) rfl ?_
            exact g_lv [0, 3, 2, 1] rfl (w_Z_list67 C E z tp os pa ta pr md ms ls kms kls bms bls ck vn tn mt hs bo vl (bitN hs 0 && decide (vl 0 = 0)) (bitN hs 0 && decide (vl 0 = -1)) _ _ (fun E' y1 y2 => ⟨rfl, y1, y2⟩) hR xs none E os hxs hZ rfl frN.refl)
