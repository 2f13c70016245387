/-! the reference's answers, as mathematical values -/
def freeM (ls : List Lk) (hs : Nat) (vl : Nat → Int32) (p : Bs) : Bool := ls.any (fun v : Lk => covP p v && (bitN hs 5 && decide (v.2.1 = vl 5))) || !(ls.any (covP p))
def parP (p : Bs) : Bs := p.take (lastN p)
def ixM (ms : List Me) (p : Bs) : Option Nat := ms.findIdx? (fun x : Me => decide (x.1 = p))
def parM (ms : List Me) (p : Bs) : Bool := match ixM ms (parP p) with
  | none => false
  | some i => match ms[i]? with
    | none => false
    | some x => decide (x.2.1 = nI 2)
theorem parM_n {ms : List Me} {p : Bs} (h : ixM ms (parP p) = none) : parM ms p = false := by rw [parM, h]
theorem parM_s {ms : List Me} {p : Bs} {i : Nat} (h : ixM ms (parP p) = some i) (hi : i < ms.length) : parM ms p = decide (ms[i].2.1 = nI 2) := by
  rw [parM, h]
  simp only [List.getElem?_eq_getElem hi]
theorem ixM_lt {ms : List Me} {p : Bs} {i : Nat} (h : ixM ms p = some i) : ∃ hi : i < ms.length, ms[i].1 = p := by
  rw [ixM, List.findIdx?_eq_some_iff_getElem] at h
  obtain ⟨h1, h2, -⟩ := h
  exact ⟨h1, of_decide_eq_true h2⟩
def allM (ms : List Me) (ls : List Lk) (hs : Nat) (vl : Nat → Int32) (p : Bs) : Bool := ms.all (fun x : Me => !goneP p x.1 || freeM ls hs vl x.1)
def goesM (pa : Bs) (all : Bool) (p : Bs) : Bool := decide (p = pa) || (all && inP p pa)
def heldM (ls : List Lk) (vl : Nat → Int32) (pa : Bs) : Option Nat := ls.findIdx? (fun v : Lk => decide (v.2.1 = vl 5) && covP pa v)
def unM (ls : List Lk) (vl : Nat → Int32) (pa : Bs) : Nat × List Lk := match heldM ls vl pa with
  | none => (412, ls)
  | some l => (204, ls.eraseIdx l)
def mkM (ms : List Me) (ls : List Lk) (hs : Nat) (vl : Nat → Int32) (pa : Bs) : Nat := if parM ms pa = true then (if freeM ls hs vl (parP pa) = true then (if ms.length = 41 then 507 else 201) else 423) else 409
def dlM (ms : List Me) (ls : List Lk) (hs : Nat) (vl : Nat → Int32) (pa : Bs) : Nat := if (allM ms ls hs vl pa && freeM ls hs vl (parP pa)) = true then 204 else 423

set_option maxHeartbeats 4000000 in
set_option maxRecDepth 100000 in
theorem w_Z_isFree {X : gX} {K : gK} (C : gC X K b_Mod_isFree "DavRoomModel" 4 3 192) (E : gE) (z : Nat) (tp os pa ta pr md : Bs) (ms : List Me) (ls : List Lk) (kms : List Me) (kls : List Lk) (bms : List Me) (bls : List Lk) (ck vn tn : Int32) (mt hs bo : Nat) (vl : Nat → Int32) (hZ : isZ K E z tp os pa ta pr md ms ls kms kls bms bls ck vn tn mt hs bo vl) (hh : hs < 256) (s : Nat) (p : Bs) (hO : isP K E s p) (hR : gRi X K .boolean (fun r E' => r = bI (freeM ls hs vl p) ∧ E' = E)) : ∀ (d k : Nat), k ≤ ls.length → ls.length + 1 ≤ k + d → (ls.take k).any (fun v : Lk => covP p v && (bitN hs 5 && decide (v.2.1 = vl 5))) = false → gW X K E 4 [(3, .int (nI k)), (2, .int (bI ((ls.take k).any (covP p)))), (0, .ref (ka K z)), (1, .ref (ka K s))] [] := by
  have hzN := hZ.2.2.2.2.2.2.2.2.2.2.2.2.2
  have htl := hZ.2.2.2.1.1
  have hol := hZ.2.2.2.2.1.1
  have hnm := hZ.2.1.lim
  have hkm := hZ.2.2.1.lim
  have hbm := hZ.2.2.2.2.2.2.2.2.2.2.2.1.lim
  have hpal := hZ.2.2.2.2.2.2.2.1.2.1
  have htal := hZ.2.2.2.2.2.2.2.2.1.2.1
  have hprl := hZ.2.2.2.2.2.2.2.2.2.2.1.2.1
  have hmdl := hZ.2.2.2.2.2.2.2.2.2.2.2.2.1.2.1
  obtain ⟨v, w, hM, hv, hw⟩ := hZ.2.1
  obtain ⟨kd, ve, sz, tok, en, dp, on, dt, fp, fd, fl, ha, hb⟩ := hM
  have hrN := ha.N
  intro d
  induction d with
  | zero =>
    intro k h1 h2
    exact absurd h2 (by omega)
  | succ d ih =>
    intro k hk hd hinv
    refine g_iload_n (pc := 4) C d_Mod_isFree_4 0 rfl ?_
    refine g_aload_n (pc := 5) C d_Mod_isFree_5 2 rfl ?_
    refine g_get (pc := 6) C fl_Mod_10 hZ.1 (by omega) rfl d_Mod_isFree_6 ?_
    refine g_getN (pc := 9) C fN_Mod_251 ha.o (by omega) rfl d_Mod_isFree_9 ?_
    refine g_icmp_geN (pc := 12) C 66 d_Mod_isFree_12 (by decide) (by omega) (by omega) (fun h_12 => ?_) (fun h_12 => ?_)
    · skip
      refine g_iload_n (pc := 66) C d_Mod_isFree_66 1 rfl ?_
      refine g_if_neB (pc := 67) C 74 d_Mod_isFree_67 (by decide) (fun h_67 => ?_) (fun h_67 => ?_)
      · skip
        refine g_iconst (pc := 74) (v := nI 0) C d_Mod_isFree_74 (by decide) ?_
        refine g_zret (pc := 75) C hR rfl d_Mod_isFree_75 ?_
        refine ⟨?_, rfl⟩
        have ek : k = ls.length := by omega
        rw [ek, List.take_length] at hinv h_67
        rw [freeM, hinv, h_67]
        rfl
      · skip
        refine g_iconst (pc := 70) (v := nI 1) C d_Mod_isFree_70 (by decide) ?_
        refine g_goto (pc := 71) C 75 d_Mod_isFree_71 (by decide) ?_
        refine g_zret (pc := 75) C hR rfl d_Mod_isFree_75 ?_
        refine ⟨?_, rfl⟩
        have ek : k = ls.length := by omega
        rw [ek, List.take_length] at hinv h_67
        rw [freeM, hinv, h_67]
        rfl
    · skip
      have hkl : k < ls.length := by omega
      have hwk := hw k hkl
      refine g_aload_n (pc := 15) C d_Mod_isFree_15 2 rfl ?_
      refine g_get (pc := 16) C fl_Mod_10 hZ.1 (by omega) rfl d_Mod_isFree_16 ?_
      refine g_iload_n (pc := 19) C d_Mod_isFree_19 0 rfl ?_
      refine g_aload_n (pc := 20) C d_Mod_isFree_20 3 rfl ?_
      refine g_ci (pc := 21) C (g_rV (As := [.int (nI k), .ref (ka K s)]) (rest := []) C (c_MRoom_covers _ K _ (z + 1) ms ls hZ.2.1 k hkl s p hO) mw_MRoom_covers mo_MRoom_covers ml_Mod_254 (by decide) ha.o rfl (by omega) rfl rfl (Nat.le_of_ble_eq_true rfl) d_Mod_isFree_21) (fun r21 E21 hp21 => ?_)
      rw [hp21.1, hp21.2]
      refine g_if_neB (pc := 24) C 30 d_Mod_isFree_24 (by decide) (fun h_24 => ?_) (fun h_24 => ?_)
      · skip
        refine g_aload_n (pc := 30) C d_Mod_isFree_30 2 rfl ?_
        refine g_iconst (pc := 31) (v := nI 5) C d_Mod_isFree_31 (by decide) ?_
        refine g_ci (pc := 32) C (g_rV (As := [.int (nI 5)]) (rest := []) C (c_Mod_has _ K _ z tp os pa ta pr md ms ls kms kls bms bls ck vn tn mt hs bo vl hZ hh 5 (by decide)) mw_Mod_has mo_Mod_has ml_Mod_168 (by decide) hZ.1 rfl (by omega) rfl rfl (Nat.le_of_ble_eq_true rfl) d_Mod_isFree_32) (fun r32 E32 hp32 => ?_)
        rw [show r32 = bI (bitN hs 5) from hp32.1, hp32.2]
        refine g_if_eqB (pc := 35) C 58 d_Mod_isFree_35 (by decide) (fun h_35 => ?_) (fun h_35 => ?_)
        · skip
          refine g_iconst (pc := 58) (v := nI 1) C d_Mod_isFree_58 (by decide) ?_
          refine g_istore_n (pc := 59) (lv' := [(2, .int (nI 1)), (3, .int (nI k)), (0, .ref (ka K z)), (1, .ref (ka K s))]) C d_Mod_isFree_59 rfl (by decide) rfl ?_
          refine g_iinc (pc := 60) (pl := 1) (v := nI (k + 1)) (lv' := [(3, .int (nI (k + 1))), (2, .int (nI 1)), (0, .ref (ka K z)), (1, .ref (ka K s))]) C d_Mod_isFree_60 rfl (nI_1 _) (by decide) rfl ?_
          refine g_goto (pc := 63) C 4 d_Mod_isFree_63 (by decide) ?_
          have hnt : (bitN hs 5 && decide (ls[k].2.1 = vl 5)) = false := by
            first
              | (rw [h_35]; rfl)
              | (rw [← hwk, ← hb.t k (by omega), decide_eq_false h_53, Bool.and_false])
          have e := ih (k + 1) (by omega) (by omega) (by rw [tk_any _ hkl, hinv, Bool.false_or, hnt, Bool.and_false])
          rw [tk_any _ hkl, h_24, Bool.or_true] at e
          exact g_lv [0, 1, 2, 3] rfl e
        · skip
          refine g_aload_n (pc := 38) C d_Mod_isFree_38 2 rfl ?_
          refine g_get (pc := 39) C fl_Mod_10 hZ.1 (by omega) rfl d_Mod_isFree_39 ?_
          refine g_getN (pc := 42) C fN_Mod_258 ha.o (by omega) rfl d_Mod_isFree_42 ?_
          refine g_iload_n (pc := 45) C d_Mod_isFree_45 0 rfl ?_
          refine g_ialdN (pc := 46) C ha.t (by omega) (gt_I _) (by omega) (by omega) d_Mod_isFree_46 ?_
          refine g_aload_n (pc := 47) C d_Mod_isFree_47 2 rfl ?_
          refine g_get (pc := 48) C fl_Mod_78 hZ.1 (by omega) rfl d_Mod_isFree_48 ?_
          refine g_iconst (pc := 51) (v := nI 5) C d_Mod_isFree_51 (by decide) ?_
          refine g_ialdN (pc := 52) C hZ.2.2.2.2.2.2.2.2.2.1 (by omega) (gt_I _) (by omega) (by omega) d_Mod_isFree_52 ?_
          refine g_icmp_ne (pc := 53) C 58 d_Mod_isFree_53 (by decide) (fun h_53 => ?_) (fun h_53 => ?_)
          · skip
            refine g_iconst (pc := 58) (v := nI 1) C d_Mod_isFree_58 (by decide) ?_
            refine g_istore_n (pc := 59) (lv' := [(2, .int (nI 1)), (3, .int (nI k)), (0, .ref (ka K z)), (1, .ref (ka K s))]) C d_Mod_isFree_59 rfl (by decide) rfl ?_
            refine g_iinc (pc := 60) (pl := 1) (v := nI (k + 1)) (lv' := [(3, .int (nI (k + 1))), (2, .int (nI 1)), (0, .ref (ka K z)), (1, .ref (ka K s))]) C d_Mod_isFree_60 rfl (nI_1 _) (by decide) rfl ?_
            refine g_goto (pc := 63) C 4 d_Mod_isFree_63 (by decide) ?_
            have hnt : (bitN hs 5 && decide (ls[k].2.1 = vl 5)) = false := by
              first
                | (rw [h_35]; rfl)
                | (rw [← hwk, ← hb.t k (by omega), decide_eq_false h_53, Bool.and_false])
            have e := ih (k + 1) (by omega) (by omega) (by rw [tk_any _ hkl, hinv, Bool.false_or, hnt, Bool.and_false])
            rw [tk_any _ hkl, h_24, Bool.or_true] at e
            exact g_lv [0, 1, 2, 3] rfl e
          · skip
            refine g_iconst (pc := 56) (v := nI 1) C d_Mod_isFree_56 (by decide) ?_
            refine g_zret (pc := 57) C hR rfl d_Mod_isFree_57 ?_
            refine ⟨?_, rfl⟩
            have hy : ls.any (fun v : Lk => covP p v && (bitN hs 5 && decide (v.2.1 = vl 5))) = true := List.any_eq_true.mpr ⟨ls[k], List.getElem_mem hkl, by rw [h_24, h_35, ← hwk, ← hb.t k (by omega), decide_eq_true h_53]; rfl⟩
            rw [freeM, hy]
            rfl
      · skip
        refine g_goto (pc := 27) C 60 d_Mod_isFree_27 (by decide) ?_
        refine g_iinc (pc := 60) (pl := 0) (v := nI (k + 1)) (lv' := [(3, .int (nI (k + 1))), (2, .int (bI ((ls.take k).any (covP p)))), (0, .ref (ka K z)), (1, .ref (ka K s))]) C d_Mod_isFree_60 rfl (nI_1 _) (by decide) rfl ?_
        refine g_goto (pc := 63) C 4 d_Mod_isFree_63 (by decide) ?_
        have e := ih (k + 1) (by omega) (by omega) (by rw [tk_any _ hkl, hinv, Bool.false_or, h_24, Bool.false_and])
        rw [tk_any _ hkl, h_24, Bool.or_false] at e
        exact g_lv [0, 1, 2, 3] rfl e

set_option maxHeartbeats 4000000 in
set_option maxRecDepth 100000 in
theorem c_Mod_isFree (l : Launch) (K : gK) (E : gE) (z : Nat) (tp os pa ta pr md : Bs) (ms : List Me) (ls : List Lk) (kms : List Me) (kls : List Lk) (bms : List Me) (bls : List Lk) (ck vn tn : Int32) (mt hs bo : Nat) (vl : Nat → Int32) (hZ : isZ K E z tp os pa ta pr md ms ls kms kls bms bls ck vn tn mt hs bo vl) (hh : hs < 256) (s : Nat) (p : Bs) (hO : isP K E s p) : gMi l y_Mod_isFree b_Mod_isFree 4 .boolean 3 192 K E [.ref (ka K z), .ref (ka K s)] (fun r E' => r = bI (freeM ls hs vl p) ∧ E' = E) := by
  refine g_meti (by decide +kernel) (Nat.le_of_ble_eq_true rfl) (fun X hl C hR => ?_)
  subst hl
  show gW X K E 0 [(0, .ref (ka K z)), (1, .ref (ka K s))] []
  refine g_iconst (pc := 0) (v := nI 0) C d_Mod_isFree_0 (by decide) ?_
  refine g_istore_n (pc := 1) (lv' := [(2, .int (nI 0)), (0, .ref (ka K z)), (1, .ref (ka K s))]) C d_Mod_isFree_1 rfl (by decide) rfl ?_
  refine g_iconst (pc := 2) (v := nI 0) C d_Mod_isFree_2 (by decide) ?_
  refine g_istore_n (pc := 3) (lv' := [(3, .int (nI 0)), (2, .int (nI 0)), (0, .ref (ka K z)), (1, .ref (ka K s))]) C d_Mod_isFree_3 rfl (by decide) rfl ?_
  exact g_lv [0, 1, 2, 3] rfl (w_Z_isFree C E z tp os pa ta pr md ms ls kms kls bms bls ck vn tn mt hs bo vl hZ hh s p hO hR (ls.length + 1) 0 (Nat.zero_le _) (by omega) rfl)

set_option maxHeartbeats 4000000 in
set_option maxRecDepth 100000 in
theorem w_Z_areFree {X : gX} {K : gK} (C : gC X K b_Mod_areFree "DavRoomModel" 3 4 256) (E : gE) (z : Nat) (tp os pa ta pr md : Bs) (ms : List Me) (ls : List Lk) (kms : List Me) (kls : List Lk) (bms : List Me) (bls : List Lk) (ck vn tn : Int32) (mt hs bo : Nat) (vl : Nat → Int32) (hZ : isZ K E z tp os pa ta pr md ms ls kms kls bms bls ck vn tn mt hs bo vl) (hh : hs < 256) (s : Nat) (p : Bs) (hO : isP K E s p) (hR : gRi X K .boolean (fun r E' => r = bI (allM ms ls hs vl p) ∧ E' = E)) : ∀ (d k : Nat), k ≤ ms.length → ms.length + 1 ≤ k + d → (ms.take k).all (fun x : Me => !goneP p x.1 || freeM ls hs vl x.1) = true → gW X K E 2 [(2, .int (nI k)), (0, .ref (ka K z)), (1, .ref (ka K s))] [] := by
  have hzN := hZ.2.2.2.2.2.2.2.2.2.2.2.2.2
  have htl := hZ.2.2.2.1.1
  have hol := hZ.2.2.2.2.1.1
  have hnm := hZ.2.1.lim
  have hkm := hZ.2.2.1.lim
  have hbm := hZ.2.2.2.2.2.2.2.2.2.2.2.1.lim
  have hpal := hZ.2.2.2.2.2.2.2.1.2.1
  have htal := hZ.2.2.2.2.2.2.2.2.1.2.1
  have hprl := hZ.2.2.2.2.2.2.2.2.2.2.1.2.1
  have hmdl := hZ.2.2.2.2.2.2.2.2.2.2.2.2.1.2.1
  obtain ⟨v, w, hM, hv, hw⟩ := hZ.2.1
  obtain ⟨kd, ve, sz, tok, en, dp, on, dt, fp, fd, fl, ha, hb⟩ := hM
  have hrN := ha.N
  intro d
  induction d with
  | zero =>
    intro k h1 h2
    exact absurd h2 (by omega)
  | succ d ih =>
    intro k hk hd hinv
    refine g_iload_n (pc := 2) C d_Mod_areFree_2 0 rfl ?_
    refine g_aload_n (pc := 3) C d_Mod_areFree_3 1 rfl ?_
    refine g_get (pc := 4) C fl_Mod_10 hZ.1 (by omega) rfl d_Mod_areFree_4 ?_
    refine g_getN (pc := 7) C fN_Mod_215 ha.o (by omega) rfl d_Mod_areFree_7 ?_
    refine g_icmp_geN (pc := 10) C 69 d_Mod_areFree_10 (by decide) (by omega) (by omega) (fun h_10 => ?_) (fun h_10 => ?_)
    · skip
      refine g_iconst (pc := 69) (v := nI 1) C d_Mod_areFree_69 (by decide) ?_
      refine g_zret (pc := 70) C hR rfl d_Mod_areFree_70 ?_
      have ek : k = ms.length := by omega
      rw [ek, List.take_length] at hinv
      exact ⟨by rw [allM, hinv]; rfl, rfl⟩
    · skip
      have hkl : k < ms.length := by omega
      have hppk := hb.p k (by omega)
      have hpp1 := hppk.1
      have hvk := hv k (by omega)
      refine g_aload_n (pc := 13) C d_Mod_areFree_13 1 rfl ?_
      refine g_get (pc := 14) C fl_Mod_10 hZ.1 (by omega) rfl d_Mod_areFree_14 ?_
      refine g_getN (pc := 17) C fN_Mod_216 ha.o (by omega) rfl d_Mod_areFree_17 ?_
      refine g_iload_n (pc := 20) C d_Mod_areFree_20 0 rfl ?_
      refine g_aldN (pc := 21) C ha.p (by omega) (gt_P _) (by omega) (by omega) d_Mod_areFree_21 (hv := rf_at (ha.p' k (by omega))) ?_
      refine g_aload_n (pc := 22) C d_Mod_areFree_22 2 rfl ?_
      refine g_ci (pc := 23) C (g_rV (As := [.ref (ka K s)]) (rest := []) C (c_MPath_same _ K _ (z + 1 + 52 + 2 * k) (v k).1 s p hppk hO) mw_MPath_same mo_MPath_same ml_Mod_219 (by decide) hpp1 rfl (by omega) rfl rfl (Nat.le_of_ble_eq_true rfl) d_Mod_areFree_23) (fun r23 E23 hp23 => ?_)
      rw [hp23.1, hp23.2]
      refine g_if_neB (pc := 26) C 45 d_Mod_areFree_26 (by decide) (fun h_26 => ?_) (fun h_26 => ?_)
      · skip
        refine g_aload_n (pc := 45) C d_Mod_areFree_45 1 rfl ?_
        refine g_aload_n (pc := 46) C d_Mod_areFree_46 1 rfl ?_
        refine g_get (pc := 47) C fl_Mod_10 hZ.1 (by omega) rfl d_Mod_areFree_47 ?_
        refine g_getN (pc := 50) C fN_Mod_216 ha.o (by omega) rfl d_Mod_areFree_50 ?_
        refine g_iload_n (pc := 53) C d_Mod_areFree_53 0 rfl ?_
        refine g_aldN (pc := 54) C ha.p (by omega) (gt_P _) (by omega) (by omega) d_Mod_areFree_54 (hv := rf_at (ha.p' k (by omega))) ?_
        refine g_ci (pc := 55) C (g_rV (As := [.ref (ka K (z + 1 + 52 + 2 * k))]) (rest := []) C (c_Mod_isFree _ K _ z tp os pa ta pr md ms ls kms kls bms bls ck vn tn mt hs bo vl hZ hh (z + 1 + 52 + 2 * k) (v k).1 hppk) mw_Mod_isFree mo_Mod_isFree ml_Mod_260 (by decide) hZ.1 rfl (by omega) rfl rfl (Nat.le_of_ble_eq_true rfl) d_Mod_areFree_55) (fun r55 E55 hp55 => ?_)
        rw [hp55.1, hp55.2]
        refine g_if_neB (pc := 58) C 63 d_Mod_areFree_58 (by decide) (fun h_58 => ?_) (fun h_58 => ?_)
        · skip
          refine g_iinc (pc := 63) (pl := 0) (v := nI (k + 1)) (lv' := [(2, .int (nI (k + 1))), (0, .ref (ka K z)), (1, .ref (ka K s))]) C d_Mod_areFree_63 rfl (nI_1 _) (by decide) rfl ?_
          refine g_goto (pc := 66) C 2 d_Mod_areFree_66 (by decide) ?_
          exact g_lv [0, 1, 2] rfl (ih (k + 1) (by omega) (by omega) (by
            rw [tk_all _ hkl, hinv, Bool.true_and, ← hvk]
            first
              | (rw [h_58, Bool.or_true]; done)
              | (rw [goneP, h_26, h_42]; rfl)))
        · skip
          refine g_iconst (pc := 61) (v := nI 0) C d_Mod_areFree_61 (by decide) ?_
          refine g_zret (pc := 62) C hR rfl d_Mod_areFree_62 ?_
          refine ⟨?_, rfl⟩
          rw [allM, all_miss _ hkl]
          · rfl
          · rw [← hvk]
            first
              | (rw [goneP, h_26, h_58]; rfl)
              | (rw [goneP, h_26, h_42, h_58]; rfl)
      · skip
        refine g_aload_n (pc := 29) C d_Mod_areFree_29 1 rfl ?_
        refine g_get (pc := 30) C fl_Mod_10 hZ.1 (by omega) rfl d_Mod_areFree_30 ?_
        refine g_getN (pc := 33) C fN_Mod_216 ha.o (by omega) rfl d_Mod_areFree_33 ?_
        refine g_iload_n (pc := 36) C d_Mod_areFree_36 0 rfl ?_
        refine g_aldN (pc := 37) C ha.p (by omega) (gt_P _) (by omega) (by omega) d_Mod_areFree_37 (hv := rf_at (ha.p' k (by omega))) ?_
        refine g_aload_n (pc := 38) C d_Mod_areFree_38 2 rfl ?_
        refine g_ci (pc := 39) C (g_rV (As := [.ref (ka K s)]) (rest := []) C (c_MPath_isIn _ K _ (z + 1 + 52 + 2 * k) (v k).1 s p hppk hO) mw_MPath_isIn mo_MPath_isIn ml_Mod_226 (by decide) hpp1 rfl (by omega) rfl rfl (Nat.le_of_ble_eq_true rfl) d_Mod_areFree_39) (fun r39 E39 hp39 => ?_)
        rw [hp39.1, hp39.2]
        refine g_if_eqB (pc := 42) C 63 d_Mod_areFree_42 (by decide) (fun h_42 => ?_) (fun h_42 => ?_)
        · skip
          refine g_iinc (pc := 63) (pl := 0) (v := nI (k + 1)) (lv' := [(2, .int (nI (k + 1))), (0, .ref (ka K z)), (1, .ref (ka K s))]) C d_Mod_areFree_63 rfl (nI_1 _) (by decide) rfl ?_
          refine g_goto (pc := 66) C 2 d_Mod_areFree_66 (by decide) ?_
          exact g_lv [0, 1, 2] rfl (ih (k + 1) (by omega) (by omega) (by
            rw [tk_all _ hkl, hinv, Bool.true_and, ← hvk]
            first
              | (rw [h_58, Bool.or_true]; done)
              | (rw [goneP, h_26, h_42]; rfl)))
        · skip
          refine g_aload_n (pc := 45) C d_Mod_areFree_45 1 rfl ?_
          refine g_aload_n (pc := 46) C d_Mod_areFree_46 1 rfl ?_
          refine g_get (pc := 47) C fl_Mod_10 hZ.1 (by omega) rfl d_Mod_areFree_47 ?_
          refine g_getN (pc := 50) C fN_Mod_216 ha.o (by omega) rfl d_Mod_areFree_50 ?_
          refine g_iload_n (pc := 53) C d_Mod_areFree_53 0 rfl ?_
          refine g_aldN (pc := 54) C ha.p (by omega) (gt_P _) (by omega) (by omega) d_Mod_areFree_54 (hv := rf_at (ha.p' k (by omega))) ?_
          refine g_ci (pc := 55) C (g_rV (As := [.ref (ka K (z + 1 + 52 + 2 * k))]) (rest := []) C (c_Mod_isFree _ K _ z tp os pa ta pr md ms ls kms kls bms bls ck vn tn mt hs bo vl hZ hh (z + 1 + 52 + 2 * k) (v k).1 hppk) mw_Mod_isFree mo_Mod_isFree ml_Mod_260 (by decide) hZ.1 rfl (by omega) rfl rfl (Nat.le_of_ble_eq_true rfl) d_Mod_areFree_55) (fun r55 E55 hp55 => ?_)
          rw [hp55.1, hp55.2]
          refine g_if_neB (pc := 58) C 63 d_Mod_areFree_58 (by decide) (fun h_58 => ?_) (fun h_58 => ?_)
          · skip
            refine g_iinc (pc := 63) (pl := 0) (v := nI (k + 1)) (lv' := [(2, .int (nI (k + 1))), (0, .ref (ka K z)), (1, .ref (ka K s))]) C d_Mod_areFree_63 rfl (nI_1 _) (by decide) rfl ?_
            refine g_goto (pc := 66) C 2 d_Mod_areFree_66 (by decide) ?_
            exact g_lv [0, 1, 2] rfl (ih (k + 1) (by omega) (by omega) (by
              rw [tk_all _ hkl, hinv, Bool.true_and, ← hvk]
              first
                | (rw [h_58, Bool.or_true]; done)
                | (rw [goneP, h_26, h_42]; rfl)))
          · skip
            refine g_iconst (pc := 61) (v := nI 0) C d_Mod_areFree_61 (by decide) ?_
            refine g_zret (pc := 62) C hR rfl d_Mod_areFree_62 ?_
            refine ⟨?_, rfl⟩
            rw [allM, all_miss _ hkl]
            · rfl
            · rw [← hvk]
              first
                | (rw [goneP, h_26, h_58]; rfl)
                | (rw [goneP, h_26, h_42, h_58]; rfl)

set_option maxHeartbeats 4000000 in
set_option maxRecDepth 100000 in
theorem c_Mod_areFree (l : Launch) (K : gK) (E : gE) (z : Nat) (tp os pa ta pr md : Bs) (ms : List Me) (ls : List Lk) (kms : List Me) (kls : List Lk) (bms : List Me) (bls : List Lk) (ck vn tn : Int32) (mt hs bo : Nat) (vl : Nat → Int32) (hZ : isZ K E z tp os pa ta pr md ms ls kms kls bms bls ck vn tn mt hs bo vl) (hh : hs < 256) (s : Nat) (p : Bs) (hO : isP K E s p) : gMi l y_Mod_areFree b_Mod_areFree 3 .boolean 4 256 K E [.ref (ka K z), .ref (ka K s)] (fun r E' => r = bI (allM ms ls hs vl p) ∧ E' = E) := by
  refine g_meti (by decide +kernel) (Nat.le_of_ble_eq_true rfl) (fun X hl C hR => ?_)
  subst hl
  show gW X K E 0 [(0, .ref (ka K z)), (1, .ref (ka K s))] []
  refine g_iconst (pc := 0) (v := nI 0) C d_Mod_areFree_0 (by decide) ?_
  refine g_istore_n (pc := 1) (lv' := [(2, .int (nI 0)), (0, .ref (ka K z)), (1, .ref (ka K s))]) C d_Mod_areFree_1 rfl (by decide) rfl ?_
  exact g_lv [0, 1, 2] rfl (w_Z_areFree C E z tp os pa ta pr md ms ls kms kls bms bls ck vn tn mt hs bo vl hZ hh s p hO hR (ms.length + 1) 0 (Nat.zero_le _) (by omega) rfl)

set_option maxHeartbeats 4000000 in
set_option maxRecDepth 100000 in
theorem c_Mod_goes (l : Launch) (K : gK) (E : gE) (z : Nat) (tp os pa ta pr md : Bs) (ms : List Me) (ls : List Lk) (kms : List Me) (kls : List Lk) (bms : List Me) (bls : List Lk) (ck vn tn : Int32) (mt hs bo : Nat) (vl : Nat → Int32) (hZ : isZ K E z tp os pa ta pr md ms ls kms kls bms bls ck vn tn mt hs bo vl) (s : Nat) (p : Bs) (hO : isP K E s p) (al : Bool) : gMi l y_Mod_goes b_Mod_goes 3 .boolean 2 128 K E [.ref (ka K z), .ref (ka K s), .int (bI al)] (fun r E' => r = bI (goesM pa al p) ∧ E' = E) := by
  have hzN := hZ.2.2.2.2.2.2.2.2.2.2.2.2.2
  have htl := hZ.2.2.2.1.1
  have hol := hZ.2.2.2.2.1.1
  have hnm := hZ.2.1.lim
  have hkm := hZ.2.2.1.lim
  have hbm := hZ.2.2.2.2.2.2.2.2.2.2.2.1.lim
  have hpal := hZ.2.2.2.2.2.2.2.1.2.1
  have htal := hZ.2.2.2.2.2.2.2.2.1.2.1
  have hprl := hZ.2.2.2.2.2.2.2.2.2.2.1.2.1
  have hmdl := hZ.2.2.2.2.2.2.2.2.2.2.2.2.1.2.1
  have hs1 := hO.1
  have hsN := hO.2.2.1
  refine g_meti (by decide +kernel) (Nat.le_of_ble_eq_true rfl) (fun X hl C hR => ?_)
  subst hl
  show gW X K E 0 [(0, .ref (ka K z)), (1, .ref (ka K s)), (2, .int (bI al))] []
  refine g_aload_n (pc := 0) C d_Mod_goes_0 1 rfl ?_
  refine g_aload_n (pc := 1) C d_Mod_goes_1 0 rfl ?_
  refine g_get (pc := 2) C fl_Mod_72 hZ.1 (by omega) rfl d_Mod_goes_2 ?_
  refine g_ci (pc := 5) C (g_rV (As := [.ref (ka K (z + 313))]) (rest := []) C (c_MPath_same _ K _ s p (z + 313) pa hO hZ.2.2.2.2.2.2.2.1) mw_MPath_same mo_MPath_same ml_Mod_219 (by decide) hs1 rfl (by omega) rfl rfl (Nat.le_of_ble_eq_true rfl) d_Mod_goes_5) (fun r5 E5 hp5 => ?_)
  rw [show r5 = bI (decide (p = pa)) from hp5.1, hp5.2]
  refine g_if_neB (pc := 8) C 26 d_Mod_goes_8 (by decide) (fun h_8 => ?_) (fun h_8 => ?_)
  · skip
    refine g_iconst (pc := 26) (v := nI 1) C d_Mod_goes_26 (by decide) ?_
    refine g_goto (pc := 27) C 31 d_Mod_goes_27 (by decide) ?_
    refine g_zret (pc := 31) C hR rfl d_Mod_goes_31 ?_
    refine ⟨?_, rfl⟩
    rw [goesM]
    first
      | (rw [h_8]; rfl)
      | (rw [h_8, h_12]; rfl)
      | (rw [h_8, h_12, h_23]; rfl)
  · skip
    refine g_iload_n (pc := 11) C d_Mod_goes_11 2 rfl ?_
    refine g_if_eqB (pc := 12) C 30 d_Mod_goes_12 (by decide) (fun h_12 => ?_) (fun h_12 => ?_)
    · skip
      refine g_iconst (pc := 30) (v := nI 0) C d_Mod_goes_30 (by decide) ?_
      refine g_zret (pc := 31) C hR rfl d_Mod_goes_31 ?_
      refine ⟨?_, rfl⟩
      rw [goesM]
      first
        | (rw [h_8]; rfl)
        | (rw [h_8, h_12]; rfl)
        | (rw [h_8, h_12, h_23]; rfl)
    · skip
      refine g_aload_n (pc := 15) C d_Mod_goes_15 1 rfl ?_
      refine g_aload_n (pc := 16) C d_Mod_goes_16 0 rfl ?_
      refine g_get (pc := 17) C fl_Mod_72 hZ.1 (by omega) rfl d_Mod_goes_17 ?_
      refine g_ci (pc := 20) C (g_rV (As := [.ref (ka K (z + 313))]) (rest := []) C (c_MPath_isIn _ K _ s p (z + 313) pa hO hZ.2.2.2.2.2.2.2.1) mw_MPath_isIn mo_MPath_isIn ml_Mod_226 (by decide) hs1 rfl (by omega) rfl rfl (Nat.le_of_ble_eq_true rfl) d_Mod_goes_20) (fun r20 E20 hp20 => ?_)
      rw [show r20 = bI (inP p pa) from hp20.1, hp20.2]
      refine g_if_eqB (pc := 23) C 30 d_Mod_goes_23 (by decide) (fun h_23 => ?_) (fun h_23 => ?_)
      · skip
        refine g_iconst (pc := 30) (v := nI 0) C d_Mod_goes_30 (by decide) ?_
        refine g_zret (pc := 31) C hR rfl d_Mod_goes_31 ?_
        refine ⟨?_, rfl⟩
        rw [goesM]
        first
          | (rw [h_8]; rfl)
          | (rw [h_8, h_12]; rfl)
          | (rw [h_8, h_12, h_23]; rfl)
      · skip
        refine g_iconst (pc := 26) (v := nI 1) C d_Mod_goes_26 (by decide) ?_
        refine g_goto (pc := 27) C 31 d_Mod_goes_27 (by decide) ?_
        refine g_zret (pc := 31) C hR rfl d_Mod_goes_31 ?_
        refine ⟨?_, rfl⟩
        rw [goesM]
        first
          | (rw [h_8]; rfl)
          | (rw [h_8, h_12]; rfl)
          | (rw [h_8, h_12, h_23]; rfl)

set_option maxHeartbeats 4000000 in
set_option maxRecDepth 100000 in
theorem w_Z_held {X : gX} {K : gK} (C : gC X K b_Mod_held "DavRoomModel" 2 3 192) (E : gE) (z : Nat) (tp os pa ta pr md : Bs) (ms : List Me) (ls : List Lk) (kms : List Me) (kls : List Lk) (bms : List Me) (bls : List Lk) (ck vn tn : Int32) (mt hs bo : Nat) (vl : Nat → Int32) (hZ : isZ K E z tp os pa ta pr md ms ls kms kls bms bls ck vn tn mt hs bo vl) (hR : gRi X K .int (fun r E' => r = fiI (heldM ls vl pa) ∧ E' = E)) : ∀ (d k : Nat), k ≤ ls.length → ls.length + 1 ≤ k + d → (∀ (j : Nat) (hj : j < ls.length), j < k → (fun v : Lk => decide (v.2.1 = vl 5) && covP pa v) ls[j] = false) → gW X K E 2 [(1, .int (nI k)), (0, .ref (ka K z))] [] := by
  have hzN := hZ.2.2.2.2.2.2.2.2.2.2.2.2.2
  have htl := hZ.2.2.2.1.1
  have hol := hZ.2.2.2.2.1.1
  have hnm := hZ.2.1.lim
  have hkm := hZ.2.2.1.lim
  have hbm := hZ.2.2.2.2.2.2.2.2.2.2.2.1.lim
  have hpal := hZ.2.2.2.2.2.2.2.1.2.1
  have htal := hZ.2.2.2.2.2.2.2.2.1.2.1
  have hprl := hZ.2.2.2.2.2.2.2.2.2.2.1.2.1
  have hmdl := hZ.2.2.2.2.2.2.2.2.2.2.2.2.1.2.1
  obtain ⟨v, w, hM, hv, hw⟩ := hZ.2.1
  obtain ⟨kd, ve, sz, tok, en, dp, on, dt, fp, fd, fl, ha, hb⟩ := hM
  have hrN := ha.N
  intro d
  induction d with
  | zero =>
    intro k h1 h2
    exact absurd h2 (by omega)
  | succ d ih =>
    intro k hk hd hinv
    refine g_iload_n (pc := 2) C d_Mod_held_2 0 rfl ?_
    refine g_aload_n (pc := 3) C d_Mod_held_3 1 rfl ?_
    refine g_get (pc := 4) C fl_Mod_10 hZ.1 (by omega) rfl d_Mod_held_4 ?_
    refine g_getN (pc := 7) C fN_Mod_251 ha.o (by omega) rfl d_Mod_held_7 ?_
    refine g_icmp_geN (pc := 10) C 54 d_Mod_held_10 (by decide) (by omega) (by omega) (fun h_10 => ?_) (fun h_10 => ?_)
    · skip
      refine g_iconst (pc := 54) (v := -1) C d_Mod_held_54 (by decide) ?_
      refine g_iret (pc := 55) C hR d_Mod_held_55 ?_
      exact ⟨by rw [heldM, fnd_no _ (fun j hj => hinv j hj (by omega))]; rfl, rfl⟩
    · skip
      have hkl : k < ls.length := by omega
      have hwk := hw k hkl
      refine g_aload_n (pc := 13) C d_Mod_held_13 1 rfl ?_
      refine g_get (pc := 14) C fl_Mod_10 hZ.1 (by omega) rfl d_Mod_held_14 ?_
      refine g_getN (pc := 17) C fN_Mod_258 ha.o (by omega) rfl d_Mod_held_17 ?_
      refine g_iload_n (pc := 20) C d_Mod_held_20 0 rfl ?_
      refine g_ialdN (pc := 21) C ha.t (by omega) (gt_I _) (by omega) (by omega) d_Mod_held_21 ?_
      refine g_aload_n (pc := 22) C d_Mod_held_22 1 rfl ?_
      refine g_get (pc := 23) C fl_Mod_78 hZ.1 (by omega) rfl d_Mod_held_23 ?_
      refine g_iconst (pc := 26) (v := nI 5) C d_Mod_held_26 (by decide) ?_
      refine g_ialdN (pc := 27) C hZ.2.2.2.2.2.2.2.2.2.1 (by omega) (gt_I _) (by omega) (by omega) d_Mod_held_27 ?_
      refine g_icmp_ne (pc := 28) C 48 d_Mod_held_28 (by decide) (fun h_28 => ?_) (fun h_28 => ?_)
      · skip
        rw [hb.t k (by omega), hwk] at h_28
        refine g_iinc (pc := 48) (pl := 0) (v := nI (k + 1)) (lv' := [(1, .int (nI (k + 1))), (0, .ref (ka K z))]) C d_Mod_held_48 rfl (nI_1 _) (by decide) rfl ?_
        refine g_goto (pc := 51) C 2 d_Mod_held_51 (by decide) ?_
        exact g_lv [0, 1] rfl (ih (k + 1) (by omega) (by omega) (fun j hj hjk => by
          rcases Nat.lt_or_ge j k with q | q
          · exact hinv j hj q
          · have e : j = k := by omega
            subst e
            show (decide (ls[j].2.1 = vl 5) && covP pa ls[j]) = false
            first
              | (rw [decide_eq_false h_28]; rfl)
              | (rw [h_43, Bool.and_false])))
      · skip
        rw [hb.t k (by omega), hwk] at h_28
        refine g_aload_n (pc := 31) C d_Mod_held_31 1 rfl ?_
        refine g_get (pc := 32) C fl_Mod_10 hZ.1 (by omega) rfl d_Mod_held_32 ?_
        refine g_iload_n (pc := 35) C d_Mod_held_35 0 rfl ?_
        refine g_aload_n (pc := 36) C d_Mod_held_36 1 rfl ?_
        refine g_get (pc := 37) C fl_Mod_72 hZ.1 (by omega) rfl d_Mod_held_37 ?_
        refine g_ci (pc := 40) C (g_rV (As := [.int (nI k), .ref (ka K (z + 313))]) (rest := []) C (c_MRoom_covers _ K _ (z + 1) ms ls hZ.2.1 k hkl (z + 313) pa hZ.2.2.2.2.2.2.2.1) mw_MRoom_covers mo_MRoom_covers ml_Mod_254 (by decide) ha.o rfl (by omega) rfl rfl (Nat.le_of_ble_eq_true rfl) d_Mod_held_40) (fun r40 E40 hp40 => ?_)
        rw [show r40 = bI (covP pa ls[k]) from hp40.1, hp40.2]
        refine g_if_eqB (pc := 43) C 48 d_Mod_held_43 (by decide) (fun h_43 => ?_) (fun h_43 => ?_)
        · skip
          refine g_iinc (pc := 48) (pl := 0) (v := nI (k + 1)) (lv' := [(1, .int (nI (k + 1))), (0, .ref (ka K z))]) C d_Mod_held_48 rfl (nI_1 _) (by decide) rfl ?_
          refine g_goto (pc := 51) C 2 d_Mod_held_51 (by decide) ?_
          exact g_lv [0, 1] rfl (ih (k + 1) (by omega) (by omega) (fun j hj hjk => by
            rcases Nat.lt_or_ge j k with q | q
            · exact hinv j hj q
            · have e : j = k := by omega
              subst e
              show (decide (ls[j].2.1 = vl 5) && covP pa ls[j]) = false
              first
                | (rw [decide_eq_false h_28]; rfl)
                | (rw [h_43, Bool.and_false])))
        · skip
          refine g_iload_n (pc := 46) C d_Mod_held_46 0 rfl ?_
          refine g_iret (pc := 47) C hR d_Mod_held_47 ?_
          exact ⟨by rw [heldM, fnd_hit _ hkl hinv (by rw [decide_eq_true h_28, h_43]; rfl)]; rfl, rfl⟩

set_option maxHeartbeats 4000000 in
set_option maxRecDepth 100000 in
theorem c_Mod_held (l : Launch) (K : gK) (E : gE) (z : Nat) (tp os pa ta pr md : Bs) (ms : List Me) (ls : List Lk) (kms : List Me) (kls : List Lk) (bms : List Me) (bls : List Lk) (ck vn tn : Int32) (mt hs bo : Nat) (vl : Nat → Int32) (hZ : isZ K E z tp os pa ta pr md ms ls kms kls bms bls ck vn tn mt hs bo vl) : gMi l y_Mod_held b_Mod_held 2 .int 3 192 K E [.ref (ka K z)] (fun r E' => r = fiI (heldM ls vl pa) ∧ E' = E) := by
  refine g_meti (by decide +kernel) (Nat.le_of_ble_eq_true rfl) (fun X hl C hR => ?_)
  subst hl
  show gW X K E 0 [(0, .ref (ka K z))] []
  refine g_iconst (pc := 0) (v := nI 0) C d_Mod_held_0 (by decide) ?_
  refine g_istore_n (pc := 1) (lv' := [(1, .int (nI 0)), (0, .ref (ka K z))]) C d_Mod_held_1 rfl (by decide) rfl ?_
  exact g_lv [0, 1] rfl (w_Z_held C E z tp os pa ta pr md ms ls kms kls bms bls ck vn tn mt hs bo vl hZ hR (ls.length + 1) 0 (Nat.zero_le _) (by omega) (fun j _ h => absurd h (Nat.not_lt_zero _)))

set_option maxHeartbeats 4000000 in
set_option maxRecDepth 100000 in
theorem c_Mod_unlock (l9 : Launch) (K : gK) (E : gE) (z : Nat) (tp os pa ta pr md : Bs) (ms : List Me) (ls : List Lk) (kms : List Me) (kls : List Lk) (bms : List Me) (bls : List Lk) (ck vn tn : Int32) (mt hs bo : Nat) (vl : Nat → Int32) (hZ : isZ K E z tp os pa ta pr md ms ls kms kls bms bls ck vn tn mt hs bo vl) : gMi l9 y_Mod_unlock b_Mod_unlock 2 .int 4 256 K E [.ref (ka K z)] (fun r E' => r = nI (unM ls vl pa).1 ∧ isZ K E' z tp os pa ta pr md ms ((unM ls vl pa).2) kms kls bms bls ck vn tn mt hs bo vl ∧ frN z 476 E E') := by
  have hzN := hZ.2.2.2.2.2.2.2.2.2.2.2.2.2
  have htl := hZ.2.2.2.1.1
  have hol := hZ.2.2.2.2.1.1
  have hnm := hZ.2.1.lim
  have hkm := hZ.2.2.1.lim
  have hbm := hZ.2.2.2.2.2.2.2.2.2.2.2.1.lim
  have hpal := hZ.2.2.2.2.2.2.2.1.2.1
  have htal := hZ.2.2.2.2.2.2.2.2.1.2.1
  have hprl := hZ.2.2.2.2.2.2.2.2.2.2.1.2.1
  have hmdl := hZ.2.2.2.2.2.2.2.2.2.2.2.2.1.2.1
  refine g_meti (by decide +kernel) (Nat.le_of_ble_eq_true rfl) (fun X hl C hR => ?_)
  subst hl
  show gW X K E 0 [(0, .ref (ka K z))] []
  refine g_aload_n (pc := 0) C d_Mod_unlock_0 0 rfl ?_
  refine g_ci (pc := 1) C (g_rV (As := []) (rest := []) C (c_Mod_held _ K _ z tp os pa ta pr md ms ls kms kls bms bls ck vn tn mt hs bo vl hZ) mw_Mod_held mo_Mod_held ml_Mod_309 (by decide) hZ.1 rfl (by omega) rfl rfl (Nat.le_of_ble_eq_true rfl) d_Mod_unlock_1) (fun r1 E1 hp1 => ?_)
  rw [show r1 = fiI (heldM ls vl pa) from hp1.1, hp1.2]
  rcases hhe : heldM ls vl pa with _ | l
  · refine g_top (y := -1) rfl ?_
    refine g_istore_n (pc := 4) (lv' := [(1, .int (-1)), (0, .ref (ka K z))]) C d_Mod_unlock_4 rfl (by decide) rfl ?_
    refine g_iload_n (pc := 5) C d_Mod_unlock_5 0 rfl ?_
    refine g_if_ge (pc := 6) C 13 d_Mod_unlock_6 (by decide) (fun h_6 => ?_) (fun h_6 => ?_)
    · exact absurd h_6 (by decide)
    · skip
      refine g_sipush (pc := 9) (v := nI 412) C d_Mod_unlock_9 (by decide) ?_
      refine g_iret (pc := 12) C hR d_Mod_unlock_12 ?_
      rw [unM, hhe]
      exact ⟨rfl, hZ, frN.refl⟩
  · refine g_top (y := nI l) rfl ?_
    have hll : l < ls.length := by
      rw [heldM, List.findIdx?_eq_some_iff_getElem] at hhe
      exact hhe.1
    refine g_istore_n (pc := 4) (lv' := [(1, .int (nI l)), (0, .ref (ka K z))]) C d_Mod_unlock_4 rfl (by decide) rfl ?_
    refine g_iload_n (pc := 5) C d_Mod_unlock_5 0 rfl ?_
    refine g_if_geN (pc := 6) C 13 d_Mod_unlock_6 (by decide) (by omega) ?_
    refine g_aload_n (pc := 13) C d_Mod_unlock_13 1 rfl ?_
    refine g_get (pc := 14) C fl_Mod_10 hZ.1 (by omega) rfl d_Mod_unlock_14 ?_
    refine g_iload_n (pc := 17) C d_Mod_unlock_17 0 rfl ?_
    refine g_cv (pc := 18) C (g_rV (As := [.int (nI l)]) (rest := []) C (c_MRoom_dropLock _ K _ (z + 1) ms ls hZ.2.1 l hll) mw_MRoom_dropLock mo_MRoom_dropLock ml_Mod_327 (by decide) hZ.2.1.h rfl (by omega) rfl rfl (Nat.le_of_ble_eq_true rfl) d_Mod_unlock_18) (fun E18 hp18 => ?_)
    obtain ⟨hB18, hF18⟩ := hp18
    have hZ18 := hZ.now hF18 hB18
    have hf18 : frN z 476 E E18 := frN.refl.trans (hF18.wide (by omega) (by omega))
    refine g_sipush (pc := 21) (v := nI 204) C d_Mod_unlock_21 (by decide) ?_
    refine g_iret (pc := 24) C hR d_Mod_unlock_24 ?_
    rw [unM, hhe]
    exact ⟨rfl, hZ18, hf18⟩

set_option maxHeartbeats 4000000 in
set_option maxRecDepth 100000 in
theorem c_Mod_hasParent (l : Launch) (K : gK) (E : gE) (z : Nat) (tp os pa ta pr md : Bs) (ms : List Me) (ls : List Lk) (kms : List Me) (kls : List Lk) (bms : List Me) (bls : List Lk) (ck vn tn : Int32) (mt hs bo : Nat) (vl : Nat → Int32) (hZ : isZ K E z tp os pa ta pr md ms ls kms kls bms bls ck vn tn mt hs bo vl) (s : Nat) (p : Bs) (hsw : s = z + 313 ∨ s = z + 315) (hO : isP K E s p) : gMi l y_Mod_hasParent b_Mod_hasParent 3 .boolean 3 192 K E [.ref (ka K z), .ref (ka K s)] (fun r E' => r = bI (parM ms p) ∧ isZ K E' z tp os pa ta (parP p) md ms ls kms kls bms bls ck vn tn mt hs bo vl ∧ frN z 476 E E') := by
  have hzN := hZ.2.2.2.2.2.2.2.2.2.2.2.2.2
  have htl := hZ.2.2.2.1.1
  have hol := hZ.2.2.2.2.1.1
  have hnm := hZ.2.1.lim
  have hkm := hZ.2.2.1.lim
  have hbm := hZ.2.2.2.2.2.2.2.2.2.2.2.1.lim
  have hpal := hZ.2.2.2.2.2.2.2.1.2.1
  have htal := hZ.2.2.2.2.2.2.2.2.1.2.1
  have hprl := hZ.2.2.2.2.2.2.2.2.2.2.1.2.1
  have hmdl := hZ.2.2.2.2.2.2.2.2.2.2.2.2.1.2.1
  refine g_meti (by decide +kernel) (Nat.le_of_ble_eq_true rfl) (fun X hl C hR => ?_)
  subst hl
  show gW X K E 0 [(0, .ref (ka K z)), (1, .ref (ka K s))] []
  refine g_aload_n (pc := 0) C d_Mod_hasParent_0 0 rfl ?_
  refine g_get (pc := 1) C fl_Mod_82 hZ.1 (by omega) rfl d_Mod_hasParent_1 ?_
  refine g_aload_n (pc := 4) C d_Mod_hasParent_4 1 rfl ?_
  refine g_cv (pc := 5) C (g_rV (As := [.ref (ka K s)]) (rest := []) C (c_MPath_above _ K _ (z + 318) pr s p (by omega) hZ.2.2.2.2.2.2.2.2.2.2.1 hO) mw_MPath_above mo_MPath_above ml_Mod_263 (by decide) hZ.2.2.2.2.2.2.2.2.2.2.1.1 rfl (by omega) rfl rfl (Nat.le_of_ble_eq_true rfl) d_Mod_hasParent_5) (fun E5 hp5 => ?_)
  obtain ⟨hB5, hF5⟩ := hp5
  have hZ5 := hZ.parent hF5 hB5
  have hf5 : frN z 476 E E5 := frN.refl.trans (hF5.wide (by omega) (by omega))
  refine g_aload_n (pc := 8) C d_Mod_hasParent_8 0 rfl ?_
  refine g_get (pc := 9) C fl_Mod_10 hZ5.1 (by omega) rfl d_Mod_hasParent_9 ?_
  refine g_aload_n (pc := 12) C d_Mod_hasParent_12 0 rfl ?_
  refine g_get (pc := 13) C fl_Mod_82 hZ5.1 (by omega) rfl d_Mod_hasParent_13 ?_
  refine g_ci (pc := 16) C (g_rV (As := [.ref (ka K (z + 318))]) (rest := []) C (c_MRoom_find _ K _ (z + 1) ms ls (z + 318) (parP p) hZ5.2.2.2.2.2.2.2.2.2.2.1 hZ5.2.1) mw_MRoom_find mo_MRoom_find ml_Mod_180 (by decide) hZ5.2.1.h rfl (by omega) rfl rfl (Nat.le_of_ble_eq_true rfl) d_Mod_hasParent_16) (fun r16 E16 hp16 => ?_)
  rw [show r16 = fiI (ixM ms (parP p)) from hp16.1, hp16.2]
  rcases hix : ixM ms (parP p) with _ | i
  · refine g_top (y := -1) rfl ?_
    refine g_istore_n (pc := 19) (lv' := [(2, .int (-1)), (0, .ref (ka K z)), (1, .ref (ka K s))]) C d_Mod_hasParent_19 rfl (by decide) rfl ?_
    refine g_iload_n (pc := 20) C d_Mod_hasParent_20 0 rfl ?_
    refine g_if_lt (pc := 21) C 41 d_Mod_hasParent_21 (by decide) (fun h_21 => ?_) (fun h_21 => ?_)
    · skip
      refine g_iconst (pc := 41) (v := nI 0) C d_Mod_hasParent_41 (by decide) ?_
      refine g_zret (pc := 42) C hR rfl d_Mod_hasParent_42 ?_
      first
        | exact ⟨by rw [parM_n hix]; rfl, hZ5, hf5⟩
        | exact ⟨by rw [parM_s hix hil, decide_eq_true h_34]; rfl, hZ5, hf5⟩
        | exact ⟨by rw [parM_s hix hil, decide_eq_false h_34]; rfl, hZ5, hf5⟩
    · exact absurd h_21 (by decide)
  · refine g_top (y := nI i) rfl ?_
    obtain ⟨hil, hip⟩ := ixM_lt hix
    obtain ⟨v, w, hM, hv, hw⟩ := hZ5.2.1
    obtain ⟨kd, ve, sz, tok, en, dp, on, dt, fp, fd, fl, ha, hb⟩ := hM
    have hvi := hv i hil
    refine g_istore_n (pc := 19) (lv' := [(2, .int (nI i)), (0, .ref (ka K z)), (1, .ref (ka K s))]) C d_Mod_hasParent_19 rfl (by decide) rfl ?_
    refine g_iload_n (pc := 20) C d_Mod_hasParent_20 0 rfl ?_
    refine g_if_ltN (pc := 21) C 41 d_Mod_hasParent_21 (by decide) (by omega) ?_
    refine g_aload_n (pc := 24) C d_Mod_hasParent_24 1 rfl ?_
    refine g_get (pc := 25) C fl_Mod_10 hZ5.1 (by omega) rfl d_Mod_hasParent_25 ?_
    refine g_getN (pc := 28) C fN_Mod_183 ha.o (by omega) rfl d_Mod_hasParent_28 ?_
    refine g_iload_n (pc := 31) C d_Mod_hasParent_31 0 rfl ?_
    refine g_ialdN (pc := 32) C ha.k (by omega) (gt_I _) (by omega) (by omega) d_Mod_hasParent_32 ?_
    refine g_iconst (pc := 33) (v := nI 2) C d_Mod_hasParent_33 (by decide) ?_
    refine g_icmp_ne (pc := 34) C 41 d_Mod_hasParent_34 (by decide) (fun h_34 => ?_) (fun h_34 => ?_)
    · skip
      rw [hb.k i (by omega), hvi] at h_34
      refine g_iconst (pc := 41) (v := nI 0) C d_Mod_hasParent_41 (by decide) ?_
      refine g_zret (pc := 42) C hR rfl d_Mod_hasParent_42 ?_
      first
        | exact ⟨by rw [parM_n hix]; rfl, hZ5, hf5⟩
        | exact ⟨by rw [parM_s hix hil, decide_eq_true h_34]; rfl, hZ5, hf5⟩
        | exact ⟨by rw [parM_s hix hil, decide_eq_false h_34]; rfl, hZ5, hf5⟩
    · skip
      rw [hb.k i (by omega), hvi] at h_34
      refine g_iconst (pc := 37) (v := nI 1) C d_Mod_hasParent_37 (by decide) ?_
      refine g_goto (pc := 38) C 42 d_Mod_hasParent_38 (by decide) ?_
      refine g_zret (pc := 42) C hR rfl d_Mod_hasParent_42 ?_
      first
        | exact ⟨by rw [parM_n hix]; rfl, hZ5, hf5⟩
        | exact ⟨by rw [parM_s hix hil, decide_eq_true h_34]; rfl, hZ5, hf5⟩
        | exact ⟨by rw [parM_s hix hil, decide_eq_false h_34]; rfl, hZ5, hf5⟩

set_option maxHeartbeats 4000000 in
set_option maxRecDepth 100000 in
theorem c_Mod_delete (l : Launch) (K : gK) (E : gE) (z : Nat) (tp os pa ta pr md : Bs) (ms : List Me) (ls : List Lk) (kms : List Me) (kls : List Lk) (bms : List Me) (bls : List Lk) (ck vn tn : Int32) (mt hs bo : Nat) (vl : Nat → Int32) (hZ : isZ K E z tp os pa ta pr md ms ls kms kls bms bls ck vn tn mt hs bo vl) (hh : hs < 256) (t : Nat) (ht : t = dlM ms ls hs vl pa) : gMi l y_Mod_delete b_Mod_delete 1 .int 5 320 K E [.ref (ka K z)] (fun r E' => r = nI t ∧ isZ K E' z tp os pa ta (parP pa) md (if t < 300 then ms.filter (fun x : Me => !goneP pa x.1) else ms) (if t < 300 then ls.filter (fun x : Lk => !goneP pa x.1) else ls) kms kls bms bls ck vn tn mt hs bo vl ∧ frN z 476 E E') := by
  have hzN := hZ.2.2.2.2.2.2.2.2.2.2.2.2.2
  have htl := hZ.2.2.2.1.1
  have hol := hZ.2.2.2.2.1.1
  have hnm := hZ.2.1.lim
  have hkm := hZ.2.2.1.lim
  have hbm := hZ.2.2.2.2.2.2.2.2.2.2.2.1.lim
  have hpal := hZ.2.2.2.2.2.2.2.1.2.1
  have htal := hZ.2.2.2.2.2.2.2.2.1.2.1
  have hprl := hZ.2.2.2.2.2.2.2.2.2.2.1.2.1
  have hmdl := hZ.2.2.2.2.2.2.2.2.2.2.2.2.1.2.1
  refine g_meti (by decide +kernel) (Nat.le_of_ble_eq_true rfl) (fun X hl C hR => ?_)
  subst hl
  show gW X K E 0 [(0, .ref (ka K z))] []
  refine g_aload_n (pc := 0) C d_Mod_delete_0 0 rfl ?_
  refine g_get (pc := 1) C fl_Mod_82 hZ.1 (by omega) rfl d_Mod_delete_1 ?_
  refine g_aload_n (pc := 4) C d_Mod_delete_4 0 rfl ?_
  refine g_get (pc := 5) C fl_Mod_72 hZ.1 (by omega) rfl d_Mod_delete_5 ?_
  refine g_cv (pc := 8) C (g_rV (As := [.ref (ka K (z + 313))]) (rest := []) C (c_MPath_above _ K _ (z + 318) pr (z + 313) pa (by omega) hZ.2.2.2.2.2.2.2.2.2.2.1 hZ.2.2.2.2.2.2.2.1) mw_MPath_above mo_MPath_above ml_Mod_263 (by decide) hZ.2.2.2.2.2.2.2.2.2.2.1.1 rfl (by omega) rfl rfl (Nat.le_of_ble_eq_true rfl) d_Mod_delete_8) (fun E8 hp8 => ?_)
  obtain ⟨hB8, hF8⟩ := hp8
  have hZ8 := hZ.parent hF8 hB8
  have hf8 : frN z 476 E E8 := frN.refl.trans (hF8.wide (by omega) (by omega))
  refine g_aload_n (pc := 11) C d_Mod_delete_11 0 rfl ?_
  refine g_aload_n (pc := 12) C d_Mod_delete_12 0 rfl ?_
  refine g_get (pc := 13) C fl_Mod_72 hZ8.1 (by omega) rfl d_Mod_delete_13 ?_
  refine g_ci (pc := 16) C (g_rV (As := [.ref (ka K (z + 313))]) (rest := []) C (c_Mod_areFree _ K _ z tp os pa ta (parP pa) md ms ls kms kls bms bls ck vn tn mt hs bo vl hZ8 hh (z + 313) pa hZ8.2.2.2.2.2.2.2.1) mw_Mod_areFree mo_Mod_areFree ml_Mod_280 (by decide) hZ8.1 rfl (by omega) rfl rfl (Nat.le_of_ble_eq_true rfl) d_Mod_delete_16) (fun r16 E16 hp16 => ?_)
  rw [show r16 = bI (allM ms ls hs vl pa) from hp16.1, hp16.2]
  refine g_if_eqB (pc := 19) C 33 d_Mod_delete_19 (by decide) (fun h_19 => ?_) (fun h_19 => ?_)
  · skip
    refine g_sipush (pc := 33) (v := nI 423) C d_Mod_delete_33 (by decide) ?_
    refine g_iret (pc := 36) C hR d_Mod_delete_36 ?_
    have hv : t = 423 := by
      rw [ht, dlM, if_neg]
      first
        | (rw [h_19, Bool.false_and]; decide)
        | (rw [h_19, h_30]; decide)
    subst hv
    rw [if_neg (by decide), if_neg (by decide)]
    exact ⟨rfl, hZ8, hf8⟩
  · skip
    refine g_aload_n (pc := 22) C d_Mod_delete_22 0 rfl ?_
    refine g_aload_n (pc := 23) C d_Mod_delete_23 0 rfl ?_
    refine g_get (pc := 24) C fl_Mod_82 hZ8.1 (by omega) rfl d_Mod_delete_24 ?_
    refine g_ci (pc := 27) C (g_rV (As := [.ref (ka K (z + 318))]) (rest := []) C (c_Mod_isFree _ K _ z tp os pa ta (parP pa) md ms ls kms kls bms bls ck vn tn mt hs bo vl hZ8 hh (z + 318) (parP pa) hZ8.2.2.2.2.2.2.2.2.2.2.1) mw_Mod_isFree mo_Mod_isFree ml_Mod_260 (by decide) hZ8.1 rfl (by omega) rfl rfl (Nat.le_of_ble_eq_true rfl) d_Mod_delete_27) (fun r27 E27 hp27 => ?_)
    rw [show r27 = bI (freeM ls hs vl (parP pa)) from hp27.1, hp27.2]
    refine g_if_neB (pc := 30) C 37 d_Mod_delete_30 (by decide) (fun h_30 => ?_) (fun h_30 => ?_)
    · skip
      refine g_aload_n (pc := 37) C d_Mod_delete_37 0 rfl ?_
      refine g_get (pc := 38) C fl_Mod_10 hZ8.1 (by omega) rfl d_Mod_delete_38 ?_
      refine g_aload_n (pc := 41) C d_Mod_delete_41 0 rfl ?_
      refine g_get (pc := 42) C fl_Mod_72 hZ8.1 (by omega) rfl d_Mod_delete_42 ?_
      refine g_cv (pc := 45) C (g_rV (As := [.ref (ka K (z + 313))]) (rest := []) C (c_MRoom_remove _ K _ (z + 1) ms ls hZ8.2.1 (z + 313) pa (by omega) hZ8.2.2.2.2.2.2.2.1) mw_MRoom_remove mo_MRoom_remove ml_Mod_283 (by decide) hZ8.2.1.h rfl (by omega) rfl rfl (Nat.le_of_ble_eq_true rfl) d_Mod_delete_45) (fun E45 hp45 => ?_)
      obtain ⟨hB45, hF45⟩ := hp45
      have hZ45 := hZ8.now hF45 hB45
      have hf45 : frN z 476 E E45 := hf8.trans (hF45.wide (by omega) (by omega))
      refine g_sipush (pc := 48) (v := nI 204) C d_Mod_delete_48 (by decide) ?_
      refine g_iret (pc := 51) C hR d_Mod_delete_51 ?_
      have hv : t = 204 := by rw [ht, dlM, h_19, h_30]; rfl
      subst hv
      rw [if_pos (by decide), if_pos (by decide)]
      exact ⟨rfl, hZ45, hf45⟩
    · skip
      refine g_sipush (pc := 33) (v := nI 423) C d_Mod_delete_33 (by decide) ?_
      refine g_iret (pc := 36) C hR d_Mod_delete_36 ?_
      have hv : t = 423 := by
        rw [ht, dlM, if_neg]
        first
          | (rw [h_19, Bool.false_and]; decide)
          | (rw [h_19, h_30]; decide)
      subst hv
      rw [if_neg (by decide), if_neg (by decide)]
      exact ⟨rfl, hZ8, hf8⟩
