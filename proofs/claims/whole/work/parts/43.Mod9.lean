/-! the next path in order -/
def askM (di it : Bool) (p : Bs) (x : Me) : Bool := (it && decide (x.1 = p)) || (if di = true then dirP x.1 p else inP x.1 p)
def selQ (g : Me → Bool) (la : Option Bs) (x : Me) : Bool := g x && (match la with
  | none => true
  | some y => ltS y x.1)
def bestF (ms : List Me) (q : Me → Bool) : Nat → Option Nat
  | 0 => none
  | k + 1 => match ms[k]? with
    | none => bestF ms q k
    | some x => if q x = true then (match bestF ms q k with
      | none => some k
      | some j => match ms[j]? with
        | none => some k
        | some y => if ltS x.1 y.1 = true then some k else some j) else bestF ms q k
theorem best_no {ms : List Me} {q : Me → Bool} {k : Nat} (hk : k < ms.length) (h : q ms[k] = false) : bestF ms q (k + 1) = bestF ms q k := by
  rw [bestF]
  simp only [List.getElem?_eq_getElem hk]
  rw [if_neg (by rw [h]; decide)]
theorem best_0 {ms : List Me} {q : Me → Bool} {k : Nat} (hk : k < ms.length) (h : q ms[k] = true) (hb : bestF ms q k = none) : bestF ms q (k + 1) = some k := by
  rw [bestF]
  simp only [List.getElem?_eq_getElem hk]
  rw [if_pos h, hb]
theorem best_s {ms : List Me} {q : Me → Bool} {k j : Nat} (hk : k < ms.length) (h : q ms[k] = true) (hb : bestF ms q k = some j) (hj : j < ms.length) : bestF ms q (k + 1) = if ltS ms[k].1 ms[j].1 = true then some k else some j := by
  rw [bestF]
  simp only [List.getElem?_eq_getElem hk]
  rw [if_pos h, hb]
  simp only [List.getElem?_eq_getElem hj]
theorem best_lt {ms : List Me} {q : Me → Bool} : ∀ {k j : Nat}, bestF ms q k = some j → j < k ∧ ∃ h : j < ms.length, q ms[j] = true := by
  intro k
  induction k with
  | zero =>
    intro j h
    cases h
  | succ k ih =>
    intro j h
    rcases Nat.lt_or_ge k ms.length with hk | hk
    · cases hq : q ms[k] with
      | false =>
        rw [best_no hk hq] at h
        obtain ⟨h1, h2⟩ := ih h
        exact ⟨by omega, h2⟩
      | true =>
        cases hb : bestF ms q k with
        | none =>
          rw [best_0 hk hq hb] at h
          cases h
          exact ⟨by omega, hk, hq⟩
        | some i =>
          obtain ⟨h1, h2, h3⟩ := ih hb
          rw [best_s hk hq hb h2] at h
          split at h
          · cases h
            exact ⟨by omega, hk, hq⟩
          · cases h
            exact ⟨by omega, h2, h3⟩
    · rw [bestF] at h
      simp only [List.getElem?_eq_none hk] at h
      obtain ⟨h1, h2⟩ := ih h
      exact ⟨by omega, h2⟩

set_option maxHeartbeats 4000000 in
set_option maxRecDepth 100000 in
theorem w_Z_after_n {X : gX} {K : gK} (C : gC X K b_Mod_after "DavRoomModel" 8 3 192) (E : gE) (z : Nat) (tp os pa ta pr md : Bs) (ms : List Me) (ls : List Lk) (kms : List Me) (kls : List Lk) (bms : List Me) (bls : List Lk) (ck vn tn : Int32) (mt hs bo : Nat) (vl : Nat → Int32) (hZ : isZ K E z tp os pa ta pr md ms ls kms kls bms bls ck vn tn mt hs bo vl) (s : Nat) (p : Bs) (hO : isP K E s p) (di it : Bool) (hR : gRi X K .int (fun r E' => r = fiI (bestF ms (selQ (askM di it p) (none)) ms.length) ∧ E' = E)) : ∀ (d k : Nat), k ≤ ms.length → ms.length + 1 ≤ k + d → gW X K E 6 [(6, .int (nI k)), (5, .int (fiI (bestF ms (selQ (askM di it p) (none)) k))), (0, .ref (ka K z)), (1, .int (-1)), (2, .ref (ka K s)), (3, .int (bI di)), (4, .int (bI it))] [] := by
  have hzN := hZ.2.2.2.2.2.2.2.2.2.2.2.2.2
  have htl := hZ.2.2.2.1.1
  have hol := hZ.2.2.2.2.1.1
  have hnm := hZ.2.1.lim
  have hkm := hZ.2.2.1.lim
  have hbm := hZ.2.2.2.2.2.2.2.2.2.2.2.1.lim
  have hpal := hZ.2.2.2.2.2.2.2.1.2.1
  have htal := hZ.2.2.2.2.2.2.2.2.1.2.1
  have hprl := hZ.2.2.2.2.2.2.2.2.2.2.1.2.1
  have hmdl := hZ.2.2.2.2.2.2.2.2.2.2.2.2.1.2.1
  obtain ⟨v, w, hM, hv, hw⟩ := hZ.2.1
  obtain ⟨kd, ve, sz, tok, en, dp, on, dt, fp, fd, fl, ha, hb⟩ := hM
  have hrN := ha.N
  intro d
  induction d with
  | zero =>
    intro k h1 h2
    exact absurd h2 (by omega)
  | succ d ih =>
    intro k hk hd
    refine g_iload (pc := 6) C d_Mod_after_6 0 rfl ?_
    refine g_aload_n (pc := 8) C d_Mod_after_8 2 rfl ?_
    refine g_get (pc := 9) C fl_Mod_10 hZ.1 (by omega) rfl d_Mod_after_9 ?_
    refine g_getN (pc := 12) C fN_Mod_215 ha.o (by omega) rfl d_Mod_after_12 ?_
    refine g_icmp_geN (pc := 15) C 166 d_Mod_after_15 (by decide) (by omega) (by omega) (fun h_15 => ?_) (fun h_15 => ?_)
    · skip
      refine g_iload (pc := 166) C d_Mod_after_166 1 rfl ?_
      refine g_iret (pc := 168) C hR d_Mod_after_168 ?_
      have ek : k = ms.length := by omega
      subst ek
      exact ⟨rfl, rfl⟩
    · skip
      have hkl : k < ms.length := by omega
      have hxk := hb.p k (by omega)
      have hxk1 := hxk.1
      have hvk := hv k (by omega)
      refine g_iload (pc := 18) C d_Mod_after_18 6 rfl ?_
      refine g_if_eqB (pc := 20) C 40 d_Mod_after_20 (by decide) (fun h_20 => ?_) (fun h_20 => ?_)
      · skip
        refine g_iload_n (pc := 40) C d_Mod_after_40 5 rfl ?_
        refine g_if_eqB (pc := 41) C 64 d_Mod_after_41 (by decide) (fun h_41 => ?_) (fun h_41 => ?_)
        · skip
          refine g_aload_n (pc := 64) C d_Mod_after_64 2 rfl ?_
          refine g_get (pc := 65) C fl_Mod_10 hZ.1 (by omega) rfl d_Mod_after_65 ?_
          refine g_getN (pc := 68) C fN_Mod_216 ha.o (by omega) rfl d_Mod_after_68 ?_
          refine g_iload (pc := 71) C d_Mod_after_71 0 rfl ?_
          refine g_aldN (pc := 73) C ha.p (by omega) (gt_P _) (by omega) (by omega) d_Mod_after_73 (hv := rf_at (ha.p' k (by omega))) ?_
          refine g_aload_n (pc := 74) C d_Mod_after_74 4 rfl ?_
          refine g_ci (pc := 75) C (g_rV (As := [.ref (ka K s)]) (rest := []) C (c_MPath_isIn _ K _ (z + 1 + 52 + 2 * k) (v k).1 s p hxk hO) mw_MPath_isIn mo_MPath_isIn ml_Mod_226 (by decide) hxk1 rfl (by omega) rfl rfl (Nat.le_of_ble_eq_true rfl) d_Mod_after_75) (fun r75 E75 hp75 => ?_)
          rw [hp75.1, hp75.2]
          refine g_if_eqB (pc := 78) C 85 d_Mod_after_78 (by decide) (fun h_78 => ?_) (fun h_78 => ?_)
          · skip
            refine g_iconst (pc := 85) (v := nI 0) C d_Mod_after_85 (by decide) ?_
            have hask : askM di it p ms[k] = false := by
              rw [← hvk]
              first
                | (simp [askM, h_20, h_37]; done)
                | (simp [askM, h_41, h_58]; done)
                | (simp [askM, h_41, h_78]; done)
                | (simp [askM, h_20, h_41, h_58]; done)
                | (simp [askM, h_20, h_41, h_78]; done)
                | (simp [askM, h_20, of_decide_eq_false h_37, h_41, h_58]; done)
                | (simp [askM, h_20, of_decide_eq_false h_37, h_41, h_78]; done)
            refine g_istore (pc := 86) (lv' := [(7, .int (nI 0)), (6, .int (nI k)), (5, .int (fiI (bestF ms (selQ (askM di it p) (none)) k))), (0, .ref (ka K z)), (1, .int (-1)), (2, .ref (ka K s)), (3, .int (bI di)), (4, .int (bI it))]) C d_Mod_after_86 (by decide) rfl ?_
            refine g_iload (pc := 88) C d_Mod_after_88 0 rfl ?_
            refine g_if_eqN (pc := 90) C 160 d_Mod_after_90 (by decide) (by omega) (fun h_90 => ?_) (fun h_90 => ?_)
            · skip
              refine g_iinc (pc := 160) (pl := 1) (v := nI (k + 1)) (lv' := [(6, .int (nI (k + 1))), (7, .int (nI 0)), (5, .int (fiI (bestF ms (selQ (askM di it p) (none)) k))), (0, .ref (ka K z)), (1, .int (-1)), (2, .ref (ka K s)), (3, .int (bI di)), (4, .int (bI it))]) C d_Mod_after_160 rfl (nI_1 _) (by decide) rfl ?_
              refine g_goto (pc := 163) C 6 d_Mod_after_163 (by decide) ?_
              have hq : (selQ (askM di it p) (none)) ms[k] = false := by rw [selQ, hask]; rfl
              have e := ih (k + 1) (by omega) (by omega)
              rw [best_no hkl hq] at e
              exact g_lv [0, 2, 3, 4, 5, 6, 7] rfl e
            · exact absurd h_90 (by decide)
          · skip
            refine g_iconst (pc := 81) (v := nI 1) C d_Mod_after_81 (by decide) ?_
            refine g_goto (pc := 82) C 86 d_Mod_after_82 (by decide) ?_
            have hask : askM di it p ms[k] = true := by
              rw [← hvk]
              first
                | (simp [askM, h_20, h_37]; done)
                | (simp [askM, h_41, h_58]; done)
                | (simp [askM, h_41, h_78]; done)
                | (simp [askM, h_20, h_41, h_58]; done)
                | (simp [askM, h_20, h_41, h_78]; done)
                | (simp [askM, h_20, of_decide_eq_false h_37, h_41, h_58]; done)
                | (simp [askM, h_20, of_decide_eq_false h_37, h_41, h_78]; done)
            refine g_istore (pc := 86) (lv' := [(7, .int (nI 1)), (6, .int (nI k)), (5, .int (fiI (bestF ms (selQ (askM di it p) (none)) k))), (0, .ref (ka K z)), (1, .int (-1)), (2, .ref (ka K s)), (3, .int (bI di)), (4, .int (bI it))]) C d_Mod_after_86 (by decide) rfl ?_
            refine g_iload (pc := 88) C d_Mod_after_88 0 rfl ?_
            refine g_if_eqN (pc := 90) C 160 d_Mod_after_90 (by decide) (by omega) (fun h_90 => ?_) (fun h_90 => ?_)
            · exact absurd h_90 (by decide)
            · skip
              refine g_iload_n (pc := 93) C d_Mod_after_93 4 rfl ?_
              refine g_if_lt (pc := 94) C 125 d_Mod_after_94 (by decide) (fun h_94 => ?_) (fun h_94 => ?_)
              · skip
                have hq : (selQ (askM di it p) (none)) ms[k] = true := by
                  rw [selQ, hask]
                  rfl
                rcases hbe : bestF ms (selQ (askM di it p) (none)) k with _ | j
                · skip
                  skip
                  show gW X K E 125 [(7, .int (nI 1)), (6, .int (nI k)), (5, .int (-1)), (0, .ref (ka K z)), (1, .int (-1)), (2, .ref (ka K s)), (3, .int (bI di)), (4, .int (bI it))] []
                  refine g_iload (pc := 125) C d_Mod_after_125 2 rfl ?_
                  refine g_if_lt (pc := 127) C 156 d_Mod_after_127 (by decide) (fun h_127 => ?_) (fun h_127 => ?_)
                  · skip
                    refine g_iload (pc := 156) C d_Mod_after_156 1 rfl ?_
                    refine g_istore (pc := 158) (lv' := [(5, .int (nI k)), (7, .int (nI 1)), (6, .int (nI k)), (0, .ref (ka K z)), (1, .int (-1)), (2, .ref (ka K s)), (3, .int (bI di)), (4, .int (bI it))]) C d_Mod_after_158 (by decide) rfl ?_
                    refine g_iinc (pc := 160) (pl := 2) (v := nI (k + 1)) (lv' := [(6, .int (nI (k + 1))), (5, .int (nI k)), (7, .int (nI 1)), (0, .ref (ka K z)), (1, .int (-1)), (2, .ref (ka K s)), (3, .int (bI di)), (4, .int (bI it))]) C d_Mod_after_160 rfl (nI_1 _) (by decide) rfl ?_
                    refine g_goto (pc := 163) C 6 d_Mod_after_163 (by decide) ?_
                    have e := ih (k + 1) (by omega) (by omega)
                    rw [best_0 hkl hq hbe] at e
                    exact g_lv [0, 1, 3, 4, 5, 6, 7] rfl e
                  · exact absurd (by decide) h_127
                · skip
                  obtain ⟨hjk, hjl, -⟩ := best_lt hbe
                  have hxj := hb.p j (by omega)
                  have hxj1 := hxj.1
                  have hvj := hv j (by omega)
                  show gW X K E 125 [(7, .int (nI 1)), (6, .int (nI k)), (5, .int (nI j)), (0, .ref (ka K z)), (1, .int (-1)), (2, .ref (ka K s)), (3, .int (bI di)), (4, .int (bI it))] []
                  refine g_iload (pc := 125) C d_Mod_after_125 2 rfl ?_
                  refine g_if_ltN (pc := 127) C 156 d_Mod_after_127 (by decide) (by omega) ?_
                  refine g_aload_n (pc := 130) C d_Mod_after_130 3 rfl ?_
                  refine g_get (pc := 131) C fl_Mod_10 hZ.1 (by omega) rfl d_Mod_after_131 ?_
                  refine g_getN (pc := 134) C fN_Mod_216 ha.o (by omega) rfl d_Mod_after_134 ?_
                  refine g_iload (pc := 137) C d_Mod_after_137 1 rfl ?_
                  refine g_aldN (pc := 139) C ha.p (by omega) (gt_P _) (by omega) (by omega) d_Mod_after_139 (hv := rf_at (ha.p' k (by omega))) ?_
                  refine g_aload_n (pc := 140) C d_Mod_after_140 3 rfl ?_
                  refine g_get (pc := 141) C fl_Mod_10 hZ.1 (by omega) rfl d_Mod_after_141 ?_
                  refine g_getN (pc := 144) C fN_Mod_216 ha.o (by omega) rfl d_Mod_after_144 ?_
                  refine g_iload (pc := 147) C d_Mod_after_147 2 rfl ?_
                  refine g_aldN (pc := 149) C ha.p (by omega) (gt_P _) (by omega) (by omega) d_Mod_after_149 (hv := rf_at (ha.p' j (by omega))) ?_
                  refine g_ci (pc := 150) C (g_rV (As := [.ref (ka K (z + 1 + 52 + 2 * j))]) (rest := []) C (c_MPath_isBefore _ K _ (z + 1 + 52 + 2 * k) (v k).1 (z + 1 + 52 + 2 * j) (v j).1 hxk hxj) mw_MPath_isBefore mo_MPath_isBefore ml_Mod_229 (by decide) hxk1 rfl (by omega) rfl rfl (Nat.le_of_ble_eq_true rfl) d_Mod_after_150) (fun r150 E150 hp150 => ?_)
                  rw [hp150.1, hp150.2]
                  refine g_if_eqB (pc := 153) C 160 d_Mod_after_153 (by decide) (fun h_153 => ?_) (fun h_153 => ?_)
                  · skip
                    refine g_iinc (pc := 160) (pl := 1) (v := nI (k + 1)) (lv' := [(6, .int (nI (k + 1))), (7, .int (nI 1)), (5, .int (nI j)), (0, .ref (ka K z)), (1, .int (-1)), (2, .ref (ka K s)), (3, .int (bI di)), (4, .int (bI it))]) C d_Mod_after_160 rfl (nI_1 _) (by decide) rfl ?_
                    refine g_goto (pc := 163) C 6 d_Mod_after_163 (by decide) ?_
                    have e := ih (k + 1) (by omega) (by omega)
                    rw [best_s hkl hq hbe hjl, if_neg (by rw [← hvk, ← hvj, h_153]; decide)] at e
                    exact g_lv [0, 2, 3, 4, 5, 6, 7] rfl e
                  · skip
                    refine g_iload (pc := 156) C d_Mod_after_156 1 rfl ?_
                    refine g_istore (pc := 158) (lv' := [(5, .int (nI k)), (7, .int (nI 1)), (6, .int (nI k)), (0, .ref (ka K z)), (1, .int (-1)), (2, .ref (ka K s)), (3, .int (bI di)), (4, .int (bI it))]) C d_Mod_after_158 (by decide) rfl ?_
                    refine g_iinc (pc := 160) (pl := 2) (v := nI (k + 1)) (lv' := [(6, .int (nI (k + 1))), (5, .int (nI k)), (7, .int (nI 1)), (0, .ref (ka K z)), (1, .int (-1)), (2, .ref (ka K s)), (3, .int (bI di)), (4, .int (bI it))]) C d_Mod_after_160 rfl (nI_1 _) (by decide) rfl ?_
                    refine g_goto (pc := 163) C 6 d_Mod_after_163 (by decide) ?_
                    have e := ih (k + 1) (by omega) (by omega)
                    rw [best_s hkl hq hbe hjl, if_pos (by rw [← hvk, ← hvj]; exact h_153)] at e
                    exact g_lv [0, 1, 3, 4, 5, 6, 7] rfl e
              · exact absurd (by decide) h_94
        · skip
          refine g_aload_n (pc := 44) C d_Mod_after_44 2 rfl ?_
          refine g_get (pc := 45) C fl_Mod_10 hZ.1 (by omega) rfl d_Mod_after_45 ?_
          refine g_getN (pc := 48) C fN_Mod_216 ha.o (by omega) rfl d_Mod_after_48 ?_
          refine g_iload (pc := 51) C d_Mod_after_51 0 rfl ?_
          refine g_aldN (pc := 53) C ha.p (by omega) (gt_P _) (by omega) (by omega) d_Mod_after_53 (hv := rf_at (ha.p' k (by omega))) ?_
          refine g_aload_n (pc := 54) C d_Mod_after_54 4 rfl ?_
          refine g_ci (pc := 55) C (g_rV (As := [.ref (ka K s)]) (rest := []) C (c_MPath_isDirectlyIn _ K _ (z + 1 + 52 + 2 * k) (v k).1 s p hxk hO) mw_MPath_isDirectlyIn mo_MPath_isDirectlyIn ml_Mod_223 (by decide) hxk1 rfl (by omega) rfl rfl (Nat.le_of_ble_eq_true rfl) d_Mod_after_55) (fun r55 E55 hp55 => ?_)
          rw [hp55.1, hp55.2]
          refine g_if_eqB (pc := 58) C 85 d_Mod_after_58 (by decide) (fun h_58 => ?_) (fun h_58 => ?_)
          · skip
            refine g_iconst (pc := 85) (v := nI 0) C d_Mod_after_85 (by decide) ?_
            have hask : askM di it p ms[k] = false := by
              rw [← hvk]
              first
                | (simp [askM, h_20, h_37]; done)
                | (simp [askM, h_41, h_58]; done)
                | (simp [askM, h_41, h_78]; done)
                | (simp [askM, h_20, h_41, h_58]; done)
                | (simp [askM, h_20, h_41, h_78]; done)
                | (simp [askM, h_20, of_decide_eq_false h_37, h_41, h_58]; done)
                | (simp [askM, h_20, of_decide_eq_false h_37, h_41, h_78]; done)
            refine g_istore (pc := 86) (lv' := [(7, .int (nI 0)), (6, .int (nI k)), (5, .int (fiI (bestF ms (selQ (askM di it p) (none)) k))), (0, .ref (ka K z)), (1, .int (-1)), (2, .ref (ka K s)), (3, .int (bI di)), (4, .int (bI it))]) C d_Mod_after_86 (by decide) rfl ?_
            refine g_iload (pc := 88) C d_Mod_after_88 0 rfl ?_
            refine g_if_eqN (pc := 90) C 160 d_Mod_after_90 (by decide) (by omega) (fun h_90 => ?_) (fun h_90 => ?_)
            · skip
              refine g_iinc (pc := 160) (pl := 1) (v := nI (k + 1)) (lv' := [(6, .int (nI (k + 1))), (7, .int (nI 0)), (5, .int (fiI (bestF ms (selQ (askM di it p) (none)) k))), (0, .ref (ka K z)), (1, .int (-1)), (2, .ref (ka K s)), (3, .int (bI di)), (4, .int (bI it))]) C d_Mod_after_160 rfl (nI_1 _) (by decide) rfl ?_
              refine g_goto (pc := 163) C 6 d_Mod_after_163 (by decide) ?_
              have hq : (selQ (askM di it p) (none)) ms[k] = false := by rw [selQ, hask]; rfl
              have e := ih (k + 1) (by omega) (by omega)
              rw [best_no hkl hq] at e
              exact g_lv [0, 2, 3, 4, 5, 6, 7] rfl e
            · exact absurd h_90 (by decide)
          · skip
            refine g_goto (pc := 61) C 81 d_Mod_after_61 (by decide) ?_
            refine g_iconst (pc := 81) (v := nI 1) C d_Mod_after_81 (by decide) ?_
            refine g_goto (pc := 82) C 86 d_Mod_after_82 (by decide) ?_
            have hask : askM di it p ms[k] = true := by
              rw [← hvk]
              first
                | (simp [askM, h_20, h_37]; done)
                | (simp [askM, h_41, h_58]; done)
                | (simp [askM, h_41, h_78]; done)
                | (simp [askM, h_20, h_41, h_58]; done)
                | (simp [askM, h_20, h_41, h_78]; done)
                | (simp [askM, h_20, of_decide_eq_false h_37, h_41, h_58]; done)
                | (simp [askM, h_20, of_decide_eq_false h_37, h_41, h_78]; done)
            refine g_istore (pc := 86) (lv' := [(7, .int (nI 1)), (6, .int (nI k)), (5, .int (fiI (bestF ms (selQ (askM di it p) (none)) k))), (0, .ref (ka K z)), (1, .int (-1)), (2, .ref (ka K s)), (3, .int (bI di)), (4, .int (bI it))]) C d_Mod_after_86 (by decide) rfl ?_
            refine g_iload (pc := 88) C d_Mod_after_88 0 rfl ?_
            refine g_if_eqN (pc := 90) C 160 d_Mod_after_90 (by decide) (by omega) (fun h_90 => ?_) (fun h_90 => ?_)
            · exact absurd h_90 (by decide)
            · skip
              refine g_iload_n (pc := 93) C d_Mod_after_93 4 rfl ?_
              refine g_if_lt (pc := 94) C 125 d_Mod_after_94 (by decide) (fun h_94 => ?_) (fun h_94 => ?_)
              · skip
                have hq : (selQ (askM di it p) (none)) ms[k] = true := by
                  rw [selQ, hask]
                  rfl
                rcases hbe : bestF ms (selQ (askM di it p) (none)) k with _ | j
                · skip
                  skip
                  show gW X K E 125 [(7, .int (nI 1)), (6, .int (nI k)), (5, .int (-1)), (0, .ref (ka K z)), (1, .int (-1)), (2, .ref (ka K s)), (3, .int (bI di)), (4, .int (bI it))] []
                  refine g_iload (pc := 125) C d_Mod_after_125 2 rfl ?_
                  refine g_if_lt (pc := 127) C 156 d_Mod_after_127 (by decide) (fun h_127 => ?_) (fun h_127 => ?_)
                  · skip
                    refine g_iload (pc := 156) C d_Mod_after_156 1 rfl ?_
                    refine g_istore (pc := 158) (lv' := [(5, .int (nI k)), (7, .int (nI 1)), (6, .int (nI k)), (0, .ref (ka K z)), (1, .int (-1)), (2, .ref (ka K s)), (3, .int (bI di)), (4, .int (bI it))]) C d_Mod_after_158 (by decide) rfl ?_
                    refine g_iinc (pc := 160) (pl := 2) (v := nI (k + 1)) (lv' := [(6, .int (nI (k + 1))), (5, .int (nI k)), (7, .int (nI 1)), (0, .ref (ka K z)), (1, .int (-1)), (2, .ref (ka K s)), (3, .int (bI di)), (4, .int (bI it))]) C d_Mod_after_160 rfl (nI_1 _) (by decide) rfl ?_
                    refine g_goto (pc := 163) C 6 d_Mod_after_163 (by decide) ?_
                    have e := ih (k + 1) (by omega) (by omega)
                    rw [best_0 hkl hq hbe] at e
                    exact g_lv [0, 1, 3, 4, 5, 6, 7] rfl e
                  · exact absurd (by decide) h_127
                · skip
                  obtain ⟨hjk, hjl, -⟩ := best_lt hbe
                  have hxj := hb.p j (by omega)
                  have hxj1 := hxj.1
                  have hvj := hv j (by omega)
                  show gW X K E 125 [(7, .int (nI 1)), (6, .int (nI k)), (5, .int (nI j)), (0, .ref (ka K z)), (1, .int (-1)), (2, .ref (ka K s)), (3, .int (bI di)), (4, .int (bI it))] []
                  refine g_iload (pc := 125) C d_Mod_after_125 2 rfl ?_
                  refine g_if_ltN (pc := 127) C 156 d_Mod_after_127 (by decide) (by omega) ?_
                  refine g_aload_n (pc := 130) C d_Mod_after_130 3 rfl ?_
                  refine g_get (pc := 131) C fl_Mod_10 hZ.1 (by omega) rfl d_Mod_after_131 ?_
                  refine g_getN (pc := 134) C fN_Mod_216 ha.o (by omega) rfl d_Mod_after_134 ?_
                  refine g_iload (pc := 137) C d_Mod_after_137 1 rfl ?_
                  refine g_aldN (pc := 139) C ha.p (by omega) (gt_P _) (by omega) (by omega) d_Mod_after_139 (hv := rf_at (ha.p' k (by omega))) ?_
                  refine g_aload_n (pc := 140) C d_Mod_after_140 3 rfl ?_
                  refine g_get (pc := 141) C fl_Mod_10 hZ.1 (by omega) rfl d_Mod_after_141 ?_
                  refine g_getN (pc := 144) C fN_Mod_216 ha.o (by omega) rfl d_Mod_after_144 ?_
                  refine g_iload (pc := 147) C d_Mod_after_147 2 rfl ?_
                  refine g_aldN (pc := 149) C ha.p (by omega) (gt_P _) (by omega) (by omega) d_Mod_after_149 (hv := rf_at (ha.p' j (by omega))) ?_
                  refine g_ci (pc := 150) C (g_rV (As := [.ref (ka K (z + 1 + 52 + 2 * j))]) (rest := []) C (c_MPath_isBefore _ K _ (z + 1 + 52 + 2 * k) (v k).1 (z + 1 + 52 + 2 * j) (v j).1 hxk hxj) mw_MPath_isBefore mo_MPath_isBefore ml_Mod_229 (by decide) hxk1 rfl (by omega) rfl rfl (Nat.le_of_ble_eq_true rfl) d_Mod_after_150) (fun r150 E150 hp150 => ?_)
                  rw [hp150.1, hp150.2]
                  refine g_if_eqB (pc := 153) C 160 d_Mod_after_153 (by decide) (fun h_153 => ?_) (fun h_153 => ?_)
                  · skip
                    refine g_iinc (pc := 160) (pl := 1) (v := nI (k + 1)) (lv' := [(6, .int (nI (k + 1))), (7, .int (nI 1)), (5, .int (nI j)), (0, .ref (ka K z)), (1, .int (-1)), (2, .ref (ka K s)), (3, .int (bI di)), (4, .int (bI it))]) C d_Mod_after_160 rfl (nI_1 _) (by decide) rfl ?_
                    refine g_goto (pc := 163) C 6 d_Mod_after_163 (by decide) ?_
                    have e := ih (k + 1) (by omega) (by omega)
                    rw [best_s hkl hq hbe hjl, if_neg (by rw [← hvk, ← hvj, h_153]; decide)] at e
                    exact g_lv [0, 2, 3, 4, 5, 6, 7] rfl e
                  · skip
                    refine g_iload (pc := 156) C d_Mod_after_156 1 rfl ?_
                    refine g_istore (pc := 158) (lv' := [(5, .int (nI k)), (7, .int (nI 1)), (6, .int (nI k)), (0, .ref (ka K z)), (1, .int (-1)), (2, .ref (ka K s)), (3, .int (bI di)), (4, .int (bI it))]) C d_Mod_after_158 (by decide) rfl ?_
                    refine g_iinc (pc := 160) (pl := 2) (v := nI (k + 1)) (lv' := [(6, .int (nI (k + 1))), (5, .int (nI k)), (7, .int (nI 1)), (0, .ref (ka K z)), (1, .int (-1)), (2, .ref (ka K s)), (3, .int (bI di)), (4, .int (bI it))]) C d_Mod_after_160 rfl (nI_1 _) (by decide) rfl ?_
                    refine g_goto (pc := 163) C 6 d_Mod_after_163 (by decide) ?_
                    have e := ih (k + 1) (by omega) (by omega)
                    rw [best_s hkl hq hbe hjl, if_pos (by rw [← hvk, ← hvj]; exact h_153)] at e
                    exact g_lv [0, 1, 3, 4, 5, 6, 7] rfl e
              · exact absurd (by decide) h_94
      · skip
        refine g_aload_n (pc := 23) C d_Mod_after_23 2 rfl ?_
        refine g_get (pc := 24) C fl_Mod_10 hZ.1 (by omega) rfl d_Mod_after_24 ?_
        refine g_getN (pc := 27) C fN_Mod_216 ha.o (by omega) rfl d_Mod_after_27 ?_
        refine g_iload (pc := 30) C d_Mod_after_30 0 rfl ?_
        refine g_aldN (pc := 32) C ha.p (by omega) (gt_P _) (by omega) (by omega) d_Mod_after_32 (hv := rf_at (ha.p' k (by omega))) ?_
        refine g_aload_n (pc := 33) C d_Mod_after_33 4 rfl ?_
        refine g_ci (pc := 34) C (g_rV (As := [.ref (ka K s)]) (rest := []) C (c_MPath_same _ K _ (z + 1 + 52 + 2 * k) (v k).1 s p hxk hO) mw_MPath_same mo_MPath_same ml_Mod_219 (by decide) hxk1 rfl (by omega) rfl rfl (Nat.le_of_ble_eq_true rfl) d_Mod_after_34) (fun r34 E34 hp34 => ?_)
        rw [hp34.1, hp34.2]
        refine g_if_neB (pc := 37) C 81 d_Mod_after_37 (by decide) (fun h_37 => ?_) (fun h_37 => ?_)
        · skip
          refine g_iconst (pc := 81) (v := nI 1) C d_Mod_after_81 (by decide) ?_
          refine g_goto (pc := 82) C 86 d_Mod_after_82 (by decide) ?_
          have hask : askM di it p ms[k] = true := by
            rw [← hvk]
            first
              | (simp [askM, h_20, h_37]; done)
              | (simp [askM, h_41, h_58]; done)
              | (simp [askM, h_41, h_78]; done)
              | (simp [askM, h_20, h_41, h_58]; done)
              | (simp [askM, h_20, h_41, h_78]; done)
              | (simp [askM, h_20, of_decide_eq_false h_37, h_41, h_58]; done)
              | (simp [askM, h_20, of_decide_eq_false h_37, h_41, h_78]; done)
          refine g_istore (pc := 86) (lv' := [(7, .int (nI 1)), (6, .int (nI k)), (5, .int (fiI (bestF ms (selQ (askM di it p) (none)) k))), (0, .ref (ka K z)), (1, .int (-1)), (2, .ref (ka K s)), (3, .int (bI di)), (4, .int (bI it))]) C d_Mod_after_86 (by decide) rfl ?_
          refine g_iload (pc := 88) C d_Mod_after_88 0 rfl ?_
          refine g_if_eqN (pc := 90) C 160 d_Mod_after_90 (by decide) (by omega) (fun h_90 => ?_) (fun h_90 => ?_)
          · exact absurd h_90 (by decide)
          · skip
            refine g_iload_n (pc := 93) C d_Mod_after_93 4 rfl ?_
            refine g_if_lt (pc := 94) C 125 d_Mod_after_94 (by decide) (fun h_94 => ?_) (fun h_94 => ?_)
            · skip
              have hq : (selQ (askM di it p) (none)) ms[k] = true := by
                rw [selQ, hask]
                rfl
              rcases hbe : bestF ms (selQ (askM di it p) (none)) k with _ | j
              · skip
                skip
                show gW X K E 125 [(7, .int (nI 1)), (6, .int (nI k)), (5, .int (-1)), (0, .ref (ka K z)), (1, .int (-1)), (2, .ref (ka K s)), (3, .int (bI di)), (4, .int (bI it))] []
                refine g_iload (pc := 125) C d_Mod_after_125 2 rfl ?_
                refine g_if_lt (pc := 127) C 156 d_Mod_after_127 (by decide) (fun h_127 => ?_) (fun h_127 => ?_)
                · skip
                  refine g_iload (pc := 156) C d_Mod_after_156 1 rfl ?_
                  refine g_istore (pc := 158) (lv' := [(5, .int (nI k)), (7, .int (nI 1)), (6, .int (nI k)), (0, .ref (ka K z)), (1, .int (-1)), (2, .ref (ka K s)), (3, .int (bI di)), (4, .int (bI it))]) C d_Mod_after_158 (by decide) rfl ?_
                  refine g_iinc (pc := 160) (pl := 2) (v := nI (k + 1)) (lv' := [(6, .int (nI (k + 1))), (5, .int (nI k)), (7, .int (nI 1)), (0, .ref (ka K z)), (1, .int (-1)), (2, .ref (ka K s)), (3, .int (bI di)), (4, .int (bI it))]) C d_Mod_after_160 rfl (nI_1 _) (by decide) rfl ?_
                  refine g_goto (pc := 163) C 6 d_Mod_after_163 (by decide) ?_
                  have e := ih (k + 1) (by omega) (by omega)
                  rw [best_0 hkl hq hbe] at e
                  exact g_lv [0, 1, 3, 4, 5, 6, 7] rfl e
                · exact absurd (by decide) h_127
              · skip
                obtain ⟨hjk, hjl, -⟩ := best_lt hbe
                have hxj := hb.p j (by omega)
                have hxj1 := hxj.1
                have hvj := hv j (by omega)
                show gW X K E 125 [(7, .int (nI 1)), (6, .int (nI k)), (5, .int (nI j)), (0, .ref (ka K z)), (1, .int (-1)), (2, .ref (ka K s)), (3, .int (bI di)), (4, .int (bI it))] []
                refine g_iload (pc := 125) C d_Mod_after_125 2 rfl ?_
                refine g_if_ltN (pc := 127) C 156 d_Mod_after_127 (by decide) (by omega) ?_
                refine g_aload_n (pc := 130) C d_Mod_after_130 3 rfl ?_
                refine g_get (pc := 131) C fl_Mod_10 hZ.1 (by omega) rfl d_Mod_after_131 ?_
                refine g_getN (pc := 134) C fN_Mod_216 ha.o (by omega) rfl d_Mod_after_134 ?_
                refine g_iload (pc := 137) C d_Mod_after_137 1 rfl ?_
                refine g_aldN (pc := 139) C ha.p (by omega) (gt_P _) (by omega) (by omega) d_Mod_after_139 (hv := rf_at (ha.p' k (by omega))) ?_
                refine g_aload_n (pc := 140) C d_Mod_after_140 3 rfl ?_
                refine g_get (pc := 141) C fl_Mod_10 hZ.1 (by omega) rfl d_Mod_after_141 ?_
                refine g_getN (pc := 144) C fN_Mod_216 ha.o (by omega) rfl d_Mod_after_144 ?_
                refine g_iload (pc := 147) C d_Mod_after_147 2 rfl ?_
                refine g_aldN (pc := 149) C ha.p (by omega) (gt_P _) (by omega) (by omega) d_Mod_after_149 (hv := rf_at (ha.p' j (by omega))) ?_
                refine g_ci (pc := 150) C (g_rV (As := [.ref (ka K (z + 1 + 52 + 2 * j))]) (rest := []) C (c_MPath_isBefore _ K _ (z + 1 + 52 + 2 * k) (v k).1 (z + 1 + 52 + 2 * j) (v j).1 hxk hxj) mw_MPath_isBefore mo_MPath_isBefore ml_Mod_229 (by decide) hxk1 rfl (by omega) rfl rfl (Nat.le_of_ble_eq_true rfl) d_Mod_after_150) (fun r150 E150 hp150 => ?_)
                rw [hp150.1, hp150.2]
                refine g_if_eqB (pc := 153) C 160 d_Mod_after_153 (by decide) (fun h_153 => ?_) (fun h_153 => ?_)
                · skip
                  refine g_iinc (pc := 160) (pl := 1) (v := nI (k + 1)) (lv' := [(6, .int (nI (k + 1))), (7, .int (nI 1)), (5, .int (nI j)), (0, .ref (ka K z)), (1, .int (-1)), (2, .ref (ka K s)), (3, .int (bI di)), (4, .int (bI it))]) C d_Mod_after_160 rfl (nI_1 _) (by decide) rfl ?_
                  refine g_goto (pc := 163) C 6 d_Mod_after_163 (by decide) ?_
                  have e := ih (k + 1) (by omega) (by omega)
                  rw [best_s hkl hq hbe hjl, if_neg (by rw [← hvk, ← hvj, h_153]; decide)] at e
                  exact g_lv [0, 2, 3, 4, 5, 6, 7] rfl e
                · skip
                  refine g_iload (pc := 156) C d_Mod_after_156 1 rfl ?_
                  refine g_istore (pc := 158) (lv' := [(5, .int (nI k)), (7, .int (nI 1)), (6, .int (nI k)), (0, .ref (ka K z)), (1, .int (-1)), (2, .ref (ka K s)), (3, .int (bI di)), (4, .int (bI it))]) C d_Mod_after_158 (by decide) rfl ?_
                  refine g_iinc (pc := 160) (pl := 2) (v := nI (k + 1)) (lv' := [(6, .int (nI (k + 1))), (5, .int (nI k)), (7, .int (nI 1)), (0, .ref (ka K z)), (1, .int (-1)), (2, .ref (ka K s)), (3, .int (bI di)), (4, .int (bI it))]) C d_Mod_after_160 rfl (nI_1 _) (by decide) rfl ?_
                  refine g_goto (pc := 163) C 6 d_Mod_after_163 (by decide) ?_
                  have e := ih (k + 1) (by omega) (by omega)
                  rw [best_s hkl hq hbe hjl, if_pos (by rw [← hvk, ← hvj]; exact h_153)] at e
                  exact g_lv [0, 1, 3, 4, 5, 6, 7] rfl e
            · exact absurd (by decide) h_94
        · skip
          refine g_iload_n (pc := 40) C d_Mod_after_40 5 rfl ?_
          refine g_if_eqB (pc := 41) C 64 d_Mod_after_41 (by decide) (fun h_41 => ?_) (fun h_41 => ?_)
          · skip
            refine g_aload_n (pc := 64) C d_Mod_after_64 2 rfl ?_
            refine g_get (pc := 65) C fl_Mod_10 hZ.1 (by omega) rfl d_Mod_after_65 ?_
            refine g_getN (pc := 68) C fN_Mod_216 ha.o (by omega) rfl d_Mod_after_68 ?_
            refine g_iload (pc := 71) C d_Mod_after_71 0 rfl ?_
            refine g_aldN (pc := 73) C ha.p (by omega) (gt_P _) (by omega) (by omega) d_Mod_after_73 (hv := rf_at (ha.p' k (by omega))) ?_
            refine g_aload_n (pc := 74) C d_Mod_after_74 4 rfl ?_
            refine g_ci (pc := 75) C (g_rV (As := [.ref (ka K s)]) (rest := []) C (c_MPath_isIn _ K _ (z + 1 + 52 + 2 * k) (v k).1 s p hxk hO) mw_MPath_isIn mo_MPath_isIn ml_Mod_226 (by decide) hxk1 rfl (by omega) rfl rfl (Nat.le_of_ble_eq_true rfl) d_Mod_after_75) (fun r75 E75 hp75 => ?_)
            rw [hp75.1, hp75.2]
            refine g_if_eqB (pc := 78) C 85 d_Mod_after_78 (by decide) (fun h_78 => ?_) (fun h_78 => ?_)
            · skip
              refine g_iconst (pc := 85) (v := nI 0) C d_Mod_after_85 (by decide) ?_
              have hask : askM di it p ms[k] = false := by
                rw [← hvk]
                first
                  | (simp [askM, h_20, h_37]; done)
                  | (simp [askM, h_41, h_58]; done)
                  | (simp [askM, h_41, h_78]; done)
                  | (simp [askM, h_20, h_41, h_58]; done)
                  | (simp [askM, h_20, h_41, h_78]; done)
                  | (simp [askM, h_20, of_decide_eq_false h_37, h_41, h_58]; done)
                  | (simp [askM, h_20, of_decide_eq_false h_37, h_41, h_78]; done)
              refine g_istore (pc := 86) (lv' := [(7, .int (nI 0)), (6, .int (nI k)), (5, .int (fiI (bestF ms (selQ (askM di it p) (none)) k))), (0, .ref (ka K z)), (1, .int (-1)), (2, .ref (ka K s)), (3, .int (bI di)), (4, .int (bI it))]) C d_Mod_after_86 (by decide) rfl ?_
              refine g_iload (pc := 88) C d_Mod_after_88 0 rfl ?_
              refine g_if_eqN (pc := 90) C 160 d_Mod_after_90 (by decide) (by omega) (fun h_90 => ?_) (fun h_90 => ?_)
              · skip
                refine g_iinc (pc := 160) (pl := 1) (v := nI (k + 1)) (lv' := [(6, .int (nI (k + 1))), (7, .int (nI 0)), (5, .int (fiI (bestF ms (selQ (askM di it p) (none)) k))), (0, .ref (ka K z)), (1, .int (-1)), (2, .ref (ka K s)), (3, .int (bI di)), (4, .int (bI it))]) C d_Mod_after_160 rfl (nI_1 _) (by decide) rfl ?_
                refine g_goto (pc := 163) C 6 d_Mod_after_163 (by decide) ?_
                have hq : (selQ (askM di it p) (none)) ms[k] = false := by rw [selQ, hask]; rfl
                have e := ih (k + 1) (by omega) (by omega)
                rw [best_no hkl hq] at e
                exact g_lv [0, 2, 3, 4, 5, 6, 7] rfl e
              · exact absurd h_90 (by decide)
            · skip
              refine g_iconst (pc := 81) (v := nI 1) C d_Mod_after_81 (by decide) ?_
              refine g_goto (pc := 82) C 86 d_Mod_after_82 (by decide) ?_
              have hask : askM di it p ms[k] = true := by
                rw [← hvk]
                first
                  | (simp [askM, h_20, h_37]; done)
                  | (simp [askM, h_41, h_58]; done)
                  | (simp [askM, h_41, h_78]; done)
                  | (simp [askM, h_20, h_41, h_58]; done)
                  | (simp [askM, h_20, h_41, h_78]; done)
                  | (simp [askM, h_20, of_decide_eq_false h_37, h_41, h_58]; done)
                  | (simp [askM, h_20, of_decide_eq_false h_37, h_41, h_78]; done)
              refine g_istore (pc := 86) (lv' := [(7, .int (nI 1)), (6, .int (nI k)), (5, .int (fiI (bestF ms (selQ (askM di it p) (none)) k))), (0, .ref (ka K z)), (1, .int (-1)), (2, .ref (ka K s)), (3, .int (bI di)), (4, .int (bI it))]) C d_Mod_after_86 (by decide) rfl ?_
              refine g_iload (pc := 88) C d_Mod_after_88 0 rfl ?_
              refine g_if_eqN (pc := 90) C 160 d_Mod_after_90 (by decide) (by omega) (fun h_90 => ?_) (fun h_90 => ?_)
              · exact absurd h_90 (by decide)
              · skip
                refine g_iload_n (pc := 93) C d_Mod_after_93 4 rfl ?_
                refine g_if_lt (pc := 94) C 125 d_Mod_after_94 (by decide) (fun h_94 => ?_) (fun h_94 => ?_)
                · skip
                  have hq : (selQ (askM di it p) (none)) ms[k] = true := by
                    rw [selQ, hask]
                    rfl
                  rcases hbe : bestF ms (selQ (askM di it p) (none)) k with _ | j
                  · skip
                    skip
                    show gW X K E 125 [(7, .int (nI 1)), (6, .int (nI k)), (5, .int (-1)), (0, .ref (ka K z)), (1, .int (-1)), (2, .ref (ka K s)), (3, .int (bI di)), (4, .int (bI it))] []
                    refine g_iload (pc := 125) C d_Mod_after_125 2 rfl ?_
                    refine g_if_lt (pc := 127) C 156 d_Mod_after_127 (by decide) (fun h_127 => ?_) (fun h_127 => ?_)
                    · skip
                      refine g_iload (pc := 156) C d_Mod_after_156 1 rfl ?_
                      refine g_istore (pc := 158) (lv' := [(5, .int (nI k)), (7, .int (nI 1)), (6, .int (nI k)), (0, .ref (ka K z)), (1, .int (-1)), (2, .ref (ka K s)), (3, .int (bI di)), (4, .int (bI it))]) C d_Mod_after_158 (by decide) rfl ?_
                      refine g_iinc (pc := 160) (pl := 2) (v := nI (k + 1)) (lv' := [(6, .int (nI (k + 1))), (5, .int (nI k)), (7, .int (nI 1)), (0, .ref (ka K z)), (1, .int (-1)), (2, .ref (ka K s)), (3, .int (bI di)), (4, .int (bI it))]) C d_Mod_after_160 rfl (nI_1 _) (by decide) rfl ?_
                      refine g_goto (pc := 163) C 6 d_Mod_after_163 (by decide) ?_
                      have e := ih (k + 1) (by omega) (by omega)
                      rw [best_0 hkl hq hbe] at e
                      exact g_lv [0, 1, 3, 4, 5, 6, 7] rfl e
                    · exact absurd (by decide) h_127
                  · skip
                    obtain ⟨hjk, hjl, -⟩ := best_lt hbe
                    have hxj := hb.p j (by omega)
                    have hxj1 := hxj.1
                    have hvj := hv j (by omega)
                    show gW X K E 125 [(7, .int (nI 1)), (6, .int (nI k)), (5, .int (nI j)), (0, .ref (ka K z)), (1, .int (-1)), (2, .ref (ka K s)), (3, .int (bI di)), (4, .int (bI it))] []
                    refine g_iload (pc := 125) C d_Mod_after_125 2 rfl ?_
                    refine g_if_ltN (pc := 127) C 156 d_Mod_after_127 (by decide) (by omega) ?_
                    refine g_aload_n (pc := 130) C d_Mod_after_130 3 rfl ?_
                    refine g_get (pc := 131) C fl_Mod_10 hZ.1 (by omega) rfl d_Mod_after_131 ?_
                    refine g_getN (pc := 134) C fN_Mod_216 ha.o (by omega) rfl d_Mod_after_134 ?_
                    refine g_iload (pc := 137) C d_Mod_after_137 1 rfl ?_
                    refine g_aldN (pc := 139) C ha.p (by omega) (gt_P _) (by omega) (by omega) d_Mod_after_139 (hv := rf_at (ha.p' k (by omega))) ?_
                    refine g_aload_n (pc := 140) C d_Mod_after_140 3 rfl ?_
                    refine g_get (pc := 141) C fl_Mod_10 hZ.1 (by omega) rfl d_Mod_after_141 ?_
                    refine g_getN (pc := 144) C fN_Mod_216 ha.o (by omega) rfl d_Mod_after_144 ?_
                    refine g_iload (pc := 147) C d_Mod_after_147 2 rfl ?_
                    refine g_aldN (pc := 149) C ha.p (by omega) (gt_P _) (by omega) (by omega) d_Mod_after_149 (hv := rf_at (ha.p' j (by omega))) ?_
                    refine g_ci (pc := 150) C (g_rV (As := [.ref (ka K (z + 1 + 52 + 2 * j))]) (rest := []) C (c_MPath_isBefore _ K _ (z + 1 + 52 + 2 * k) (v k).1 (z + 1 + 52 + 2 * j) (v j).1 hxk hxj) mw_MPath_isBefore mo_MPath_isBefore ml_Mod_229 (by decide) hxk1 rfl (by omega) rfl rfl (Nat.le_of_ble_eq_true rfl) d_Mod_after_150) (fun r150 E150 hp150 => ?_)
                    rw [hp150.1, hp150.2]
                    refine g_if_eqB (pc := 153) C 160 d_Mod_after_153 (by decide) (fun h_153 => ?_) (fun h_153 => ?_)
                    · skip
                      refine g_iinc (pc := 160) (pl := 1) (v := nI (k + 1)) (lv' := [(6, .int (nI (k + 1))), (7, .int (nI 1)), (5, .int (nI j)), (0, .ref (ka K z)), (1, .int (-1)), (2, .ref (ka K s)), (3, .int (bI di)), (4, .int (bI it))]) C d_Mod_after_160 rfl (nI_1 _) (by decide) rfl ?_
                      refine g_goto (pc := 163) C 6 d_Mod_after_163 (by decide) ?_
                      have e := ih (k + 1) (by omega) (by omega)
                      rw [best_s hkl hq hbe hjl, if_neg (by rw [← hvk, ← hvj, h_153]; decide)] at e
                      exact g_lv [0, 2, 3, 4, 5, 6, 7] rfl e
                    · skip
                      refine g_iload (pc := 156) C d_Mod_after_156 1 rfl ?_
                      refine g_istore (pc := 158) (lv' := [(5, .int (nI k)), (7, .int (nI 1)), (6, .int (nI k)), (0, .ref (ka K z)), (1, .int (-1)), (2, .ref (ka K s)), (3, .int (bI di)), (4, .int (bI it))]) C d_Mod_after_158 (by decide) rfl ?_
                      refine g_iinc (pc := 160) (pl := 2) (v := nI (k + 1)) (lv' := [(6, .int (nI (k + 1))), (5, .int (nI k)), (7, .int (nI 1)), (0, .ref (ka K z)), (1, .int (-1)), (2, .ref (ka K s)), (3, .int (bI di)), (4, .int (bI it))]) C d_Mod_after_160 rfl (nI_1 _) (by decide) rfl ?_
                      refine g_goto (pc := 163) C 6 d_Mod_after_163 (by decide) ?_
                      have e := ih (k + 1) (by omega) (by omega)
                      rw [best_s hkl hq hbe hjl, if_pos (by rw [← hvk, ← hvj]; exact h_153)] at e
                      exact g_lv [0, 1, 3, 4, 5, 6, 7] rfl e
                · exact absurd (by decide) h_94
          · skip
            refine g_aload_n (pc := 44) C d_Mod_after_44 2 rfl ?_
            refine g_get (pc := 45) C fl_Mod_10 hZ.1 (by omega) rfl d_Mod_after_45 ?_
            refine g_getN (pc := 48) C fN_Mod_216 ha.o (by omega) rfl d_Mod_after_48 ?_
            refine g_iload (pc := 51) C d_Mod_after_51 0 rfl ?_
            refine g_aldN (pc := 53) C ha.p (by omega) (gt_P _) (by omega) (by omega) d_Mod_after_53 (hv := rf_at (ha.p' k (by omega))) ?_
            refine g_aload_n (pc := 54) C d_Mod_after_54 4 rfl ?_
            refine g_ci (pc := 55) C (g_rV (As := [.ref (ka K s)]) (rest := []) C (c_MPath_isDirectlyIn _ K _ (z + 1 + 52 + 2 * k) (v k).1 s p hxk hO) mw_MPath_isDirectlyIn mo_MPath_isDirectlyIn ml_Mod_223 (by decide) hxk1 rfl (by omega) rfl rfl (Nat.le_of_ble_eq_true rfl) d_Mod_after_55) (fun r55 E55 hp55 => ?_)
            rw [hp55.1, hp55.2]
            refine g_if_eqB (pc := 58) C 85 d_Mod_after_58 (by decide) (fun h_58 => ?_) (fun h_58 => ?_)
            · skip
              refine g_iconst (pc := 85) (v := nI 0) C d_Mod_after_85 (by decide) ?_
              have hask : askM di it p ms[k] = false := by
                rw [← hvk]
                first
                  | (simp [askM, h_20, h_37]; done)
                  | (simp [askM, h_41, h_58]; done)
                  | (simp [askM, h_41, h_78]; done)
                  | (simp [askM, h_20, h_41, h_58]; done)
                  | (simp [askM, h_20, h_41, h_78]; done)
                  | (simp [askM, h_20, of_decide_eq_false h_37, h_41, h_58]; done)
                  | (simp [askM, h_20, of_decide_eq_false h_37, h_41, h_78]; done)
              refine g_istore (pc := 86) (lv' := [(7, .int (nI 0)), (6, .int (nI k)), (5, .int (fiI (bestF ms (selQ (askM di it p) (none)) k))), (0, .ref (ka K z)), (1, .int (-1)), (2, .ref (ka K s)), (3, .int (bI di)), (4, .int (bI it))]) C d_Mod_after_86 (by decide) rfl ?_
              refine g_iload (pc := 88) C d_Mod_after_88 0 rfl ?_
              refine g_if_eqN (pc := 90) C 160 d_Mod_after_90 (by decide) (by omega) (fun h_90 => ?_) (fun h_90 => ?_)
              · skip
                refine g_iinc (pc := 160) (pl := 1) (v := nI (k + 1)) (lv' := [(6, .int (nI (k + 1))), (7, .int (nI 0)), (5, .int (fiI (bestF ms (selQ (askM di it p) (none)) k))), (0, .ref (ka K z)), (1, .int (-1)), (2, .ref (ka K s)), (3, .int (bI di)), (4, .int (bI it))]) C d_Mod_after_160 rfl (nI_1 _) (by decide) rfl ?_
                refine g_goto (pc := 163) C 6 d_Mod_after_163 (by decide) ?_
                have hq : (selQ (askM di it p) (none)) ms[k] = false := by rw [selQ, hask]; rfl
                have e := ih (k + 1) (by omega) (by omega)
                rw [best_no hkl hq] at e
                exact g_lv [0, 2, 3, 4, 5, 6, 7] rfl e
              · exact absurd h_90 (by decide)
            · skip
              refine g_goto (pc := 61) C 81 d_Mod_after_61 (by decide) ?_
              refine g_iconst (pc := 81) (v := nI 1) C d_Mod_after_81 (by decide) ?_
              refine g_goto (pc := 82) C 86 d_Mod_after_82 (by decide) ?_
              have hask : askM di it p ms[k] = true := by
                rw [← hvk]
                first
                  | (simp [askM, h_20, h_37]; done)
                  | (simp [askM, h_41, h_58]; done)
                  | (simp [askM, h_41, h_78]; done)
                  | (simp [askM, h_20, h_41, h_58]; done)
                  | (simp [askM, h_20, h_41, h_78]; done)
                  | (simp [askM, h_20, of_decide_eq_false h_37, h_41, h_58]; done)
                  | (simp [askM, h_20, of_decide_eq_false h_37, h_41, h_78]; done)
              refine g_istore (pc := 86) (lv' := [(7, .int (nI 1)), (6, .int (nI k)), (5, .int (fiI (bestF ms (selQ (askM di it p) (none)) k))), (0, .ref (ka K z)), (1, .int (-1)), (2, .ref (ka K s)), (3, .int (bI di)), (4, .int (bI it))]) C d_Mod_after_86 (by decide) rfl ?_
              refine g_iload (pc := 88) C d_Mod_after_88 0 rfl ?_
              refine g_if_eqN (pc := 90) C 160 d_Mod_after_90 (by decide) (by omega) (fun h_90 => ?_) (fun h_90 => ?_)
              · exact absurd h_90 (by decide)
              · skip
                refine g_iload_n (pc := 93) C d_Mod_after_93 4 rfl ?_
                refine g_if_lt (pc := 94) C 125 d_Mod_after_94 (by decide) (fun h_94 => ?_) (fun h_94 => ?_)
                · skip
                  have hq : (selQ (askM di it p) (none)) ms[k] = true := by
                    rw [selQ, hask]
                    rfl
                  rcases hbe : bestF ms (selQ (askM di it p) (none)) k with _ | j
                  · skip
                    skip
                    show gW X K E 125 [(7, .int (nI 1)), (6, .int (nI k)), (5, .int (-1)), (0, .ref (ka K z)), (1, .int (-1)), (2, .ref (ka K s)), (3, .int (bI di)), (4, .int (bI it))] []
                    refine g_iload (pc := 125) C d_Mod_after_125 2 rfl ?_
                    refine g_if_lt (pc := 127) C 156 d_Mod_after_127 (by decide) (fun h_127 => ?_) (fun h_127 => ?_)
                    · skip
                      refine g_iload (pc := 156) C d_Mod_after_156 1 rfl ?_
                      refine g_istore (pc := 158) (lv' := [(5, .int (nI k)), (7, .int (nI 1)), (6, .int (nI k)), (0, .ref (ka K z)), (1, .int (-1)), (2, .ref (ka K s)), (3, .int (bI di)), (4, .int (bI it))]) C d_Mod_after_158 (by decide) rfl ?_
                      refine g_iinc (pc := 160) (pl := 2) (v := nI (k + 1)) (lv' := [(6, .int (nI (k + 1))), (5, .int (nI k)), (7, .int (nI 1)), (0, .ref (ka K z)), (1, .int (-1)), (2, .ref (ka K s)), (3, .int (bI di)), (4, .int (bI it))]) C d_Mod_after_160 rfl (nI_1 _) (by decide) rfl ?_
                      refine g_goto (pc := 163) C 6 d_Mod_after_163 (by decide) ?_
                      have e := ih (k + 1) (by omega) (by omega)
                      rw [best_0 hkl hq hbe] at e
                      exact g_lv [0, 1, 3, 4, 5, 6, 7] rfl e
                    · exact absurd (by decide) h_127
                  · skip
                    obtain ⟨hjk, hjl, -⟩ := best_lt hbe
                    have hxj := hb.p j (by omega)
                    have hxj1 := hxj.1
                    have hvj := hv j (by omega)
                    show gW X K E 125 [(7, .int (nI 1)), (6, .int (nI k)), (5, .int (nI j)), (0, .ref (ka K z)), (1, .int (-1)), (2, .ref (ka K s)), (3, .int (bI di)), (4, .int (bI it))] []
                    refine g_iload (pc := 125) C d_Mod_after_125 2 rfl ?_
                    refine g_if_ltN (pc := 127) C 156 d_Mod_after_127 (by decide) (by omega) ?_
                    refine g_aload_n (pc := 130) C d_Mod_after_130 3 rfl ?_
                    refine g_get (pc := 131) C fl_Mod_10 hZ.1 (by omega) rfl d_Mod_after_131 ?_
                    refine g_getN (pc := 134) C fN_Mod_216 ha.o (by omega) rfl d_Mod_after_134 ?_
                    refine g_iload (pc := 137) C d_Mod_after_137 1 rfl ?_
                    refine g_aldN (pc := 139) C ha.p (by omega) (gt_P _) (by omega) (by omega) d_Mod_after_139 (hv := rf_at (ha.p' k (by omega))) ?_
                    refine g_aload_n (pc := 140) C d_Mod_after_140 3 rfl ?_
                    refine g_get (pc := 141) C fl_Mod_10 hZ.1 (by omega) rfl d_Mod_after_141 ?_
                    refine g_getN (pc := 144) C fN_Mod_216 ha.o (by omega) rfl d_Mod_after_144 ?_
                    refine g_iload (pc := 147) C d_Mod_after_147 2 rfl ?_
                    refine g_aldN (pc := 149) C ha.p (by omega) (gt_P _) (by omega) (by omega) d_Mod_after_149 (hv := rf_at (ha.p' j (by omega))) ?_
                    refine g_ci (pc := 150) C (g_rV (As := [.ref (ka K (z + 1 + 52 + 2 * j))]) (rest := []) C (c_MPath_isBefore _ K _ (z + 1 + 52 + 2 * k) (v k).1 (z + 1 + 52 + 2 * j) (v j).1 hxk hxj) mw_MPath_isBefore mo_MPath_isBefore ml_Mod_229 (by decide) hxk1 rfl (by omega) rfl rfl (Nat.le_of_ble_eq_true rfl) d_Mod_after_150) (fun r150 E150 hp150 => ?_)
                    rw [hp150.1, hp150.2]
                    refine g_if_eqB (pc := 153) C 160 d_Mod_after_153 (by decide) (fun h_153 => ?_) (fun h_153 => ?_)
                    · skip
                      refine g_iinc (pc := 160) (pl := 1) (v := nI (k + 1)) (lv' := [(6, .int (nI (k + 1))), (7, .int (nI 1)), (5, .int (nI j)), (0, .ref (ka K z)), (1, .int (-1)), (2, .ref (ka K s)), (3, .int (bI di)), (4, .int (bI it))]) C d_Mod_after_160 rfl (nI_1 _) (by decide) rfl ?_
                      refine g_goto (pc := 163) C 6 d_Mod_after_163 (by decide) ?_
                      have e := ih (k + 1) (by omega) (by omega)
                      rw [best_s hkl hq hbe hjl, if_neg (by rw [← hvk, ← hvj, h_153]; decide)] at e
                      exact g_lv [0, 2, 3, 4, 5, 6, 7] rfl e
                    · skip
                      refine g_iload (pc := 156) C d_Mod_after_156 1 rfl ?_
                      refine g_istore (pc := 158) (lv' := [(5, .int (nI k)), (7, .int (nI 1)), (6, .int (nI k)), (0, .ref (ka K z)), (1, .int (-1)), (2, .ref (ka K s)), (3, .int (bI di)), (4, .int (bI it))]) C d_Mod_after_158 (by decide) rfl ?_
                      refine g_iinc (pc := 160) (pl := 2) (v := nI (k + 1)) (lv' := [(6, .int (nI (k + 1))), (5, .int (nI k)), (7, .int (nI 1)), (0, .ref (ka K z)), (1, .int (-1)), (2, .ref (ka K s)), (3, .int (bI di)), (4, .int (bI it))]) C d_Mod_after_160 rfl (nI_1 _) (by decide) rfl ?_
                      refine g_goto (pc := 163) C 6 d_Mod_after_163 (by decide) ?_
                      have e := ih (k + 1) (by omega) (by omega)
                      rw [best_s hkl hq hbe hjl, if_pos (by rw [← hvk, ← hvj]; exact h_153)] at e
                      exact g_lv [0, 1, 3, 4, 5, 6, 7] rfl e
                · exact absurd (by decide) h_94

set_option maxHeartbeats 4000000 in
set_option maxRecDepth 100000 in
theorem c_Mod_after_n (l : Launch) (K : gK) (E : gE) (z : Nat) (tp os pa ta pr md : Bs) (ms : List Me) (ls : List Lk) (kms : List Me) (kls : List Lk) (bms : List Me) (bls : List Lk) (ck vn tn : Int32) (mt hs bo : Nat) (vl : Nat → Int32) (hZ : isZ K E z tp os pa ta pr md ms ls kms kls bms bls ck vn tn mt hs bo vl) (s : Nat) (p : Bs) (hO : isP K E s p) (di it : Bool) : gMi l y_Mod_after b_Mod_after 8 .int 3 192 K E [.ref (ka K z), .int (-1), .ref (ka K s), .int (bI di), .int (bI it)] (fun r E' => r = fiI (bestF ms (selQ (askM di it p) (none)) ms.length) ∧ E' = E) := by
  refine g_meti (by decide +kernel) (Nat.le_of_ble_eq_true rfl) (fun X hl C hR => ?_)
  subst hl
  show gW X K E 0 [(0, .ref (ka K z)), (1, .int (-1)), (2, .ref (ka K s)), (3, .int (bI di)), (4, .int (bI it))] []
  refine g_iconst (pc := 0) (v := -1) C d_Mod_after_0 (by decide) ?_
  refine g_istore (pc := 1) (lv' := [(5, .int (-1)), (0, .ref (ka K z)), (1, .int (-1)), (2, .ref (ka K s)), (3, .int (bI di)), (4, .int (bI it))]) C d_Mod_after_1 (by decide) rfl ?_
  refine g_iconst (pc := 3) (v := nI 0) C d_Mod_after_3 (by decide) ?_
  refine g_istore (pc := 4) (lv' := [(6, .int (nI 0)), (5, .int (-1)), (0, .ref (ka K z)), (1, .int (-1)), (2, .ref (ka K s)), (3, .int (bI di)), (4, .int (bI it))]) C d_Mod_after_4 (by decide) rfl ?_
  exact g_lv [0, 1, 2, 3, 4, 5, 6] rfl (w_Z_after_n C E z tp os pa ta pr md ms ls kms kls bms bls ck vn tn mt hs bo vl hZ s p hO di it hR (ms.length + 1) 0 (Nat.zero_le _) (by omega))

set_option maxHeartbeats 4000000 in
set_option maxRecDepth 100000 in
theorem w_Z_after_s {X : gX} {K : gK} (C : gC X K b_Mod_after "DavRoomModel" 8 3 192) (E : gE) (z : Nat) (tp os pa ta pr md : Bs) (ms : List Me) (ls : List Lk) (kms : List Me) (kls : List Lk) (bms : List Me) (bls : List Lk) (ck vn tn : Int32) (mt hs bo : Nat) (vl : Nat → Int32) (hZ : isZ K E z tp os pa ta pr md ms ls kms kls bms bls ck vn tn mt hs bo vl) (s : Nat) (p : Bs) (hO : isP K E s p) (di it : Bool) (lk : Nat) (hlk : lk < ms.length) (hR : gRi X K .int (fun r E' => r = fiI (bestF ms (selQ (askM di it p) (some ms[lk].1)) ms.length) ∧ E' = E)) : ∀ (d k : Nat), k ≤ ms.length → ms.length + 1 ≤ k + d → gW X K E 6 [(6, .int (nI k)), (5, .int (fiI (bestF ms (selQ (askM di it p) (some ms[lk].1)) k))), (0, .ref (ka K z)), (1, .int (nI lk)), (2, .ref (ka K s)), (3, .int (bI di)), (4, .int (bI it))] [] := by
  have hzN := hZ.2.2.2.2.2.2.2.2.2.2.2.2.2
  have htl := hZ.2.2.2.1.1
  have hol := hZ.2.2.2.2.1.1
  have hnm := hZ.2.1.lim
  have hkm := hZ.2.2.1.lim
  have hbm := hZ.2.2.2.2.2.2.2.2.2.2.2.1.lim
  have hpal := hZ.2.2.2.2.2.2.2.1.2.1
  have htal := hZ.2.2.2.2.2.2.2.2.1.2.1
  have hprl := hZ.2.2.2.2.2.2.2.2.2.2.1.2.1
  have hmdl := hZ.2.2.2.2.2.2.2.2.2.2.2.2.1.2.1
  obtain ⟨v, w, hM, hv, hw⟩ := hZ.2.1
  obtain ⟨kd, ve, sz, tok, en, dp, on, dt, fp, fd, fl, ha, hb⟩ := hM
  have hrN := ha.N
  intro d
  induction d with
  | zero =>
    intro k h1 h2
    exact absurd h2 (by omega)
  | succ d ih =>
    intro k hk hd
    refine g_iload (pc := 6) C d_Mod_after_6 0 rfl ?_
    refine g_aload_n (pc := 8) C d_Mod_after_8 2 rfl ?_
    refine g_get (pc := 9) C fl_Mod_10 hZ.1 (by omega) rfl d_Mod_after_9 ?_
    refine g_getN (pc := 12) C fN_Mod_215 ha.o (by omega) rfl d_Mod_after_12 ?_
    refine g_icmp_geN (pc := 15) C 166 d_Mod_after_15 (by decide) (by omega) (by omega) (fun h_15 => ?_) (fun h_15 => ?_)
    · skip
      refine g_iload (pc := 166) C d_Mod_after_166 1 rfl ?_
      refine g_iret (pc := 168) C hR d_Mod_after_168 ?_
      have ek : k = ms.length := by omega
      subst ek
      exact ⟨rfl, rfl⟩
    · skip
      have hkl : k < ms.length := by omega
      have hxk := hb.p k (by omega)
      have hxk1 := hxk.1
      have hvk := hv k (by omega)
      have hxl := hb.p lk (by omega)
      have hxl1 := hxl.1
      have hvl := hv lk (by omega)
      refine g_iload (pc := 18) C d_Mod_after_18 6 rfl ?_
      refine g_if_eqB (pc := 20) C 40 d_Mod_after_20 (by decide) (fun h_20 => ?_) (fun h_20 => ?_)
      · skip
        refine g_iload_n (pc := 40) C d_Mod_after_40 5 rfl ?_
        refine g_if_eqB (pc := 41) C 64 d_Mod_after_41 (by decide) (fun h_41 => ?_) (fun h_41 => ?_)
        · skip
          refine g_aload_n (pc := 64) C d_Mod_after_64 2 rfl ?_
          refine g_get (pc := 65) C fl_Mod_10 hZ.1 (by omega) rfl d_Mod_after_65 ?_
          refine g_getN (pc := 68) C fN_Mod_216 ha.o (by omega) rfl d_Mod_after_68 ?_
          refine g_iload (pc := 71) C d_Mod_after_71 0 rfl ?_
          refine g_aldN (pc := 73) C ha.p (by omega) (gt_P _) (by omega) (by omega) d_Mod_after_73 (hv := rf_at (ha.p' k (by omega))) ?_
          refine g_aload_n (pc := 74) C d_Mod_after_74 4 rfl ?_
          refine g_ci (pc := 75) C (g_rV (As := [.ref (ka K s)]) (rest := []) C (c_MPath_isIn _ K _ (z + 1 + 52 + 2 * k) (v k).1 s p hxk hO) mw_MPath_isIn mo_MPath_isIn ml_Mod_226 (by decide) hxk1 rfl (by omega) rfl rfl (Nat.le_of_ble_eq_true rfl) d_Mod_after_75) (fun r75 E75 hp75 => ?_)
          rw [hp75.1, hp75.2]
          refine g_if_eqB (pc := 78) C 85 d_Mod_after_78 (by decide) (fun h_78 => ?_) (fun h_78 => ?_)
          · skip
            refine g_iconst (pc := 85) (v := nI 0) C d_Mod_after_85 (by decide) ?_
            have hask : askM di it p ms[k] = false := by
              rw [← hvk]
              first
                | (simp [askM, h_20, h_37]; done)
                | (simp [askM, h_41, h_58]; done)
                | (simp [askM, h_41, h_78]; done)
                | (simp [askM, h_20, h_41, h_58]; done)
                | (simp [askM, h_20, h_41, h_78]; done)
                | (simp [askM, h_20, of_decide_eq_false h_37, h_41, h_58]; done)
                | (simp [askM, h_20, of_decide_eq_false h_37, h_41, h_78]; done)
            refine g_istore (pc := 86) (lv' := [(7, .int (nI 0)), (6, .int (nI k)), (5, .int (fiI (bestF ms (selQ (askM di it p) (some ms[lk].1)) k))), (0, .ref (ka K z)), (1, .int (nI lk)), (2, .ref (ka K s)), (3, .int (bI di)), (4, .int (bI it))]) C d_Mod_after_86 (by decide) rfl ?_
            refine g_iload (pc := 88) C d_Mod_after_88 0 rfl ?_
            refine g_if_eqN (pc := 90) C 160 d_Mod_after_90 (by decide) (by omega) (fun h_90 => ?_) (fun h_90 => ?_)
            · skip
              refine g_iinc (pc := 160) (pl := 1) (v := nI (k + 1)) (lv' := [(6, .int (nI (k + 1))), (7, .int (nI 0)), (5, .int (fiI (bestF ms (selQ (askM di it p) (some ms[lk].1)) k))), (0, .ref (ka K z)), (1, .int (nI lk)), (2, .ref (ka K s)), (3, .int (bI di)), (4, .int (bI it))]) C d_Mod_after_160 rfl (nI_1 _) (by decide) rfl ?_
              refine g_goto (pc := 163) C 6 d_Mod_after_163 (by decide) ?_
              have hq : (selQ (askM di it p) (some ms[lk].1)) ms[k] = false := by rw [selQ, hask]; rfl
              have e := ih (k + 1) (by omega) (by omega)
              rw [best_no hkl hq] at e
              exact g_lv [0, 2, 3, 4, 5, 6, 7] rfl e
            · exact absurd h_90 (by decide)
          · skip
            refine g_iconst (pc := 81) (v := nI 1) C d_Mod_after_81 (by decide) ?_
            refine g_goto (pc := 82) C 86 d_Mod_after_82 (by decide) ?_
            have hask : askM di it p ms[k] = true := by
              rw [← hvk]
              first
                | (simp [askM, h_20, h_37]; done)
                | (simp [askM, h_41, h_58]; done)
                | (simp [askM, h_41, h_78]; done)
                | (simp [askM, h_20, h_41, h_58]; done)
                | (simp [askM, h_20, h_41, h_78]; done)
                | (simp [askM, h_20, of_decide_eq_false h_37, h_41, h_58]; done)
                | (simp [askM, h_20, of_decide_eq_false h_37, h_41, h_78]; done)
            refine g_istore (pc := 86) (lv' := [(7, .int (nI 1)), (6, .int (nI k)), (5, .int (fiI (bestF ms (selQ (askM di it p) (some ms[lk].1)) k))), (0, .ref (ka K z)), (1, .int (nI lk)), (2, .ref (ka K s)), (3, .int (bI di)), (4, .int (bI it))]) C d_Mod_after_86 (by decide) rfl ?_
            refine g_iload (pc := 88) C d_Mod_after_88 0 rfl ?_
            refine g_if_eqN (pc := 90) C 160 d_Mod_after_90 (by decide) (by omega) (fun h_90 => ?_) (fun h_90 => ?_)
            · exact absurd h_90 (by decide)
            · skip
              refine g_iload_n (pc := 93) C d_Mod_after_93 4 rfl ?_
              refine g_if_ltN (pc := 94) C 125 d_Mod_after_94 (by decide) (by omega) ?_
              refine g_aload_n (pc := 97) C d_Mod_after_97 3 rfl ?_
              refine g_get (pc := 98) C fl_Mod_10 hZ.1 (by omega) rfl d_Mod_after_98 ?_
              refine g_getN (pc := 101) C fN_Mod_216 ha.o (by omega) rfl d_Mod_after_101 ?_
              refine g_iload_n (pc := 104) C d_Mod_after_104 4 rfl ?_
              refine g_aldN (pc := 105) C ha.p (by omega) (gt_P _) (by omega) (by omega) d_Mod_after_105 (hv := rf_at (ha.p' lk (by omega))) ?_
              refine g_aload_n (pc := 106) C d_Mod_after_106 3 rfl ?_
              refine g_get (pc := 107) C fl_Mod_10 hZ.1 (by omega) rfl d_Mod_after_107 ?_
              refine g_getN (pc := 110) C fN_Mod_216 ha.o (by omega) rfl d_Mod_after_110 ?_
              refine g_iload (pc := 113) C d_Mod_after_113 1 rfl ?_
              refine g_aldN (pc := 115) C ha.p (by omega) (gt_P _) (by omega) (by omega) d_Mod_after_115 (hv := rf_at (ha.p' k (by omega))) ?_
              refine g_ci (pc := 116) C (g_rV (As := [.ref (ka K (z + 1 + 52 + 2 * k))]) (rest := []) C (c_MPath_isBefore _ K _ (z + 1 + 52 + 2 * lk) (v lk).1 (z + 1 + 52 + 2 * k) (v k).1 hxl hxk) mw_MPath_isBefore mo_MPath_isBefore ml_Mod_229 (by decide) hxl1 rfl (by omega) rfl rfl (Nat.le_of_ble_eq_true rfl) d_Mod_after_116) (fun r116 E116 hp116 => ?_)
              rw [hp116.1, hp116.2]
              refine g_if_neB (pc := 119) C 125 d_Mod_after_119 (by decide) (fun h_119 => ?_) (fun h_119 => ?_)
              · skip
                have hq : (selQ (askM di it p) (some ms[lk].1)) ms[k] = true := by
                  rw [selQ, hask]
                  simp only [Bool.true_and]
                  rw [← hvl, ← hvk]
                  exact h_119
                rcases hbe : bestF ms (selQ (askM di it p) (some ms[lk].1)) k with _ | j
                · skip
                  skip
                  show gW X K E 125 [(7, .int (nI 1)), (6, .int (nI k)), (5, .int (-1)), (0, .ref (ka K z)), (1, .int (nI lk)), (2, .ref (ka K s)), (3, .int (bI di)), (4, .int (bI it))] []
                  refine g_iload (pc := 125) C d_Mod_after_125 2 rfl ?_
                  refine g_if_lt (pc := 127) C 156 d_Mod_after_127 (by decide) (fun h_127 => ?_) (fun h_127 => ?_)
                  · skip
                    refine g_iload (pc := 156) C d_Mod_after_156 1 rfl ?_
                    refine g_istore (pc := 158) (lv' := [(5, .int (nI k)), (7, .int (nI 1)), (6, .int (nI k)), (0, .ref (ka K z)), (1, .int (nI lk)), (2, .ref (ka K s)), (3, .int (bI di)), (4, .int (bI it))]) C d_Mod_after_158 (by decide) rfl ?_
                    refine g_iinc (pc := 160) (pl := 2) (v := nI (k + 1)) (lv' := [(6, .int (nI (k + 1))), (5, .int (nI k)), (7, .int (nI 1)), (0, .ref (ka K z)), (1, .int (nI lk)), (2, .ref (ka K s)), (3, .int (bI di)), (4, .int (bI it))]) C d_Mod_after_160 rfl (nI_1 _) (by decide) rfl ?_
                    refine g_goto (pc := 163) C 6 d_Mod_after_163 (by decide) ?_
                    have e := ih (k + 1) (by omega) (by omega)
                    rw [best_0 hkl hq hbe] at e
                    exact g_lv [0, 1, 3, 4, 5, 6, 7] rfl e
                  · exact absurd (by decide) h_127
                · skip
                  obtain ⟨hjk, hjl, -⟩ := best_lt hbe
                  have hxj := hb.p j (by omega)
                  have hxj1 := hxj.1
                  have hvj := hv j (by omega)
                  show gW X K E 125 [(7, .int (nI 1)), (6, .int (nI k)), (5, .int (nI j)), (0, .ref (ka K z)), (1, .int (nI lk)), (2, .ref (ka K s)), (3, .int (bI di)), (4, .int (bI it))] []
                  refine g_iload (pc := 125) C d_Mod_after_125 2 rfl ?_
                  refine g_if_ltN (pc := 127) C 156 d_Mod_after_127 (by decide) (by omega) ?_
                  refine g_aload_n (pc := 130) C d_Mod_after_130 3 rfl ?_
                  refine g_get (pc := 131) C fl_Mod_10 hZ.1 (by omega) rfl d_Mod_after_131 ?_
                  refine g_getN (pc := 134) C fN_Mod_216 ha.o (by omega) rfl d_Mod_after_134 ?_
                  refine g_iload (pc := 137) C d_Mod_after_137 1 rfl ?_
                  refine g_aldN (pc := 139) C ha.p (by omega) (gt_P _) (by omega) (by omega) d_Mod_after_139 (hv := rf_at (ha.p' k (by omega))) ?_
                  refine g_aload_n (pc := 140) C d_Mod_after_140 3 rfl ?_
                  refine g_get (pc := 141) C fl_Mod_10 hZ.1 (by omega) rfl d_Mod_after_141 ?_
                  refine g_getN (pc := 144) C fN_Mod_216 ha.o (by omega) rfl d_Mod_after_144 ?_
                  refine g_iload (pc := 147) C d_Mod_after_147 2 rfl ?_
                  refine g_aldN (pc := 149) C ha.p (by omega) (gt_P _) (by omega) (by omega) d_Mod_after_149 (hv := rf_at (ha.p' j (by omega))) ?_
                  refine g_ci (pc := 150) C (g_rV (As := [.ref (ka K (z + 1 + 52 + 2 * j))]) (rest := []) C (c_MPath_isBefore _ K _ (z + 1 + 52 + 2 * k) (v k).1 (z + 1 + 52 + 2 * j) (v j).1 hxk hxj) mw_MPath_isBefore mo_MPath_isBefore ml_Mod_229 (by decide) hxk1 rfl (by omega) rfl rfl (Nat.le_of_ble_eq_true rfl) d_Mod_after_150) (fun r150 E150 hp150 => ?_)
                  rw [hp150.1, hp150.2]
                  refine g_if_eqB (pc := 153) C 160 d_Mod_after_153 (by decide) (fun h_153 => ?_) (fun h_153 => ?_)
                  · skip
                    refine g_iinc (pc := 160) (pl := 1) (v := nI (k + 1)) (lv' := [(6, .int (nI (k + 1))), (7, .int (nI 1)), (5, .int (nI j)), (0, .ref (ka K z)), (1, .int (nI lk)), (2, .ref (ka K s)), (3, .int (bI di)), (4, .int (bI it))]) C d_Mod_after_160 rfl (nI_1 _) (by decide) rfl ?_
                    refine g_goto (pc := 163) C 6 d_Mod_after_163 (by decide) ?_
                    have e := ih (k + 1) (by omega) (by omega)
                    rw [best_s hkl hq hbe hjl, if_neg (by rw [← hvk, ← hvj, h_153]; decide)] at e
                    exact g_lv [0, 2, 3, 4, 5, 6, 7] rfl e
                  · skip
                    refine g_iload (pc := 156) C d_Mod_after_156 1 rfl ?_
                    refine g_istore (pc := 158) (lv' := [(5, .int (nI k)), (7, .int (nI 1)), (6, .int (nI k)), (0, .ref (ka K z)), (1, .int (nI lk)), (2, .ref (ka K s)), (3, .int (bI di)), (4, .int (bI it))]) C d_Mod_after_158 (by decide) rfl ?_
                    refine g_iinc (pc := 160) (pl := 2) (v := nI (k + 1)) (lv' := [(6, .int (nI (k + 1))), (5, .int (nI k)), (7, .int (nI 1)), (0, .ref (ka K z)), (1, .int (nI lk)), (2, .ref (ka K s)), (3, .int (bI di)), (4, .int (bI it))]) C d_Mod_after_160 rfl (nI_1 _) (by decide) rfl ?_
                    refine g_goto (pc := 163) C 6 d_Mod_after_163 (by decide) ?_
                    have e := ih (k + 1) (by omega) (by omega)
                    rw [best_s hkl hq hbe hjl, if_pos (by rw [← hvk, ← hvj]; exact h_153)] at e
                    exact g_lv [0, 1, 3, 4, 5, 6, 7] rfl e
              · skip
                refine g_goto (pc := 122) C 160 d_Mod_after_122 (by decide) ?_
                refine g_iinc (pc := 160) (pl := 1) (v := nI (k + 1)) (lv' := [(6, .int (nI (k + 1))), (7, .int (nI 1)), (5, .int (fiI (bestF ms (selQ (askM di it p) (some ms[lk].1)) k))), (0, .ref (ka K z)), (1, .int (nI lk)), (2, .ref (ka K s)), (3, .int (bI di)), (4, .int (bI it))]) C d_Mod_after_160 rfl (nI_1 _) (by decide) rfl ?_
                refine g_goto (pc := 163) C 6 d_Mod_after_163 (by decide) ?_
                have hq : (selQ (askM di it p) (some ms[lk].1)) ms[k] = false := by
                    rw [selQ]
                    simp only [← hvl, ← hvk, h_119, Bool.and_false]
                have e := ih (k + 1) (by omega) (by omega)
                rw [best_no hkl hq] at e
                exact g_lv [0, 2, 3, 4, 5, 6, 7] rfl e
        · skip
          refine g_aload_n (pc := 44) C d_Mod_after_44 2 rfl ?_
          refine g_get (pc := 45) C fl_Mod_10 hZ.1 (by omega) rfl d_Mod_after_45 ?_
          refine g_getN (pc := 48) C fN_Mod_216 ha.o (by omega) rfl d_Mod_after_48 ?_
          refine g_iload (pc := 51) C d_Mod_after_51 0 rfl ?_
          refine g_aldN (pc := 53) C ha.p (by omega) (gt_P _) (by omega) (by omega) d_Mod_after_53 (hv := rf_at (ha.p' k (by omega))) ?_
          refine g_aload_n (pc := 54) C d_Mod_after_54 4 rfl ?_
          refine g_ci (pc := 55) C (g_rV (As := [.ref (ka K s)]) (rest := []) C (c_MPath_isDirectlyIn _ K _ (z + 1 + 52 + 2 * k) (v k).1 s p hxk hO) mw_MPath_isDirectlyIn mo_MPath_isDirectlyIn ml_Mod_223 (by decide) hxk1 rfl (by omega) rfl rfl (Nat.le_of_ble_eq_true rfl) d_Mod_after_55) (fun r55 E55 hp55 => ?_)
          rw [hp55.1, hp55.2]
          refine g_if_eqB (pc := 58) C 85 d_Mod_after_58 (by decide) (fun h_58 => ?_) (fun h_58 => ?_)
          · skip
            refine g_iconst (pc := 85) (v := nI 0) C d_Mod_after_85 (by decide) ?_
            have hask : askM di it p ms[k] = false := by
              rw [← hvk]
              first
                | (simp [askM, h_20, h_37]; done)
                | (simp [askM, h_41, h_58]; done)
                | (simp [askM, h_41, h_78]; done)
                | (simp [askM, h_20, h_41, h_58]; done)
                | (simp [askM, h_20, h_41, h_78]; done)
                | (simp [askM, h_20, of_decide_eq_false h_37, h_41, h_58]; done)
                | (simp [askM, h_20, of_decide_eq_false h_37, h_41, h_78]; done)
            refine g_istore (pc := 86) (lv' := [(7, .int (nI 0)), (6, .int (nI k)), (5, .int (fiI (bestF ms (selQ (askM di it p) (some ms[lk].1)) k))), (0, .ref (ka K z)), (1, .int (nI lk)), (2, .ref (ka K s)), (3, .int (bI di)), (4, .int (bI it))]) C d_Mod_after_86 (by decide) rfl ?_
            refine g_iload (pc := 88) C d_Mod_after_88 0 rfl ?_
            refine g_if_eqN (pc := 90) C 160 d_Mod_after_90 (by decide) (by omega) (fun h_90 => ?_) (fun h_90 => ?_)
            · skip
              refine g_iinc (pc := 160) (pl := 1) (v := nI (k + 1)) (lv' := [(6, .int (nI (k + 1))), (7, .int (nI 0)), (5, .int (fiI (bestF ms (selQ (askM di it p) (some ms[lk].1)) k))), (0, .ref (ka K z)), (1, .int (nI lk)), (2, .ref (ka K s)), (3, .int (bI di)), (4, .int (bI it))]) C d_Mod_after_160 rfl (nI_1 _) (by decide) rfl ?_
              refine g_goto (pc := 163) C 6 d_Mod_after_163 (by decide) ?_
              have hq : (selQ (askM di it p) (some ms[lk].1)) ms[k] = false := by rw [selQ, hask]; rfl
              have e := ih (k + 1) (by omega) (by omega)
              rw [best_no hkl hq] at e
              exact g_lv [0, 2, 3, 4, 5, 6, 7] rfl e
            · exact absurd h_90 (by decide)
          · skip
            refine g_goto (pc := 61) C 81 d_Mod_after_61 (by decide) ?_
            refine g_iconst (pc := 81) (v := nI 1) C d_Mod_after_81 (by decide) ?_
            refine g_goto (pc := 82) C 86 d_Mod_after_82 (by decide) ?_
            have hask : askM di it p ms[k] = true := by
              rw [← hvk]
              first
                | (simp [askM, h_20, h_37]; done)
                | (simp [askM, h_41, h_58]; done)
                | (simp [askM, h_41, h_78]; done)
                | (simp [askM, h_20, h_41, h_58]; done)
                | (simp [askM, h_20, h_41, h_78]; done)
                | (simp [askM, h_20, of_decide_eq_false h_37, h_41, h_58]; done)
                | (simp [askM, h_20, of_decide_eq_false h_37, h_41, h_78]; done)
            refine g_istore (pc := 86) (lv' := [(7, .int (nI 1)), (6, .int (nI k)), (5, .int (fiI (bestF ms (selQ (askM di it p) (some ms[lk].1)) k))), (0, .ref (ka K z)), (1, .int (nI lk)), (2, .ref (ka K s)), (3, .int (bI di)), (4, .int (bI it))]) C d_Mod_after_86 (by decide) rfl ?_
            refine g_iload (pc := 88) C d_Mod_after_88 0 rfl ?_
            refine g_if_eqN (pc := 90) C 160 d_Mod_after_90 (by decide) (by omega) (fun h_90 => ?_) (fun h_90 => ?_)
            · exact absurd h_90 (by decide)
            · skip
              refine g_iload_n (pc := 93) C d_Mod_after_93 4 rfl ?_
              refine g_if_ltN (pc := 94) C 125 d_Mod_after_94 (by decide) (by omega) ?_
              refine g_aload_n (pc := 97) C d_Mod_after_97 3 rfl ?_
              refine g_get (pc := 98) C fl_Mod_10 hZ.1 (by omega) rfl d_Mod_after_98 ?_
              refine g_getN (pc := 101) C fN_Mod_216 ha.o (by omega) rfl d_Mod_after_101 ?_
              refine g_iload_n (pc := 104) C d_Mod_after_104 4 rfl ?_
              refine g_aldN (pc := 105) C ha.p (by omega) (gt_P _) (by omega) (by omega) d_Mod_after_105 (hv := rf_at (ha.p' lk (by omega))) ?_
              refine g_aload_n (pc := 106) C d_Mod_after_106 3 rfl ?_
              refine g_get (pc := 107) C fl_Mod_10 hZ.1 (by omega) rfl d_Mod_after_107 ?_
              refine g_getN (pc := 110) C fN_Mod_216 ha.o (by omega) rfl d_Mod_after_110 ?_
              refine g_iload (pc := 113) C d_Mod_after_113 1 rfl ?_
              refine g_aldN (pc := 115) C ha.p (by omega) (gt_P _) (by omega) (by omega) d_Mod_after_115 (hv := rf_at (ha.p' k (by omega))) ?_
              refine g_ci (pc := 116) C (g_rV (As := [.ref (ka K (z + 1 + 52 + 2 * k))]) (rest := []) C (c_MPath_isBefore _ K _ (z + 1 + 52 + 2 * lk) (v lk).1 (z + 1 + 52 + 2 * k) (v k).1 hxl hxk) mw_MPath_isBefore mo_MPath_isBefore ml_Mod_229 (by decide) hxl1 rfl (by omega) rfl rfl (Nat.le_of_ble_eq_true rfl) d_Mod_after_116) (fun r116 E116 hp116 => ?_)
              rw [hp116.1, hp116.2]
              refine g_if_neB (pc := 119) C 125 d_Mod_after_119 (by decide) (fun h_119 => ?_) (fun h_119 => ?_)
              · skip
                have hq : (selQ (askM di it p) (some ms[lk].1)) ms[k] = true := by
                  rw [selQ, hask]
                  simp only [Bool.true_and]
                  rw [← hvl, ← hvk]
                  exact h_119
                rcases hbe : bestF ms (selQ (askM di it p) (some ms[lk].1)) k with _ | j
                · skip
                  skip
                  show gW X K E 125 [(7, .int (nI 1)), (6, .int (nI k)), (5, .int (-1)), (0, .ref (ka K z)), (1, .int (nI lk)), (2, .ref (ka K s)), (3, .int (bI di)), (4, .int (bI it))] []
                  refine g_iload (pc := 125) C d_Mod_after_125 2 rfl ?_
                  refine g_if_lt (pc := 127) C 156 d_Mod_after_127 (by decide) (fun h_127 => ?_) (fun h_127 => ?_)
                  · skip
                    refine g_iload (pc := 156) C d_Mod_after_156 1 rfl ?_
                    refine g_istore (pc := 158) (lv' := [(5, .int (nI k)), (7, .int (nI 1)), (6, .int (nI k)), (0, .ref (ka K z)), (1, .int (nI lk)), (2, .ref (ka K s)), (3, .int (bI di)), (4, .int (bI it))]) C d_Mod_after_158 (by decide) rfl ?_
                    refine g_iinc (pc := 160) (pl := 2) (v := nI (k + 1)) (lv' := [(6, .int (nI (k + 1))), (5, .int (nI k)), (7, .int (nI 1)), (0, .ref (ka K z)), (1, .int (nI lk)), (2, .ref (ka K s)), (3, .int (bI di)), (4, .int (bI it))]) C d_Mod_after_160 rfl (nI_1 _) (by decide) rfl ?_
                    refine g_goto (pc := 163) C 6 d_Mod_after_163 (by decide) ?_
                    have e := ih (k + 1) (by omega) (by omega)
                    rw [best_0 hkl hq hbe] at e
                    exact g_lv [0, 1, 3, 4, 5, 6, 7] rfl e
                  · exact absurd (by decide) h_127
                · skip
                  obtain ⟨hjk, hjl, -⟩ := best_lt hbe
                  have hxj := hb.p j (by omega)
                  have hxj1 := hxj.1
                  have hvj := hv j (by omega)
                  show gW X K E 125 [(7, .int (nI 1)), (6, .int (nI k)), (5, .int (nI j)), (0, .ref (ka K z)), (1, .int (nI lk)), (2, .ref (ka K s)), (3, .int (bI di)), (4, .int (bI it))] []
                  refine g_iload (pc := 125) C d_Mod_after_125 2 rfl ?_
                  refine g_if_ltN (pc := 127) C 156 d_Mod_after_127 (by decide) (by omega) ?_
                  refine g_aload_n (pc := 130) C d_Mod_after_130 3 rfl ?_
                  refine g_get (pc := 131) C fl_Mod_10 hZ.1 (by omega) rfl d_Mod_after_131 ?_
                  refine g_getN (pc := 134) C fN_Mod_216 ha.o (by omega) rfl d_Mod_after_134 ?_
                  refine g_iload (pc := 137) C d_Mod_after_137 1 rfl ?_
                  refine g_aldN (pc := 139) C ha.p (by omega) (gt_P _) (by omega) (by omega) d_Mod_after_139 (hv := rf_at (ha.p' k (by omega))) ?_
                  refine g_aload_n (pc := 140) C d_Mod_after_140 3 rfl ?_
                  refine g_get (pc := 141) C fl_Mod_10 hZ.1 (by omega) rfl d_Mod_after_141 ?_
                  refine g_getN (pc := 144) C fN_Mod_216 ha.o (by omega) rfl d_Mod_after_144 ?_
                  refine g_iload (pc := 147) C d_Mod_after_147 2 rfl ?_
                  refine g_aldN (pc := 149) C ha.p (by omega) (gt_P _) (by omega) (by omega) d_Mod_after_149 (hv := rf_at (ha.p' j (by omega))) ?_
                  refine g_ci (pc := 150) C (g_rV (As := [.ref (ka K (z + 1 + 52 + 2 * j))]) (rest := []) C (c_MPath_isBefore _ K _ (z + 1 + 52 + 2 * k) (v k).1 (z + 1 + 52 + 2 * j) (v j).1 hxk hxj) mw_MPath_isBefore mo_MPath_isBefore ml_Mod_229 (by decide) hxk1 rfl (by omega) rfl rfl (Nat.le_of_ble_eq_true rfl) d_Mod_after_150) (fun r150 E150 hp150 => ?_)
                  rw [hp150.1, hp150.2]
                  refine g_if_eqB (pc := 153) C 160 d_Mod_after_153 (by decide) (fun h_153 => ?_) (fun h_153 => ?_)
                  · skip
                    refine g_iinc (pc := 160) (pl := 1) (v := nI (k + 1)) (lv' := [(6, .int (nI (k + 1))), (7, .int (nI 1)), (5, .int (nI j)), (0, .ref (ka K z)), (1, .int (nI lk)), (2, .ref (ka K s)), (3, .int (bI di)), (4, .int (bI it))]) C d_Mod_after_160 rfl (nI_1 _) (by decide) rfl ?_
                    refine g_goto (pc := 163) C 6 d_Mod_after_163 (by decide) ?_
                    have e := ih (k + 1) (by omega) (by omega)
                    rw [best_s hkl hq hbe hjl, if_neg (by rw [← hvk, ← hvj, h_153]; decide)] at e
                    exact g_lv [0, 2, 3, 4, 5, 6, 7] rfl e
                  · skip
                    refine g_iload (pc := 156) C d_Mod_after_156 1 rfl ?_
                    refine g_istore (pc := 158) (lv' := [(5, .int (nI k)), (7, .int (nI 1)), (6, .int (nI k)), (0, .ref (ka K z)), (1, .int (nI lk)), (2, .ref (ka K s)), (3, .int (bI di)), (4, .int (bI it))]) C d_Mod_after_158 (by decide) rfl ?_
                    refine g_iinc (pc := 160) (pl := 2) (v := nI (k + 1)) (lv' := [(6, .int (nI (k + 1))), (5, .int (nI k)), (7, .int (nI 1)), (0, .ref (ka K z)), (1, .int (nI lk)), (2, .ref (ka K s)), (3, .int (bI di)), (4, .int (bI it))]) C d_Mod_after_160 rfl (nI_1 _) (by decide) rfl ?_
                    refine g_goto (pc := 163) C 6 d_Mod_after_163 (by decide) ?_
                    have e := ih (k + 1) (by omega) (by omega)
                    rw [best_s hkl hq hbe hjl, if_pos (by rw [← hvk, ← hvj]; exact h_153)] at e
                    exact g_lv [0, 1, 3, 4, 5, 6, 7] rfl e
              · skip
                refine g_goto (pc := 122) C 160 d_Mod_after_122 (by decide) ?_
                refine g_iinc (pc := 160) (pl := 1) (v := nI (k + 1)) (lv' := [(6, .int (nI (k + 1))), (7, .int (nI 1)), (5, .int (fiI (bestF ms (selQ (askM di it p) (some ms[lk].1)) k))), (0, .ref (ka K z)), (1, .int (nI lk)), (2, .ref (ka K s)), (3, .int (bI di)), (4, .int (bI it))]) C d_Mod_after_160 rfl (nI_1 _) (by decide) rfl ?_
                refine g_goto (pc := 163) C 6 d_Mod_after_163 (by decide) ?_
                have hq : (selQ (askM di it p) (some ms[lk].1)) ms[k] = false := by
                    rw [selQ]
                    simp only [← hvl, ← hvk, h_119, Bool.and_false]
                have e := ih (k + 1) (by omega) (by omega)
                rw [best_no hkl hq] at e
                exact g_lv [0, 2, 3, 4, 5, 6, 7] rfl e
      · skip
        refine g_aload_n (pc := 23) C d_Mod_after_23 2 rfl ?_
        refine g_get (pc := 24) C fl_Mod_10 hZ.1 (by omega) rfl d_Mod_after_24 ?_
        refine g_getN (pc := 27) C fN_Mod_216 ha.o (by omega) rfl d_Mod_after_27 ?_
        refine g_iload (pc := 30) C d_Mod_after_30 0 rfl ?_
        refine g_aldN (pc := 32) C ha.p (by omega) (gt_P _) (by omega) (by omega) d_Mod_after_32 (hv := rf_at (ha.p' k (by omega))) ?_
        refine g_aload_n (pc := 33) C d_Mod_after_33 4 rfl ?_
        refine g_ci (pc := 34) C (g_rV (As := [.ref (ka K s)]) (rest := []) C (c_MPath_same _ K _ (z + 1 + 52 + 2 * k) (v k).1 s p hxk hO) mw_MPath_same mo_MPath_same ml_Mod_219 (by decide) hxk1 rfl (by omega) rfl rfl (Nat.le_of_ble_eq_true rfl) d_Mod_after_34) (fun r34 E34 hp34 => ?_)
        rw [hp34.1, hp34.2]
        refine g_if_neB (pc := 37) C 81 d_Mod_after_37 (by decide) (fun h_37 => ?_) (fun h_37 => ?_)
        · skip
          refine g_iconst (pc := 81) (v := nI 1) C d_Mod_after_81 (by decide) ?_
          refine g_goto (pc := 82) C 86 d_Mod_after_82 (by decide) ?_
          have hask : askM di it p ms[k] = true := by
            rw [← hvk]
            first
              | (simp [askM, h_20, h_37]; done)
              | (simp [askM, h_41, h_58]; done)
              | (simp [askM, h_41, h_78]; done)
              | (simp [askM, h_20, h_41, h_58]; done)
              | (simp [askM, h_20, h_41, h_78]; done)
              | (simp [askM, h_20, of_decide_eq_false h_37, h_41, h_58]; done)
              | (simp [askM, h_20, of_decide_eq_false h_37, h_41, h_78]; done)
          refine g_istore (pc := 86) (lv' := [(7, .int (nI 1)), (6, .int (nI k)), (5, .int (fiI (bestF ms (selQ (askM di it p) (some ms[lk].1)) k))), (0, .ref (ka K z)), (1, .int (nI lk)), (2, .ref (ka K s)), (3, .int (bI di)), (4, .int (bI it))]) C d_Mod_after_86 (by decide) rfl ?_
          refine g_iload (pc := 88) C d_Mod_after_88 0 rfl ?_
          refine g_if_eqN (pc := 90) C 160 d_Mod_after_90 (by decide) (by omega) (fun h_90 => ?_) (fun h_90 => ?_)
          · exact absurd h_90 (by decide)
          · skip
            refine g_iload_n (pc := 93) C d_Mod_after_93 4 rfl ?_
            refine g_if_ltN (pc := 94) C 125 d_Mod_after_94 (by decide) (by omega) ?_
            refine g_aload_n (pc := 97) C d_Mod_after_97 3 rfl ?_
            refine g_get (pc := 98) C fl_Mod_10 hZ.1 (by omega) rfl d_Mod_after_98 ?_
            refine g_getN (pc := 101) C fN_Mod_216 ha.o (by omega) rfl d_Mod_after_101 ?_
            refine g_iload_n (pc := 104) C d_Mod_after_104 4 rfl ?_
            refine g_aldN (pc := 105) C ha.p (by omega) (gt_P _) (by omega) (by omega) d_Mod_after_105 (hv := rf_at (ha.p' lk (by omega))) ?_
            refine g_aload_n (pc := 106) C d_Mod_after_106 3 rfl ?_
            refine g_get (pc := 107) C fl_Mod_10 hZ.1 (by omega) rfl d_Mod_after_107 ?_
            refine g_getN (pc := 110) C fN_Mod_216 ha.o (by omega) rfl d_Mod_after_110 ?_
            refine g_iload (pc := 113) C d_Mod_after_113 1 rfl ?_
            refine g_aldN (pc := 115) C ha.p (by omega) (gt_P _) (by omega) (by omega) d_Mod_after_115 (hv := rf_at (ha.p' k (by omega))) ?_
            refine g_ci (pc := 116) C (g_rV (As := [.ref (ka K (z + 1 + 52 + 2 * k))]) (rest := []) C (c_MPath_isBefore _ K _ (z + 1 + 52 + 2 * lk) (v lk).1 (z + 1 + 52 + 2 * k) (v k).1 hxl hxk) mw_MPath_isBefore mo_MPath_isBefore ml_Mod_229 (by decide) hxl1 rfl (by omega) rfl rfl (Nat.le_of_ble_eq_true rfl) d_Mod_after_116) (fun r116 E116 hp116 => ?_)
            rw [hp116.1, hp116.2]
            refine g_if_neB (pc := 119) C 125 d_Mod_after_119 (by decide) (fun h_119 => ?_) (fun h_119 => ?_)
            · skip
              have hq : (selQ (askM di it p) (some ms[lk].1)) ms[k] = true := by
                rw [selQ, hask]
                simp only [Bool.true_and]
                rw [← hvl, ← hvk]
                exact h_119
              rcases hbe : bestF ms (selQ (askM di it p) (some ms[lk].1)) k with _ | j
              · skip
                skip
                show gW X K E 125 [(7, .int (nI 1)), (6, .int (nI k)), (5, .int (-1)), (0, .ref (ka K z)), (1, .int (nI lk)), (2, .ref (ka K s)), (3, .int (bI di)), (4, .int (bI it))] []
                refine g_iload (pc := 125) C d_Mod_after_125 2 rfl ?_
                refine g_if_lt (pc := 127) C 156 d_Mod_after_127 (by decide) (fun h_127 => ?_) (fun h_127 => ?_)
                · skip
                  refine g_iload (pc := 156) C d_Mod_after_156 1 rfl ?_
                  refine g_istore (pc := 158) (lv' := [(5, .int (nI k)), (7, .int (nI 1)), (6, .int (nI k)), (0, .ref (ka K z)), (1, .int (nI lk)), (2, .ref (ka K s)), (3, .int (bI di)), (4, .int (bI it))]) C d_Mod_after_158 (by decide) rfl ?_
                  refine g_iinc (pc := 160) (pl := 2) (v := nI (k + 1)) (lv' := [(6, .int (nI (k + 1))), (5, .int (nI k)), (7, .int (nI 1)), (0, .ref (ka K z)), (1, .int (nI lk)), (2, .ref (ka K s)), (3, .int (bI di)), (4, .int (bI it))]) C d_Mod_after_160 rfl (nI_1 _) (by decide) rfl ?_
                  refine g_goto (pc := 163) C 6 d_Mod_after_163 (by decide) ?_
                  have e := ih (k + 1) (by omega) (by omega)
                  rw [best_0 hkl hq hbe] at e
                  exact g_lv [0, 1, 3, 4, 5, 6, 7] rfl e
                · exact absurd (by decide) h_127
              · skip
                obtain ⟨hjk, hjl, -⟩ := best_lt hbe
                have hxj := hb.p j (by omega)
                have hxj1 := hxj.1
                have hvj := hv j (by omega)
                show gW X K E 125 [(7, .int (nI 1)), (6, .int (nI k)), (5, .int (nI j)), (0, .ref (ka K z)), (1, .int (nI lk)), (2, .ref (ka K s)), (3, .int (bI di)), (4, .int (bI it))] []
                refine g_iload (pc := 125) C d_Mod_after_125 2 rfl ?_
                refine g_if_ltN (pc := 127) C 156 d_Mod_after_127 (by decide) (by omega) ?_
                refine g_aload_n (pc := 130) C d_Mod_after_130 3 rfl ?_
                refine g_get (pc := 131) C fl_Mod_10 hZ.1 (by omega) rfl d_Mod_after_131 ?_
                refine g_getN (pc := 134) C fN_Mod_216 ha.o (by omega) rfl d_Mod_after_134 ?_
                refine g_iload (pc := 137) C d_Mod_after_137 1 rfl ?_
                refine g_aldN (pc := 139) C ha.p (by omega) (gt_P _) (by omega) (by omega) d_Mod_after_139 (hv := rf_at (ha.p' k (by omega))) ?_
                refine g_aload_n (pc := 140) C d_Mod_after_140 3 rfl ?_
                refine g_get (pc := 141) C fl_Mod_10 hZ.1 (by omega) rfl d_Mod_after_141 ?_
                refine g_getN (pc := 144) C fN_Mod_216 ha.o (by omega) rfl d_Mod_after_144 ?_
                refine g_iload (pc := 147) C d_Mod_after_147 2 rfl ?_
                refine g_aldN (pc := 149) C ha.p (by omega) (gt_P _) (by omega) (by omega) d_Mod_after_149 (hv := rf_at (ha.p' j (by omega))) ?_
                refine g_ci (pc := 150) C (g_rV (As := [.ref (ka K (z + 1 + 52 + 2 * j))]) (rest := []) C (c_MPath_isBefore _ K _ (z + 1 + 52 + 2 * k) (v k).1 (z + 1 + 52 + 2 * j) (v j).1 hxk hxj) mw_MPath_isBefore mo_MPath_isBefore ml_Mod_229 (by decide) hxk1 rfl (by omega) rfl rfl (Nat.le_of_ble_eq_true rfl) d_Mod_after_150) (fun r150 E150 hp150 => ?_)
                rw [hp150.1, hp150.2]
                refine g_if_eqB (pc := 153) C 160 d_Mod_after_153 (by decide) (fun h_153 => ?_) (fun h_153 => ?_)
                · skip
                  refine g_iinc (pc := 160) (pl := 1) (v := nI (k + 1)) (lv' := [(6, .int (nI (k + 1))), (7, .int (nI 1)), (5, .int (nI j)), (0, .ref (ka K z)), (1, .int (nI lk)), (2, .ref (ka K s)), (3, .int (bI di)), (4, .int (bI it))]) C d_Mod_after_160 rfl (nI_1 _) (by decide) rfl ?_
                  refine g_goto (pc := 163) C 6 d_Mod_after_163 (by decide) ?_
                  have e := ih (k + 1) (by omega) (by omega)
                  rw [best_s hkl hq hbe hjl, if_neg (by rw [← hvk, ← hvj, h_153]; decide)] at e
                  exact g_lv [0, 2, 3, 4, 5, 6, 7] rfl e
                · skip
                  refine g_iload (pc := 156) C d_Mod_after_156 1 rfl ?_
                  refine g_istore (pc := 158) (lv' := [(5, .int (nI k)), (7, .int (nI 1)), (6, .int (nI k)), (0, .ref (ka K z)), (1, .int (nI lk)), (2, .ref (ka K s)), (3, .int (bI di)), (4, .int (bI it))]) C d_Mod_after_158 (by decide) rfl ?_
                  refine g_iinc (pc := 160) (pl := 2) (v := nI (k + 1)) (lv' := [(6, .int (nI (k + 1))), (5, .int (nI k)), (7, .int (nI 1)), (0, .ref (ka K z)), (1, .int (nI lk)), (2, .ref (ka K s)), (3, .int (bI di)), (4, .int (bI it))]) C d_Mod_after_160 rfl (nI_1 _) (by decide) rfl ?_
                  refine g_goto (pc := 163) C 6 d_Mod_after_163 (by decide) ?_
                  have e := ih (k + 1) (by omega) (by omega)
                  rw [best_s hkl hq hbe hjl, if_pos (by rw [← hvk, ← hvj]; exact h_153)] at e
                  exact g_lv [0, 1, 3, 4, 5, 6, 7] rfl e
            · skip
              refine g_goto (pc := 122) C 160 d_Mod_after_122 (by decide) ?_
              refine g_iinc (pc := 160) (pl := 1) (v := nI (k + 1)) (lv' := [(6, .int (nI (k + 1))), (7, .int (nI 1)), (5, .int (fiI (bestF ms (selQ (askM di it p) (some ms[lk].1)) k))), (0, .ref (ka K z)), (1, .int (nI lk)), (2, .ref (ka K s)), (3, .int (bI di)), (4, .int (bI it))]) C d_Mod_after_160 rfl (nI_1 _) (by decide) rfl ?_
              refine g_goto (pc := 163) C 6 d_Mod_after_163 (by decide) ?_
              have hq : (selQ (askM di it p) (some ms[lk].1)) ms[k] = false := by
                  rw [selQ]
                  simp only [← hvl, ← hvk, h_119, Bool.and_false]
              have e := ih (k + 1) (by omega) (by omega)
              rw [best_no hkl hq] at e
              exact g_lv [0, 2, 3, 4, 5, 6, 7] rfl e
        · skip
          refine g_iload_n (pc := 40) C d_Mod_after_40 5 rfl ?_
          refine g_if_eqB (pc := 41) C 64 d_Mod_after_41 (by decide) (fun h_41 => ?_) (fun h_41 => ?_)
          · skip
            refine g_aload_n (pc := 64) C d_Mod_after_64 2 rfl ?_
            refine g_get (pc := 65) C fl_Mod_10 hZ.1 (by omega) rfl d_Mod_after_65 ?_
            refine g_getN (pc := 68) C fN_Mod_216 ha.o (by omega) rfl d_Mod_after_68 ?_
            refine g_iload (pc := 71) C d_Mod_after_71 0 rfl ?_
            refine g_aldN (pc := 73) C ha.p (by omega) (gt_P _) (by omega) (by omega) d_Mod_after_73 (hv := rf_at (ha.p' k (by omega))) ?_
            refine g_aload_n (pc := 74) C d_Mod_after_74 4 rfl ?_
            refine g_ci (pc := 75) C (g_rV (As := [.ref (ka K s)]) (rest := []) C (c_MPath_isIn _ K _ (z + 1 + 52 + 2 * k) (v k).1 s p hxk hO) mw_MPath_isIn mo_MPath_isIn ml_Mod_226 (by decide) hxk1 rfl (by omega) rfl rfl (Nat.le_of_ble_eq_true rfl) d_Mod_after_75) (fun r75 E75 hp75 => ?_)
            rw [hp75.1, hp75.2]
            refine g_if_eqB (pc := 78) C 85 d_Mod_after_78 (by decide) (fun h_78 => ?_) (fun h_78 => ?_)
            · skip
              refine g_iconst (pc := 85) (v := nI 0) C d_Mod_after_85 (by decide) ?_
              have hask : askM di it p ms[k] = false := by
                rw [← hvk]
                first
                  | (simp [askM, h_20, h_37]; done)
                  | (simp [askM, h_41, h_58]; done)
                  | (simp [askM, h_41, h_78]; done)
                  | (simp [askM, h_20, h_41, h_58]; done)
                  | (simp [askM, h_20, h_41, h_78]; done)
                  | (simp [askM, h_20, of_decide_eq_false h_37, h_41, h_58]; done)
                  | (simp [askM, h_20, of_decide_eq_false h_37, h_41, h_78]; done)
              refine g_istore (pc := 86) (lv' := [(7, .int (nI 0)), (6, .int (nI k)), (5, .int (fiI (bestF ms (selQ (askM di it p) (some ms[lk].1)) k))), (0, .ref (ka K z)), (1, .int (nI lk)), (2, .ref (ka K s)), (3, .int (bI di)), (4, .int (bI it))]) C d_Mod_after_86 (by decide) rfl ?_
              refine g_iload (pc := 88) C d_Mod_after_88 0 rfl ?_
              refine g_if_eqN (pc := 90) C 160 d_Mod_after_90 (by decide) (by omega) (fun h_90 => ?_) (fun h_90 => ?_)
              · skip
                refine g_iinc (pc := 160) (pl := 1) (v := nI (k + 1)) (lv' := [(6, .int (nI (k + 1))), (7, .int (nI 0)), (5, .int (fiI (bestF ms (selQ (askM di it p) (some ms[lk].1)) k))), (0, .ref (ka K z)), (1, .int (nI lk)), (2, .ref (ka K s)), (3, .int (bI di)), (4, .int (bI it))]) C d_Mod_after_160 rfl (nI_1 _) (by decide) rfl ?_
                refine g_goto (pc := 163) C 6 d_Mod_after_163 (by decide) ?_
                have hq : (selQ (askM di it p) (some ms[lk].1)) ms[k] = false := by rw [selQ, hask]; rfl
                have e := ih (k + 1) (by omega) (by omega)
                rw [best_no hkl hq] at e
                exact g_lv [0, 2, 3, 4, 5, 6, 7] rfl e
              · exact absurd h_90 (by decide)
            · skip
              refine g_iconst (pc := 81) (v := nI 1) C d_Mod_after_81 (by decide) ?_
              refine g_goto (pc := 82) C 86 d_Mod_after_82 (by decide) ?_
              have hask : askM di it p ms[k] = true := by
                rw [← hvk]
                first
                  | (simp [askM, h_20, h_37]; done)
                  | (simp [askM, h_41, h_58]; done)
                  | (simp [askM, h_41, h_78]; done)
                  | (simp [askM, h_20, h_41, h_58]; done)
                  | (simp [askM, h_20, h_41, h_78]; done)
                  | (simp [askM, h_20, of_decide_eq_false h_37, h_41, h_58]; done)
                  | (simp [askM, h_20, of_decide_eq_false h_37, h_41, h_78]; done)
              refine g_istore (pc := 86) (lv' := [(7, .int (nI 1)), (6, .int (nI k)), (5, .int (fiI (bestF ms (selQ (askM di it p) (some ms[lk].1)) k))), (0, .ref (ka K z)), (1, .int (nI lk)), (2, .ref (ka K s)), (3, .int (bI di)), (4, .int (bI it))]) C d_Mod_after_86 (by decide) rfl ?_
              refine g_iload (pc := 88) C d_Mod_after_88 0 rfl ?_
              refine g_if_eqN (pc := 90) C 160 d_Mod_after_90 (by decide) (by omega) (fun h_90 => ?_) (fun h_90 => ?_)
              · exact absurd h_90 (by decide)
              · skip
                refine g_iload_n (pc := 93) C d_Mod_after_93 4 rfl ?_
                refine g_if_ltN (pc := 94) C 125 d_Mod_after_94 (by decide) (by omega) ?_
                refine g_aload_n (pc := 97) C d_Mod_after_97 3 rfl ?_
                refine g_get (pc := 98) C fl_Mod_10 hZ.1 (by omega) rfl d_Mod_after_98 ?_
                refine g_getN (pc := 101) C fN_Mod_216 ha.o (by omega) rfl d_Mod_after_101 ?_
                refine g_iload_n (pc := 104) C d_Mod_after_104 4 rfl ?_
                refine g_aldN (pc := 105) C ha.p (by omega) (gt_P _) (by omega) (by omega) d_Mod_after_105 (hv := rf_at (ha.p' lk (by omega))) ?_
                refine g_aload_n (pc := 106) C d_Mod_after_106 3 rfl ?_
                refine g_get (pc := 107) C fl_Mod_10 hZ.1 (by omega) rfl d_Mod_after_107 ?_
                refine g_getN (pc := 110) C fN_Mod_216 ha.o (by omega) rfl d_Mod_after_110 ?_
                refine g_iload (pc := 113) C d_Mod_after_113 1 rfl ?_
                refine g_aldN (pc := 115) C ha.p (by omega) (gt_P _) (by omega) (by omega) d_Mod_after_115 (hv := rf_at (ha.p' k (by omega))) ?_
                refine g_ci (pc := 116) C (g_rV (As := [.ref (ka K (z + 1 + 52 + 2 * k))]) (rest := []) C (c_MPath_isBefore _ K _ (z + 1 + 52 + 2 * lk) (v lk).1 (z + 1 + 52 + 2 * k) (v k).1 hxl hxk) mw_MPath_isBefore mo_MPath_isBefore ml_Mod_229 (by decide) hxl1 rfl (by omega) rfl rfl (Nat.le_of_ble_eq_true rfl) d_Mod_after_116) (fun r116 E116 hp116 => ?_)
                rw [hp116.1, hp116.2]
                refine g_if_neB (pc := 119) C 125 d_Mod_after_119 (by decide) (fun h_119 => ?_) (fun h_119 => ?_)
                · skip
                  have hq : (selQ (askM di it p) (some ms[lk].1)) ms[k] = true := by
                    rw [selQ, hask]
                    simp only [Bool.true_and]
                    rw [← hvl, ← hvk]
                    exact h_119
                  rcases hbe : bestF ms (selQ (askM di it p) (some ms[lk].1)) k with _ | j
                  · skip
                    skip
                    show gW X K E 125 [(7, .int (nI 1)), (6, .int (nI k)), (5, .int (-1)), (0, .ref (ka K z)), (1, .int (nI lk)), (2, .ref (ka K s)), (3, .int (bI di)), (4, .int (bI it))] []
                    refine g_iload (pc := 125) C d_Mod_after_125 2 rfl ?_
                    refine g_if_lt (pc := 127) C 156 d_Mod_after_127 (by decide) (fun h_127 => ?_) (fun h_127 => ?_)
                    · skip
                      refine g_iload (pc := 156) C d_Mod_after_156 1 rfl ?_
                      refine g_istore (pc := 158) (lv' := [(5, .int (nI k)), (7, .int (nI 1)), (6, .int (nI k)), (0, .ref (ka K z)), (1, .int (nI lk)), (2, .ref (ka K s)), (3, .int (bI di)), (4, .int (bI it))]) C d_Mod_after_158 (by decide) rfl ?_
                      refine g_iinc (pc := 160) (pl := 2) (v := nI (k + 1)) (lv' := [(6, .int (nI (k + 1))), (5, .int (nI k)), (7, .int (nI 1)), (0, .ref (ka K z)), (1, .int (nI lk)), (2, .ref (ka K s)), (3, .int (bI di)), (4, .int (bI it))]) C d_Mod_after_160 rfl (nI_1 _) (by decide) rfl ?_
                      refine g_goto (pc := 163) C 6 d_Mod_after_163 (by decide) ?_
                      have e := ih (k + 1) (by omega) (by omega)
                      rw [best_0 hkl hq hbe] at e
                      exact g_lv [0, 1, 3, 4, 5, 6, 7] rfl e
                    · exact absurd (by decide) h_127
                  · skip
                    obtain ⟨hjk, hjl, -⟩ := best_lt hbe
                    have hxj := hb.p j (by omega)
                    have hxj1 := hxj.1
                    have hvj := hv j (by omega)
                    show gW X K E 125 [(7, .int (nI 1)), (6, .int (nI k)), (5, .int (nI j)), (0, .ref (ka K z)), (1, .int (nI lk)), (2, .ref (ka K s)), (3, .int (bI di)), (4, .int (bI it))] []
                    refine g_iload (pc := 125) C d_Mod_after_125 2 rfl ?_
                    refine g_if_ltN (pc := 127) C 156 d_Mod_after_127 (by decide) (by omega) ?_
                    refine g_aload_n (pc := 130) C d_Mod_after_130 3 rfl ?_
                    refine g_get (pc := 131) C fl_Mod_10 hZ.1 (by omega) rfl d_Mod_after_131 ?_
                    refine g_getN (pc := 134) C fN_Mod_216 ha.o (by omega) rfl d_Mod_after_134 ?_
                    refine g_iload (pc := 137) C d_Mod_after_137 1 rfl ?_
                    refine g_aldN (pc := 139) C ha.p (by omega) (gt_P _) (by omega) (by omega) d_Mod_after_139 (hv := rf_at (ha.p' k (by omega))) ?_
                    refine g_aload_n (pc := 140) C d_Mod_after_140 3 rfl ?_
                    refine g_get (pc := 141) C fl_Mod_10 hZ.1 (by omega) rfl d_Mod_after_141 ?_
                    refine g_getN (pc := 144) C fN_Mod_216 ha.o (by omega) rfl d_Mod_after_144 ?_
                    refine g_iload (pc := 147) C d_Mod_after_147 2 rfl ?_
                    refine g_aldN (pc := 149) C ha.p (by omega) (gt_P _) (by omega) (by omega) d_Mod_after_149 (hv := rf_at (ha.p' j (by omega))) ?_
                    refine g_ci (pc := 150) C (g_rV (As := [.ref (ka K (z + 1 + 52 + 2 * j))]) (rest := []) C (c_MPath_isBefore _ K _ (z + 1 + 52 + 2 * k) (v k).1 (z + 1 + 52 + 2 * j) (v j).1 hxk hxj) mw_MPath_isBefore mo_MPath_isBefore ml_Mod_229 (by decide) hxk1 rfl (by omega) rfl rfl (Nat.le_of_ble_eq_true rfl) d_Mod_after_150) (fun r150 E150 hp150 => ?_)
                    rw [hp150.1, hp150.2]
                    refine g_if_eqB (pc := 153) C 160 d_Mod_after_153 (by decide) (fun h_153 => ?_) (fun h_153 => ?_)
                    · skip
                      refine g_iinc (pc := 160) (pl := 1) (v := nI (k + 1)) (lv' := [(6, .int (nI (k + 1))), (7, .int (nI 1)), (5, .int (nI j)), (0, .ref (ka K z)), (1, .int (nI lk)), (2, .ref (ka K s)), (3, .int (bI di)), (4, .int (bI it))]) C d_Mod_after_160 rfl (nI_1 _) (by decide) rfl ?_
                      refine g_goto (pc := 163) C 6 d_Mod_after_163 (by decide) ?_
                      have e := ih (k + 1) (by omega) (by omega)
                      rw [best_s hkl hq hbe hjl, if_neg (by rw [← hvk, ← hvj, h_153]; decide)] at e
                      exact g_lv [0, 2, 3, 4, 5, 6, 7] rfl e
                    · skip
                      refine g_iload (pc := 156) C d_Mod_after_156 1 rfl ?_
                      refine g_istore (pc := 158) (lv' := [(5, .int (nI k)), (7, .int (nI 1)), (6, .int (nI k)), (0, .ref (ka K z)), (1, .int (nI lk)), (2, .ref (ka K s)), (3, .int (bI di)), (4, .int (bI it))]) C d_Mod_after_158 (by decide) rfl ?_
                      refine g_iinc (pc := 160) (pl := 2) (v := nI (k + 1)) (lv' := [(6, .int (nI (k + 1))), (5, .int (nI k)), (7, .int (nI 1)), (0, .ref (ka K z)), (1, .int (nI lk)), (2, .ref (ka K s)), (3, .int (bI di)), (4, .int (bI it))]) C d_Mod_after_160 rfl (nI_1 _) (by decide) rfl ?_
                      refine g_goto (pc := 163) C 6 d_Mod_after_163 (by decide) ?_
                      have e := ih (k + 1) (by omega) (by omega)
                      rw [best_s hkl hq hbe hjl, if_pos (by rw [← hvk, ← hvj]; exact h_153)] at e
                      exact g_lv [0, 1, 3, 4, 5, 6, 7] rfl e
                · skip
                  refine g_goto (pc := 122) C 160 d_Mod_after_122 (by decide) ?_
                  refine g_iinc (pc := 160) (pl := 1) (v := nI (k + 1)) (lv' := [(6, .int (nI (k + 1))), (7, .int (nI 1)), (5, .int (fiI (bestF ms (selQ (askM di it p) (some ms[lk].1)) k))), (0, .ref (ka K z)), (1, .int (nI lk)), (2, .ref (ka K s)), (3, .int (bI di)), (4, .int (bI it))]) C d_Mod_after_160 rfl (nI_1 _) (by decide) rfl ?_
                  refine g_goto (pc := 163) C 6 d_Mod_after_163 (by decide) ?_
                  have hq : (selQ (askM di it p) (some ms[lk].1)) ms[k] = false := by
                      rw [selQ]
                      simp only [← hvl, ← hvk, h_119, Bool.and_false]
                  have e := ih (k + 1) (by omega) (by omega)
                  rw [best_no hkl hq] at e
                  exact g_lv [0, 2, 3, 4, 5, 6, 7] rfl e
          · skip
            refine g_aload_n (pc := 44) C d_Mod_after_44 2 rfl ?_
            refine g_get (pc := 45) C fl_Mod_10 hZ.1 (by omega) rfl d_Mod_after_45 ?_
            refine g_getN (pc := 48) C fN_Mod_216 ha.o (by omega) rfl d_Mod_after_48 ?_
            refine g_iload (pc := 51) C d_Mod_after_51 0 rfl ?_
            refine g_aldN (pc := 53) C ha.p (by omega) (gt_P _) (by omega) (by omega) d_Mod_after_53 (hv := rf_at (ha.p' k (by omega))) ?_
            refine g_aload_n (pc := 54) C d_Mod_after_54 4 rfl ?_
            refine g_ci (pc := 55) C (g_rV (As := [.ref (ka K s)]) (rest := []) C (c_MPath_isDirectlyIn _ K _ (z + 1 + 52 + 2 * k) (v k).1 s p hxk hO) mw_MPath_isDirectlyIn mo_MPath_isDirectlyIn ml_Mod_223 (by decide) hxk1 rfl (by omega) rfl rfl (Nat.le_of_ble_eq_true rfl) d_Mod_after_55) (fun r55 E55 hp55 => ?_)
            rw [hp55.1, hp55.2]
            refine g_if_eqB (pc := 58) C 85 d_Mod_after_58 (by decide) (fun h_58 => ?_) (fun h_58 => ?_)
            · skip
              refine g_iconst (pc := 85) (v := nI 0) C d_Mod_after_85 (by decide) ?_
              have hask : askM di it p ms[k] = false := by
                rw [← hvk]
                first
                  | (simp [askM, h_20, h_37]; done)
                  | (simp [askM, h_41, h_58]; done)
                  | (simp [askM, h_41, h_78]; done)
                  | (simp [askM, h_20, h_41, h_58]; done)
                  | (simp [askM, h_20, h_41, h_78]; done)
                  | (simp [askM, h_20, of_decide_eq_false h_37, h_41, h_58]; done)
                  | (simp [askM, h_20, of_decide_eq_false h_37, h_41, h_78]; done)
              refine g_istore (pc := 86) (lv' := [(7, .int (nI 0)), (6, .int (nI k)), (5, .int (fiI (bestF ms (selQ (askM di it p) (some ms[lk].1)) k))), (0, .ref (ka K z)), (1, .int (nI lk)), (2, .ref (ka K s)), (3, .int (bI di)), (4, .int (bI it))]) C d_Mod_after_86 (by decide) rfl ?_
              refine g_iload (pc := 88) C d_Mod_after_88 0 rfl ?_
              refine g_if_eqN (pc := 90) C 160 d_Mod_after_90 (by decide) (by omega) (fun h_90 => ?_) (fun h_90 => ?_)
              · skip
                refine g_iinc (pc := 160) (pl := 1) (v := nI (k + 1)) (lv' := [(6, .int (nI (k + 1))), (7, .int (nI 0)), (5, .int (fiI (bestF ms (selQ (askM di it p) (some ms[lk].1)) k))), (0, .ref (ka K z)), (1, .int (nI lk)), (2, .ref (ka K s)), (3, .int (bI di)), (4, .int (bI it))]) C d_Mod_after_160 rfl (nI_1 _) (by decide) rfl ?_
                refine g_goto (pc := 163) C 6 d_Mod_after_163 (by decide) ?_
                have hq : (selQ (askM di it p) (some ms[lk].1)) ms[k] = false := by rw [selQ, hask]; rfl
                have e := ih (k + 1) (by omega) (by omega)
                rw [best_no hkl hq] at e
                exact g_lv [0, 2, 3, 4, 5, 6, 7] rfl e
              · exact absurd h_90 (by decide)
            · skip
              refine g_goto (pc := 61) C 81 d_Mod_after_61 (by decide) ?_
              refine g_iconst (pc := 81) (v := nI 1) C d_Mod_after_81 (by decide) ?_
              refine g_goto (pc := 82) C 86 d_Mod_after_82 (by decide) ?_
              have hask : askM di it p ms[k] = true := by
                rw [← hvk]
                first
                  | (simp [askM, h_20, h_37]; done)
                  | (simp [askM, h_41, h_58]; done)
                  | (simp [askM, h_41, h_78]; done)
                  | (simp [askM, h_20, h_41, h_58]; done)
                  | (simp [askM, h_20, h_41, h_78]; done)
                  | (simp [askM, h_20, of_decide_eq_false h_37, h_41, h_58]; done)
                  | (simp [askM, h_20, of_decide_eq_false h_37, h_41, h_78]; done)
              refine g_istore (pc := 86) (lv' := [(7, .int (nI 1)), (6, .int (nI k)), (5, .int (fiI (bestF ms (selQ (askM di it p) (some ms[lk].1)) k))), (0, .ref (ka K z)), (1, .int (nI lk)), (2, .ref (ka K s)), (3, .int (bI di)), (4, .int (bI it))]) C d_Mod_after_86 (by decide) rfl ?_
              refine g_iload (pc := 88) C d_Mod_after_88 0 rfl ?_
              refine g_if_eqN (pc := 90) C 160 d_Mod_after_90 (by decide) (by omega) (fun h_90 => ?_) (fun h_90 => ?_)
              · exact absurd h_90 (by decide)
              · skip
                refine g_iload_n (pc := 93) C d_Mod_after_93 4 rfl ?_
                refine g_if_ltN (pc := 94) C 125 d_Mod_after_94 (by decide) (by omega) ?_
                refine g_aload_n (pc := 97) C d_Mod_after_97 3 rfl ?_
                refine g_get (pc := 98) C fl_Mod_10 hZ.1 (by omega) rfl d_Mod_after_98 ?_
                refine g_getN (pc := 101) C fN_Mod_216 ha.o (by omega) rfl d_Mod_after_101 ?_
                refine g_iload_n (pc := 104) C d_Mod_after_104 4 rfl ?_
                refine g_aldN (pc := 105) C ha.p (by omega) (gt_P _) (by omega) (by omega) d_Mod_after_105 (hv := rf_at (ha.p' lk (by omega))) ?_
                refine g_aload_n (pc := 106) C d_Mod_after_106 3 rfl ?_
                refine g_get (pc := 107) C fl_Mod_10 hZ.1 (by omega) rfl d_Mod_after_107 ?_
                refine g_getN (pc := 110) C fN_Mod_216 ha.o (by omega) rfl d_Mod_after_110 ?_
                refine g_iload (pc := 113) C d_Mod_after_113 1 rfl ?_
                refine g_aldN (pc := 115) C ha.p (by omega) (gt_P _) (by omega) (by omega) d_Mod_after_115 (hv := rf_at (ha.p' k (by omega))) ?_
                refine g_ci (pc := 116) C (g_rV (As := [.ref (ka K (z + 1 + 52 + 2 * k))]) (rest := []) C (c_MPath_isBefore _ K _ (z + 1 + 52 + 2 * lk) (v lk).1 (z + 1 + 52 + 2 * k) (v k).1 hxl hxk) mw_MPath_isBefore mo_MPath_isBefore ml_Mod_229 (by decide) hxl1 rfl (by omega) rfl rfl (Nat.le_of_ble_eq_true rfl) d_Mod_after_116) (fun r116 E116 hp116 => ?_)
                rw [hp116.1, hp116.2]
                refine g_if_neB (pc := 119) C 125 d_Mod_after_119 (by decide) (fun h_119 => ?_) (fun h_119 => ?_)
                · skip
                  have hq : (selQ (askM di it p) (some ms[lk].1)) ms[k] = true := by
                    rw [selQ, hask]
                    simp only [Bool.true_and]
                    rw [← hvl, ← hvk]
                    exact h_119
                  rcases hbe : bestF ms (selQ (askM di it p) (some ms[lk].1)) k with _ | j
                  · skip
                    skip
                    show gW X K E 125 [(7, .int (nI 1)), (6, .int (nI k)), (5, .int (-1)), (0, .ref (ka K z)), (1, .int (nI lk)), (2, .ref (ka K s)), (3, .int (bI di)), (4, .int (bI it))] []
                    refine g_iload (pc := 125) C d_Mod_after_125 2 rfl ?_
                    refine g_if_lt (pc := 127) C 156 d_Mod_after_127 (by decide) (fun h_127 => ?_) (fun h_127 => ?_)
                    · skip
                      refine g_iload (pc := 156) C d_Mod_after_156 1 rfl ?_
                      refine g_istore (pc := 158) (lv' := [(5, .int (nI k)), (7, .int (nI 1)), (6, .int (nI k)), (0, .ref (ka K z)), (1, .int (nI lk)), (2, .ref (ka K s)), (3, .int (bI di)), (4, .int (bI it))]) C d_Mod_after_158 (by decide) rfl ?_
                      refine g_iinc (pc := 160) (pl := 2) (v := nI (k + 1)) (lv' := [(6, .int (nI (k + 1))), (5, .int (nI k)), (7, .int (nI 1)), (0, .ref (ka K z)), (1, .int (nI lk)), (2, .ref (ka K s)), (3, .int (bI di)), (4, .int (bI it))]) C d_Mod_after_160 rfl (nI_1 _) (by decide) rfl ?_
                      refine g_goto (pc := 163) C 6 d_Mod_after_163 (by decide) ?_
                      have e := ih (k + 1) (by omega) (by omega)
                      rw [best_0 hkl hq hbe] at e
                      exact g_lv [0, 1, 3, 4, 5, 6, 7] rfl e
                    · exact absurd (by decide) h_127
                  · skip
                    obtain ⟨hjk, hjl, -⟩ := best_lt hbe
                    have hxj := hb.p j (by omega)
                    have hxj1 := hxj.1
                    have hvj := hv j (by omega)
                    show gW X K E 125 [(7, .int (nI 1)), (6, .int (nI k)), (5, .int (nI j)), (0, .ref (ka K z)), (1, .int (nI lk)), (2, .ref (ka K s)), (3, .int (bI di)), (4, .int (bI it))] []
                    refine g_iload (pc := 125) C d_Mod_after_125 2 rfl ?_
                    refine g_if_ltN (pc := 127) C 156 d_Mod_after_127 (by decide) (by omega) ?_
                    refine g_aload_n (pc := 130) C d_Mod_after_130 3 rfl ?_
                    refine g_get (pc := 131) C fl_Mod_10 hZ.1 (by omega) rfl d_Mod_after_131 ?_
                    refine g_getN (pc := 134) C fN_Mod_216 ha.o (by omega) rfl d_Mod_after_134 ?_
                    refine g_iload (pc := 137) C d_Mod_after_137 1 rfl ?_
                    refine g_aldN (pc := 139) C ha.p (by omega) (gt_P _) (by omega) (by omega) d_Mod_after_139 (hv := rf_at (ha.p' k (by omega))) ?_
                    refine g_aload_n (pc := 140) C d_Mod_after_140 3 rfl ?_
                    refine g_get (pc := 141) C fl_Mod_10 hZ.1 (by omega) rfl d_Mod_after_141 ?_
                    refine g_getN (pc := 144) C fN_Mod_216 ha.o (by omega) rfl d_Mod_after_144 ?_
                    refine g_iload (pc := 147) C d_Mod_after_147 2 rfl ?_
                    refine g_aldN (pc := 149) C ha.p (by omega) (gt_P _) (by omega) (by omega) d_Mod_after_149 (hv := rf_at (ha.p' j (by omega))) ?_
                    refine g_ci (pc := 150) C (g_rV (As := [.ref (ka K (z + 1 + 52 + 2 * j))]) (rest := []) C (c_MPath_isBefore _ K _ (z + 1 + 52 + 2 * k) (v k).1 (z + 1 + 52 + 2 * j) (v j).1 hxk hxj) mw_MPath_isBefore mo_MPath_isBefore ml_Mod_229 (by decide) hxk1 rfl (by omega) rfl rfl (Nat.le_of_ble_eq_true rfl) d_Mod_after_150) (fun r150 E150 hp150 => ?_)
                    rw [hp150.1, hp150.2]
                    refine g_if_eqB (pc := 153) C 160 d_Mod_after_153 (by decide) (fun h_153 => ?_) (fun h_153 => ?_)
                    · skip
                      refine g_iinc (pc := 160) (pl := 1) (v := nI (k + 1)) (lv' := [(6, .int (nI (k + 1))), (7, .int (nI 1)), (5, .int (nI j)), (0, .ref (ka K z)), (1, .int (nI lk)), (2, .ref (ka K s)), (3, .int (bI di)), (4, .int (bI it))]) C d_Mod_after_160 rfl (nI_1 _) (by decide) rfl ?_
                      refine g_goto (pc := 163) C 6 d_Mod_after_163 (by decide) ?_
                      have e := ih (k + 1) (by omega) (by omega)
                      rw [best_s hkl hq hbe hjl, if_neg (by rw [← hvk, ← hvj, h_153]; decide)] at e
                      exact g_lv [0, 2, 3, 4, 5, 6, 7] rfl e
                    · skip
                      refine g_iload (pc := 156) C d_Mod_after_156 1 rfl ?_
                      refine g_istore (pc := 158) (lv' := [(5, .int (nI k)), (7, .int (nI 1)), (6, .int (nI k)), (0, .ref (ka K z)), (1, .int (nI lk)), (2, .ref (ka K s)), (3, .int (bI di)), (4, .int (bI it))]) C d_Mod_after_158 (by decide) rfl ?_
                      refine g_iinc (pc := 160) (pl := 2) (v := nI (k + 1)) (lv' := [(6, .int (nI (k + 1))), (5, .int (nI k)), (7, .int (nI 1)), (0, .ref (ka K z)), (1, .int (nI lk)), (2, .ref (ka K s)), (3, .int (bI di)), (4, .int (bI it))]) C d_Mod_after_160 rfl (nI_1 _) (by decide) rfl ?_
                      refine g_goto (pc := 163) C 6 d_Mod_after_163 (by decide) ?_
                      have e := ih (k + 1) (by omega) (by omega)
                      rw [best_s hkl hq hbe hjl, if_pos (by rw [← hvk, ← hvj]; exact h_153)] at e
                      exact g_lv [0, 1, 3, 4, 5, 6, 7] rfl e
                · skip
                  refine g_goto (pc := 122) C 160 d_Mod_after_122 (by decide) ?_
                  refine g_iinc (pc := 160) (pl := 1) (v := nI (k + 1)) (lv' := [(6, .int (nI (k + 1))), (7, .int (nI 1)), (5, .int (fiI (bestF ms (selQ (askM di it p) (some ms[lk].1)) k))), (0, .ref (ka K z)), (1, .int (nI lk)), (2, .ref (ka K s)), (3, .int (bI di)), (4, .int (bI it))]) C d_Mod_after_160 rfl (nI_1 _) (by decide) rfl ?_
                  refine g_goto (pc := 163) C 6 d_Mod_after_163 (by decide) ?_
                  have hq : (selQ (askM di it p) (some ms[lk].1)) ms[k] = false := by
                      rw [selQ]
                      simp only [← hvl, ← hvk, h_119, Bool.and_false]
                  have e := ih (k + 1) (by omega) (by omega)
                  rw [best_no hkl hq] at e
                  exact g_lv [0, 2, 3, 4, 5, 6, 7] rfl e

set_option maxHeartbeats 4000000 in
set_option maxRecDepth 100000 in
theorem c_Mod_after (l : Launch) (K : gK) (E : gE) (z : Nat) (tp os pa ta pr md : Bs) (ms : List Me) (ls : List Lk) (kms : List Me) (kls : List Lk) (bms : List Me) (bls : List Lk) (ck vn tn : Int32) (mt hs bo : Nat) (vl : Nat → Int32) (hZ : isZ K E z tp os pa ta pr md ms ls kms kls bms bls ck vn tn mt hs bo vl) (s : Nat) (p : Bs) (hO : isP K E s p) (di it : Bool) (lk : Nat) (hlk : lk < ms.length) : gMi l y_Mod_after b_Mod_after 8 .int 3 192 K E [.ref (ka K z), .int (nI lk), .ref (ka K s), .int (bI di), .int (bI it)] (fun r E' => r = fiI (bestF ms (selQ (askM di it p) (some ms[lk].1)) ms.length) ∧ E' = E) := by
  refine g_meti (by decide +kernel) (Nat.le_of_ble_eq_true rfl) (fun X hl C hR => ?_)
  subst hl
  show gW X K E 0 [(0, .ref (ka K z)), (1, .int (nI lk)), (2, .ref (ka K s)), (3, .int (bI di)), (4, .int (bI it))] []
  refine g_iconst (pc := 0) (v := -1) C d_Mod_after_0 (by decide) ?_
  refine g_istore (pc := 1) (lv' := [(5, .int (-1)), (0, .ref (ka K z)), (1, .int (nI lk)), (2, .ref (ka K s)), (3, .int (bI di)), (4, .int (bI it))]) C d_Mod_after_1 (by decide) rfl ?_
  refine g_iconst (pc := 3) (v := nI 0) C d_Mod_after_3 (by decide) ?_
  refine g_istore (pc := 4) (lv' := [(6, .int (nI 0)), (5, .int (-1)), (0, .ref (ka K z)), (1, .int (nI lk)), (2, .ref (ka K s)), (3, .int (bI di)), (4, .int (bI it))]) C d_Mod_after_4 (by decide) rfl ?_
  exact g_lv [0, 1, 2, 3, 4, 5, 6] rfl (w_Z_after_s C E z tp os pa ta pr md ms ls kms kls bms bls ck vn tn mt hs bo vl hZ s p hO di it lk hlk hR (ms.length + 1) 0 (Nat.zero_le _) (by omega))
