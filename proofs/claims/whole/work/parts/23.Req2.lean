/-! the parts of a request, as mathematical values -/
theorem textAt_part {bs tx : Bs} {i j : Nat} (h : i + tx.length = j) (hj : j ≤ bs.length) : textAt bs tx i = decide (part bs i j = tx) := by
  unfold textAt
  rw [h]
  exact decide_eq_decide.mpr ⟨fun z => z.2, fun z => ⟨hj, z⟩⟩
theorem rng_hit {n k : Nat} (p : Nat → Bool) (hk : k < n) (h0 : ∀ j, j < k → p j = false) (hp : p k = true) : (List.range n).find? p = some k := by
  rw [List.find?_range_eq_some]
  refine ⟨hp, by simpa using hk, fun j hj => ?_⟩
  rw [h0 j hj]
  rfl
theorem rng_no {n : Nat} (p : Nat → Bool) (h0 : ∀ j, j < n → p j = false) : (List.range n).find? p = none := by
  rw [List.find?_eq_none]
  intro j hj
  rw [h0 j (List.mem_range.mp hj)]
  decide
/-- where an octet stands first, from there on -/
def idxO (bs : Bs) (c : Int32) (k : Nat) : Option Nat := ((bs.drop k).findIdx? (fun x => nI x.toNat == c)).map (fun j => k + j)
theorem idxF_O (bs : Bs) (c : Int32) (k : Nat) : (idxO bs c k = none ∧ idxF bs c k = -1) ∨ ∃ m, idxO bs c k = some m ∧ idxF bs c k = nI m ∧ k ≤ m ∧ m < bs.length ∧ (∃ h : m < bs.length, nI bs[m].toNat = c) ∧ ∀ (j : Nat) (h : j < bs.length), k ≤ j → j < m → ¬ nI bs[j].toNat = c := by
  unfold idxO idxF
  cases h : (bs.drop k).findIdx? (fun x => nI x.toNat == c) with
  | none => exact Or.inl ⟨rfl, rfl⟩
  | some j =>
    rw [List.findIdx?_eq_some_iff_getElem] at h
    obtain ⟨h1, h2, h3⟩ := h
    rw [List.length_drop] at h1
    refine Or.inr ⟨k + j, rfl, rfl, by omega, by omega, ⟨by omega, ?_⟩, fun i hi h4 h5 z => ?_⟩
    · rw [List.getElem_drop] at h2
      simpa using h2
    · have h6 := h3 (i - k) (by omega)
      rw [List.getElem_drop] at h6
      simp only [show k + (i - k) = i by omega] at h6
      simp [z] at h6
def dpL (l : Bs) : Nat := if l = t_all then 2 else if l = t_d1 then 1 else 0
def dpOK (l : Bs) : Bool := decide (l = t_all) || (decide (l = t_d1) || decide (l = t_d0))
def okV : Nat → Bs → Bool
  | 0, l => dpOK l
  | 1, l => pathOK l
  | 2, l => decide (l = t_no) || decide (l = t_yes)
  | 3, l => decide (l = t_any) || decide (¬ numV l = -1)
  | 4, l => decide (l = t_any)
  | 5, l => decide (¬ numV l = -1)
  | 6, l => decide (nI 1 ≤ numV l) && decide (numV l ≤ nI 1000)
  | _, l => decide (l = t_one) || decide (l = t_many)
/-- the state of the headers: to, depth, match, token, term, any, spares, alone, seen, cursor -/
abbrev Hs : Type := Bs × Nat × Int32 × Int32 × Int32 × Bool × Bool × Bool × Int32 × Nat
def isQh (K : gK) (E : gE) (q : Nat) (pa ba : Bs) (vb : Nat) (h : Hs) : Prop := isQ K E q pa h.1 ba vb h.2.1 h.2.2.1 h.2.2.2.1 h.2.2.2.2.1 h.2.2.2.2.2.1 h.2.2.2.2.2.2.1 h.2.2.2.2.2.2.2.1 h.2.2.2.2.2.2.2.2.1 h.2.2.2.2.2.2.2.2.2
/-- what a header's value does -/
def setV : Nat → Bs → Hs → Hs
  | 0, l, (ta, _, r) => (ta, dpL l, r)
  | 1, l, (ta, r) => (if pathOK l = true then l else ta, r)
  | 2, l, (ta, dp, ma, tk, tm, an, _, r) => (ta, dp, ma, tk, tm, an, decide (l = t_no), r)
  | 3, l, (ta, dp, _, tk, tm, _, r) => (ta, dp, numV l, tk, tm, decide (l = t_any), r)
  | 4, _, h => h
  | 5, l, (ta, dp, ma, _, r) => (ta, dp, ma, numV l, r)
  | 6, l, (ta, dp, ma, tk, _, r) => (ta, dp, ma, tk, numV l, r)
  | _, l, (ta, dp, ma, tk, tm, an, sp, _, r) => (ta, dp, ma, tk, tm, an, sp, decide (l = t_one), r)
/-- the first line: verb, path, what is behind it -/
def flS (bs : Bs) : Option (Nat × Bs × Nat) := match (List.range 9).find? (fun j => textAt bs (vbT j) 0) with
  | none => none
  | some v => match idxO bs (nI 32) (vbT v).length with
    | none => none
    | some m => if (textAt bs t_dav m && pathOK (part bs (vbT v).length m)) = true then some (v, part bs (vbT v).length m, m + 5) else none
theorem flS_n {bs : Bs} (h : (List.range 9).find? (fun j => textAt bs (vbT j) 0) = none) : flS bs = none := by rw [flS, h]
theorem flS_m {bs : Bs} {v : Nat} (h : (List.range 9).find? (fun j => textAt bs (vbT j) 0) = some v) (h2 : idxO bs (nI 32) (vbT v).length = none) : flS bs = none := by rw [flS, h]; simp only [h2]
theorem flS_s {bs : Bs} {v m : Nat} (h : (List.range 9).find? (fun j => textAt bs (vbT j) 0) = some v) (h2 : idxO bs (nI 32) (vbT v).length = some m) : flS bs = if (textAt bs t_dav m && pathOK (part bs (vbT v).length m)) = true then some (v, part bs (vbT v).length m, m + 5) else none := by rw [flS, h]; simp only [h2]
/-- a header -/
def hdS (bs : Bs) (h : Hs) : Option Hs := match idxO bs (nI 10) h.2.2.2.2.2.2.2.2.2 with
  | none => none
  | some e => match (List.range 8).find? (fun k => textAt bs (hdT k) h.2.2.2.2.2.2.2.2.2) with
    | none => none
    | some k => if (!hasB h.2.2.2.2.2.2.2.2.1 (2 ^ k) && okV k (part bs (h.2.2.2.2.2.2.2.2.2 + (hdT k).length) e)) = true then
        (match setV k (part bs (h.2.2.2.2.2.2.2.2.2 + (hdT k).length) e) h with
        | (ta, dp, ma, tk, tm, an, sp, al, se, _) => some (ta, dp, ma, tk, tm, an, sp, al, se ||| nI (2 ^ k), e + 1)) else none
def hsF (bs : Bs) : Nat → Hs → Option Hs
  | 0, _ => none
  | n + 1, h => if atI bs (nI h.2.2.2.2.2.2.2.2.2) = nI 10 then some (match h with
      | (ta, dp, ma, tk, tm, an, sp, al, se, cu) => (ta, dp, ma, tk, tm, an, sp, al, se, cu + 1)) else match hdS bs h with
    | none => none
    | some h' => hsF bs n h'
theorem hd_no10 : ∀ k, k < 8 → ∀ x ∈ hdT k, x.toNat ≠ 10 := by decide
theorem text_in {bs tx : Bs} {j m : Nat} (h : textAt bs tx j = true) (hm : m < tx.length) : ∃ hb : j + m < bs.length, bs[j + m] = tx[m] := by
  have z := of_decide_eq_true h
  have hl : m < (part bs j (j + tx.length)).length := by rw [part_len]; omega
  have hb : j + m < bs.length := by omega
  refine ⟨hb, ?_⟩
  rw [← part_get hl hb]
  simp only [z.2]
theorem text_le {bs tx : Bs} {j : Nat} (h : textAt bs tx j = true) : j + tx.length ≤ bs.length := (of_decide_eq_true h).1

set_option maxHeartbeats 4000000 in
set_option maxRecDepth 100000 in
theorem c_Req_forget (l : Launch) (K : gK) (E : gE) (q : Nat) (pa ta ba : Bs) (vb dp : Nat) (ma tk tm : Int32) (an sp al : Bool) (se : Int32) (cu : Nat) (hQ : isQ K E q pa ta ba vb dp ma tk tm an sp al se cu) : gMv l y_Req_forget b_Req_forget 1 1 64 K E [.ref (ka K q)] (fun E' => isQ K E' q [] [] [] 0 2 (-1) (-1) (nI 100) false false true (nI 0) 0 ∧ frN q 7 E E') := by
  have hq1 := hQ.1
  have hqp := hQ.2.1.1
  have hqt := hQ.2.2.1.1
  have hqb := hQ.2.2.2.1
  have hqN := hQ.2.2.2.2.2.1
  refine g_metv (by decide +kernel) (Nat.le_of_ble_eq_true rfl) (fun X hl C hR => ?_)
  subst hl
  show gW X K E 0 [(0, .ref (ka K q))] []
  refine g_aload_n (pc := 0) C d_Req_forget_0 0 rfl ?_
  refine g_get (pc := 1) C fl_Req_14 hq1 (by omega) rfl d_Req_forget_1 ?_
  refine g_cv (pc := 4) C (g_rV (As := []) (rest := []) C (c_Bytes_clear _ K _ (q + 1) 45 pa hQ.2.1) mw_Bytes_clear mo_Bytes_clear ml_Req_32 (by decide) hqp rfl (by omega) rfl rfl (Nat.le_of_ble_eq_true rfl) d_Req_forget_4) (fun E4 hp4 => ?_)
  obtain ⟨hB4, hF4⟩ := hp4
  have g1 := (hF4 q (by omega) (by omega)).trans hq1
  have g3 := (hF4 (q + 3) (by omega) (by omega)).trans hqt
  have g5 := (hF4 (q + 5) (by omega) (by omega)).trans hqb
  have t4 := hQ.2.2.1.fr hF4 (by omega) (by omega) (by omega)
  have b4 := hQ.2.2.2.fr hF4 (by omega) (by omega) (by omega)
  refine g_aload_n (pc := 7) C d_Req_forget_7 0 rfl ?_
  refine g_get (pc := 8) C fl_Req_20 g1 (by omega) rfl d_Req_forget_8 ?_
  refine g_cv (pc := 11) C (g_rV (As := []) (rest := []) C (c_Bytes_clear _ K _ (q + 3) 45 ta t4) mw_Bytes_clear mo_Bytes_clear ml_Req_32 (by decide) g3 rfl (by omega) rfl rfl (Nat.le_of_ble_eq_true rfl) d_Req_forget_11) (fun E11 hp11 => ?_)
  obtain ⟨hB11, hF11⟩ := hp11
  have k1 := (hF11 q (by omega) (by omega)).trans g1
  have k5 := (hF11 (q + 5) (by omega) (by omega)).trans g5
  have p11 := hB4.fr hF11 (by omega) (by omega) (by omega)
  have b11 := b4.fr hF11 (by omega) (by omega) (by omega)
  refine g_aload_n (pc := 14) C d_Req_forget_14 0 rfl ?_
  refine g_get (pc := 15) C fl_Req_25 k1 (by omega) rfl d_Req_forget_15 ?_
  refine g_cv (pc := 18) C (g_rV (As := []) (rest := []) C (c_Bytes_clear _ K _ (q + 5) 80 ba b11) mw_Bytes_clear mo_Bytes_clear ml_Req_32 (by decide) k5 rfl (by omega) rfl rfl (Nat.le_of_ble_eq_true rfl) d_Req_forget_18) (fun E18 hp18 => ?_)
  obtain ⟨hB18, hF18⟩ := hp18
  have m1 := (hF18 q (by omega) (by omega)).trans k1
  have p18 := p11.fr hF18 (by omega) (by omega) (by omega)
  have t18 := hB11.fr hF18 (by omega) (by omega) (by omega)
  refine g_aload_n (pc := 21) C d_Req_forget_21 0 rfl ?_
  refine g_iconst (pc := 22) (v := nI 0) C d_Req_forget_22 (by decide) ?_
  refine g_put (pc := 23) C fl_Req_35 fw_Req_verb m1 (by omega) (Nat.le_of_ble_eq_true rfl) ⟨rfl, rfl⟩ d_Req_forget_23 (fun E23 hE23 => ?_)
  have fE23_1 : E23 q = .inr (3, [.ref (ka K (q + 1)), .ref (ka K (q + 3)), .ref (ka K (q + 5)), .int (nI 0), .int (nI dp), .int ma, .int tk, .int tm, .int (bI an), .int (bI sp), .int (bI al), .int se, .int (nI cu)]) := by rw [hE23]; exact va_up_self _ _ _
  refine g_aload_n (pc := 26) C d_Req_forget_26 0 rfl ?_
  refine g_iconst (pc := 27) (v := nI 2) C d_Req_forget_27 (by decide) ?_
  refine g_put (pc := 28) C fl_Req_38 fw_Req_depth fE23_1 (by omega) (Nat.le_of_ble_eq_true rfl) ⟨rfl, rfl⟩ d_Req_forget_28 (fun E28 hE28 => ?_)
  have fE28_1 : E28 q = .inr (3, [.ref (ka K (q + 1)), .ref (ka K (q + 3)), .ref (ka K (q + 5)), .int (nI 0), .int (nI 2), .int ma, .int tk, .int tm, .int (bI an), .int (bI sp), .int (bI al), .int se, .int (nI cu)]) := by rw [hE28]; exact va_up_self _ _ _
  refine g_aload_n (pc := 31) C d_Req_forget_31 0 rfl ?_
  refine g_iconst (pc := 32) (v := -1) C d_Req_forget_32 (by decide) ?_
  refine g_put (pc := 33) C fl_Req_41 fw_Req_match fE28_1 (by omega) (Nat.le_of_ble_eq_true rfl) ⟨rfl, rfl⟩ d_Req_forget_33 (fun E33 hE33 => ?_)
  have fE33_1 : E33 q = .inr (3, [.ref (ka K (q + 1)), .ref (ka K (q + 3)), .ref (ka K (q + 5)), .int (nI 0), .int (nI 2), .int (-1), .int tk, .int tm, .int (bI an), .int (bI sp), .int (bI al), .int se, .int (nI cu)]) := by rw [hE33]; exact va_up_self _ _ _
  refine g_aload_n (pc := 36) C d_Req_forget_36 0 rfl ?_
  refine g_iconst (pc := 37) (v := -1) C d_Req_forget_37 (by decide) ?_
  refine g_put (pc := 38) C fl_Req_44 fw_Req_token fE33_1 (by omega) (Nat.le_of_ble_eq_true rfl) ⟨rfl, rfl⟩ d_Req_forget_38 (fun E38 hE38 => ?_)
  have fE38_1 : E38 q = .inr (3, [.ref (ka K (q + 1)), .ref (ka K (q + 3)), .ref (ka K (q + 5)), .int (nI 0), .int (nI 2), .int (-1), .int (-1), .int tm, .int (bI an), .int (bI sp), .int (bI al), .int se, .int (nI cu)]) := by rw [hE38]; exact va_up_self _ _ _
  refine g_aload_n (pc := 41) C d_Req_forget_41 0 rfl ?_
  refine g_bipush (pc := 42) (v := nI 100) C d_Req_forget_42 (by decide) ?_
  refine g_put (pc := 44) C fl_Req_47 fw_Req_term fE38_1 (by omega) (Nat.le_of_ble_eq_true rfl) ⟨rfl, rfl⟩ d_Req_forget_44 (fun E44 hE44 => ?_)
  have fE44_1 : E44 q = .inr (3, [.ref (ka K (q + 1)), .ref (ka K (q + 3)), .ref (ka K (q + 5)), .int (nI 0), .int (nI 2), .int (-1), .int (-1), .int (nI 100), .int (bI an), .int (bI sp), .int (bI al), .int se, .int (nI cu)]) := by rw [hE44]; exact va_up_self _ _ _
  refine g_aload_n (pc := 47) C d_Req_forget_47 0 rfl ?_
  refine g_iconst (pc := 48) (v := nI 0) C d_Req_forget_48 (by decide) ?_
  refine g_put (pc := 49) C fl_Req_50 fw_Req_matchesAny fE44_1 (by omega) (Nat.le_of_ble_eq_true rfl) ⟨rfl, rfl⟩ d_Req_forget_49 (fun E49 hE49 => ?_)
  have fE49_1 : E49 q = .inr (3, [.ref (ka K (q + 1)), .ref (ka K (q + 3)), .ref (ka K (q + 5)), .int (nI 0), .int (nI 2), .int (-1), .int (-1), .int (nI 100), .int (nI 0), .int (bI sp), .int (bI al), .int se, .int (nI cu)]) := by rw [hE49]; exact va_up_self _ _ _
  refine g_aload_n (pc := 52) C d_Req_forget_52 0 rfl ?_
  refine g_iconst (pc := 53) (v := nI 0) C d_Req_forget_53 (by decide) ?_
  refine g_put (pc := 54) C fl_Req_54 fw_Req_sparesOld fE49_1 (by omega) (Nat.le_of_ble_eq_true rfl) ⟨rfl, rfl⟩ d_Req_forget_54 (fun E54 hE54 => ?_)
  have fE54_1 : E54 q = .inr (3, [.ref (ka K (q + 1)), .ref (ka K (q + 3)), .ref (ka K (q + 5)), .int (nI 0), .int (nI 2), .int (-1), .int (-1), .int (nI 100), .int (nI 0), .int (nI 0), .int (bI al), .int se, .int (nI cu)]) := by rw [hE54]; exact va_up_self _ _ _
  refine g_aload_n (pc := 57) C d_Req_forget_57 0 rfl ?_
  refine g_iconst (pc := 58) (v := nI 1) C d_Req_forget_58 (by decide) ?_
  refine g_put (pc := 59) C fl_Req_57 fw_Req_alone fE54_1 (by omega) (Nat.le_of_ble_eq_true rfl) ⟨rfl, rfl⟩ d_Req_forget_59 (fun E59 hE59 => ?_)
  have fE59_1 : E59 q = .inr (3, [.ref (ka K (q + 1)), .ref (ka K (q + 3)), .ref (ka K (q + 5)), .int (nI 0), .int (nI 2), .int (-1), .int (-1), .int (nI 100), .int (nI 0), .int (nI 0), .int (nI 1), .int se, .int (nI cu)]) := by rw [hE59]; exact va_up_self _ _ _
  refine g_aload_n (pc := 62) C d_Req_forget_62 0 rfl ?_
  refine g_iconst (pc := 63) (v := nI 0) C d_Req_forget_63 (by decide) ?_
  refine g_put (pc := 64) C fl_Req_28 fw_Req_seen fE59_1 (by omega) (Nat.le_of_ble_eq_true rfl) ⟨rfl, rfl⟩ d_Req_forget_64 (fun E64 hE64 => ?_)
  have fE64_1 : E64 q = .inr (3, [.ref (ka K (q + 1)), .ref (ka K (q + 3)), .ref (ka K (q + 5)), .int (nI 0), .int (nI 2), .int (-1), .int (-1), .int (nI 100), .int (nI 0), .int (nI 0), .int (nI 1), .int (nI 0), .int (nI cu)]) := by rw [hE64]; exact va_up_self _ _ _
  refine g_aload_n (pc := 67) C d_Req_forget_67 0 rfl ?_
  refine g_iconst (pc := 68) (v := nI 0) C d_Req_forget_68 (by decide) ?_
  refine g_put (pc := 69) C fl_Req_60 fw_Req_cursor fE64_1 (by omega) (Nat.le_of_ble_eq_true rfl) ⟨rfl, rfl⟩ d_Req_forget_69 (fun E69 hE69 => ?_)
  have fE69_1 : E69 q = .inr (3, [.ref (ka K (q + 1)), .ref (ka K (q + 3)), .ref (ka K (q + 5)), .int (nI 0), .int (nI 2), .int (-1), .int (-1), .int (nI 100), .int (nI 0), .int (nI 0), .int (nI 1), .int (nI 0), .int (nI 0)]) := by rw [hE69]; exact va_up_self _ _ _
  refine g_vret (pc := 72) C hR d_Req_forget_72 ?_
  have hch : ∀ k, k ≠ q → E69 k = E18 k := fun k hk => by rw [hE69, va_up_ne _ _ hk, hE64, va_up_ne _ _ hk, hE59, va_up_ne _ _ hk, hE54, va_up_ne _ _ hk, hE49, va_up_ne _ _ hk, hE44, va_up_ne _ _ hk, hE38, va_up_ne _ _ hk, hE33, va_up_ne _ _ hk, hE28, va_up_ne _ _ hk, hE23, va_up_ne _ _ hk]
  exact ⟨⟨fE69_1, p18.at (fun k g1 g2 => hch k (by omega)), t18.at (fun k g1 g2 => hch k (by omega)), hB18.at (fun k g1 g2 => hch k (by omega))⟩, fun k hk => by rw [hch k (by omega), hF18 k (by omega) (by omega), hF11 k (by omega) (by omega), hF4 k (by omega) (by omega)]⟩

set_option maxHeartbeats 4000000 in
set_option maxRecDepth 100000 in
theorem c_Req_isText (l : Launch) (K : gK) (E : gE) (b cap : Nat) (bs : Bs) (i j w : Nat) (tx : Bs) (hs : scT w tx) (hij : i ≤ j) (hj : j ≤ bs.length) (htx : tx.length ≤ 400) (hB : isB K E b cap bs) : gMi l y_Req_isText b_Req_isText 4 .boolean 5 320 K E [.ref (ka K b), .int (nI i), .int (nI j), .ref (ks K w)] (fun r E' => r = bI (decide (part bs i j = tx)) ∧ E' = E) := by
  have hb1 := hB.1
  have hbN := hB.2.2.1
  have hbl := hB.2.1
  have hbc := hB.2.2.2.1
  refine g_meti (by decide +kernel) (Nat.le_of_ble_eq_true rfl) (fun X hl C hR => ?_)
  subst hl
  show gW X K E 0 [(0, .ref (ka K b)), (1, .int (nI i)), (2, .int (nI j)), (3, .ref (ks K w))] []
  refine g_iload_n (pc := 0) C d_Req_isText_0 2 rfl ?_
  refine g_iload_n (pc := 1) C d_Req_isText_1 1 rfl ?_
  refine g_isubN (pc := 2) C hij d_Req_isText_2 ?_
  refine g_aload_n (pc := 3) C d_Req_isText_3 3 rfl ?_
  refine g_ci (pc := 4) C (g_rVS (As := []) (rest := [.int (nI (j - i))]) C hs rfl (c_Str_length _ K _ w tx hs) mw_Str_length mo_Str_length ml_Req_88 (by decide) rfl rfl (Nat.le_of_ble_eq_true rfl) d_Req_isText_4) (fun r4 E4 hp4 => ?_)
  rw [hp4.1, hp4.2]
  refine g_icmp_neN (pc := 7) C 23 d_Req_isText_7 (by decide) (by omega) (by omega) (fun h_7 => ?_) (fun h_7 => ?_)
  · skip
    refine g_iconst (pc := 23) (v := nI 0) C d_Req_isText_23 (by decide) ?_
    refine g_zret (pc := 24) C hR rfl d_Req_isText_24 ?_
    refine ⟨?_, rfl⟩
    first
      | (rw [← textAt_part (by omega) hj, h_16]; rfl)
      | (rw [decide_eq_false (fun e => h_7 (by rw [← e, part_len]; omega))]; rfl)
  · skip
    refine g_aload_n (pc := 10) C d_Req_isText_10 0 rfl ?_
    refine g_iload_n (pc := 11) C d_Req_isText_11 1 rfl ?_
    refine g_aload_n (pc := 12) C d_Req_isText_12 3 rfl ?_
    refine g_ci (pc := 13) C (g_rV (As := [.int (nI i), .ref (ks K w)]) (rest := []) C (c_Bytes_hasTextAt _ K _ b cap bs i w tx hs (by omega) htx hB) mw_Bytes_hasTextAt mo_Bytes_hasTextAt ml_Req_76 (by decide) hb1 rfl (by omega) rfl rfl (Nat.le_of_ble_eq_true rfl) d_Req_isText_13) (fun r13 E13 hp13 => ?_)
    rw [hp13.1, hp13.2]
    refine g_if_eqB (pc := 16) C 23 d_Req_isText_16 (by decide) (fun h_16 => ?_) (fun h_16 => ?_)
    · skip
      refine g_iconst (pc := 23) (v := nI 0) C d_Req_isText_23 (by decide) ?_
      refine g_zret (pc := 24) C hR rfl d_Req_isText_24 ?_
      refine ⟨?_, rfl⟩
      first
        | (rw [← textAt_part (by omega) hj, h_16]; rfl)
        | (rw [decide_eq_false (fun e => h_7 (by rw [← e, part_len]; omega))]; rfl)
    · skip
      refine g_iconst (pc := 19) (v := nI 1) C d_Req_isText_19 (by decide) ?_
      refine g_goto (pc := 20) C 24 d_Req_isText_20 (by decide) ?_
      refine g_zret (pc := 24) C hR rfl d_Req_isText_24 ?_
      refine ⟨?_, rfl⟩
      first
        | (rw [← textAt_part (by omega) hj, h_16]; rfl)
        | (rw [decide_eq_false (fun e => h_7 (by rw [← e, part_len]; omega))]; rfl)

set_option maxHeartbeats 4000000 in
set_option maxRecDepth 100000 in
theorem w_readNumber {X : gX} {K : gK} (C : gC X K b_Req_readNumber "DavRoom$Request" 6 1 64) (E : gE) (b cap : Nat) (bs : Bs) (i j : Nat) (hij : i < j) (hj9 : j - i ≤ 9) (hj : j ≤ bs.length) (hB : isB K E b cap bs) (hR : gRi X K .int (fun r E' => r = numV (part bs i j) ∧ E' = E)) : ∀ (d k : Nat), i ≤ k → k ≤ j → j + 1 ≤ k + d → (part bs i k).all digB = true → gW X K E 20 [(4, .int (nI k)), (3, .int (nI (dvN (part bs i k)))), (0, .ref (ka K b)), (1, .int (nI i)), (2, .int (nI j))] [] := by
  have hB0 := hB
  obtain ⟨hb1, hle, hbN, hcap, f, hb2, hf⟩ := hB
  intro d
  induction d with
  | zero =>
    intro k h0 h1 h2
    exact absurd h2 (by omega)
  | succ d ih =>
    intro k hik hki hd hinv
    refine g_iload (pc := 20) C d_Req_readNumber_20 0 rfl ?_
    refine g_iload_n (pc := 22) C d_Req_readNumber_22 4 rfl ?_
    refine g_icmp_geN (pc := 23) C 65 d_Req_readNumber_23 (by decide) (by omega) (by omega) (fun h_23 => ?_) (fun h_23 => ?_)
    · skip
      have ek : k = j := by omega
      subst ek
      refine g_iload_n (pc := 65) C d_Req_readNumber_65 1 rfl ?_
      refine g_iret (pc := 66) C hR d_Req_readNumber_66 ?_
      exact ⟨by rw [numV, if_pos ⟨by rw [part_len]; omega, by rw [part_len]; omega, hinv⟩], rfl⟩
    · skip
      have hkl : k < bs.length := by omega
      have x1 := (bs[k]).toNat_lt
      refine g_aload_n (pc := 26) C d_Req_readNumber_26 2 rfl ?_
      refine g_iload (pc := 27) C d_Req_readNumber_27 0 rfl ?_
      refine g_ci (pc := 29) C (g_rV (As := [.int (nI k)]) (rest := []) C (c_Bytes_at _ K _ b cap bs (nI k) hB0) mw_Bytes_at mo_Bytes_at ml_Req_120 (by decide) hb1 rfl (by omega) rfl rfl (Nat.le_of_ble_eq_true rfl) d_Req_readNumber_29) (fun r29 E29 hp29 => ?_)
      rw [hp29.1, hp29.2]
      refine g_top (y := nI (bs[k].toNat)) (atI_in hkl (by omega)) ?_
      refine g_bipush (pc := 32) (v := nI 48) C d_Req_readNumber_32 (by decide) ?_
      refine g_isub (pc := 34) C d_Req_readNumber_34 ?_
      refine g_istore (pc := 35) (lv' := [(5, .int ((nI (bs[k].toNat)) - (nI 48))), (4, .int (nI k)), (3, .int (nI (dvN (part bs i k)))), (0, .ref (ka K b)), (1, .int (nI i)), (2, .int (nI j))]) C d_Req_readNumber_35 (by decide) rfl ?_
      refine g_iload (pc := 37) C d_Req_readNumber_37 0 rfl ?_
      refine g_if_lt (pc := 39) C 49 d_Req_readNumber_39 (by decide) (fun h_39 => ?_) (fun h_39 => ?_)
      · skip
        have hno : digB bs[k] = false := decide_eq_false (fun z => by rw [subI_lt0 (by omega) (by omega)] at h_39; omega)
        refine g_iconst (pc := 49) (v := -1) C d_Req_readNumber_49 (by decide) ?_
        refine g_iret (pc := 50) C hR d_Req_readNumber_50 ?_
        exact ⟨by rw [numV, if_neg (fun z => by rw [part_bad hik (by omega) hj digB hno] at z; exact absurd z.2.2 (by decide))], rfl⟩
      · skip
        have h48 : 48 ≤ bs[k].toNat := by
          rw [subI_lt0 (by omega) (by omega)] at h_39
          omega
        rw [pk_sub h48]
        refine g_iload (pc := 42) C d_Req_readNumber_42 0 rfl ?_
        refine g_bipush (pc := 44) (v := nI 9) C d_Req_readNumber_44 (by decide) ?_
        refine g_icmp_leN (pc := 46) C 51 d_Req_readNumber_46 (by decide) (by omega) (by omega) (fun h_46 => ?_) (fun h_46 => ?_)
        · skip
          refine g_iload_n (pc := 51) C d_Req_readNumber_51 2 rfl ?_
          refine g_bipush (pc := 52) (v := nI 10) C d_Req_readNumber_52 (by decide) ?_
          refine g_imulN (pc := 54) C d_Req_readNumber_54 ?_
          refine g_iload (pc := 55) C d_Req_readNumber_55 0 rfl ?_
          refine g_iaddN (pc := 57) C d_Req_readNumber_57 ?_
          refine g_istore_n (pc := 58) (lv' := [(3, .int (nI (((dvN (part bs i k)) * 10) + (bs[k].toNat - 48)))), (5, .int (nI (bs[k].toNat - 48))), (4, .int (nI k)), (0, .ref (ka K b)), (1, .int (nI i)), (2, .int (nI j))]) C d_Req_readNumber_58 rfl (by decide) rfl ?_
          refine g_iinc (pc := 59) (pl := 2) (v := nI (k + 1)) (lv' := [(4, .int (nI (k + 1))), (3, .int (nI (((dvN (part bs i k)) * 10) + (bs[k].toNat - 48)))), (5, .int (nI (bs[k].toNat - 48))), (0, .ref (ka K b)), (1, .int (nI i)), (2, .int (nI j))]) C d_Req_readNumber_59 rfl (nI_1 _) (by decide) rfl ?_
          refine g_goto (pc := 62) C 20 d_Req_readNumber_62 (by decide) ?_
          have e := ih (k + 1) (by omega) (by omega) (by omega) (by rw [part_snoc hik hkl, List.all_append, hinv, Bool.true_and, List.all_cons, List.all_nil, Bool.and_true]; exact decide_eq_true ⟨h48, by omega⟩)
          rw [show dvN (part bs i (k + 1)) = dvN (part bs i k) * 10 + (bs[k].toNat - 48) from by rw [part_snoc hik hkl, dvN, List.foldl_append]; rfl] at e
          exact g_lv [0, 1, 3, 4, 5] rfl e
        · skip
          have hno : digB bs[k] = false := decide_eq_false (fun z => by omega)
          refine g_iconst (pc := 49) (v := -1) C d_Req_readNumber_49 (by decide) ?_
          refine g_iret (pc := 50) C hR d_Req_readNumber_50 ?_
          exact ⟨by rw [numV, if_neg (fun z => by rw [part_bad hik (by omega) hj digB hno] at z; exact absurd z.2.2 (by decide))], rfl⟩

set_option maxHeartbeats 4000000 in
set_option maxRecDepth 100000 in
theorem c_Req_readNumber (l : Launch) (K : gK) (E : gE) (b cap : Nat) (bs : Bs) (i j : Nat) (hi : i < 2 ^ 30) (hj : j ≤ bs.length) (hB : isB K E b cap bs) : gMi l y_Req_readNumber b_Req_readNumber 6 .int 1 64 K E [.ref (ka K b), .int (nI i), .int (nI j)] (fun r E' => r = numV (part bs i j) ∧ E' = E) := by
  have hB0 := hB
  obtain ⟨hb1, hle, hbN, hcap, f, hb2, hf⟩ := hB
  refine g_meti (by decide +kernel) (Nat.le_of_ble_eq_true rfl) (fun X hl C hR => ?_)
  subst hl
  show gW X K E 0 [(0, .ref (ka K b)), (1, .int (nI i)), (2, .int (nI j))] []
  refine g_iload_n (pc := 0) C d_Req_readNumber_0 2 rfl ?_
  refine g_iload_n (pc := 1) C d_Req_readNumber_1 1 rfl ?_
  refine g_icmp_leN (pc := 2) C 13 d_Req_readNumber_2 (by decide) (by omega) (by omega) (fun h_2 => ?_) (fun h_2 => ?_)
  · skip
    refine g_iconst (pc := 13) (v := -1) C d_Req_readNumber_13 (by decide) ?_
    refine g_iret (pc := 14) C hR d_Req_readNumber_14 ?_
    exact ⟨by rw [numV, if_neg (fun z => by rw [part_len] at z; omega)], rfl⟩
  · skip
    refine g_iload_n (pc := 5) C d_Req_readNumber_5 2 rfl ?_
    refine g_iload_n (pc := 6) C d_Req_readNumber_6 1 rfl ?_
    refine g_isubN (pc := 7) C (by omega) d_Req_readNumber_7 ?_
    refine g_bipush (pc := 8) (v := nI 9) C d_Req_readNumber_8 (by decide) ?_
    refine g_icmp_leN (pc := 10) C 15 d_Req_readNumber_10 (by decide) (by omega) (by omega) (fun h_10 => ?_) (fun h_10 => ?_)
    · skip
      refine g_iconst (pc := 15) (v := nI 0) C d_Req_readNumber_15 (by decide) ?_
      refine g_istore_n (pc := 16) (lv' := [(3, .int (nI 0)), (0, .ref (ka K b)), (1, .int (nI i)), (2, .int (nI j))]) C d_Req_readNumber_16 rfl (by decide) rfl ?_
      refine g_iload_n (pc := 17) C d_Req_readNumber_17 2 rfl ?_
      refine g_istore (pc := 18) (lv' := [(4, .int (nI i)), (3, .int (nI 0)), (0, .ref (ka K b)), (1, .int (nI i)), (2, .int (nI j))]) C d_Req_readNumber_18 (by decide) rfl ?_
      have e0 : dvN (part bs i i) = 0 := by rw [part_nil (Nat.le_refl _)]; rfl
      have e := w_readNumber C E b cap bs i j (by omega) (by omega) hj hB0 hR (j + 1) i (Nat.le_refl _) (by omega) (by omega) (by rw [part_nil (Nat.le_refl _)]; rfl)
      rw [e0] at e
      exact g_lv [0, 1, 2, 3, 4] rfl e
    · skip
      refine g_iconst (pc := 13) (v := -1) C d_Req_readNumber_13 (by decide) ?_
      refine g_iret (pc := 14) C hR d_Req_readNumber_14 ?_
      exact ⟨by rw [numV, if_neg (fun z => by rw [part_len] at z; omega)], rfl⟩

set_option maxHeartbeats 4000000 in
set_option maxRecDepth 100000 in
theorem c_Req_readPath (l : Launch) (K : gK) (E : gE) (b cap : Nat) (bs : Bs) (i j : Nat) (s : Nat) (ts : Bs) (hi : i < 2 ^ 30) (hj : j ≤ bs.length) (hdis : b + 2 ≤ s ∨ s + 2 ≤ b) (hB : isB K E b cap bs) (hO : isB K E s 45 ts) : gMi l y_Req_readPath b_Req_readPath 4 .boolean 2 128 K E [.ref (ka K b), .int (nI i), .int (nI j), .ref (ka K s)] (fun r E' => r = bI (pathOK (part bs i j)) ∧ isB K E' s 45 (if pathOK (part bs i j) = true then part bs i j else ts) ∧ fr2 s E E') := by
  have hs1 := hO.1
  have hsN := hO.2.2.1
  have hbl := hB.2.1
  have hbc := hB.2.2.2.1
  refine g_meti (by decide +kernel) (Nat.le_of_ble_eq_true rfl) (fun X hl C hR => ?_)
  subst hl
  show gW X K E 0 [(0, .ref (ka K b)), (1, .int (nI i)), (2, .int (nI j)), (3, .ref (ka K s))] []
  refine g_aload_n (pc := 0) C d_Req_readPath_0 0 rfl ?_
  refine g_iload_n (pc := 1) C d_Req_readPath_1 1 rfl ?_
  refine g_iload_n (pc := 2) C d_Req_readPath_2 2 rfl ?_
  refine g_ci (pc := 3) C (g_rS (As := [.ref (ka K b), .int (nI i), .int (nI j)]) (rest := []) C (c_Paths_isPath _ K _ b cap bs i j hi hj hB) mw_Paths_isPath mo_Paths_isPath ml_Req_112 (by decide) rfl rfl (Nat.le_of_ble_eq_true rfl) d_Req_readPath_3) (fun r3 E3 hp3 => ?_)
  rw [hp3.1, hp3.2]
  refine g_if_neB (pc := 6) C 11 d_Req_readPath_6 (by decide) (fun h_6 => ?_) (fun h_6 => ?_)
  · skip
    refine g_aload_n (pc := 11) C d_Req_readPath_11 3 rfl ?_
    refine g_cv (pc := 12) C (g_rV (As := []) (rest := []) C (c_Bytes_clear _ K _ s 45 ts hO) mw_Bytes_clear mo_Bytes_clear ml_Req_32 (by decide) hs1 rfl (by omega) rfl rfl (Nat.le_of_ble_eq_true rfl) d_Req_readPath_12) (fun E12 hp12 => ?_)
    obtain ⟨hB12, hF12⟩ := hp12
    have gs1 := hB12.1
    have hb12 := hB.fr hF12 (by omega) (by omega) (by omega)
    have hpl := pathOK_len h_6
    rw [part_len] at hpl
    refine g_aload_n (pc := 15) C d_Req_readPath_15 3 rfl ?_
    refine g_aload_n (pc := 16) C d_Req_readPath_16 0 rfl ?_
    refine g_iload_n (pc := 17) C d_Req_readPath_17 1 rfl ?_
    refine g_iload_n (pc := 18) C d_Req_readPath_18 2 rfl ?_
    refine g_cv (pc := 19) C (g_rV (As := [.ref (ka K b), .int (nI i), .int (nI j)]) (rest := []) C (c_Bytes_addPart _ K _ s 45 [] b cap bs i j hi (by omega) (by omega) (by omega) (by omega) hB12 hb12) mw_Bytes_addPart mo_Bytes_addPart ml_Req_116 (by decide) gs1 rfl (by omega) rfl rfl (Nat.le_of_ble_eq_true rfl) d_Req_readPath_19) (fun E19 hp19 => ?_)
    obtain ⟨hB19, hF19⟩ := hp19
    rw [cap_part (by rw [part_len]; simp only [List.length_nil]; omega), List.nil_append] at hB19
    refine g_iconst (pc := 22) (v := nI 1) C d_Req_readPath_22 (by decide) ?_
    refine g_zret (pc := 23) C hR rfl d_Req_readPath_23 ?_
    exact ⟨by rw [h_6]; rfl, by rw [if_pos h_6]; exact hB19, fun k h1 h2 => by rw [hF19 k h1 h2, hF12 k h1 h2]⟩
  · skip
    refine g_iconst (pc := 9) (v := nI 0) C d_Req_readPath_9 (by decide) ?_
    refine g_zret (pc := 10) C hR rfl d_Req_readPath_10 ?_
    exact ⟨by rw [h_6]; rfl, by rw [if_neg (by rw [h_6]; decide)]; exact hO, fun k h1 h2 => rfl⟩
