def bodR (K : gK) (E : gE) (r : Nat) : Prop := ∀ j, j < 41 → E (r + 6 + j) = .inl (kc K 0, 80, .inl (fun _ => nI 0))
theorem bodR.out {K : gK} {E E' : gE} {r c n : Nat} (h : bodR K E r) (hf : frN c n E E') (h1 : r + 47 ≤ c ∨ c + n ≤ r + 6) : bodR K E' r := fun j hj => (hf _ (by omega)).trans (h j hj)
set_option maxHeartbeats 4000000 in
set_option maxRecDepth 100000 in
theorem w_MRoom97 {X : gX} {K : gK} (CG : gCG X K b_MRoom_init "DavRoomModel$Room" 2 2 128 153 6085) (hO : gO (xs X)) (hnm : (xM X).name = "<init>") (E : gE) (r : Nat) (h0 : (xs X).heap.size = ka K (r + 1)) (post : gE → Prop) (hR : gRG X K (r + 1) 153 6085 post) (hN : r + 154 ≤ kN K) (E0 : gE) (hr9 : E0 r = .inr (8, [.ref (ka K (r + 1)), .ref (ka K (r + 2)), .ref (ka K (r + 3)), .ref (ka K (r + 4)), .ref (ka K (r + 5)), .int (nI 1), .ref (ka K (r + 47)), .ref (ka K (r + 48)), .ref (ka K (r + 49)), .ref (ka K (r + 50)), .ref (ka K (r + 51)), .int (nI 0)])) (hfin : ∀ (E1 : gE) (f : Nat → Option Nat), E1 (r + 1) = .inl (kc K 5, 41, .inr (.inr (.inr (.inr f)))) → (∀ j, j < 41 → f j = some (ka K (r + 52 + 2 * j))) → (∀ j, j < 41 → isP K E1 (r + 52 + 2 * j) []) → (∀ k, k ≠ r + 1 → k < r + 52 → E1 k = E0 k) → frN r 154 E E1 → gW (gXa X 133 5585) (gKa K (r + 134)) E1 122 [(0, .ref (ka K r))] []) : ∀ (d i : Nat) (E1 : gE) (f : Nat → Option Nat), i ≤ 41 → 42 ≤ i + d → E1 (r + 1) = .inl (kc K 5, 41, .inr (.inr (.inr (.inr f)))) → (∀ j, j < i → f j = some (ka K (r + 52 + 2 * j))) → (∀ j, j < i → isP K E1 (r + 52 + 2 * j) []) → (∀ k, k ≠ r + 1 → k < r + 52 → E1 k = E0 k) → frN r 154 E E1 → gW (gXa X (51 + 2 * i) (3535 + 50 * i)) (gKa K (r + 52 + 2 * i)) E1 97 [(1, .int (nI i)), (0, .ref (ka K r))] [] := by
  intro d
  induction d with
  | zero =>
    intro i E1 f h1 h2
    exact absurd h2 (by omega)
  | succ d ih =>
    intro i E1 f hi hd hq1 hf hL hE0 hfr
    have hr0 := (hE0 r (by omega) (by omega)).trans hr9
    have C := CG.1 (51 + 2 * i) (3535 + 50 * i) (r + 52 + 2 * i) (by omega) (by omega)
    refine g_iload_n (pc := 97) C d_MRoom_init_97 0 rfl ?_
    refine g_bipush (pc := 98) (v := nI 41) C d_MRoom_init_98 (by decide) ?_
    refine g_icmp_geN (pc := 100) C 122 d_MRoom_init_100 (by decide) (by omega) (by omega) (fun h_100 => ?_) (fun h_100 => ?_)
    · skip
      have ei : i = 41 := by omega
      subst ei
      exact g_lv [1] rfl (g_cst (by omega) (by omega) (by omega) (hfin E1 f hq1 hf hL hE0 hfr))
    · skip
      refine g_aload_n (pc := 103) C d_MRoom_init_103 1 rfl ?_
      refine g_get (pc := 104) C fl_MRoom_11 hr0 (by show r < r + 52 + 2 * i; omega) rfl d_MRoom_init_104 ?_
      refine g_iload_n (pc := 107) C d_MRoom_init_107 0 rfl ?_
      refine g_new (pc := 108) (N := r + 52 + 2 * i) CG (kS_at CG.2.1 h0 (by omega)) (by omega) (ci := 7) rfl i_MPath t_MPath t_MPath_ok cl_MRoom_9 (tb4 25 rfl rfl) (tb1 11 rfl rfl) (fs := [.null, .int (nI 0)]) hf_MPath (k' := 51 + 2 * i + 1) (n' := 3535 + 50 * i + 2) (N' := r + 52 + 2 * i + 1) (by omega) (by omega) (by omega) (by omega) (by omega) d_MRoom_init_108 (fun E108 hE108 => ?_)
      have hF108 : frN (r + 52 + 2 * i) 1 E1 E108 := fun k hk => by rw [hE108, va_up_ne _ _ (by omega)]
      have fE108_1 := (congrFun hE108 r).trans ((va_up_ne _ _ (show r ≠ r + 52 + 2 * i from by omega)).trans hr0)
      have fE108_2 := (congrFun hE108 (r + 1)).trans ((va_up_ne _ _ (show r + 1 ≠ r + 52 + 2 * i from by omega)).trans hq1)
      have fN108 : E108 (r + 52 + 2 * i) = .inr (7, [.null, .int (nI 0)]) := by rw [hE108]; exact va_up_self _ _ _
      have FE108 : frN r 154 E E108 := hfr.trans (hF108.wide (by omega) (by omega))
      have C := CG.1 (51 + 2 * i + 1) (3535 + 50 * i + 2) (r + 52 + 2 * i + 1) (by omega) (by omega)
      refine g_dup (pc := 111) C d_MRoom_init_111 rfl ?_
      refine g_cGN (pc := 112) (N := r + 52 + 2 * i + 1) (As := []) (rest := [.ref (ka K (r + 52 + 2 * i)), .int (nI i), .ref (ka K (r + 1))]) CG hO (kS_at CG.2.1 h0 (by omega)) (by omega) (c_MPath_init _ K CG.2.1 _ (r + 52 + 2 * i) (by omega) fN108) mw_MPath_init rfl mo_MPath_init (C.T.2.1 _ mn_MRoom_52) (by decide) rfl rfl (Nat.le_of_ble_eq_true rfl) (k' := 51 + 2 * i + 2) (n' := 3535 + 50 * i + 50) (N' := r + 52 + 2 * i + 2) (by omega) (by omega) (by omega) (by omega) (by omega) d_MRoom_init_112 (fun E112 hp112 => ?_)
      obtain ⟨hP112, hF112⟩ := hp112
      have rE112_1 := (hF112 r (by omega)).trans (fE108_1)
      have rE112_2 := (hF112 (r + 1) (by omega)).trans (fE108_2)
      have FE112 : frN r 154 E E112 := FE108.trans (hF112.wide (by omega) (by omega))
      have C := CG.1 (51 + 2 * i + 2) (3535 + 50 * i + 50) (r + 52 + 2 * i + 2) (by omega) (by omega)
      refine g_astN (pc := 115) C rE112_2 (by show r + 1 < r + 52 + 2 * i + 2; omega) (gt_P _) (by omega) (by omega) hP112.1 (by show r + 52 + 2 * i < r + 52 + 2 * i + 2; omega) rfl d_MRoom_init_115 (fun E115 hE115 => ?_)
      have hF115 : frN (r + 1) 1 E112 E115 := fun k hk => by rw [hE115, va_up_ne _ _ (by omega)]
      have fE115_1 := (congrFun hE115 r).trans ((va_up_ne _ _ (show r ≠ r + 1 from by omega)).trans rE112_1)
      have fE115_2 : E115 (r + 1) = .inl (kc K 5, 41, .inr (.inr (.inr (.inr (va_up f i (some (ka K (r + 52 + 2 * i)))))))) := by rw [hE115]; exact va_up_self _ _ _
      have fE115_3 := (congrFun hE115 (r + 52 + 2 * i)).trans ((va_up_ne _ _ (show r + 52 + 2 * i ≠ r + 1 from by omega)).trans hP112.1)
      have hP112_E115 := hP112.out hF115 (by omega)
      have FE115 : frN r 154 E E115 := FE112.trans (hF115.wide (by omega) (by omega))
      refine g_iinc (pc := 116) (pl := 0) (v := nI (i + 1)) (lv' := [(1, .int (nI (i + 1))), (0, .ref (ka K r))]) C d_MRoom_init_116 rfl (nI_1 _) (by decide) rfl ?_
      refine g_goto (pc := 119) C 97 d_MRoom_init_119 (by decide) ?_
      refine g_lv [0, 1] rfl (g_cst (by omega) (by omega) (by omega) (ih (i + 1) E115 _ (by omega) (by omega) fE115_2 (fun j h => ?_) (fun j h => ?_) (fun k z1 z2 => (hF115 k (by omega)).trans ((hF112 k (by omega)).trans ((hF108 k (by omega)).trans (hE0 k z1 z2)))) FE115))
      · by_cases e : j = i
        · subst e
          rw [va_up_self]
        · rw [va_up_ne _ _ e]
          exact hf j (by omega)
      · by_cases e : j = i
        · subst e
          exact hP112_E115
        · exact (((hL j (by omega)).out hF108 (by omega)).out hF112 (by omega)).out hF115 (by omega)

set_option maxHeartbeats 4000000 in
set_option maxRecDepth 100000 in
theorem w_MRoom124 {X : gX} {K : gK} (CG : gCG X K b_MRoom_init "DavRoomModel$Room" 2 2 128 153 6085) (hO : gO (xs X)) (hnm : (xM X).name = "<init>") (E : gE) (r : Nat) (h0 : (xs X).heap.size = ka K (r + 1)) (post : gE → Prop) (hR : gRG X K (r + 1) 153 6085 post) (hN : r + 154 ≤ kN K) (E0 : gE) (hr9 : E0 r = .inr (8, [.ref (ka K (r + 1)), .ref (ka K (r + 2)), .ref (ka K (r + 3)), .ref (ka K (r + 4)), .ref (ka K (r + 5)), .int (nI 1), .ref (ka K (r + 47)), .ref (ka K (r + 48)), .ref (ka K (r + 49)), .ref (ka K (r + 50)), .ref (ka K (r + 51)), .int (nI 0)])) (hfin : ∀ (E1 : gE) (f : Nat → Option Nat), E1 (r + 47) = .inl (kc K 5, 10, .inr (.inr (.inr (.inr f)))) → (∀ j, j < 10 → f j = some (ka K (r + 134 + 2 * j))) → (∀ j, j < 10 → isP K E1 (r + 134 + 2 * j) []) → (∀ k, k ≠ r + 47 → k < r + 134 → E1 k = E0 k) → frN r 154 E E1 → gW (gXa X 153 6085) (gKa K (r + 154)) E1 149 [(0, .ref (ka K r))] []) : ∀ (d i : Nat) (E1 : gE) (f : Nat → Option Nat), i ≤ 10 → 11 ≤ i + d → E1 (r + 47) = .inl (kc K 5, 10, .inr (.inr (.inr (.inr f)))) → (∀ j, j < i → f j = some (ka K (r + 134 + 2 * j))) → (∀ j, j < i → isP K E1 (r + 134 + 2 * j) []) → (∀ k, k ≠ r + 47 → k < r + 134 → E1 k = E0 k) → frN r 154 E E1 → gW (gXa X (133 + 2 * i) (5585 + 50 * i)) (gKa K (r + 134 + 2 * i)) E1 124 [(1, .int (nI i)), (0, .ref (ka K r))] [] := by
  intro d
  induction d with
  | zero =>
    intro i E1 f h1 h2
    exact absurd h2 (by omega)
  | succ d ih =>
    intro i E1 f hi hd hq1 hf hL hE0 hfr
    have hr0 := (hE0 r (by omega) (by omega)).trans hr9
    have C := CG.1 (133 + 2 * i) (5585 + 50 * i) (r + 134 + 2 * i) (by omega) (by omega)
    refine g_iload_n (pc := 124) C d_MRoom_init_124 0 rfl ?_
    refine g_bipush (pc := 125) (v := nI 10) C d_MRoom_init_125 (by decide) ?_
    refine g_icmp_geN (pc := 127) C 149 d_MRoom_init_127 (by decide) (by omega) (by omega) (fun h_127 => ?_) (fun h_127 => ?_)
    · skip
      have ei : i = 10 := by omega
      subst ei
      exact g_lv [1] rfl (g_cst (by omega) (by omega) (by omega) (hfin E1 f hq1 hf hL hE0 hfr))
    · skip
      refine g_aload_n (pc := 130) C d_MRoom_init_130 1 rfl ?_
      refine g_get (pc := 131) C fl_MRoom_36 hr0 (by show r < r + 134 + 2 * i; omega) rfl d_MRoom_init_131 ?_
      refine g_iload_n (pc := 134) C d_MRoom_init_134 0 rfl ?_
      refine g_new (pc := 135) (N := r + 134 + 2 * i) CG (kS_at CG.2.1 h0 (by omega)) (by omega) (ci := 7) rfl i_MPath t_MPath t_MPath_ok cl_MRoom_9 (tb4 25 rfl rfl) (tb1 11 rfl rfl) (fs := [.null, .int (nI 0)]) hf_MPath (k' := 133 + 2 * i + 1) (n' := 5585 + 50 * i + 2) (N' := r + 134 + 2 * i + 1) (by omega) (by omega) (by omega) (by omega) (by omega) d_MRoom_init_135 (fun E135 hE135 => ?_)
      have hF135 : frN (r + 134 + 2 * i) 1 E1 E135 := fun k hk => by rw [hE135, va_up_ne _ _ (by omega)]
      have fE135_1 := (congrFun hE135 r).trans ((va_up_ne _ _ (show r ≠ r + 134 + 2 * i from by omega)).trans hr0)
      have fE135_2 := (congrFun hE135 (r + 47)).trans ((va_up_ne _ _ (show r + 47 ≠ r + 134 + 2 * i from by omega)).trans hq1)
      have fN135 : E135 (r + 134 + 2 * i) = .inr (7, [.null, .int (nI 0)]) := by rw [hE135]; exact va_up_self _ _ _
      have FE135 : frN r 154 E E135 := hfr.trans (hF135.wide (by omega) (by omega))
      have C := CG.1 (133 + 2 * i + 1) (5585 + 50 * i + 2) (r + 134 + 2 * i + 1) (by omega) (by omega)
      refine g_dup (pc := 138) C d_MRoom_init_138 rfl ?_
      refine g_cGN (pc := 139) (N := r + 134 + 2 * i + 1) (As := []) (rest := [.ref (ka K (r + 134 + 2 * i)), .int (nI i), .ref (ka K (r + 47))]) CG hO (kS_at CG.2.1 h0 (by omega)) (by omega) (c_MPath_init _ K CG.2.1 _ (r + 134 + 2 * i) (by omega) fN135) mw_MPath_init rfl mo_MPath_init (C.T.2.1 _ mn_MRoom_52) (by decide) rfl rfl (Nat.le_of_ble_eq_true rfl) (k' := 133 + 2 * i + 2) (n' := 5585 + 50 * i + 50) (N' := r + 134 + 2 * i + 2) (by omega) (by omega) (by omega) (by omega) (by omega) d_MRoom_init_139 (fun E139 hp139 => ?_)
      obtain ⟨hP139, hF139⟩ := hp139
      have rE139_1 := (hF139 r (by omega)).trans (fE135_1)
      have rE139_2 := (hF139 (r + 47) (by omega)).trans (fE135_2)
      have FE139 : frN r 154 E E139 := FE135.trans (hF139.wide (by omega) (by omega))
      have C := CG.1 (133 + 2 * i + 2) (5585 + 50 * i + 50) (r + 134 + 2 * i + 2) (by omega) (by omega)
      refine g_astN (pc := 142) C rE139_2 (by show r + 47 < r + 134 + 2 * i + 2; omega) (gt_P _) (by omega) (by omega) hP139.1 (by show r + 134 + 2 * i < r + 134 + 2 * i + 2; omega) rfl d_MRoom_init_142 (fun E142 hE142 => ?_)
      have hF142 : frN (r + 47) 1 E139 E142 := fun k hk => by rw [hE142, va_up_ne _ _ (by omega)]
      have fE142_1 := (congrFun hE142 r).trans ((va_up_ne _ _ (show r ≠ r + 47 from by omega)).trans rE139_1)
      have fE142_2 : E142 (r + 47) = .inl (kc K 5, 10, .inr (.inr (.inr (.inr (va_up f i (some (ka K (r + 134 + 2 * i)))))))) := by rw [hE142]; exact va_up_self _ _ _
      have fE142_3 := (congrFun hE142 (r + 134 + 2 * i)).trans ((va_up_ne _ _ (show r + 134 + 2 * i ≠ r + 47 from by omega)).trans hP139.1)
      have hP139_E142 := hP139.out hF142 (by omega)
      have FE142 : frN r 154 E E142 := FE139.trans (hF142.wide (by omega) (by omega))
      refine g_iinc (pc := 143) (pl := 0) (v := nI (i + 1)) (lv' := [(1, .int (nI (i + 1))), (0, .ref (ka K r))]) C d_MRoom_init_143 rfl (nI_1 _) (by decide) rfl ?_
      refine g_goto (pc := 146) C 124 d_MRoom_init_146 (by decide) ?_
      refine g_lv [0, 1] rfl (g_cst (by omega) (by omega) (by omega) (ih (i + 1) E142 _ (by omega) (by omega) fE142_2 (fun j h => ?_) (fun j h => ?_) (fun k z1 z2 => (hF142 k (by omega)).trans ((hF139 k (by omega)).trans ((hF135 k (by omega)).trans (hE0 k z1 z2)))) FE142))
      · by_cases e : j = i
        · subst e
          rw [va_up_self]
        · rw [va_up_ne _ _ e]
          exact hf j (by omega)
      · by_cases e : j = i
        · subst e
          exact hP139_E142
        · exact (((hL j (by omega)).out hF135 (by omega)).out hF139 (by omega)).out hF142 (by omega)

set_option maxHeartbeats 4000000 in
set_option maxRecDepth 100000 in
theorem c_MRoom_init (l : Launch) (K : gK) (hs : kS K) (E : gE) (r : Nat) (hN : r + 154 ≤ kN K) (hE : E r = .inr (8, [.null, .null, .null, .null, .null, .int (nI 0), .null, .null, .null, .null, .null, .int (nI 0)])) : gMG l y_MRoom_init b_MRoom_init 2 2 128 153 6085 K (r + 1) E [.ref (ka K r)] (fun E' => isMM K E' r [([], nI 2, nI 0, [])] [] ∧ frN r 154 E E') := by
  refine g_metG (by decide +kernel) (Nat.le_of_ble_eq_true rfl) rfl hs (fun X hl CG hO hnm h0 hR => ?_)
  subst hl
  show gW (gXa X 0 0) (gKa K (r + 1)) E 0 [(0, .ref (ka K r))] []
  have C := CG.1 0 0 (r + 1) (by omega) (by omega)
  refine g_aload_n (pc := 0) C d_MRoom_init_0 0 rfl ?_
  refine g_objI (pc := 1) C ml_MRoom_3 d_MRoom_init_1 (by decide) (by decide) ?_
  refine g_aload_n (pc := 4) C d_MRoom_init_4 0 rfl ?_
  refine g_bipush (pc := 5) (v := nI 41) C d_MRoom_init_5 (by decide) ?_
  refine g_newq (pc := 7) (N := r + 1) CG (kS_at CG.2.1 h0 (by omega)) (by omega) cl_MRoom_9 hO.2.2.1 (t0 := 5) rfl (len := 41) (by omega) (k' := 1) (n' := 41) (N' := r + 2) (by omega) (by omega) (by omega) (by omega) (by omega) d_MRoom_init_7 (fun E7 hE7 => ?_)
  have hF7 : frN (r + 1) 1 E E7 := fun k hk => by rw [hE7, va_up_ne _ _ (by omega)]
  have fE7_1 := (congrFun hE7 r).trans ((va_up_ne _ _ (show r ≠ r + 1 from by omega)).trans hE)
  have fN7 : E7 (r + 1) = .inl (kc K 5, 41, .inr (.inr (.inr (.inr (fun _ => none))))) := by rw [hE7]; exact va_up_self _ _ _
  have FE7 : frN r 154 E E7 := frN.refl.trans (hF7.wide (by omega) (by omega))
  have C := CG.1 1 41 (r + 2) (by omega) (by omega)
  refine g_putF (pc := 10) C hnm fl_MRoom_11 fw_MRoom_path ⟨_, _, rfl⟩ fE7_1 (by show r < r + 2; omega) (Nat.le_of_ble_eq_true rfl) ⟨rfl, rfl⟩ d_MRoom_init_10 (fun E10 hE10 => ?_)
  have hF10 : frN r 1 E7 E10 := fun k hk => by rw [hE10, va_up_ne _ _ (by omega)]
  have fE10_1 : E10 r = .inr (8, [.ref (ka K (r + 1)), .null, .null, .null, .null, .int (nI 0), .null, .null, .null, .null, .null, .int (nI 0)]) := by rw [hE10]; exact va_up_self _ _ _
  have fE10_2 := (congrFun hE10 (r + 1)).trans ((va_up_ne _ _ (show r + 1 ≠ r from by omega)).trans fN7)
  have FE10 : frN r 154 E E10 := FE7.trans (hF10.wide (by omega) (by omega))
  refine g_aload_n (pc := 13) C d_MRoom_init_13 0 rfl ?_
  refine g_bipush (pc := 14) (v := nI 41) C d_MRoom_init_14 (by decide) ?_
  refine g_newa (pc := 16) (N := r + 2) CG (kS_at CG.2.1 h0 (by omega)) (by omega) (ty := .int) rfl tw_int (t0 := 3) rfl (fun _ _ h => h) (len := 41) (a0 := fun _ => nI 0) (fun _ => rfl) (by show 41 * 4 ≤ 536870912; omega) (by omega) (k' := 2) (n' := 82) (N' := r + 3) (by omega) (by omega) (by omega) (by omega) (by omega) d_MRoom_init_16 (fun E16 hE16 => ?_)
  have hF16 : frN (r + 2) 1 E10 E16 := fun k hk => by rw [hE16, va_up_ne _ _ (by omega)]
  have fE16_1 := (congrFun hE16 r).trans ((va_up_ne _ _ (show r ≠ r + 2 from by omega)).trans fE10_1)
  have fE16_2 := (congrFun hE16 (r + 1)).trans ((va_up_ne _ _ (show r + 1 ≠ r + 2 from by omega)).trans fE10_2)
  have fN16 : E16 (r + 2) = .inl (kc K 3, 41, .inl (fun _ => nI 0)) := by rw [hE16]; exact va_up_self _ _ _
  have FE16 : frN r 154 E E16 := FE10.trans (hF16.wide (by omega) (by omega))
  have C := CG.1 2 82 (r + 3) (by omega) (by omega)
  refine g_putF (pc := 18) C hnm fl_MRoom_17 fw_MRoom_kind ⟨_, _, rfl⟩ fE16_1 (by show r < r + 3; omega) (Nat.le_of_ble_eq_true rfl) ⟨rfl, rfl⟩ d_MRoom_init_18 (fun E18 hE18 => ?_)
  have hF18 : frN r 1 E16 E18 := fun k hk => by rw [hE18, va_up_ne _ _ (by omega)]
  have fE18_1 : E18 r = .inr (8, [.ref (ka K (r + 1)), .ref (ka K (r + 2)), .null, .null, .null, .int (nI 0), .null, .null, .null, .null, .null, .int (nI 0)]) := by rw [hE18]; exact va_up_self _ _ _
  have fE18_2 := (congrFun hE18 (r + 1)).trans ((va_up_ne _ _ (show r + 1 ≠ r from by omega)).trans fE16_2)
  have fE18_3 := (congrFun hE18 (r + 2)).trans ((va_up_ne _ _ (show r + 2 ≠ r from by omega)).trans fN16)
  have FE18 : frN r 154 E E18 := FE16.trans (hF18.wide (by omega) (by omega))
  refine g_aload_n (pc := 21) C d_MRoom_init_21 0 rfl ?_
  refine g_bipush (pc := 22) (v := nI 41) C d_MRoom_init_22 (by decide) ?_
  refine g_newa (pc := 24) (N := r + 3) CG (kS_at CG.2.1 h0 (by omega)) (by omega) (ty := .int) rfl tw_int (t0 := 3) rfl (fun _ _ h => h) (len := 41) (a0 := fun _ => nI 0) (fun _ => rfl) (by show 41 * 4 ≤ 536870912; omega) (by omega) (k' := 3) (n' := 123) (N' := r + 4) (by omega) (by omega) (by omega) (by omega) (by omega) d_MRoom_init_24 (fun E24 hE24 => ?_)
  have hF24 : frN (r + 3) 1 E18 E24 := fun k hk => by rw [hE24, va_up_ne _ _ (by omega)]
  have fE24_1 := (congrFun hE24 r).trans ((va_up_ne _ _ (show r ≠ r + 3 from by omega)).trans fE18_1)
  have fE24_2 := (congrFun hE24 (r + 1)).trans ((va_up_ne _ _ (show r + 1 ≠ r + 3 from by omega)).trans fE18_2)
  have fE24_3 := (congrFun hE24 (r + 2)).trans ((va_up_ne _ _ (show r + 2 ≠ r + 3 from by omega)).trans fE18_3)
  have fN24 : E24 (r + 3) = .inl (kc K 3, 41, .inl (fun _ => nI 0)) := by rw [hE24]; exact va_up_self _ _ _
  have FE24 : frN r 154 E E24 := FE18.trans (hF24.wide (by omega) (by omega))
  have C := CG.1 3 123 (r + 4) (by omega) (by omega)
  refine g_putF (pc := 26) C hnm fl_MRoom_21 fw_MRoom_version ⟨_, _, rfl⟩ fE24_1 (by show r < r + 4; omega) (Nat.le_of_ble_eq_true rfl) ⟨rfl, rfl⟩ d_MRoom_init_26 (fun E26 hE26 => ?_)
  have hF26 : frN r 1 E24 E26 := fun k hk => by rw [hE26, va_up_ne _ _ (by omega)]
  have fE26_1 : E26 r = .inr (8, [.ref (ka K (r + 1)), .ref (ka K (r + 2)), .ref (ka K (r + 3)), .null, .null, .int (nI 0), .null, .null, .null, .null, .null, .int (nI 0)]) := by rw [hE26]; exact va_up_self _ _ _
  have fE26_2 := (congrFun hE26 (r + 1)).trans ((va_up_ne _ _ (show r + 1 ≠ r from by omega)).trans fE24_2)
  have fE26_3 := (congrFun hE26 (r + 2)).trans ((va_up_ne _ _ (show r + 2 ≠ r from by omega)).trans fE24_3)
  have fE26_4 := (congrFun hE26 (r + 3)).trans ((va_up_ne _ _ (show r + 3 ≠ r from by omega)).trans fN24)
  have FE26 : frN r 154 E E26 := FE24.trans (hF26.wide (by omega) (by omega))
  refine g_aload_n (pc := 29) C d_MRoom_init_29 0 rfl ?_
  refine g_bipush (pc := 30) (v := nI 41) C d_MRoom_init_30 (by decide) ?_
  refine g_newa (pc := 32) (N := r + 4) CG (kS_at CG.2.1 h0 (by omega)) (by omega) (ty := .int) rfl tw_int (t0 := 3) rfl (fun _ _ h => h) (len := 41) (a0 := fun _ => nI 0) (fun _ => rfl) (by show 41 * 4 ≤ 536870912; omega) (by omega) (k' := 4) (n' := 164) (N' := r + 5) (by omega) (by omega) (by omega) (by omega) (by omega) d_MRoom_init_32 (fun E32 hE32 => ?_)
  have hF32 : frN (r + 4) 1 E26 E32 := fun k hk => by rw [hE32, va_up_ne _ _ (by omega)]
  have fE32_1 := (congrFun hE32 r).trans ((va_up_ne _ _ (show r ≠ r + 4 from by omega)).trans fE26_1)
  have fE32_2 := (congrFun hE32 (r + 1)).trans ((va_up_ne _ _ (show r + 1 ≠ r + 4 from by omega)).trans fE26_2)
  have fE32_3 := (congrFun hE32 (r + 2)).trans ((va_up_ne _ _ (show r + 2 ≠ r + 4 from by omega)).trans fE26_3)
  have fE32_4 := (congrFun hE32 (r + 3)).trans ((va_up_ne _ _ (show r + 3 ≠ r + 4 from by omega)).trans fE26_4)
  have fN32 : E32 (r + 4) = .inl (kc K 3, 41, .inl (fun _ => nI 0)) := by rw [hE32]; exact va_up_self _ _ _
  have FE32 : frN r 154 E E32 := FE26.trans (hF32.wide (by omega) (by omega))
  have C := CG.1 4 164 (r + 5) (by omega) (by omega)
  refine g_putF (pc := 34) C hnm fl_MRoom_24 fw_MRoom_size ⟨_, _, rfl⟩ fE32_1 (by show r < r + 5; omega) (Nat.le_of_ble_eq_true rfl) ⟨rfl, rfl⟩ d_MRoom_init_34 (fun E34 hE34 => ?_)
  have hF34 : frN r 1 E32 E34 := fun k hk => by rw [hE34, va_up_ne _ _ (by omega)]
  have fE34_1 : E34 r = .inr (8, [.ref (ka K (r + 1)), .ref (ka K (r + 2)), .ref (ka K (r + 3)), .ref (ka K (r + 4)), .null, .int (nI 0), .null, .null, .null, .null, .null, .int (nI 0)]) := by rw [hE34]; exact va_up_self _ _ _
  have fE34_2 := (congrFun hE34 (r + 1)).trans ((va_up_ne _ _ (show r + 1 ≠ r from by omega)).trans fE32_2)
  have fE34_3 := (congrFun hE34 (r + 2)).trans ((va_up_ne _ _ (show r + 2 ≠ r from by omega)).trans fE32_3)
  have fE34_4 := (congrFun hE34 (r + 3)).trans ((va_up_ne _ _ (show r + 3 ≠ r from by omega)).trans fE32_4)
  have fE34_5 := (congrFun hE34 (r + 4)).trans ((va_up_ne _ _ (show r + 4 ≠ r from by omega)).trans fN32)
  have FE34 : frN r 154 E E34 := FE32.trans (hF34.wide (by omega) (by omega))
  refine g_aload_n (pc := 37) C d_MRoom_init_37 0 rfl ?_
  refine g_bipush (pc := 38) (v := nI 41) C d_MRoom_init_38 (by decide) ?_
  refine g_bipush (pc := 40) (v := nI 80) C d_MRoom_init_40 (by decide) ?_
  refine g_multi (pc := 42) (N := r + 5) CG hO (kS_at CG.2.1 h0 (by omega)) (by omega) cl_MRoom_27 (n1 := 41) (n2 := 80) (by decide) (by decide) (by decide) (k' := 46) (n' := 3485) (N' := r + 47) (by omega) (by omega) (by omega) (by omega) (by omega) d_MRoom_init_42 (fun E42 fd hq1 hq2 hq3 hF42 => ?_)
  have hI42 : bodR K E42 r := fun j hj => hq3 j hj
  have rE42_1 := (hF42 r (by omega)).trans (fE34_1)
  have rE42_2 := (hF42 (r + 1) (by omega)).trans (fE34_2)
  have rE42_3 := (hF42 (r + 2) (by omega)).trans (fE34_3)
  have rE42_4 := (hF42 (r + 3) (by omega)).trans (fE34_4)
  have rE42_5 := (hF42 (r + 4) (by omega)).trans (fE34_5)
  have FE42 : frN r 154 E E42 := FE34.trans (hF42.wide (by omega) (by omega))
  have C := CG.1 46 3485 (r + 47) (by omega) (by omega)
  refine g_putF (pc := 46) C hnm fl_MRoom_29 fw_MRoom_data ⟨_, _, rfl⟩ rE42_1 (by show r < r + 47; omega) (Nat.le_of_ble_eq_true rfl) ⟨rfl, rfl⟩ d_MRoom_init_46 (fun E46 hE46 => ?_)
  have hF46 : frN r 1 E42 E46 := fun k hk => by rw [hE46, va_up_ne _ _ (by omega)]
  have fE46_1 : E46 r = .inr (8, [.ref (ka K (r + 1)), .ref (ka K (r + 2)), .ref (ka K (r + 3)), .ref (ka K (r + 4)), .ref (ka K (r + 5)), .int (nI 0), .null, .null, .null, .null, .null, .int (nI 0)]) := by rw [hE46]; exact va_up_self _ _ _
  have fE46_2 := (congrFun hE46 (r + 1)).trans ((va_up_ne _ _ (show r + 1 ≠ r from by omega)).trans rE42_2)
  have fE46_3 := (congrFun hE46 (r + 2)).trans ((va_up_ne _ _ (show r + 2 ≠ r from by omega)).trans rE42_3)
  have fE46_4 := (congrFun hE46 (r + 3)).trans ((va_up_ne _ _ (show r + 3 ≠ r from by omega)).trans rE42_4)
  have fE46_5 := (congrFun hE46 (r + 4)).trans ((va_up_ne _ _ (show r + 4 ≠ r from by omega)).trans rE42_5)
  have fE46_6 := (congrFun hE46 (r + 5)).trans ((va_up_ne _ _ (show r + 5 ≠ r from by omega)).trans hq1)
  have hI42_E46 := hI42.out hF46 (by omega)
  have FE46 : frN r 154 E E46 := FE42.trans (hF46.wide (by omega) (by omega))
  refine g_aload_n (pc := 49) C d_MRoom_init_49 0 rfl ?_
  refine g_iconst (pc := 50) (v := nI 1) C d_MRoom_init_50 (by decide) ?_
  refine g_put (pc := 51) C fl_MRoom_32 fw_MRoom_count fE46_1 (by show r < r + 47; omega) (Nat.le_of_ble_eq_true rfl) ⟨rfl, rfl⟩ d_MRoom_init_51 (fun E51 hE51 => ?_)
  have hF51 : frN r 1 E46 E51 := fun k hk => by rw [hE51, va_up_ne _ _ (by omega)]
  have fE51_1 : E51 r = .inr (8, [.ref (ka K (r + 1)), .ref (ka K (r + 2)), .ref (ka K (r + 3)), .ref (ka K (r + 4)), .ref (ka K (r + 5)), .int (nI 1), .null, .null, .null, .null, .null, .int (nI 0)]) := by rw [hE51]; exact va_up_self _ _ _
  have fE51_2 := (congrFun hE51 (r + 1)).trans ((va_up_ne _ _ (show r + 1 ≠ r from by omega)).trans fE46_2)
  have fE51_3 := (congrFun hE51 (r + 2)).trans ((va_up_ne _ _ (show r + 2 ≠ r from by omega)).trans fE46_3)
  have fE51_4 := (congrFun hE51 (r + 3)).trans ((va_up_ne _ _ (show r + 3 ≠ r from by omega)).trans fE46_4)
  have fE51_5 := (congrFun hE51 (r + 4)).trans ((va_up_ne _ _ (show r + 4 ≠ r from by omega)).trans fE46_5)
  have fE51_6 := (congrFun hE51 (r + 5)).trans ((va_up_ne _ _ (show r + 5 ≠ r from by omega)).trans fE46_6)
  have hI42_E46_E51 := hI42_E46.out hF51 (by omega)
  have FE51 : frN r 154 E E51 := FE46.trans (hF51.wide (by omega) (by omega))
  refine g_aload_n (pc := 54) C d_MRoom_init_54 0 rfl ?_
  refine g_bipush (pc := 55) (v := nI 10) C d_MRoom_init_55 (by decide) ?_
  refine g_newq (pc := 57) (N := r + 47) CG (kS_at CG.2.1 h0 (by omega)) (by omega) cl_MRoom_9 hO.2.2.1 (t0 := 5) rfl (len := 10) (by omega) (k' := 47) (n' := 3495) (N' := r + 48) (by omega) (by omega) (by omega) (by omega) (by omega) d_MRoom_init_57 (fun E57 hE57 => ?_)
  have hF57 : frN (r + 47) 1 E51 E57 := fun k hk => by rw [hE57, va_up_ne _ _ (by omega)]
  have fE57_1 := (congrFun hE57 r).trans ((va_up_ne _ _ (show r ≠ r + 47 from by omega)).trans fE51_1)
  have fE57_2 := (congrFun hE57 (r + 1)).trans ((va_up_ne _ _ (show r + 1 ≠ r + 47 from by omega)).trans fE51_2)
  have fE57_3 := (congrFun hE57 (r + 2)).trans ((va_up_ne _ _ (show r + 2 ≠ r + 47 from by omega)).trans fE51_3)
  have fE57_4 := (congrFun hE57 (r + 3)).trans ((va_up_ne _ _ (show r + 3 ≠ r + 47 from by omega)).trans fE51_4)
  have fE57_5 := (congrFun hE57 (r + 4)).trans ((va_up_ne _ _ (show r + 4 ≠ r + 47 from by omega)).trans fE51_5)
  have fE57_6 := (congrFun hE57 (r + 5)).trans ((va_up_ne _ _ (show r + 5 ≠ r + 47 from by omega)).trans fE51_6)
  have fN57 : E57 (r + 47) = .inl (kc K 5, 10, .inr (.inr (.inr (.inr (fun _ => none))))) := by rw [hE57]; exact va_up_self _ _ _
  have hI42_E46_E51_E57 := hI42_E46_E51.out hF57 (by omega)
  have FE57 : frN r 154 E E57 := FE51.trans (hF57.wide (by omega) (by omega))
  have C := CG.1 47 3495 (r + 48) (by omega) (by omega)
  refine g_putF (pc := 60) C hnm fl_MRoom_36 fw_MRoom_lockPath ⟨_, _, rfl⟩ fE57_1 (by show r < r + 48; omega) (Nat.le_of_ble_eq_true rfl) ⟨rfl, rfl⟩ d_MRoom_init_60 (fun E60 hE60 => ?_)
  have hF60 : frN r 1 E57 E60 := fun k hk => by rw [hE60, va_up_ne _ _ (by omega)]
  have fE60_1 : E60 r = .inr (8, [.ref (ka K (r + 1)), .ref (ka K (r + 2)), .ref (ka K (r + 3)), .ref (ka K (r + 4)), .ref (ka K (r + 5)), .int (nI 1), .ref (ka K (r + 47)), .null, .null, .null, .null, .int (nI 0)]) := by rw [hE60]; exact va_up_self _ _ _
  have fE60_2 := (congrFun hE60 (r + 1)).trans ((va_up_ne _ _ (show r + 1 ≠ r from by omega)).trans fE57_2)
  have fE60_3 := (congrFun hE60 (r + 2)).trans ((va_up_ne _ _ (show r + 2 ≠ r from by omega)).trans fE57_3)
  have fE60_4 := (congrFun hE60 (r + 3)).trans ((va_up_ne _ _ (show r + 3 ≠ r from by omega)).trans fE57_4)
  have fE60_5 := (congrFun hE60 (r + 4)).trans ((va_up_ne _ _ (show r + 4 ≠ r from by omega)).trans fE57_5)
  have fE60_6 := (congrFun hE60 (r + 5)).trans ((va_up_ne _ _ (show r + 5 ≠ r from by omega)).trans fE57_6)
  have fE60_7 := (congrFun hE60 (r + 47)).trans ((va_up_ne _ _ (show r + 47 ≠ r from by omega)).trans fN57)
  have hI42_E46_E51_E57_E60 := hI42_E46_E51_E57.out hF60 (by omega)
  have FE60 : frN r 154 E E60 := FE57.trans (hF60.wide (by omega) (by omega))
  refine g_aload_n (pc := 63) C d_MRoom_init_63 0 rfl ?_
  refine g_bipush (pc := 64) (v := nI 10) C d_MRoom_init_64 (by decide) ?_
  refine g_newa (pc := 66) (N := r + 48) CG (kS_at CG.2.1 h0 (by omega)) (by omega) (ty := .int) rfl tw_int (t0 := 3) rfl (fun _ _ h => h) (len := 10) (a0 := fun _ => nI 0) (fun _ => rfl) (by show 10 * 4 ≤ 536870912; omega) (by omega) (k' := 48) (n' := 3505) (N' := r + 49) (by omega) (by omega) (by omega) (by omega) (by omega) d_MRoom_init_66 (fun E66 hE66 => ?_)
  have hF66 : frN (r + 48) 1 E60 E66 := fun k hk => by rw [hE66, va_up_ne _ _ (by omega)]
  have fE66_1 := (congrFun hE66 r).trans ((va_up_ne _ _ (show r ≠ r + 48 from by omega)).trans fE60_1)
  have fE66_2 := (congrFun hE66 (r + 1)).trans ((va_up_ne _ _ (show r + 1 ≠ r + 48 from by omega)).trans fE60_2)
  have fE66_3 := (congrFun hE66 (r + 2)).trans ((va_up_ne _ _ (show r + 2 ≠ r + 48 from by omega)).trans fE60_3)
  have fE66_4 := (congrFun hE66 (r + 3)).trans ((va_up_ne _ _ (show r + 3 ≠ r + 48 from by omega)).trans fE60_4)
  have fE66_5 := (congrFun hE66 (r + 4)).trans ((va_up_ne _ _ (show r + 4 ≠ r + 48 from by omega)).trans fE60_5)
  have fE66_6 := (congrFun hE66 (r + 5)).trans ((va_up_ne _ _ (show r + 5 ≠ r + 48 from by omega)).trans fE60_6)
  have fE66_7 := (congrFun hE66 (r + 47)).trans ((va_up_ne _ _ (show r + 47 ≠ r + 48 from by omega)).trans fE60_7)
  have fN66 : E66 (r + 48) = .inl (kc K 3, 10, .inl (fun _ => nI 0)) := by rw [hE66]; exact va_up_self _ _ _
  have hI42_E46_E51_E57_E60_E66 := hI42_E46_E51_E57_E60.out hF66 (by omega)
  have FE66 : frN r 154 E E66 := FE60.trans (hF66.wide (by omega) (by omega))
  have C := CG.1 48 3505 (r + 49) (by omega) (by omega)
  refine g_putF (pc := 68) C hnm fl_MRoom_39 fw_MRoom_token ⟨_, _, rfl⟩ fE66_1 (by show r < r + 49; omega) (Nat.le_of_ble_eq_true rfl) ⟨rfl, rfl⟩ d_MRoom_init_68 (fun E68 hE68 => ?_)
  have hF68 : frN r 1 E66 E68 := fun k hk => by rw [hE68, va_up_ne _ _ (by omega)]
  have fE68_1 : E68 r = .inr (8, [.ref (ka K (r + 1)), .ref (ka K (r + 2)), .ref (ka K (r + 3)), .ref (ka K (r + 4)), .ref (ka K (r + 5)), .int (nI 1), .ref (ka K (r + 47)), .ref (ka K (r + 48)), .null, .null, .null, .int (nI 0)]) := by rw [hE68]; exact va_up_self _ _ _
  have fE68_2 := (congrFun hE68 (r + 1)).trans ((va_up_ne _ _ (show r + 1 ≠ r from by omega)).trans fE66_2)
  have fE68_3 := (congrFun hE68 (r + 2)).trans ((va_up_ne _ _ (show r + 2 ≠ r from by omega)).trans fE66_3)
  have fE68_4 := (congrFun hE68 (r + 3)).trans ((va_up_ne _ _ (show r + 3 ≠ r from by omega)).trans fE66_4)
  have fE68_5 := (congrFun hE68 (r + 4)).trans ((va_up_ne _ _ (show r + 4 ≠ r from by omega)).trans fE66_5)
  have fE68_6 := (congrFun hE68 (r + 5)).trans ((va_up_ne _ _ (show r + 5 ≠ r from by omega)).trans fE66_6)
  have fE68_7 := (congrFun hE68 (r + 47)).trans ((va_up_ne _ _ (show r + 47 ≠ r from by omega)).trans fE66_7)
  have fE68_8 := (congrFun hE68 (r + 48)).trans ((va_up_ne _ _ (show r + 48 ≠ r from by omega)).trans fN66)
  have hI42_E46_E51_E57_E60_E66_E68 := hI42_E46_E51_E57_E60_E66.out hF68 (by omega)
  have FE68 : frN r 154 E E68 := FE66.trans (hF68.wide (by omega) (by omega))
  refine g_aload_n (pc := 71) C d_MRoom_init_71 0 rfl ?_
  refine g_bipush (pc := 72) (v := nI 10) C d_MRoom_init_72 (by decide) ?_
  refine g_newa (pc := 74) (N := r + 49) CG (kS_at CG.2.1 h0 (by omega)) (by omega) (ty := .boolean) rfl tw_bool (t0 := 4) rfl (fun _ _ h => h) (len := 10) (a0 := fun _ => nI 0) (fun _ => rfl) (by show 10 * 1 ≤ 536870912; omega) (by omega) (k' := 49) (n' := 3515) (N' := r + 50) (by omega) (by omega) (by omega) (by omega) (by omega) d_MRoom_init_74 (fun E74 hE74 => ?_)
  have hF74 : frN (r + 49) 1 E68 E74 := fun k hk => by rw [hE74, va_up_ne _ _ (by omega)]
  have fE74_1 := (congrFun hE74 r).trans ((va_up_ne _ _ (show r ≠ r + 49 from by omega)).trans fE68_1)
  have fE74_2 := (congrFun hE74 (r + 1)).trans ((va_up_ne _ _ (show r + 1 ≠ r + 49 from by omega)).trans fE68_2)
  have fE74_3 := (congrFun hE74 (r + 2)).trans ((va_up_ne _ _ (show r + 2 ≠ r + 49 from by omega)).trans fE68_3)
  have fE74_4 := (congrFun hE74 (r + 3)).trans ((va_up_ne _ _ (show r + 3 ≠ r + 49 from by omega)).trans fE68_4)
  have fE74_5 := (congrFun hE74 (r + 4)).trans ((va_up_ne _ _ (show r + 4 ≠ r + 49 from by omega)).trans fE68_5)
  have fE74_6 := (congrFun hE74 (r + 5)).trans ((va_up_ne _ _ (show r + 5 ≠ r + 49 from by omega)).trans fE68_6)
  have fE74_7 := (congrFun hE74 (r + 47)).trans ((va_up_ne _ _ (show r + 47 ≠ r + 49 from by omega)).trans fE68_7)
  have fE74_8 := (congrFun hE74 (r + 48)).trans ((va_up_ne _ _ (show r + 48 ≠ r + 49 from by omega)).trans fE68_8)
  have fN74 : E74 (r + 49) = .inl (kc K 4, 10, .inl (fun _ => nI 0)) := by rw [hE74]; exact va_up_self _ _ _
  have hI42_E46_E51_E57_E60_E66_E68_E74 := hI42_E46_E51_E57_E60_E66_E68.out hF74 (by omega)
  have FE74 : frN r 154 E E74 := FE68.trans (hF74.wide (by omega) (by omega))
  have C := CG.1 49 3515 (r + 50) (by omega) (by omega)
  refine g_putF (pc := 76) C hnm fl_MRoom_42 fw_MRoom_deep ⟨_, _, rfl⟩ fE74_1 (by show r < r + 50; omega) (Nat.le_of_ble_eq_true rfl) ⟨rfl, rfl⟩ d_MRoom_init_76 (fun E76 hE76 => ?_)
  have hF76 : frN r 1 E74 E76 := fun k hk => by rw [hE76, va_up_ne _ _ (by omega)]
  have fE76_1 : E76 r = .inr (8, [.ref (ka K (r + 1)), .ref (ka K (r + 2)), .ref (ka K (r + 3)), .ref (ka K (r + 4)), .ref (ka K (r + 5)), .int (nI 1), .ref (ka K (r + 47)), .ref (ka K (r + 48)), .ref (ka K (r + 49)), .null, .null, .int (nI 0)]) := by rw [hE76]; exact va_up_self _ _ _
  have fE76_2 := (congrFun hE76 (r + 1)).trans ((va_up_ne _ _ (show r + 1 ≠ r from by omega)).trans fE74_2)
  have fE76_3 := (congrFun hE76 (r + 2)).trans ((va_up_ne _ _ (show r + 2 ≠ r from by omega)).trans fE74_3)
  have fE76_4 := (congrFun hE76 (r + 3)).trans ((va_up_ne _ _ (show r + 3 ≠ r from by omega)).trans fE74_4)
  have fE76_5 := (congrFun hE76 (r + 4)).trans ((va_up_ne _ _ (show r + 4 ≠ r from by omega)).trans fE74_5)
  have fE76_6 := (congrFun hE76 (r + 5)).trans ((va_up_ne _ _ (show r + 5 ≠ r from by omega)).trans fE74_6)
  have fE76_7 := (congrFun hE76 (r + 47)).trans ((va_up_ne _ _ (show r + 47 ≠ r from by omega)).trans fE74_7)
  have fE76_8 := (congrFun hE76 (r + 48)).trans ((va_up_ne _ _ (show r + 48 ≠ r from by omega)).trans fE74_8)
  have fE76_9 := (congrFun hE76 (r + 49)).trans ((va_up_ne _ _ (show r + 49 ≠ r from by omega)).trans fN74)
  have hI42_E46_E51_E57_E60_E66_E68_E74_E76 := hI42_E46_E51_E57_E60_E66_E68_E74.out hF76 (by omega)
  have FE76 : frN r 154 E E76 := FE74.trans (hF76.wide (by omega) (by omega))
  refine g_aload_n (pc := 79) C d_MRoom_init_79 0 rfl ?_
  refine g_bipush (pc := 80) (v := nI 10) C d_MRoom_init_80 (by decide) ?_
  refine g_newa (pc := 82) (N := r + 50) CG (kS_at CG.2.1 h0 (by omega)) (by omega) (ty := .boolean) rfl tw_bool (t0 := 4) rfl (fun _ _ h => h) (len := 10) (a0 := fun _ => nI 0) (fun _ => rfl) (by show 10 * 1 ≤ 536870912; omega) (by omega) (k' := 50) (n' := 3525) (N' := r + 51) (by omega) (by omega) (by omega) (by omega) (by omega) d_MRoom_init_82 (fun E82 hE82 => ?_)
  have hF82 : frN (r + 50) 1 E76 E82 := fun k hk => by rw [hE82, va_up_ne _ _ (by omega)]
  have fE82_1 := (congrFun hE82 r).trans ((va_up_ne _ _ (show r ≠ r + 50 from by omega)).trans fE76_1)
  have fE82_2 := (congrFun hE82 (r + 1)).trans ((va_up_ne _ _ (show r + 1 ≠ r + 50 from by omega)).trans fE76_2)
  have fE82_3 := (congrFun hE82 (r + 2)).trans ((va_up_ne _ _ (show r + 2 ≠ r + 50 from by omega)).trans fE76_3)
  have fE82_4 := (congrFun hE82 (r + 3)).trans ((va_up_ne _ _ (show r + 3 ≠ r + 50 from by omega)).trans fE76_4)
  have fE82_5 := (congrFun hE82 (r + 4)).trans ((va_up_ne _ _ (show r + 4 ≠ r + 50 from by omega)).trans fE76_5)
  have fE82_6 := (congrFun hE82 (r + 5)).trans ((va_up_ne _ _ (show r + 5 ≠ r + 50 from by omega)).trans fE76_6)
  have fE82_7 := (congrFun hE82 (r + 47)).trans ((va_up_ne _ _ (show r + 47 ≠ r + 50 from by omega)).trans fE76_7)
  have fE82_8 := (congrFun hE82 (r + 48)).trans ((va_up_ne _ _ (show r + 48 ≠ r + 50 from by omega)).trans fE76_8)
  have fE82_9 := (congrFun hE82 (r + 49)).trans ((va_up_ne _ _ (show r + 49 ≠ r + 50 from by omega)).trans fE76_9)
  have fN82 : E82 (r + 50) = .inl (kc K 4, 10, .inl (fun _ => nI 0)) := by rw [hE82]; exact va_up_self _ _ _
  have hI42_E46_E51_E57_E60_E66_E68_E74_E76_E82 := hI42_E46_E51_E57_E60_E66_E68_E74_E76.out hF82 (by omega)
  have FE82 : frN r 154 E E82 := FE76.trans (hF82.wide (by omega) (by omega))
  have C := CG.1 50 3525 (r + 51) (by omega) (by omega)
  refine g_putF (pc := 84) C hnm fl_MRoom_46 fw_MRoom_one ⟨_, _, rfl⟩ fE82_1 (by show r < r + 51; omega) (Nat.le_of_ble_eq_true rfl) ⟨rfl, rfl⟩ d_MRoom_init_84 (fun E84 hE84 => ?_)
  have hF84 : frN r 1 E82 E84 := fun k hk => by rw [hE84, va_up_ne _ _ (by omega)]
  have fE84_1 : E84 r = .inr (8, [.ref (ka K (r + 1)), .ref (ka K (r + 2)), .ref (ka K (r + 3)), .ref (ka K (r + 4)), .ref (ka K (r + 5)), .int (nI 1), .ref (ka K (r + 47)), .ref (ka K (r + 48)), .ref (ka K (r + 49)), .ref (ka K (r + 50)), .null, .int (nI 0)]) := by rw [hE84]; exact va_up_self _ _ _
  have fE84_2 := (congrFun hE84 (r + 1)).trans ((va_up_ne _ _ (show r + 1 ≠ r from by omega)).trans fE82_2)
  have fE84_3 := (congrFun hE84 (r + 2)).trans ((va_up_ne _ _ (show r + 2 ≠ r from by omega)).trans fE82_3)
  have fE84_4 := (congrFun hE84 (r + 3)).trans ((va_up_ne _ _ (show r + 3 ≠ r from by omega)).trans fE82_4)
  have fE84_5 := (congrFun hE84 (r + 4)).trans ((va_up_ne _ _ (show r + 4 ≠ r from by omega)).trans fE82_5)
  have fE84_6 := (congrFun hE84 (r + 5)).trans ((va_up_ne _ _ (show r + 5 ≠ r from by omega)).trans fE82_6)
  have fE84_7 := (congrFun hE84 (r + 47)).trans ((va_up_ne _ _ (show r + 47 ≠ r from by omega)).trans fE82_7)
  have fE84_8 := (congrFun hE84 (r + 48)).trans ((va_up_ne _ _ (show r + 48 ≠ r from by omega)).trans fE82_8)
  have fE84_9 := (congrFun hE84 (r + 49)).trans ((va_up_ne _ _ (show r + 49 ≠ r from by omega)).trans fE82_9)
  have fE84_10 := (congrFun hE84 (r + 50)).trans ((va_up_ne _ _ (show r + 50 ≠ r from by omega)).trans fN82)
  have hI42_E46_E51_E57_E60_E66_E68_E74_E76_E82_E84 := hI42_E46_E51_E57_E60_E66_E68_E74_E76_E82.out hF84 (by omega)
  have FE84 : frN r 154 E E84 := FE82.trans (hF84.wide (by omega) (by omega))
  refine g_aload_n (pc := 87) C d_MRoom_init_87 0 rfl ?_
  refine g_bipush (pc := 88) (v := nI 10) C d_MRoom_init_88 (by decide) ?_
  refine g_newa (pc := 90) (N := r + 51) CG (kS_at CG.2.1 h0 (by omega)) (by omega) (ty := .int) rfl tw_int (t0 := 3) rfl (fun _ _ h => h) (len := 10) (a0 := fun _ => nI 0) (fun _ => rfl) (by show 10 * 4 ≤ 536870912; omega) (by omega) (k' := 51) (n' := 3535) (N' := r + 52) (by omega) (by omega) (by omega) (by omega) (by omega) d_MRoom_init_90 (fun E90 hE90 => ?_)
  have hF90 : frN (r + 51) 1 E84 E90 := fun k hk => by rw [hE90, va_up_ne _ _ (by omega)]
  have fE90_1 := (congrFun hE90 r).trans ((va_up_ne _ _ (show r ≠ r + 51 from by omega)).trans fE84_1)
  have fE90_2 := (congrFun hE90 (r + 1)).trans ((va_up_ne _ _ (show r + 1 ≠ r + 51 from by omega)).trans fE84_2)
  have fE90_3 := (congrFun hE90 (r + 2)).trans ((va_up_ne _ _ (show r + 2 ≠ r + 51 from by omega)).trans fE84_3)
  have fE90_4 := (congrFun hE90 (r + 3)).trans ((va_up_ne _ _ (show r + 3 ≠ r + 51 from by omega)).trans fE84_4)
  have fE90_5 := (congrFun hE90 (r + 4)).trans ((va_up_ne _ _ (show r + 4 ≠ r + 51 from by omega)).trans fE84_5)
  have fE90_6 := (congrFun hE90 (r + 5)).trans ((va_up_ne _ _ (show r + 5 ≠ r + 51 from by omega)).trans fE84_6)
  have fE90_7 := (congrFun hE90 (r + 47)).trans ((va_up_ne _ _ (show r + 47 ≠ r + 51 from by omega)).trans fE84_7)
  have fE90_8 := (congrFun hE90 (r + 48)).trans ((va_up_ne _ _ (show r + 48 ≠ r + 51 from by omega)).trans fE84_8)
  have fE90_9 := (congrFun hE90 (r + 49)).trans ((va_up_ne _ _ (show r + 49 ≠ r + 51 from by omega)).trans fE84_9)
  have fE90_10 := (congrFun hE90 (r + 50)).trans ((va_up_ne _ _ (show r + 50 ≠ r + 51 from by omega)).trans fE84_10)
  have fN90 : E90 (r + 51) = .inl (kc K 3, 10, .inl (fun _ => nI 0)) := by rw [hE90]; exact va_up_self _ _ _
  have hI42_E46_E51_E57_E60_E66_E68_E74_E76_E82_E84_E90 := hI42_E46_E51_E57_E60_E66_E68_E74_E76_E82_E84.out hF90 (by omega)
  have FE90 : frN r 154 E E90 := FE84.trans (hF90.wide (by omega) (by omega))
  have C := CG.1 51 3535 (r + 52) (by omega) (by omega)
  refine g_putF (pc := 92) C hnm fl_MRoom_49 fw_MRoom_end ⟨_, _, rfl⟩ fE90_1 (by show r < r + 52; omega) (Nat.le_of_ble_eq_true rfl) ⟨rfl, rfl⟩ d_MRoom_init_92 (fun E92 hE92 => ?_)
  have hF92 : frN r 1 E90 E92 := fun k hk => by rw [hE92, va_up_ne _ _ (by omega)]
  have fE92_1 : E92 r = .inr (8, [.ref (ka K (r + 1)), .ref (ka K (r + 2)), .ref (ka K (r + 3)), .ref (ka K (r + 4)), .ref (ka K (r + 5)), .int (nI 1), .ref (ka K (r + 47)), .ref (ka K (r + 48)), .ref (ka K (r + 49)), .ref (ka K (r + 50)), .ref (ka K (r + 51)), .int (nI 0)]) := by rw [hE92]; exact va_up_self _ _ _
  have fE92_2 := (congrFun hE92 (r + 1)).trans ((va_up_ne _ _ (show r + 1 ≠ r from by omega)).trans fE90_2)
  have fE92_3 := (congrFun hE92 (r + 2)).trans ((va_up_ne _ _ (show r + 2 ≠ r from by omega)).trans fE90_3)
  have fE92_4 := (congrFun hE92 (r + 3)).trans ((va_up_ne _ _ (show r + 3 ≠ r from by omega)).trans fE90_4)
  have fE92_5 := (congrFun hE92 (r + 4)).trans ((va_up_ne _ _ (show r + 4 ≠ r from by omega)).trans fE90_5)
  have fE92_6 := (congrFun hE92 (r + 5)).trans ((va_up_ne _ _ (show r + 5 ≠ r from by omega)).trans fE90_6)
  have fE92_7 := (congrFun hE92 (r + 47)).trans ((va_up_ne _ _ (show r + 47 ≠ r from by omega)).trans fE90_7)
  have fE92_8 := (congrFun hE92 (r + 48)).trans ((va_up_ne _ _ (show r + 48 ≠ r from by omega)).trans fE90_8)
  have fE92_9 := (congrFun hE92 (r + 49)).trans ((va_up_ne _ _ (show r + 49 ≠ r from by omega)).trans fE90_9)
  have fE92_10 := (congrFun hE92 (r + 50)).trans ((va_up_ne _ _ (show r + 50 ≠ r from by omega)).trans fE90_10)
  have fE92_11 := (congrFun hE92 (r + 51)).trans ((va_up_ne _ _ (show r + 51 ≠ r from by omega)).trans fN90)
  have hI42_E46_E51_E57_E60_E66_E68_E74_E76_E82_E84_E90_E92 := hI42_E46_E51_E57_E60_E66_E68_E74_E76_E82_E84_E90.out hF92 (by omega)
  have FE92 : frN r 154 E E92 := FE90.trans (hF92.wide (by omega) (by omega))
  refine g_iconst (pc := 95) (v := nI 0) C d_MRoom_init_95 (by decide) ?_
  refine g_istore_n (pc := 96) (lv' := [(1, .int (nI 0)), (0, .ref (ka K r))]) C d_MRoom_init_96 rfl (by decide) rfl ?_
  refine g_lv [0, 1] rfl (g_cst (by omega) (by omega) (by omega) (w_MRoom97 CG hO hnm E r h0 _ hR hN E92 fE92_1 (fun E97 f97 ho97 hf97 hL97 hE97 hF97 => ?_) 42 0 E92 _ (by omega) (by omega) fE92_2 (fun j h => absurd h (Nat.not_lt_zero _)) (fun j h => absurd h (Nat.not_lt_zero _)) (fun k _ _ => rfl) FE92))
  have q97_0 := (hE97 r (by omega) (by omega)).trans (fE92_1)
  have q97_2 := (hE97 (r + 2) (by omega) (by omega)).trans (fE92_3)
  have q97_3 := (hE97 (r + 3) (by omega) (by omega)).trans (fE92_4)
  have q97_4 := (hE97 (r + 4) (by omega) (by omega)).trans (fE92_5)
  have q97_5 := (hE97 (r + 5) (by omega) (by omega)).trans (fE92_6)
  have q97_6 := (hE97 (r + 47) (by omega) (by omega)).trans (fE92_7)
  have q97_7 := (hE97 (r + 48) (by omega) (by omega)).trans (fE92_8)
  have q97_8 := (hE97 (r + 49) (by omega) (by omega)).trans (fE92_9)
  have q97_9 := (hE97 (r + 50) (by omega) (by omega)).trans (fE92_10)
  have q97_10 := (hE97 (r + 51) (by omega) (by omega)).trans (fE92_11)
  have hI97 : bodR K E97 r := fun j hj => (hE97 _ (by omega) (by omega)).trans (hI42_E46_E51_E57_E60_E66_E68_E74_E76_E82_E84_E90_E92 j hj)
  have C := CG.1 133 5585 (r + 134) (by omega) (by omega)
  refine g_iconst (pc := 122) (v := nI 0) C d_MRoom_init_122 (by decide) ?_
  refine g_istore_n (pc := 123) (lv' := [(1, .int (nI 0)), (0, .ref (ka K r))]) C d_MRoom_init_123 rfl (by decide) rfl ?_
  refine g_lv [0, 1] rfl (g_cst (by omega) (by omega) (by omega) (w_MRoom124 CG hO hnm E r h0 _ hR hN E97 q97_0 (fun E124 f124 ho124 hf124 hL124 hE124 hF124 => ?_) 11 0 E97 _ (by omega) (by omega) q97_6 (fun j h => absurd h (Nat.not_lt_zero _)) (fun j h => absurd h (Nat.not_lt_zero _)) (fun k _ _ => rfl) hF97))
  have q124_0 := (hE124 r (by omega) (by omega)).trans (q97_0)
  have q124_1 := (hE124 (r + 2) (by omega) (by omega)).trans (q97_2)
  have q124_2 := (hE124 (r + 3) (by omega) (by omega)).trans (q97_3)
  have q124_3 := (hE124 (r + 4) (by omega) (by omega)).trans (q97_4)
  have q124_4 := (hE124 (r + 5) (by omega) (by omega)).trans (q97_5)
  have q124_6 := (hE124 (r + 48) (by omega) (by omega)).trans (q97_7)
  have q124_7 := (hE124 (r + 49) (by omega) (by omega)).trans (q97_8)
  have q124_8 := (hE124 (r + 50) (by omega) (by omega)).trans (q97_9)
  have q124_9 := (hE124 (r + 51) (by omega) (by omega)).trans (q97_10)
  have q124_10 := (hE124 (r + 1) (by omega) (by omega)).trans (ho97)
  have hI124 : bodR K E124 r := fun j hj => (hE124 _ (by omega) (by omega)).trans (hI97 j hj)
  have hL97b : ∀ j, j < 41 → isP K E124 (r + 52 + 2 * j) [] := fun j hj => (hL97 j hj).at (fun k z1 z2 => hE124 k (by omega) (by omega))
  have C := CG.1 153 6085 (r + 154) (by omega) (by omega)
  refine g_aload_n (pc := 149) C d_MRoom_init_149 0 rfl ?_
  refine g_get (pc := 150) C fl_MRoom_17 q124_0 (by show r < r + 154; omega) rfl d_MRoom_init_150 ?_
  refine g_iconst (pc := 153) (v := nI 0) C d_MRoom_init_153 (by decide) ?_
  refine g_iconst (pc := 154) (v := nI 2) C d_MRoom_init_154 (by decide) ?_
  refine g_iastN (pc := 155) C q124_1 (by show r + 2 < r + 154; omega) (gt_I _) (by omega) (by omega) d_MRoom_init_155 (fun E155 hE155 => ?_)
  have hF155 : frN (r + 2) 1 E124 E155 := fun k hk => by rw [hE155, va_up_ne _ _ (by omega)]
  have fE155_1 := (congrFun hE155 r).trans ((va_up_ne _ _ (show r ≠ r + 2 from by omega)).trans q124_0)
  have fE155_2 : E155 (r + 2) = .inl (kc K 3, 41, .inl (upd (fun _ => nI 0) 0 (nI 2))) := by rw [hE155]; exact va_up_self _ _ _
  have fE155_3 := (congrFun hE155 (r + 3)).trans ((va_up_ne _ _ (show r + 3 ≠ r + 2 from by omega)).trans q124_2)
  have fE155_4 := (congrFun hE155 (r + 4)).trans ((va_up_ne _ _ (show r + 4 ≠ r + 2 from by omega)).trans q124_3)
  have fE155_5 := (congrFun hE155 (r + 5)).trans ((va_up_ne _ _ (show r + 5 ≠ r + 2 from by omega)).trans q124_4)
  have fE155_6 := (congrFun hE155 (r + 48)).trans ((va_up_ne _ _ (show r + 48 ≠ r + 2 from by omega)).trans q124_6)
  have fE155_7 := (congrFun hE155 (r + 49)).trans ((va_up_ne _ _ (show r + 49 ≠ r + 2 from by omega)).trans q124_7)
  have fE155_8 := (congrFun hE155 (r + 50)).trans ((va_up_ne _ _ (show r + 50 ≠ r + 2 from by omega)).trans q124_8)
  have fE155_9 := (congrFun hE155 (r + 51)).trans ((va_up_ne _ _ (show r + 51 ≠ r + 2 from by omega)).trans q124_9)
  have fE155_10 := (congrFun hE155 (r + 1)).trans ((va_up_ne _ _ (show r + 1 ≠ r + 2 from by omega)).trans q124_10)
  have fE155_11 := (congrFun hE155 (r + 47)).trans ((va_up_ne _ _ (show r + 47 ≠ r + 2 from by omega)).trans ho124)
  have hI124_E155 := hI124.out hF155 (by omega)
  have FE155 : frN r 154 E E155 := hF124.trans (hF155.wide (by omega) (by omega))
  have C9 := CG.1 153 6085 (r + 1 + 153) (by omega) (by omega)
  refine g_cst (k' := 153) (n' := 6085) (N' := r + 1 + 153) (by omega) (by omega) (by omega) (g_vretG (pc := 156) C9 hR d_MRoom_init_156 ?_)
  have hM : isM K E155 r 1 (fun j => ([], (upd (fun _ => nI 0) 0 (nI 2)) j, nI 0, [])) 0 (fun _ => ([], nI 0, nI 0, false, false)) := by
    refine ⟨(upd (fun _ => nI 0) 0 (nI 2)), (fun _ => nI 0), (fun _ => nI 0), (fun _ => nI 0), (fun _ => nI 0), (fun _ => nI 0), (fun _ => nI 0), (fun _ _ => nI 0), f97, fd, f124, ⟨fE155_1, fE155_10, hf97, fE155_2, fE155_3, fE155_4, fE155_5, hq2, hI124_E155, fE155_11, hf124, fE155_6, fE155_7, fE155_8, fE155_9, by decide, by decide, hN⟩, ⟨fun j hj => (hL97b j hj).out hF155 (by omega), fun j hj => rfl, fun j hj => rfl, fun j hj => rfl, fun j hj => Nat.zero_le _, fun j hj i h => absurd h (Nat.not_lt_zero _), fun j hj => (hL124 j hj).out hF155 (by omega), fun j hj => rfl, fun j hj => rfl, fun j hj => rfl, fun j hj => rfl⟩⟩
  exact ⟨isMM.of hM rfl rfl, FE155⟩

set_option maxHeartbeats 4000000 in
set_option maxRecDepth 100000 in
theorem c_Mod_init (l : Launch) (K : gK) (hs : kS K) (E : gE) (z : Nat) (hN : z + 476 ≤ kN K) (hE : E z = .inr (9, [.null, .null, .int (nI 0), .int (nI 0), .int (nI 0), .null, .int (nI 0), .null, .int (nI 0), .null, .null, .int (nI 0), .null, .null, .int (nI 0), .null, .int (nI 0), .null, .null, .null])) : gMG l y_Mod_init b_Mod_init 1 3 192 475 19316 K (z + 1) E [.ref (ka K z)] (fun E' => isZ K E' z [] [] [] [] [] [] [([], nI 2, nI 0, [])] [] [([], nI 2, nI 0, [])] [] [([], nI 2, nI 0, [])] [] (nI 0) (nI 0) (nI 0) 0 0 0 (fun _ => nI 0) ∧ frN z 476 E E') := by
  refine g_metG (by decide +kernel) (Nat.le_of_ble_eq_true rfl) rfl hs (fun X hl CG hO hnm h0 hR => ?_)
  subst hl
  show gW (gXa X 0 0) (gKa K (z + 1)) E 0 [(0, .ref (ka K z))] []
  have C := CG.1 0 0 (z + 1) (by omega) (by omega)
  refine g_aload_n (pc := 0) C d_Mod_init_0 0 rfl ?_
  refine g_objI (pc := 1) C ml_Mod_1 d_Mod_init_1 (by decide) (by decide) ?_
  refine g_aload_n (pc := 4) C d_Mod_init_4 0 rfl ?_
  refine g_new (pc := 5) (N := z + 1) CG (kS_at CG.2.1 h0 (by omega)) (by omega) (ci := 8) rfl i_MRoom t_MRoom t_MRoom_ok cl_Mod_7 (tb4 16 rfl rfl) (tb1 10 rfl rfl) (fs := [.null, .null, .null, .null, .null, .int (nI 0), .null, .null, .null, .null, .null, .int (nI 0)]) hf_MRoom (k' := 1) (n' := 12) (N' := z + 2) (by omega) (by omega) (by omega) (by omega) (by omega) d_Mod_init_5 (fun E5 hE5 => ?_)
  have hF5 : frN (z + 1) 1 E E5 := fun k hk => by rw [hE5, va_up_ne _ _ (by omega)]
  have fE5_1 := (congrFun hE5 z).trans ((va_up_ne _ _ (show z ≠ z + 1 from by omega)).trans hE)
  have fN5 : E5 (z + 1) = .inr (8, [.null, .null, .null, .null, .null, .int (nI 0), .null, .null, .null, .null, .null, .int (nI 0)]) := by rw [hE5]; exact va_up_self _ _ _
  have FE5 : frN z 476 E E5 := frN.refl.trans (hF5.wide (by omega) (by omega))
  have C := CG.1 1 12 (z + 2) (by omega) (by omega)
  refine g_dup (pc := 8) C d_Mod_init_8 rfl ?_
  refine g_cG (pc := 9) (N := z + 2) (As := []) (rest := [.ref (ka K (z + 1)), .ref (ka K z)]) CG hO (kS_at CG.2.1 h0 (by omega)) (by omega) (c_MRoom_init _ K CG.2.1 _ (z + 1) (by omega) fN5) mw_MRoom_init rfl mo_MRoom_init ml_Mod_9 (by decide) rfl rfl (Nat.le_of_ble_eq_true rfl) (k' := 154) (n' := 6097) (N' := z + 155) (by omega) (by omega) (by omega) (by omega) (by omega) d_Mod_init_9 (fun E9 hp9 => ?_)
  obtain ⟨hP9, hF9⟩ := hp9
  have rE9_1 := (hF9 z (by omega)).trans (fE5_1)
  have FE9 : frN z 476 E E9 := FE5.trans (hF9.wide (by omega) (by omega))
  have C := CG.1 154 6097 (z + 155) (by omega) (by omega)
  refine g_putF (pc := 12) C hnm fl_Mod_10 fw_Mod_now ⟨_, _, rfl⟩ rE9_1 (by show z < z + 155; omega) (Nat.le_of_ble_eq_true rfl) ⟨rfl, rfl⟩ d_Mod_init_12 (fun E12 hE12 => ?_)
  have hF12 : frN z 1 E9 E12 := fun k hk => by rw [hE12, va_up_ne _ _ (by omega)]
  have fE12_1 : E12 z = .inr (9, [.ref (ka K (z + 1)), .null, .int (nI 0), .int (nI 0), .int (nI 0), .null, .int (nI 0), .null, .int (nI 0), .null, .null, .int (nI 0), .null, .null, .int (nI 0), .null, .int (nI 0), .null, .null, .null]) := by rw [hE12]; exact va_up_self _ _ _
  have hP9_E12 := hP9.out hF12 (by omega)
  have FE12 : frN z 476 E E12 := FE9.trans (hF12.wide (by omega) (by omega))
  refine g_aload_n (pc := 15) C d_Mod_init_15 0 rfl ?_
  refine g_new (pc := 16) (N := z + 155) CG (kS_at CG.2.1 h0 (by omega)) (by omega) (ci := 8) rfl i_MRoom t_MRoom t_MRoom_ok cl_Mod_7 (tb4 16 rfl rfl) (tb1 10 rfl rfl) (fs := [.null, .null, .null, .null, .null, .int (nI 0), .null, .null, .null, .null, .null, .int (nI 0)]) hf_MRoom (k' := 155) (n' := 6109) (N' := z + 156) (by omega) (by omega) (by omega) (by omega) (by omega) d_Mod_init_16 (fun E16 hE16 => ?_)
  have hF16 : frN (z + 155) 1 E12 E16 := fun k hk => by rw [hE16, va_up_ne _ _ (by omega)]
  have fE16_1 := (congrFun hE16 z).trans ((va_up_ne _ _ (show z ≠ z + 155 from by omega)).trans fE12_1)
  have fN16 : E16 (z + 155) = .inr (8, [.null, .null, .null, .null, .null, .int (nI 0), .null, .null, .null, .null, .null, .int (nI 0)]) := by rw [hE16]; exact va_up_self _ _ _
  have hP9_E12_E16 := hP9_E12.out hF16 (by omega)
  have FE16 : frN z 476 E E16 := FE12.trans (hF16.wide (by omega) (by omega))
  have C := CG.1 155 6109 (z + 156) (by omega) (by omega)
  refine g_dup (pc := 19) C d_Mod_init_19 rfl ?_
  refine g_cG (pc := 20) (N := z + 156) (As := []) (rest := [.ref (ka K (z + 155)), .ref (ka K z)]) CG hO (kS_at CG.2.1 h0 (by omega)) (by omega) (c_MRoom_init _ K CG.2.1 _ (z + 155) (by omega) fN16) mw_MRoom_init rfl mo_MRoom_init ml_Mod_9 (by decide) rfl rfl (Nat.le_of_ble_eq_true rfl) (k' := 308) (n' := 12194) (N' := z + 309) (by omega) (by omega) (by omega) (by omega) (by omega) d_Mod_init_20 (fun E20 hp20 => ?_)
  obtain ⟨hP20, hF20⟩ := hp20
  have rE20_1 := (hF20 z (by omega)).trans (fE16_1)
  have hP9_E12_E16_E20 := hP9_E12_E16.out hF20 (by omega)
  have FE20 : frN z 476 E E20 := FE16.trans (hF20.wide (by omega) (by omega))
  have C := CG.1 308 12194 (z + 309) (by omega) (by omega)
  refine g_putF (pc := 23) C hnm fl_Mod_16 fw_Mod_kept ⟨_, _, rfl⟩ rE20_1 (by show z < z + 309; omega) (Nat.le_of_ble_eq_true rfl) ⟨rfl, rfl⟩ d_Mod_init_23 (fun E23 hE23 => ?_)
  have hF23 : frN z 1 E20 E23 := fun k hk => by rw [hE23, va_up_ne _ _ (by omega)]
  have fE23_1 : E23 z = .inr (9, [.ref (ka K (z + 1)), .ref (ka K (z + 155)), .int (nI 0), .int (nI 0), .int (nI 0), .null, .int (nI 0), .null, .int (nI 0), .null, .null, .int (nI 0), .null, .null, .int (nI 0), .null, .int (nI 0), .null, .null, .null]) := by rw [hE23]; exact va_up_self _ _ _
  have hP9_E12_E16_E20_E23 := hP9_E12_E16_E20.out hF23 (by omega)
  have hP20_E23 := hP20.out hF23 (by omega)
  have FE23 : frN z 476 E E23 := FE20.trans (hF23.wide (by omega) (by omega))
  refine g_aload_n (pc := 26) C d_Mod_init_26 0 rfl ?_
  refine g_sipush (pc := 27) (v := nI 400) C d_Mod_init_27 (by decide) ?_
  refine g_newa (pc := 30) (N := z + 309) CG (kS_at CG.2.1 h0 (by omega)) (by omega) (ty := .byte) rfl tw_byte (t0 := 0) rfl (fun _ _ h => h) (len := 400) (a0 := fun _ => nI 0) (fun _ => rfl) (by show 400 * 1 ≤ 536870912; omega) (by omega) (k' := 309) (n' := 12594) (N' := z + 310) (by omega) (by omega) (by omega) (by omega) (by omega) d_Mod_init_30 (fun E30 hE30 => ?_)
  have hF30 : frN (z + 309) 1 E23 E30 := fun k hk => by rw [hE30, va_up_ne _ _ (by omega)]
  have fE30_1 := (congrFun hE30 z).trans ((va_up_ne _ _ (show z ≠ z + 309 from by omega)).trans fE23_1)
  have fN30 : E30 (z + 309) = .inl (kc K 0, 400, .inl (fun _ => nI 0)) := by rw [hE30]; exact va_up_self _ _ _
  have hP9_E12_E16_E20_E23_E30 := hP9_E12_E16_E20_E23.out hF30 (by omega)
  have hP20_E23_E30 := hP20_E23.out hF30 (by omega)
  have FE30 : frN z 476 E E30 := FE23.trans (hF30.wide (by omega) (by omega))
  have C := CG.1 309 12594 (z + 310) (by omega) (by omega)
  refine g_putF (pc := 32) C hnm fl_Mod_19 fw_Mod_tape ⟨_, _, rfl⟩ fE30_1 (by show z < z + 310; omega) (Nat.le_of_ble_eq_true rfl) ⟨rfl, rfl⟩ d_Mod_init_32 (fun E32 hE32 => ?_)
  have hF32 : frN z 1 E30 E32 := fun k hk => by rw [hE32, va_up_ne _ _ (by omega)]
  have fE32_1 : E32 z = .inr (9, [.ref (ka K (z + 1)), .ref (ka K (z + 155)), .int (nI 0), .int (nI 0), .int (nI 0), .ref (ka K (z + 309)), .int (nI 0), .null, .int (nI 0), .null, .null, .int (nI 0), .null, .null, .int (nI 0), .null, .int (nI 0), .null, .null, .null]) := by rw [hE32]; exact va_up_self _ _ _
  have fE32_2 := (congrFun hE32 (z + 309)).trans ((va_up_ne _ _ (show z + 309 ≠ z from by omega)).trans fN30)
  have hP9_E12_E16_E20_E23_E30_E32 := hP9_E12_E16_E20_E23_E30.out hF32 (by omega)
  have hP20_E23_E30_E32 := hP20_E23_E30.out hF32 (by omega)
  have FE32 : frN z 476 E E32 := FE30.trans (hF32.wide (by omega) (by omega))
  refine g_aload_n (pc := 35) C d_Mod_init_35 0 rfl ?_
  refine g_sipush (pc := 36) (v := nI 400) C d_Mod_init_36 (by decide) ?_
  refine g_newa (pc := 39) (N := z + 310) CG (kS_at CG.2.1 h0 (by omega)) (by omega) (ty := .byte) rfl tw_byte (t0 := 0) rfl (fun _ _ h => h) (len := 400) (a0 := fun _ => nI 0) (fun _ => rfl) (by show 400 * 1 ≤ 536870912; omega) (by omega) (k' := 310) (n' := 12994) (N' := z + 311) (by omega) (by omega) (by omega) (by omega) (by omega) d_Mod_init_39 (fun E39 hE39 => ?_)
  have hF39 : frN (z + 310) 1 E32 E39 := fun k hk => by rw [hE39, va_up_ne _ _ (by omega)]
  have fE39_1 := (congrFun hE39 z).trans ((va_up_ne _ _ (show z ≠ z + 310 from by omega)).trans fE32_1)
  have fE39_2 := (congrFun hE39 (z + 309)).trans ((va_up_ne _ _ (show z + 309 ≠ z + 310 from by omega)).trans fE32_2)
  have fN39 : E39 (z + 310) = .inl (kc K 0, 400, .inl (fun _ => nI 0)) := by rw [hE39]; exact va_up_self _ _ _
  have hP9_E12_E16_E20_E23_E30_E32_E39 := hP9_E12_E16_E20_E23_E30_E32.out hF39 (by omega)
  have hP20_E23_E30_E32_E39 := hP20_E23_E30_E32.out hF39 (by omega)
  have FE39 : frN z 476 E E39 := FE32.trans (hF39.wide (by omega) (by omega))
  have C := CG.1 310 12994 (z + 311) (by omega) (by omega)
  refine g_putF (pc := 41) C hnm fl_Mod_23 fw_Mod_out ⟨_, _, rfl⟩ fE39_1 (by show z < z + 311; omega) (Nat.le_of_ble_eq_true rfl) ⟨rfl, rfl⟩ d_Mod_init_41 (fun E41 hE41 => ?_)
  have hF41 : frN z 1 E39 E41 := fun k hk => by rw [hE41, va_up_ne _ _ (by omega)]
  have fE41_1 : E41 z = .inr (9, [.ref (ka K (z + 1)), .ref (ka K (z + 155)), .int (nI 0), .int (nI 0), .int (nI 0), .ref (ka K (z + 309)), .int (nI 0), .ref (ka K (z + 310)), .int (nI 0), .null, .null, .int (nI 0), .null, .null, .int (nI 0), .null, .int (nI 0), .null, .null, .null]) := by rw [hE41]; exact va_up_self _ _ _
  have fE41_2 := (congrFun hE41 (z + 309)).trans ((va_up_ne _ _ (show z + 309 ≠ z from by omega)).trans fE39_2)
  have fE41_3 := (congrFun hE41 (z + 310)).trans ((va_up_ne _ _ (show z + 310 ≠ z from by omega)).trans fN39)
  have hP9_E12_E16_E20_E23_E30_E32_E39_E41 := hP9_E12_E16_E20_E23_E30_E32_E39.out hF41 (by omega)
  have hP20_E23_E30_E32_E39_E41 := hP20_E23_E30_E32_E39.out hF41 (by omega)
  have FE41 : frN z 476 E E41 := FE39.trans (hF41.wide (by omega) (by omega))
  refine g_aload_n (pc := 44) C d_Mod_init_44 0 rfl ?_
  refine g_bipush (pc := 45) (v := nI 8) C d_Mod_init_45 (by decide) ?_
  refine g_newq (pc := 47) (N := z + 311) CG (kS_at CG.2.1 h0 (by omega)) (by omega) cl_Mod_26 hO.2.2.2.1 (t0 := 7) rfl (len := 8) (by omega) (k' := 311) (n' := 13002) (N' := z + 312) (by omega) (by omega) (by omega) (by omega) (by omega) d_Mod_init_47 (fun E47 hE47 => ?_)
  have hF47 : frN (z + 311) 1 E41 E47 := fun k hk => by rw [hE47, va_up_ne _ _ (by omega)]
  have fE47_1 := (congrFun hE47 z).trans ((va_up_ne _ _ (show z ≠ z + 311 from by omega)).trans fE41_1)
  have fE47_2 := (congrFun hE47 (z + 309)).trans ((va_up_ne _ _ (show z + 309 ≠ z + 311 from by omega)).trans fE41_2)
  have fE47_3 := (congrFun hE47 (z + 310)).trans ((va_up_ne _ _ (show z + 310 ≠ z + 311 from by omega)).trans fE41_3)
  have fN47 : E47 (z + 311) = .inl (kc K 7, 8, .inr (.inr (.inr (.inr (fun _ => none))))) := by rw [hE47]; exact va_up_self _ _ _
  have hP9_E12_E16_E20_E23_E30_E32_E39_E41_E47 := hP9_E12_E16_E20_E23_E30_E32_E39_E41.out hF47 (by omega)
  have hP20_E23_E30_E32_E39_E41_E47 := hP20_E23_E30_E32_E39_E41.out hF47 (by omega)
  have FE47 : frN z 476 E E47 := FE41.trans (hF47.wide (by omega) (by omega))
  have C := CG.1 311 13002 (z + 312) (by omega) (by omega)
  refine g_dup (pc := 50) C d_Mod_init_50 rfl ?_
  refine g_iconst (pc := 51) (v := nI 0) C d_Mod_init_51 (by decide) ?_
  refine g_ldcS (pc := 52) (i := 26) C rfl d_Mod_init_52 ?_
  refine g_astS (pc := 54) C fN47 (by show z + 311 < z + 312; omega) (t0 := 7) rfl (i := 0) (by omega) (by omega) (j := 26) rfl d_Mod_init_54 (fun E54 hE54 => ?_)
  have hF54 : frN (z + 311) 1 E47 E54 := fun k hk => by rw [hE54, va_up_ne _ _ (by omega)]
  have fE54_1 := (congrFun hE54 z).trans ((va_up_ne _ _ (show z ≠ z + 311 from by omega)).trans fE47_1)
  have fE54_2 := (congrFun hE54 (z + 309)).trans ((va_up_ne _ _ (show z + 309 ≠ z + 311 from by omega)).trans fE47_2)
  have fE54_3 := (congrFun hE54 (z + 310)).trans ((va_up_ne _ _ (show z + 310 ≠ z + 311 from by omega)).trans fE47_3)
  have fE54_4 : E54 (z + 311) = .inl (kc K 7, 8, .inr (.inr (.inr (.inr (va_up (fun _ => none) 0 (some (ks K 26))))))) := by rw [hE54]; exact va_up_self _ _ _
  have hP9_E12_E16_E20_E23_E30_E32_E39_E41_E47_E54 := hP9_E12_E16_E20_E23_E30_E32_E39_E41_E47.out hF54 (by omega)
  have hP20_E23_E30_E32_E39_E41_E47_E54 := hP20_E23_E30_E32_E39_E41_E47.out hF54 (by omega)
  have FE54 : frN z 476 E E54 := FE47.trans (hF54.wide (by omega) (by omega))
  refine g_dup (pc := 55) C d_Mod_init_55 rfl ?_
  refine g_iconst (pc := 56) (v := nI 1) C d_Mod_init_56 (by decide) ?_
  refine g_ldcS (pc := 57) (i := 27) C rfl d_Mod_init_57 ?_
  refine g_astS (pc := 59) C fE54_4 (by show z + 311 < z + 312; omega) (t0 := 7) rfl (i := 1) (by omega) (by omega) (j := 27) rfl d_Mod_init_59 (fun E59 hE59 => ?_)
  have hF59 : frN (z + 311) 1 E54 E59 := fun k hk => by rw [hE59, va_up_ne _ _ (by omega)]
  have fE59_1 := (congrFun hE59 z).trans ((va_up_ne _ _ (show z ≠ z + 311 from by omega)).trans fE54_1)
  have fE59_2 := (congrFun hE59 (z + 309)).trans ((va_up_ne _ _ (show z + 309 ≠ z + 311 from by omega)).trans fE54_2)
  have fE59_3 := (congrFun hE59 (z + 310)).trans ((va_up_ne _ _ (show z + 310 ≠ z + 311 from by omega)).trans fE54_3)
  have fE59_4 : E59 (z + 311) = .inl (kc K 7, 8, .inr (.inr (.inr (.inr (va_up (va_up (fun _ => none) 0 (some (ks K 26))) 1 (some (ks K 27))))))) := by rw [hE59]; exact va_up_self _ _ _
  have hP9_E12_E16_E20_E23_E30_E32_E39_E41_E47_E54_E59 := hP9_E12_E16_E20_E23_E30_E32_E39_E41_E47_E54.out hF59 (by omega)
  have hP20_E23_E30_E32_E39_E41_E47_E54_E59 := hP20_E23_E30_E32_E39_E41_E47_E54.out hF59 (by omega)
  have FE59 : frN z 476 E E59 := FE54.trans (hF59.wide (by omega) (by omega))
  refine g_dup (pc := 60) C d_Mod_init_60 rfl ?_
  refine g_iconst (pc := 61) (v := nI 2) C d_Mod_init_61 (by decide) ?_
  refine g_ldcS (pc := 62) (i := 28) C rfl d_Mod_init_62 ?_
  refine g_astS (pc := 64) C fE59_4 (by show z + 311 < z + 312; omega) (t0 := 7) rfl (i := 2) (by omega) (by omega) (j := 28) rfl d_Mod_init_64 (fun E64 hE64 => ?_)
  have hF64 : frN (z + 311) 1 E59 E64 := fun k hk => by rw [hE64, va_up_ne _ _ (by omega)]
  have fE64_1 := (congrFun hE64 z).trans ((va_up_ne _ _ (show z ≠ z + 311 from by omega)).trans fE59_1)
  have fE64_2 := (congrFun hE64 (z + 309)).trans ((va_up_ne _ _ (show z + 309 ≠ z + 311 from by omega)).trans fE59_2)
  have fE64_3 := (congrFun hE64 (z + 310)).trans ((va_up_ne _ _ (show z + 310 ≠ z + 311 from by omega)).trans fE59_3)
  have fE64_4 : E64 (z + 311) = .inl (kc K 7, 8, .inr (.inr (.inr (.inr (va_up (va_up (va_up (fun _ => none) 0 (some (ks K 26))) 1 (some (ks K 27))) 2 (some (ks K 28))))))) := by rw [hE64]; exact va_up_self _ _ _
  have hP9_E12_E16_E20_E23_E30_E32_E39_E41_E47_E54_E59_E64 := hP9_E12_E16_E20_E23_E30_E32_E39_E41_E47_E54_E59.out hF64 (by omega)
  have hP20_E23_E30_E32_E39_E41_E47_E54_E59_E64 := hP20_E23_E30_E32_E39_E41_E47_E54_E59.out hF64 (by omega)
  have FE64 : frN z 476 E E64 := FE59.trans (hF64.wide (by omega) (by omega))
  refine g_dup (pc := 65) C d_Mod_init_65 rfl ?_
  refine g_iconst (pc := 66) (v := nI 3) C d_Mod_init_66 (by decide) ?_
  refine g_ldcS (pc := 67) (i := 29) C rfl d_Mod_init_67 ?_
  refine g_astS (pc := 69) C fE64_4 (by show z + 311 < z + 312; omega) (t0 := 7) rfl (i := 3) (by omega) (by omega) (j := 29) rfl d_Mod_init_69 (fun E69 hE69 => ?_)
  have hF69 : frN (z + 311) 1 E64 E69 := fun k hk => by rw [hE69, va_up_ne _ _ (by omega)]
  have fE69_1 := (congrFun hE69 z).trans ((va_up_ne _ _ (show z ≠ z + 311 from by omega)).trans fE64_1)
  have fE69_2 := (congrFun hE69 (z + 309)).trans ((va_up_ne _ _ (show z + 309 ≠ z + 311 from by omega)).trans fE64_2)
  have fE69_3 := (congrFun hE69 (z + 310)).trans ((va_up_ne _ _ (show z + 310 ≠ z + 311 from by omega)).trans fE64_3)
  have fE69_4 : E69 (z + 311) = .inl (kc K 7, 8, .inr (.inr (.inr (.inr (va_up (va_up (va_up (va_up (fun _ => none) 0 (some (ks K 26))) 1 (some (ks K 27))) 2 (some (ks K 28))) 3 (some (ks K 29))))))) := by rw [hE69]; exact va_up_self _ _ _
  have hP9_E12_E16_E20_E23_E30_E32_E39_E41_E47_E54_E59_E64_E69 := hP9_E12_E16_E20_E23_E30_E32_E39_E41_E47_E54_E59_E64.out hF69 (by omega)
  have hP20_E23_E30_E32_E39_E41_E47_E54_E59_E64_E69 := hP20_E23_E30_E32_E39_E41_E47_E54_E59_E64.out hF69 (by omega)
  have FE69 : frN z 476 E E69 := FE64.trans (hF69.wide (by omega) (by omega))
  refine g_dup (pc := 70) C d_Mod_init_70 rfl ?_
  refine g_iconst (pc := 71) (v := nI 4) C d_Mod_init_71 (by decide) ?_
  refine g_ldcS (pc := 72) (i := 30) C rfl d_Mod_init_72 ?_
  refine g_astS (pc := 74) C fE69_4 (by show z + 311 < z + 312; omega) (t0 := 7) rfl (i := 4) (by omega) (by omega) (j := 30) rfl d_Mod_init_74 (fun E74 hE74 => ?_)
  have hF74 : frN (z + 311) 1 E69 E74 := fun k hk => by rw [hE74, va_up_ne _ _ (by omega)]
  have fE74_1 := (congrFun hE74 z).trans ((va_up_ne _ _ (show z ≠ z + 311 from by omega)).trans fE69_1)
  have fE74_2 := (congrFun hE74 (z + 309)).trans ((va_up_ne _ _ (show z + 309 ≠ z + 311 from by omega)).trans fE69_2)
  have fE74_3 := (congrFun hE74 (z + 310)).trans ((va_up_ne _ _ (show z + 310 ≠ z + 311 from by omega)).trans fE69_3)
  have fE74_4 : E74 (z + 311) = .inl (kc K 7, 8, .inr (.inr (.inr (.inr (va_up (va_up (va_up (va_up (va_up (fun _ => none) 0 (some (ks K 26))) 1 (some (ks K 27))) 2 (some (ks K 28))) 3 (some (ks K 29))) 4 (some (ks K 30))))))) := by rw [hE74]; exact va_up_self _ _ _
  have hP9_E12_E16_E20_E23_E30_E32_E39_E41_E47_E54_E59_E64_E69_E74 := hP9_E12_E16_E20_E23_E30_E32_E39_E41_E47_E54_E59_E64_E69.out hF74 (by omega)
  have hP20_E23_E30_E32_E39_E41_E47_E54_E59_E64_E69_E74 := hP20_E23_E30_E32_E39_E41_E47_E54_E59_E64_E69.out hF74 (by omega)
  have FE74 : frN z 476 E E74 := FE69.trans (hF74.wide (by omega) (by omega))
  refine g_dup (pc := 75) C d_Mod_init_75 rfl ?_
  refine g_iconst (pc := 76) (v := nI 5) C d_Mod_init_76 (by decide) ?_
  refine g_ldcS (pc := 77) (i := 31) C rfl d_Mod_init_77 ?_
  refine g_astS (pc := 79) C fE74_4 (by show z + 311 < z + 312; omega) (t0 := 7) rfl (i := 5) (by omega) (by omega) (j := 31) rfl d_Mod_init_79 (fun E79 hE79 => ?_)
  have hF79 : frN (z + 311) 1 E74 E79 := fun k hk => by rw [hE79, va_up_ne _ _ (by omega)]
  have fE79_1 := (congrFun hE79 z).trans ((va_up_ne _ _ (show z ≠ z + 311 from by omega)).trans fE74_1)
  have fE79_2 := (congrFun hE79 (z + 309)).trans ((va_up_ne _ _ (show z + 309 ≠ z + 311 from by omega)).trans fE74_2)
  have fE79_3 := (congrFun hE79 (z + 310)).trans ((va_up_ne _ _ (show z + 310 ≠ z + 311 from by omega)).trans fE74_3)
  have fE79_4 : E79 (z + 311) = .inl (kc K 7, 8, .inr (.inr (.inr (.inr (va_up (va_up (va_up (va_up (va_up (va_up (fun _ => none) 0 (some (ks K 26))) 1 (some (ks K 27))) 2 (some (ks K 28))) 3 (some (ks K 29))) 4 (some (ks K 30))) 5 (some (ks K 31))))))) := by rw [hE79]; exact va_up_self _ _ _
  have hP9_E12_E16_E20_E23_E30_E32_E39_E41_E47_E54_E59_E64_E69_E74_E79 := hP9_E12_E16_E20_E23_E30_E32_E39_E41_E47_E54_E59_E64_E69_E74.out hF79 (by omega)
  have hP20_E23_E30_E32_E39_E41_E47_E54_E59_E64_E69_E74_E79 := hP20_E23_E30_E32_E39_E41_E47_E54_E59_E64_E69_E74.out hF79 (by omega)
  have FE79 : frN z 476 E E79 := FE74.trans (hF79.wide (by omega) (by omega))
  refine g_dup (pc := 80) C d_Mod_init_80 rfl ?_
  refine g_bipush (pc := 81) (v := nI 6) C d_Mod_init_81 (by decide) ?_
  refine g_ldcS (pc := 83) (i := 32) C rfl d_Mod_init_83 ?_
  refine g_astS (pc := 85) C fE79_4 (by show z + 311 < z + 312; omega) (t0 := 7) rfl (i := 6) (by omega) (by omega) (j := 32) rfl d_Mod_init_85 (fun E85 hE85 => ?_)
  have hF85 : frN (z + 311) 1 E79 E85 := fun k hk => by rw [hE85, va_up_ne _ _ (by omega)]
  have fE85_1 := (congrFun hE85 z).trans ((va_up_ne _ _ (show z ≠ z + 311 from by omega)).trans fE79_1)
  have fE85_2 := (congrFun hE85 (z + 309)).trans ((va_up_ne _ _ (show z + 309 ≠ z + 311 from by omega)).trans fE79_2)
  have fE85_3 := (congrFun hE85 (z + 310)).trans ((va_up_ne _ _ (show z + 310 ≠ z + 311 from by omega)).trans fE79_3)
  have fE85_4 : E85 (z + 311) = .inl (kc K 7, 8, .inr (.inr (.inr (.inr (va_up (va_up (va_up (va_up (va_up (va_up (va_up (fun _ => none) 0 (some (ks K 26))) 1 (some (ks K 27))) 2 (some (ks K 28))) 3 (some (ks K 29))) 4 (some (ks K 30))) 5 (some (ks K 31))) 6 (some (ks K 32))))))) := by rw [hE85]; exact va_up_self _ _ _
  have hP9_E12_E16_E20_E23_E30_E32_E39_E41_E47_E54_E59_E64_E69_E74_E79_E85 := hP9_E12_E16_E20_E23_E30_E32_E39_E41_E47_E54_E59_E64_E69_E74_E79.out hF85 (by omega)
  have hP20_E23_E30_E32_E39_E41_E47_E54_E59_E64_E69_E74_E79_E85 := hP20_E23_E30_E32_E39_E41_E47_E54_E59_E64_E69_E74_E79.out hF85 (by omega)
  have FE85 : frN z 476 E E85 := FE79.trans (hF85.wide (by omega) (by omega))
  refine g_dup (pc := 86) C d_Mod_init_86 rfl ?_
  refine g_bipush (pc := 87) (v := nI 7) C d_Mod_init_87 (by decide) ?_
  refine g_ldcS (pc := 89) (i := 33) C rfl d_Mod_init_89 ?_
  refine g_astS (pc := 91) C fE85_4 (by show z + 311 < z + 312; omega) (t0 := 7) rfl (i := 7) (by omega) (by omega) (j := 33) rfl d_Mod_init_91 (fun E91 hE91 => ?_)
  have hF91 : frN (z + 311) 1 E85 E91 := fun k hk => by rw [hE91, va_up_ne _ _ (by omega)]
  have fE91_1 := (congrFun hE91 z).trans ((va_up_ne _ _ (show z ≠ z + 311 from by omega)).trans fE85_1)
  have fE91_2 := (congrFun hE91 (z + 309)).trans ((va_up_ne _ _ (show z + 309 ≠ z + 311 from by omega)).trans fE85_2)
  have fE91_3 := (congrFun hE91 (z + 310)).trans ((va_up_ne _ _ (show z + 310 ≠ z + 311 from by omega)).trans fE85_3)
  have fE91_4 : E91 (z + 311) = .inl (kc K 7, 8, .inr (.inr (.inr (.inr (va_up (va_up (va_up (va_up (va_up (va_up (va_up (va_up (fun _ => none) 0 (some (ks K 26))) 1 (some (ks K 27))) 2 (some (ks K 28))) 3 (some (ks K 29))) 4 (some (ks K 30))) 5 (some (ks K 31))) 6 (some (ks K 32))) 7 (some (ks K 33))))))) := by rw [hE91]; exact va_up_self _ _ _
  have hP9_E12_E16_E20_E23_E30_E32_E39_E41_E47_E54_E59_E64_E69_E74_E79_E85_E91 := hP9_E12_E16_E20_E23_E30_E32_E39_E41_E47_E54_E59_E64_E69_E74_E79_E85.out hF91 (by omega)
  have hP20_E23_E30_E32_E39_E41_E47_E54_E59_E64_E69_E74_E79_E85_E91 := hP20_E23_E30_E32_E39_E41_E47_E54_E59_E64_E69_E74_E79_E85.out hF91 (by omega)
  have FE91 : frN z 476 E E91 := FE85.trans (hF91.wide (by omega) (by omega))
  refine g_putF (pc := 92) C hnm fl_Mod_44 fw_Mod_headers ⟨_, _, rfl⟩ fE91_1 (by show z < z + 312; omega) (Nat.le_of_ble_eq_true rfl) ⟨rfl, rfl⟩ d_Mod_init_92 (fun E92 hE92 => ?_)
  have hF92 : frN z 1 E91 E92 := fun k hk => by rw [hE92, va_up_ne _ _ (by omega)]
  have fE92_1 : E92 z = .inr (9, [.ref (ka K (z + 1)), .ref (ka K (z + 155)), .int (nI 0), .int (nI 0), .int (nI 0), .ref (ka K (z + 309)), .int (nI 0), .ref (ka K (z + 310)), .int (nI 0), .ref (ka K (z + 311)), .null, .int (nI 0), .null, .null, .int (nI 0), .null, .int (nI 0), .null, .null, .null]) := by rw [hE92]; exact va_up_self _ _ _
  have fE92_2 := (congrFun hE92 (z + 309)).trans ((va_up_ne _ _ (show z + 309 ≠ z from by omega)).trans fE91_2)
  have fE92_3 := (congrFun hE92 (z + 310)).trans ((va_up_ne _ _ (show z + 310 ≠ z from by omega)).trans fE91_3)
  have fE92_4 := (congrFun hE92 (z + 311)).trans ((va_up_ne _ _ (show z + 311 ≠ z from by omega)).trans fE91_4)
  have hP9_E12_E16_E20_E23_E30_E32_E39_E41_E47_E54_E59_E64_E69_E74_E79_E85_E91_E92 := hP9_E12_E16_E20_E23_E30_E32_E39_E41_E47_E54_E59_E64_E69_E74_E79_E85_E91.out hF92 (by omega)
  have hP20_E23_E30_E32_E39_E41_E47_E54_E59_E64_E69_E74_E79_E85_E91_E92 := hP20_E23_E30_E32_E39_E41_E47_E54_E59_E64_E69_E74_E79_E85_E91.out hF92 (by omega)
  have FE92 : frN z 476 E E92 := FE91.trans (hF92.wide (by omega) (by omega))
  refine g_aload_n (pc := 95) C d_Mod_init_95 0 rfl ?_
  refine g_bipush (pc := 96) (v := nI 9) C d_Mod_init_96 (by decide) ?_
  refine g_newq (pc := 98) (N := z + 312) CG (kS_at CG.2.1 h0 (by omega)) (by omega) cl_Mod_26 hO.2.2.2.1 (t0 := 7) rfl (len := 9) (by omega) (k' := 312) (n' := 13011) (N' := z + 313) (by omega) (by omega) (by omega) (by omega) (by omega) d_Mod_init_98 (fun E98 hE98 => ?_)
  have hF98 : frN (z + 312) 1 E92 E98 := fun k hk => by rw [hE98, va_up_ne _ _ (by omega)]
  have fE98_1 := (congrFun hE98 z).trans ((va_up_ne _ _ (show z ≠ z + 312 from by omega)).trans fE92_1)
  have fE98_2 := (congrFun hE98 (z + 309)).trans ((va_up_ne _ _ (show z + 309 ≠ z + 312 from by omega)).trans fE92_2)
  have fE98_3 := (congrFun hE98 (z + 310)).trans ((va_up_ne _ _ (show z + 310 ≠ z + 312 from by omega)).trans fE92_3)
  have fE98_4 := (congrFun hE98 (z + 311)).trans ((va_up_ne _ _ (show z + 311 ≠ z + 312 from by omega)).trans fE92_4)
  have fN98 : E98 (z + 312) = .inl (kc K 7, 9, .inr (.inr (.inr (.inr (fun _ => none))))) := by rw [hE98]; exact va_up_self _ _ _
  have hP9_E12_E16_E20_E23_E30_E32_E39_E41_E47_E54_E59_E64_E69_E74_E79_E85_E91_E92_E98 := hP9_E12_E16_E20_E23_E30_E32_E39_E41_E47_E54_E59_E64_E69_E74_E79_E85_E91_E92.out hF98 (by omega)
  have hP20_E23_E30_E32_E39_E41_E47_E54_E59_E64_E69_E74_E79_E85_E91_E92_E98 := hP20_E23_E30_E32_E39_E41_E47_E54_E59_E64_E69_E74_E79_E85_E91_E92.out hF98 (by omega)
  have FE98 : frN z 476 E E98 := FE92.trans (hF98.wide (by omega) (by omega))
  have C := CG.1 312 13011 (z + 313) (by omega) (by omega)
  refine g_dup (pc := 101) C d_Mod_init_101 rfl ?_
  refine g_iconst (pc := 102) (v := nI 0) C d_Mod_init_102 (by decide) ?_
  refine g_ldcS (pc := 103) (i := 34) C rfl d_Mod_init_103 ?_
  refine g_astS (pc := 105) C fN98 (by show z + 312 < z + 313; omega) (t0 := 7) rfl (i := 0) (by omega) (by omega) (j := 34) rfl d_Mod_init_105 (fun E105 hE105 => ?_)
  have hF105 : frN (z + 312) 1 E98 E105 := fun k hk => by rw [hE105, va_up_ne _ _ (by omega)]
  have fE105_1 := (congrFun hE105 z).trans ((va_up_ne _ _ (show z ≠ z + 312 from by omega)).trans fE98_1)
  have fE105_2 := (congrFun hE105 (z + 309)).trans ((va_up_ne _ _ (show z + 309 ≠ z + 312 from by omega)).trans fE98_2)
  have fE105_3 := (congrFun hE105 (z + 310)).trans ((va_up_ne _ _ (show z + 310 ≠ z + 312 from by omega)).trans fE98_3)
  have fE105_4 := (congrFun hE105 (z + 311)).trans ((va_up_ne _ _ (show z + 311 ≠ z + 312 from by omega)).trans fE98_4)
  have fE105_5 : E105 (z + 312) = .inl (kc K 7, 9, .inr (.inr (.inr (.inr (va_up (fun _ => none) 0 (some (ks K 34))))))) := by rw [hE105]; exact va_up_self _ _ _
  have hP9_E12_E16_E20_E23_E30_E32_E39_E41_E47_E54_E59_E64_E69_E74_E79_E85_E91_E92_E98_E105 := hP9_E12_E16_E20_E23_E30_E32_E39_E41_E47_E54_E59_E64_E69_E74_E79_E85_E91_E92_E98.out hF105 (by omega)
  have hP20_E23_E30_E32_E39_E41_E47_E54_E59_E64_E69_E74_E79_E85_E91_E92_E98_E105 := hP20_E23_E30_E32_E39_E41_E47_E54_E59_E64_E69_E74_E79_E85_E91_E92_E98.out hF105 (by omega)
  have FE105 : frN z 476 E E105 := FE98.trans (hF105.wide (by omega) (by omega))
  refine g_dup (pc := 106) C d_Mod_init_106 rfl ?_
  refine g_iconst (pc := 107) (v := nI 1) C d_Mod_init_107 (by decide) ?_
  refine g_ldcS (pc := 108) (i := 35) C rfl d_Mod_init_108 ?_
  refine g_astS (pc := 110) C fE105_5 (by show z + 312 < z + 313; omega) (t0 := 7) rfl (i := 1) (by omega) (by omega) (j := 35) rfl d_Mod_init_110 (fun E110 hE110 => ?_)
  have hF110 : frN (z + 312) 1 E105 E110 := fun k hk => by rw [hE110, va_up_ne _ _ (by omega)]
  have fE110_1 := (congrFun hE110 z).trans ((va_up_ne _ _ (show z ≠ z + 312 from by omega)).trans fE105_1)
  have fE110_2 := (congrFun hE110 (z + 309)).trans ((va_up_ne _ _ (show z + 309 ≠ z + 312 from by omega)).trans fE105_2)
  have fE110_3 := (congrFun hE110 (z + 310)).trans ((va_up_ne _ _ (show z + 310 ≠ z + 312 from by omega)).trans fE105_3)
  have fE110_4 := (congrFun hE110 (z + 311)).trans ((va_up_ne _ _ (show z + 311 ≠ z + 312 from by omega)).trans fE105_4)
  have fE110_5 : E110 (z + 312) = .inl (kc K 7, 9, .inr (.inr (.inr (.inr (va_up (va_up (fun _ => none) 0 (some (ks K 34))) 1 (some (ks K 35))))))) := by rw [hE110]; exact va_up_self _ _ _
  have hP9_E12_E16_E20_E23_E30_E32_E39_E41_E47_E54_E59_E64_E69_E74_E79_E85_E91_E92_E98_E105_E110 := hP9_E12_E16_E20_E23_E30_E32_E39_E41_E47_E54_E59_E64_E69_E74_E79_E85_E91_E92_E98_E105.out hF110 (by omega)
  have hP20_E23_E30_E32_E39_E41_E47_E54_E59_E64_E69_E74_E79_E85_E91_E92_E98_E105_E110 := hP20_E23_E30_E32_E39_E41_E47_E54_E59_E64_E69_E74_E79_E85_E91_E92_E98_E105.out hF110 (by omega)
  have FE110 : frN z 476 E E110 := FE105.trans (hF110.wide (by omega) (by omega))
  refine g_dup (pc := 111) C d_Mod_init_111 rfl ?_
  refine g_iconst (pc := 112) (v := nI 2) C d_Mod_init_112 (by decide) ?_
  refine g_ldcS (pc := 113) (i := 36) C rfl d_Mod_init_113 ?_
  refine g_astS (pc := 115) C fE110_5 (by show z + 312 < z + 313; omega) (t0 := 7) rfl (i := 2) (by omega) (by omega) (j := 36) rfl d_Mod_init_115 (fun E115 hE115 => ?_)
  have hF115 : frN (z + 312) 1 E110 E115 := fun k hk => by rw [hE115, va_up_ne _ _ (by omega)]
  have fE115_1 := (congrFun hE115 z).trans ((va_up_ne _ _ (show z ≠ z + 312 from by omega)).trans fE110_1)
  have fE115_2 := (congrFun hE115 (z + 309)).trans ((va_up_ne _ _ (show z + 309 ≠ z + 312 from by omega)).trans fE110_2)
  have fE115_3 := (congrFun hE115 (z + 310)).trans ((va_up_ne _ _ (show z + 310 ≠ z + 312 from by omega)).trans fE110_3)
  have fE115_4 := (congrFun hE115 (z + 311)).trans ((va_up_ne _ _ (show z + 311 ≠ z + 312 from by omega)).trans fE110_4)
  have fE115_5 : E115 (z + 312) = .inl (kc K 7, 9, .inr (.inr (.inr (.inr (va_up (va_up (va_up (fun _ => none) 0 (some (ks K 34))) 1 (some (ks K 35))) 2 (some (ks K 36))))))) := by rw [hE115]; exact va_up_self _ _ _
  have hP9_E12_E16_E20_E23_E30_E32_E39_E41_E47_E54_E59_E64_E69_E74_E79_E85_E91_E92_E98_E105_E110_E115 := hP9_E12_E16_E20_E23_E30_E32_E39_E41_E47_E54_E59_E64_E69_E74_E79_E85_E91_E92_E98_E105_E110.out hF115 (by omega)
  have hP20_E23_E30_E32_E39_E41_E47_E54_E59_E64_E69_E74_E79_E85_E91_E92_E98_E105_E110_E115 := hP20_E23_E30_E32_E39_E41_E47_E54_E59_E64_E69_E74_E79_E85_E91_E92_E98_E105_E110.out hF115 (by omega)
  have FE115 : frN z 476 E E115 := FE110.trans (hF115.wide (by omega) (by omega))
  refine g_dup (pc := 116) C d_Mod_init_116 rfl ?_
  refine g_iconst (pc := 117) (v := nI 3) C d_Mod_init_117 (by decide) ?_
  refine g_ldcS (pc := 118) (i := 37) C rfl d_Mod_init_118 ?_
  refine g_astS (pc := 120) C fE115_5 (by show z + 312 < z + 313; omega) (t0 := 7) rfl (i := 3) (by omega) (by omega) (j := 37) rfl d_Mod_init_120 (fun E120 hE120 => ?_)
  have hF120 : frN (z + 312) 1 E115 E120 := fun k hk => by rw [hE120, va_up_ne _ _ (by omega)]
  have fE120_1 := (congrFun hE120 z).trans ((va_up_ne _ _ (show z ≠ z + 312 from by omega)).trans fE115_1)
  have fE120_2 := (congrFun hE120 (z + 309)).trans ((va_up_ne _ _ (show z + 309 ≠ z + 312 from by omega)).trans fE115_2)
  have fE120_3 := (congrFun hE120 (z + 310)).trans ((va_up_ne _ _ (show z + 310 ≠ z + 312 from by omega)).trans fE115_3)
  have fE120_4 := (congrFun hE120 (z + 311)).trans ((va_up_ne _ _ (show z + 311 ≠ z + 312 from by omega)).trans fE115_4)
  have fE120_5 : E120 (z + 312) = .inl (kc K 7, 9, .inr (.inr (.inr (.inr (va_up (va_up (va_up (va_up (fun _ => none) 0 (some (ks K 34))) 1 (some (ks K 35))) 2 (some (ks K 36))) 3 (some (ks K 37))))))) := by rw [hE120]; exact va_up_self _ _ _
  have hP9_E12_E16_E20_E23_E30_E32_E39_E41_E47_E54_E59_E64_E69_E74_E79_E85_E91_E92_E98_E105_E110_E115_E120 := hP9_E12_E16_E20_E23_E30_E32_E39_E41_E47_E54_E59_E64_E69_E74_E79_E85_E91_E92_E98_E105_E110_E115.out hF120 (by omega)
  have hP20_E23_E30_E32_E39_E41_E47_E54_E59_E64_E69_E74_E79_E85_E91_E92_E98_E105_E110_E115_E120 := hP20_E23_E30_E32_E39_E41_E47_E54_E59_E64_E69_E74_E79_E85_E91_E92_E98_E105_E110_E115.out hF120 (by omega)
  have FE120 : frN z 476 E E120 := FE115.trans (hF120.wide (by omega) (by omega))
  refine g_dup (pc := 121) C d_Mod_init_121 rfl ?_
  refine g_iconst (pc := 122) (v := nI 4) C d_Mod_init_122 (by decide) ?_
  refine g_ldcS (pc := 123) (i := 38) C rfl d_Mod_init_123 ?_
  refine g_astS (pc := 125) C fE120_5 (by show z + 312 < z + 313; omega) (t0 := 7) rfl (i := 4) (by omega) (by omega) (j := 38) rfl d_Mod_init_125 (fun E125 hE125 => ?_)
  have hF125 : frN (z + 312) 1 E120 E125 := fun k hk => by rw [hE125, va_up_ne _ _ (by omega)]
  have fE125_1 := (congrFun hE125 z).trans ((va_up_ne _ _ (show z ≠ z + 312 from by omega)).trans fE120_1)
  have fE125_2 := (congrFun hE125 (z + 309)).trans ((va_up_ne _ _ (show z + 309 ≠ z + 312 from by omega)).trans fE120_2)
  have fE125_3 := (congrFun hE125 (z + 310)).trans ((va_up_ne _ _ (show z + 310 ≠ z + 312 from by omega)).trans fE120_3)
  have fE125_4 := (congrFun hE125 (z + 311)).trans ((va_up_ne _ _ (show z + 311 ≠ z + 312 from by omega)).trans fE120_4)
  have fE125_5 : E125 (z + 312) = .inl (kc K 7, 9, .inr (.inr (.inr (.inr (va_up (va_up (va_up (va_up (va_up (fun _ => none) 0 (some (ks K 34))) 1 (some (ks K 35))) 2 (some (ks K 36))) 3 (some (ks K 37))) 4 (some (ks K 38))))))) := by rw [hE125]; exact va_up_self _ _ _
  have hP9_E12_E16_E20_E23_E30_E32_E39_E41_E47_E54_E59_E64_E69_E74_E79_E85_E91_E92_E98_E105_E110_E115_E120_E125 := hP9_E12_E16_E20_E23_E30_E32_E39_E41_E47_E54_E59_E64_E69_E74_E79_E85_E91_E92_E98_E105_E110_E115_E120.out hF125 (by omega)
  have hP20_E23_E30_E32_E39_E41_E47_E54_E59_E64_E69_E74_E79_E85_E91_E92_E98_E105_E110_E115_E120_E125 := hP20_E23_E30_E32_E39_E41_E47_E54_E59_E64_E69_E74_E79_E85_E91_E92_E98_E105_E110_E115_E120.out hF125 (by omega)
  have FE125 : frN z 476 E E125 := FE120.trans (hF125.wide (by omega) (by omega))
  refine g_dup (pc := 126) C d_Mod_init_126 rfl ?_
  refine g_iconst (pc := 127) (v := nI 5) C d_Mod_init_127 (by decide) ?_
  refine g_ldcS (pc := 128) (i := 39) C rfl d_Mod_init_128 ?_
  refine g_astS (pc := 130) C fE125_5 (by show z + 312 < z + 313; omega) (t0 := 7) rfl (i := 5) (by omega) (by omega) (j := 39) rfl d_Mod_init_130 (fun E130 hE130 => ?_)
  have hF130 : frN (z + 312) 1 E125 E130 := fun k hk => by rw [hE130, va_up_ne _ _ (by omega)]
  have fE130_1 := (congrFun hE130 z).trans ((va_up_ne _ _ (show z ≠ z + 312 from by omega)).trans fE125_1)
  have fE130_2 := (congrFun hE130 (z + 309)).trans ((va_up_ne _ _ (show z + 309 ≠ z + 312 from by omega)).trans fE125_2)
  have fE130_3 := (congrFun hE130 (z + 310)).trans ((va_up_ne _ _ (show z + 310 ≠ z + 312 from by omega)).trans fE125_3)
  have fE130_4 := (congrFun hE130 (z + 311)).trans ((va_up_ne _ _ (show z + 311 ≠ z + 312 from by omega)).trans fE125_4)
  have fE130_5 : E130 (z + 312) = .inl (kc K 7, 9, .inr (.inr (.inr (.inr (va_up (va_up (va_up (va_up (va_up (va_up (fun _ => none) 0 (some (ks K 34))) 1 (some (ks K 35))) 2 (some (ks K 36))) 3 (some (ks K 37))) 4 (some (ks K 38))) 5 (some (ks K 39))))))) := by rw [hE130]; exact va_up_self _ _ _
  have hP9_E12_E16_E20_E23_E30_E32_E39_E41_E47_E54_E59_E64_E69_E74_E79_E85_E91_E92_E98_E105_E110_E115_E120_E125_E130 := hP9_E12_E16_E20_E23_E30_E32_E39_E41_E47_E54_E59_E64_E69_E74_E79_E85_E91_E92_E98_E105_E110_E115_E120_E125.out hF130 (by omega)
  have hP20_E23_E30_E32_E39_E41_E47_E54_E59_E64_E69_E74_E79_E85_E91_E92_E98_E105_E110_E115_E120_E125_E130 := hP20_E23_E30_E32_E39_E41_E47_E54_E59_E64_E69_E74_E79_E85_E91_E92_E98_E105_E110_E115_E120_E125.out hF130 (by omega)
  have FE130 : frN z 476 E E130 := FE125.trans (hF130.wide (by omega) (by omega))
  refine g_dup (pc := 131) C d_Mod_init_131 rfl ?_
  refine g_bipush (pc := 132) (v := nI 6) C d_Mod_init_132 (by decide) ?_
  refine g_ldcS (pc := 134) (i := 40) C rfl d_Mod_init_134 ?_
  refine g_astS (pc := 136) C fE130_5 (by show z + 312 < z + 313; omega) (t0 := 7) rfl (i := 6) (by omega) (by omega) (j := 40) rfl d_Mod_init_136 (fun E136 hE136 => ?_)
  have hF136 : frN (z + 312) 1 E130 E136 := fun k hk => by rw [hE136, va_up_ne _ _ (by omega)]
  have fE136_1 := (congrFun hE136 z).trans ((va_up_ne _ _ (show z ≠ z + 312 from by omega)).trans fE130_1)
  have fE136_2 := (congrFun hE136 (z + 309)).trans ((va_up_ne _ _ (show z + 309 ≠ z + 312 from by omega)).trans fE130_2)
  have fE136_3 := (congrFun hE136 (z + 310)).trans ((va_up_ne _ _ (show z + 310 ≠ z + 312 from by omega)).trans fE130_3)
  have fE136_4 := (congrFun hE136 (z + 311)).trans ((va_up_ne _ _ (show z + 311 ≠ z + 312 from by omega)).trans fE130_4)
  have fE136_5 : E136 (z + 312) = .inl (kc K 7, 9, .inr (.inr (.inr (.inr (va_up (va_up (va_up (va_up (va_up (va_up (va_up (fun _ => none) 0 (some (ks K 34))) 1 (some (ks K 35))) 2 (some (ks K 36))) 3 (some (ks K 37))) 4 (some (ks K 38))) 5 (some (ks K 39))) 6 (some (ks K 40))))))) := by rw [hE136]; exact va_up_self _ _ _
  have hP9_E12_E16_E20_E23_E30_E32_E39_E41_E47_E54_E59_E64_E69_E74_E79_E85_E91_E92_E98_E105_E110_E115_E120_E125_E130_E136 := hP9_E12_E16_E20_E23_E30_E32_E39_E41_E47_E54_E59_E64_E69_E74_E79_E85_E91_E92_E98_E105_E110_E115_E120_E125_E130.out hF136 (by omega)
  have hP20_E23_E30_E32_E39_E41_E47_E54_E59_E64_E69_E74_E79_E85_E91_E92_E98_E105_E110_E115_E120_E125_E130_E136 := hP20_E23_E30_E32_E39_E41_E47_E54_E59_E64_E69_E74_E79_E85_E91_E92_E98_E105_E110_E115_E120_E125_E130.out hF136 (by omega)
  have FE136 : frN z 476 E E136 := FE130.trans (hF136.wide (by omega) (by omega))
  refine g_dup (pc := 137) C d_Mod_init_137 rfl ?_
  refine g_bipush (pc := 138) (v := nI 7) C d_Mod_init_138 (by decide) ?_
  refine g_ldcS (pc := 140) (i := 41) C rfl d_Mod_init_140 ?_
  refine g_astS (pc := 142) C fE136_5 (by show z + 312 < z + 313; omega) (t0 := 7) rfl (i := 7) (by omega) (by omega) (j := 41) rfl d_Mod_init_142 (fun E142 hE142 => ?_)
  have hF142 : frN (z + 312) 1 E136 E142 := fun k hk => by rw [hE142, va_up_ne _ _ (by omega)]
  have fE142_1 := (congrFun hE142 z).trans ((va_up_ne _ _ (show z ≠ z + 312 from by omega)).trans fE136_1)
  have fE142_2 := (congrFun hE142 (z + 309)).trans ((va_up_ne _ _ (show z + 309 ≠ z + 312 from by omega)).trans fE136_2)
  have fE142_3 := (congrFun hE142 (z + 310)).trans ((va_up_ne _ _ (show z + 310 ≠ z + 312 from by omega)).trans fE136_3)
  have fE142_4 := (congrFun hE142 (z + 311)).trans ((va_up_ne _ _ (show z + 311 ≠ z + 312 from by omega)).trans fE136_4)
  have fE142_5 : E142 (z + 312) = .inl (kc K 7, 9, .inr (.inr (.inr (.inr (va_up (va_up (va_up (va_up (va_up (va_up (va_up (va_up (fun _ => none) 0 (some (ks K 34))) 1 (some (ks K 35))) 2 (some (ks K 36))) 3 (some (ks K 37))) 4 (some (ks K 38))) 5 (some (ks K 39))) 6 (some (ks K 40))) 7 (some (ks K 41))))))) := by rw [hE142]; exact va_up_self _ _ _
  have hP9_E12_E16_E20_E23_E30_E32_E39_E41_E47_E54_E59_E64_E69_E74_E79_E85_E91_E92_E98_E105_E110_E115_E120_E125_E130_E136_E142 := hP9_E12_E16_E20_E23_E30_E32_E39_E41_E47_E54_E59_E64_E69_E74_E79_E85_E91_E92_E98_E105_E110_E115_E120_E125_E130_E136.out hF142 (by omega)
  have hP20_E23_E30_E32_E39_E41_E47_E54_E59_E64_E69_E74_E79_E85_E91_E92_E98_E105_E110_E115_E120_E125_E130_E136_E142 := hP20_E23_E30_E32_E39_E41_E47_E54_E59_E64_E69_E74_E79_E85_E91_E92_E98_E105_E110_E115_E120_E125_E130_E136.out hF142 (by omega)
  have FE142 : frN z 476 E E142 := FE136.trans (hF142.wide (by omega) (by omega))
  refine g_dup (pc := 143) C d_Mod_init_143 rfl ?_
  refine g_bipush (pc := 144) (v := nI 8) C d_Mod_init_144 (by decide) ?_
  refine g_ldcS (pc := 146) (i := 42) C rfl d_Mod_init_146 ?_
  refine g_astS (pc := 148) C fE142_5 (by show z + 312 < z + 313; omega) (t0 := 7) rfl (i := 8) (by omega) (by omega) (j := 42) rfl d_Mod_init_148 (fun E148 hE148 => ?_)
  have hF148 : frN (z + 312) 1 E142 E148 := fun k hk => by rw [hE148, va_up_ne _ _ (by omega)]
  have fE148_1 := (congrFun hE148 z).trans ((va_up_ne _ _ (show z ≠ z + 312 from by omega)).trans fE142_1)
  have fE148_2 := (congrFun hE148 (z + 309)).trans ((va_up_ne _ _ (show z + 309 ≠ z + 312 from by omega)).trans fE142_2)
  have fE148_3 := (congrFun hE148 (z + 310)).trans ((va_up_ne _ _ (show z + 310 ≠ z + 312 from by omega)).trans fE142_3)
  have fE148_4 := (congrFun hE148 (z + 311)).trans ((va_up_ne _ _ (show z + 311 ≠ z + 312 from by omega)).trans fE142_4)
  have fE148_5 : E148 (z + 312) = .inl (kc K 7, 9, .inr (.inr (.inr (.inr (va_up (va_up (va_up (va_up (va_up (va_up (va_up (va_up (va_up (fun _ => none) 0 (some (ks K 34))) 1 (some (ks K 35))) 2 (some (ks K 36))) 3 (some (ks K 37))) 4 (some (ks K 38))) 5 (some (ks K 39))) 6 (some (ks K 40))) 7 (some (ks K 41))) 8 (some (ks K 42))))))) := by rw [hE148]; exact va_up_self _ _ _
  have hP9_E12_E16_E20_E23_E30_E32_E39_E41_E47_E54_E59_E64_E69_E74_E79_E85_E91_E92_E98_E105_E110_E115_E120_E125_E130_E136_E142_E148 := hP9_E12_E16_E20_E23_E30_E32_E39_E41_E47_E54_E59_E64_E69_E74_E79_E85_E91_E92_E98_E105_E110_E115_E120_E125_E130_E136_E142.out hF148 (by omega)
  have hP20_E23_E30_E32_E39_E41_E47_E54_E59_E64_E69_E74_E79_E85_E91_E92_E98_E105_E110_E115_E120_E125_E130_E136_E142_E148 := hP20_E23_E30_E32_E39_E41_E47_E54_E59_E64_E69_E74_E79_E85_E91_E92_E98_E105_E110_E115_E120_E125_E130_E136_E142.out hF148 (by omega)
  have FE148 : frN z 476 E E148 := FE142.trans (hF148.wide (by omega) (by omega))
  refine g_putF (pc := 149) C hnm fl_Mod_66 fw_Mod_methods ⟨_, _, rfl⟩ fE148_1 (by show z < z + 313; omega) (Nat.le_of_ble_eq_true rfl) ⟨rfl, rfl⟩ d_Mod_init_149 (fun E149 hE149 => ?_)
  have hF149 : frN z 1 E148 E149 := fun k hk => by rw [hE149, va_up_ne _ _ (by omega)]
  have fE149_1 : E149 z = .inr (9, [.ref (ka K (z + 1)), .ref (ka K (z + 155)), .int (nI 0), .int (nI 0), .int (nI 0), .ref (ka K (z + 309)), .int (nI 0), .ref (ka K (z + 310)), .int (nI 0), .ref (ka K (z + 311)), .ref (ka K (z + 312)), .int (nI 0), .null, .null, .int (nI 0), .null, .int (nI 0), .null, .null, .null]) := by rw [hE149]; exact va_up_self _ _ _
  have fE149_2 := (congrFun hE149 (z + 309)).trans ((va_up_ne _ _ (show z + 309 ≠ z from by omega)).trans fE148_2)
  have fE149_3 := (congrFun hE149 (z + 310)).trans ((va_up_ne _ _ (show z + 310 ≠ z from by omega)).trans fE148_3)
  have fE149_4 := (congrFun hE149 (z + 311)).trans ((va_up_ne _ _ (show z + 311 ≠ z from by omega)).trans fE148_4)
  have fE149_5 := (congrFun hE149 (z + 312)).trans ((va_up_ne _ _ (show z + 312 ≠ z from by omega)).trans fE148_5)
  have hP9_E12_E16_E20_E23_E30_E32_E39_E41_E47_E54_E59_E64_E69_E74_E79_E85_E91_E92_E98_E105_E110_E115_E120_E125_E130_E136_E142_E148_E149 := hP9_E12_E16_E20_E23_E30_E32_E39_E41_E47_E54_E59_E64_E69_E74_E79_E85_E91_E92_E98_E105_E110_E115_E120_E125_E130_E136_E142_E148.out hF149 (by omega)
  have hP20_E23_E30_E32_E39_E41_E47_E54_E59_E64_E69_E74_E79_E85_E91_E92_E98_E105_E110_E115_E120_E125_E130_E136_E142_E148_E149 := hP20_E23_E30_E32_E39_E41_E47_E54_E59_E64_E69_E74_E79_E85_E91_E92_E98_E105_E110_E115_E120_E125_E130_E136_E142_E148.out hF149 (by omega)
  have FE149 : frN z 476 E E149 := FE148.trans (hF149.wide (by omega) (by omega))
  refine g_aload_n (pc := 152) C d_Mod_init_152 0 rfl ?_
  refine g_new (pc := 153) (N := z + 313) CG (kS_at CG.2.1 h0 (by omega)) (by omega) (ci := 7) rfl i_MPath t_MPath t_MPath_ok cl_Mod_69 (tb4 25 rfl rfl) (tb1 11 rfl rfl) (fs := [.null, .int (nI 0)]) hf_MPath (k' := 313) (n' := 13013) (N' := z + 314) (by omega) (by omega) (by omega) (by omega) (by omega) d_Mod_init_153 (fun E153 hE153 => ?_)
  have hF153 : frN (z + 313) 1 E149 E153 := fun k hk => by rw [hE153, va_up_ne _ _ (by omega)]
  have fE153_1 := (congrFun hE153 z).trans ((va_up_ne _ _ (show z ≠ z + 313 from by omega)).trans fE149_1)
  have fE153_2 := (congrFun hE153 (z + 309)).trans ((va_up_ne _ _ (show z + 309 ≠ z + 313 from by omega)).trans fE149_2)
  have fE153_3 := (congrFun hE153 (z + 310)).trans ((va_up_ne _ _ (show z + 310 ≠ z + 313 from by omega)).trans fE149_3)
  have fE153_4 := (congrFun hE153 (z + 311)).trans ((va_up_ne _ _ (show z + 311 ≠ z + 313 from by omega)).trans fE149_4)
  have fE153_5 := (congrFun hE153 (z + 312)).trans ((va_up_ne _ _ (show z + 312 ≠ z + 313 from by omega)).trans fE149_5)
  have fN153 : E153 (z + 313) = .inr (7, [.null, .int (nI 0)]) := by rw [hE153]; exact va_up_self _ _ _
  have hP9_E12_E16_E20_E23_E30_E32_E39_E41_E47_E54_E59_E64_E69_E74_E79_E85_E91_E92_E98_E105_E110_E115_E120_E125_E130_E136_E142_E148_E149_E153 := hP9_E12_E16_E20_E23_E30_E32_E39_E41_E47_E54_E59_E64_E69_E74_E79_E85_E91_E92_E98_E105_E110_E115_E120_E125_E130_E136_E142_E148_E149.out hF153 (by omega)
  have hP20_E23_E30_E32_E39_E41_E47_E54_E59_E64_E69_E74_E79_E85_E91_E92_E98_E105_E110_E115_E120_E125_E130_E136_E142_E148_E149_E153 := hP20_E23_E30_E32_E39_E41_E47_E54_E59_E64_E69_E74_E79_E85_E91_E92_E98_E105_E110_E115_E120_E125_E130_E136_E142_E148_E149.out hF153 (by omega)
  have FE153 : frN z 476 E E153 := FE149.trans (hF153.wide (by omega) (by omega))
  have C := CG.1 313 13013 (z + 314) (by omega) (by omega)
  refine g_dup (pc := 156) C d_Mod_init_156 rfl ?_
  refine g_cGN (pc := 157) (N := z + 314) (As := []) (rest := [.ref (ka K (z + 313)), .ref (ka K z)]) CG hO (kS_at CG.2.1 h0 (by omega)) (by omega) (c_MPath_init _ K CG.2.1 _ (z + 313) (by omega) fN153) mw_MPath_init rfl mo_MPath_init (C.T.2.1 _ mn_Mod_71) (by decide) rfl rfl (Nat.le_of_ble_eq_true rfl) (k' := 314) (n' := 13061) (N' := z + 315) (by omega) (by omega) (by omega) (by omega) (by omega) d_Mod_init_157 (fun E157 hp157 => ?_)
  obtain ⟨hP157, hF157⟩ := hp157
  have rE157_1 := (hF157 z (by omega)).trans (fE153_1)
  have rE157_2 := (hF157 (z + 309) (by omega)).trans (fE153_2)
  have rE157_3 := (hF157 (z + 310) (by omega)).trans (fE153_3)
  have rE157_4 := (hF157 (z + 311) (by omega)).trans (fE153_4)
  have rE157_5 := (hF157 (z + 312) (by omega)).trans (fE153_5)
  have hP9_E12_E16_E20_E23_E30_E32_E39_E41_E47_E54_E59_E64_E69_E74_E79_E85_E91_E92_E98_E105_E110_E115_E120_E125_E130_E136_E142_E148_E149_E153_E157 := hP9_E12_E16_E20_E23_E30_E32_E39_E41_E47_E54_E59_E64_E69_E74_E79_E85_E91_E92_E98_E105_E110_E115_E120_E125_E130_E136_E142_E148_E149_E153.out hF157 (by omega)
  have hP20_E23_E30_E32_E39_E41_E47_E54_E59_E64_E69_E74_E79_E85_E91_E92_E98_E105_E110_E115_E120_E125_E130_E136_E142_E148_E149_E153_E157 := hP20_E23_E30_E32_E39_E41_E47_E54_E59_E64_E69_E74_E79_E85_E91_E92_E98_E105_E110_E115_E120_E125_E130_E136_E142_E148_E149_E153.out hF157 (by omega)
  have FE157 : frN z 476 E E157 := FE153.trans (hF157.wide (by omega) (by omega))
  have C := CG.1 314 13061 (z + 315) (by omega) (by omega)
  refine g_putF (pc := 160) C hnm fl_Mod_72 fw_Mod_path ⟨_, _, rfl⟩ rE157_1 (by show z < z + 315; omega) (Nat.le_of_ble_eq_true rfl) ⟨rfl, rfl⟩ d_Mod_init_160 (fun E160 hE160 => ?_)
  have hF160 : frN z 1 E157 E160 := fun k hk => by rw [hE160, va_up_ne _ _ (by omega)]
  have fE160_1 : E160 z = .inr (9, [.ref (ka K (z + 1)), .ref (ka K (z + 155)), .int (nI 0), .int (nI 0), .int (nI 0), .ref (ka K (z + 309)), .int (nI 0), .ref (ka K (z + 310)), .int (nI 0), .ref (ka K (z + 311)), .ref (ka K (z + 312)), .int (nI 0), .ref (ka K (z + 313)), .null, .int (nI 0), .null, .int (nI 0), .null, .null, .null]) := by rw [hE160]; exact va_up_self _ _ _
  have fE160_2 := (congrFun hE160 (z + 309)).trans ((va_up_ne _ _ (show z + 309 ≠ z from by omega)).trans rE157_2)
  have fE160_3 := (congrFun hE160 (z + 310)).trans ((va_up_ne _ _ (show z + 310 ≠ z from by omega)).trans rE157_3)
  have fE160_4 := (congrFun hE160 (z + 311)).trans ((va_up_ne _ _ (show z + 311 ≠ z from by omega)).trans rE157_4)
  have fE160_5 := (congrFun hE160 (z + 312)).trans ((va_up_ne _ _ (show z + 312 ≠ z from by omega)).trans rE157_5)
  have fE160_6 := (congrFun hE160 (z + 313)).trans ((va_up_ne _ _ (show z + 313 ≠ z from by omega)).trans hP157.1)
  have hP9_E12_E16_E20_E23_E30_E32_E39_E41_E47_E54_E59_E64_E69_E74_E79_E85_E91_E92_E98_E105_E110_E115_E120_E125_E130_E136_E142_E148_E149_E153_E157_E160 := hP9_E12_E16_E20_E23_E30_E32_E39_E41_E47_E54_E59_E64_E69_E74_E79_E85_E91_E92_E98_E105_E110_E115_E120_E125_E130_E136_E142_E148_E149_E153_E157.out hF160 (by omega)
  have hP20_E23_E30_E32_E39_E41_E47_E54_E59_E64_E69_E74_E79_E85_E91_E92_E98_E105_E110_E115_E120_E125_E130_E136_E142_E148_E149_E153_E157_E160 := hP20_E23_E30_E32_E39_E41_E47_E54_E59_E64_E69_E74_E79_E85_E91_E92_E98_E105_E110_E115_E120_E125_E130_E136_E142_E148_E149_E153_E157.out hF160 (by omega)
  have hP157_E160 := hP157.out hF160 (by omega)
  have FE160 : frN z 476 E E160 := FE157.trans (hF160.wide (by omega) (by omega))
  refine g_aload_n (pc := 163) C d_Mod_init_163 0 rfl ?_
  refine g_new (pc := 164) (N := z + 315) CG (kS_at CG.2.1 h0 (by omega)) (by omega) (ci := 7) rfl i_MPath t_MPath t_MPath_ok cl_Mod_69 (tb4 25 rfl rfl) (tb1 11 rfl rfl) (fs := [.null, .int (nI 0)]) hf_MPath (k' := 315) (n' := 13063) (N' := z + 316) (by omega) (by omega) (by omega) (by omega) (by omega) d_Mod_init_164 (fun E164 hE164 => ?_)
  have hF164 : frN (z + 315) 1 E160 E164 := fun k hk => by rw [hE164, va_up_ne _ _ (by omega)]
  have fE164_1 := (congrFun hE164 z).trans ((va_up_ne _ _ (show z ≠ z + 315 from by omega)).trans fE160_1)
  have fE164_2 := (congrFun hE164 (z + 309)).trans ((va_up_ne _ _ (show z + 309 ≠ z + 315 from by omega)).trans fE160_2)
  have fE164_3 := (congrFun hE164 (z + 310)).trans ((va_up_ne _ _ (show z + 310 ≠ z + 315 from by omega)).trans fE160_3)
  have fE164_4 := (congrFun hE164 (z + 311)).trans ((va_up_ne _ _ (show z + 311 ≠ z + 315 from by omega)).trans fE160_4)
  have fE164_5 := (congrFun hE164 (z + 312)).trans ((va_up_ne _ _ (show z + 312 ≠ z + 315 from by omega)).trans fE160_5)
  have fE164_6 := (congrFun hE164 (z + 313)).trans ((va_up_ne _ _ (show z + 313 ≠ z + 315 from by omega)).trans fE160_6)
  have fN164 : E164 (z + 315) = .inr (7, [.null, .int (nI 0)]) := by rw [hE164]; exact va_up_self _ _ _
  have hP9_E12_E16_E20_E23_E30_E32_E39_E41_E47_E54_E59_E64_E69_E74_E79_E85_E91_E92_E98_E105_E110_E115_E120_E125_E130_E136_E142_E148_E149_E153_E157_E160_E164 := hP9_E12_E16_E20_E23_E30_E32_E39_E41_E47_E54_E59_E64_E69_E74_E79_E85_E91_E92_E98_E105_E110_E115_E120_E125_E130_E136_E142_E148_E149_E153_E157_E160.out hF164 (by omega)
  have hP20_E23_E30_E32_E39_E41_E47_E54_E59_E64_E69_E74_E79_E85_E91_E92_E98_E105_E110_E115_E120_E125_E130_E136_E142_E148_E149_E153_E157_E160_E164 := hP20_E23_E30_E32_E39_E41_E47_E54_E59_E64_E69_E74_E79_E85_E91_E92_E98_E105_E110_E115_E120_E125_E130_E136_E142_E148_E149_E153_E157_E160.out hF164 (by omega)
  have hP157_E160_E164 := hP157_E160.out hF164 (by omega)
  have FE164 : frN z 476 E E164 := FE160.trans (hF164.wide (by omega) (by omega))
  have C := CG.1 315 13063 (z + 316) (by omega) (by omega)
  refine g_dup (pc := 167) C d_Mod_init_167 rfl ?_
  refine g_cGN (pc := 168) (N := z + 316) (As := []) (rest := [.ref (ka K (z + 315)), .ref (ka K z)]) CG hO (kS_at CG.2.1 h0 (by omega)) (by omega) (c_MPath_init _ K CG.2.1 _ (z + 315) (by omega) fN164) mw_MPath_init rfl mo_MPath_init (C.T.2.1 _ mn_Mod_71) (by decide) rfl rfl (Nat.le_of_ble_eq_true rfl) (k' := 316) (n' := 13111) (N' := z + 317) (by omega) (by omega) (by omega) (by omega) (by omega) d_Mod_init_168 (fun E168 hp168 => ?_)
  obtain ⟨hP168, hF168⟩ := hp168
  have rE168_1 := (hF168 z (by omega)).trans (fE164_1)
  have rE168_2 := (hF168 (z + 309) (by omega)).trans (fE164_2)
  have rE168_3 := (hF168 (z + 310) (by omega)).trans (fE164_3)
  have rE168_4 := (hF168 (z + 311) (by omega)).trans (fE164_4)
  have rE168_5 := (hF168 (z + 312) (by omega)).trans (fE164_5)
  have rE168_6 := (hF168 (z + 313) (by omega)).trans (fE164_6)
  have hP9_E12_E16_E20_E23_E30_E32_E39_E41_E47_E54_E59_E64_E69_E74_E79_E85_E91_E92_E98_E105_E110_E115_E120_E125_E130_E136_E142_E148_E149_E153_E157_E160_E164_E168 := hP9_E12_E16_E20_E23_E30_E32_E39_E41_E47_E54_E59_E64_E69_E74_E79_E85_E91_E92_E98_E105_E110_E115_E120_E125_E130_E136_E142_E148_E149_E153_E157_E160_E164.out hF168 (by omega)
  have hP20_E23_E30_E32_E39_E41_E47_E54_E59_E64_E69_E74_E79_E85_E91_E92_E98_E105_E110_E115_E120_E125_E130_E136_E142_E148_E149_E153_E157_E160_E164_E168 := hP20_E23_E30_E32_E39_E41_E47_E54_E59_E64_E69_E74_E79_E85_E91_E92_E98_E105_E110_E115_E120_E125_E130_E136_E142_E148_E149_E153_E157_E160_E164.out hF168 (by omega)
  have hP157_E160_E164_E168 := hP157_E160_E164.out hF168 (by omega)
  have FE168 : frN z 476 E E168 := FE164.trans (hF168.wide (by omega) (by omega))
  have C := CG.1 316 13111 (z + 317) (by omega) (by omega)
  refine g_putF (pc := 171) C hnm fl_Mod_76 fw_Mod_to ⟨_, _, rfl⟩ rE168_1 (by show z < z + 317; omega) (Nat.le_of_ble_eq_true rfl) ⟨rfl, rfl⟩ d_Mod_init_171 (fun E171 hE171 => ?_)
  have hF171 : frN z 1 E168 E171 := fun k hk => by rw [hE171, va_up_ne _ _ (by omega)]
  have fE171_1 : E171 z = .inr (9, [.ref (ka K (z + 1)), .ref (ka K (z + 155)), .int (nI 0), .int (nI 0), .int (nI 0), .ref (ka K (z + 309)), .int (nI 0), .ref (ka K (z + 310)), .int (nI 0), .ref (ka K (z + 311)), .ref (ka K (z + 312)), .int (nI 0), .ref (ka K (z + 313)), .ref (ka K (z + 315)), .int (nI 0), .null, .int (nI 0), .null, .null, .null]) := by rw [hE171]; exact va_up_self _ _ _
  have fE171_2 := (congrFun hE171 (z + 309)).trans ((va_up_ne _ _ (show z + 309 ≠ z from by omega)).trans rE168_2)
  have fE171_3 := (congrFun hE171 (z + 310)).trans ((va_up_ne _ _ (show z + 310 ≠ z from by omega)).trans rE168_3)
  have fE171_4 := (congrFun hE171 (z + 311)).trans ((va_up_ne _ _ (show z + 311 ≠ z from by omega)).trans rE168_4)
  have fE171_5 := (congrFun hE171 (z + 312)).trans ((va_up_ne _ _ (show z + 312 ≠ z from by omega)).trans rE168_5)
  have fE171_6 := (congrFun hE171 (z + 313)).trans ((va_up_ne _ _ (show z + 313 ≠ z from by omega)).trans rE168_6)
  have fE171_7 := (congrFun hE171 (z + 315)).trans ((va_up_ne _ _ (show z + 315 ≠ z from by omega)).trans hP168.1)
  have hP9_E12_E16_E20_E23_E30_E32_E39_E41_E47_E54_E59_E64_E69_E74_E79_E85_E91_E92_E98_E105_E110_E115_E120_E125_E130_E136_E142_E148_E149_E153_E157_E160_E164_E168_E171 := hP9_E12_E16_E20_E23_E30_E32_E39_E41_E47_E54_E59_E64_E69_E74_E79_E85_E91_E92_E98_E105_E110_E115_E120_E125_E130_E136_E142_E148_E149_E153_E157_E160_E164_E168.out hF171 (by omega)
  have hP20_E23_E30_E32_E39_E41_E47_E54_E59_E64_E69_E74_E79_E85_E91_E92_E98_E105_E110_E115_E120_E125_E130_E136_E142_E148_E149_E153_E157_E160_E164_E168_E171 := hP20_E23_E30_E32_E39_E41_E47_E54_E59_E64_E69_E74_E79_E85_E91_E92_E98_E105_E110_E115_E120_E125_E130_E136_E142_E148_E149_E153_E157_E160_E164_E168.out hF171 (by omega)
  have hP157_E160_E164_E168_E171 := hP157_E160_E164_E168.out hF171 (by omega)
  have hP168_E171 := hP168.out hF171 (by omega)
  have FE171 : frN z 476 E E171 := FE168.trans (hF171.wide (by omega) (by omega))
  refine g_aload_n (pc := 174) C d_Mod_init_174 0 rfl ?_
  refine g_bipush (pc := 175) (v := nI 8) C d_Mod_init_175 (by decide) ?_
  refine g_newa (pc := 177) (N := z + 317) CG (kS_at CG.2.1 h0 (by omega)) (by omega) (ty := .int) rfl tw_int (t0 := 3) rfl (fun _ _ h => h) (len := 8) (a0 := fun _ => nI 0) (fun _ => rfl) (by show 8 * 4 ≤ 536870912; omega) (by omega) (k' := 317) (n' := 13119) (N' := z + 318) (by omega) (by omega) (by omega) (by omega) (by omega) d_Mod_init_177 (fun E177 hE177 => ?_)
  have hF177 : frN (z + 317) 1 E171 E177 := fun k hk => by rw [hE177, va_up_ne _ _ (by omega)]
  have fE177_1 := (congrFun hE177 z).trans ((va_up_ne _ _ (show z ≠ z + 317 from by omega)).trans fE171_1)
  have fE177_2 := (congrFun hE177 (z + 309)).trans ((va_up_ne _ _ (show z + 309 ≠ z + 317 from by omega)).trans fE171_2)
  have fE177_3 := (congrFun hE177 (z + 310)).trans ((va_up_ne _ _ (show z + 310 ≠ z + 317 from by omega)).trans fE171_3)
  have fE177_4 := (congrFun hE177 (z + 311)).trans ((va_up_ne _ _ (show z + 311 ≠ z + 317 from by omega)).trans fE171_4)
  have fE177_5 := (congrFun hE177 (z + 312)).trans ((va_up_ne _ _ (show z + 312 ≠ z + 317 from by omega)).trans fE171_5)
  have fE177_6 := (congrFun hE177 (z + 313)).trans ((va_up_ne _ _ (show z + 313 ≠ z + 317 from by omega)).trans fE171_6)
  have fE177_7 := (congrFun hE177 (z + 315)).trans ((va_up_ne _ _ (show z + 315 ≠ z + 317 from by omega)).trans fE171_7)
  have fN177 : E177 (z + 317) = .inl (kc K 3, 8, .inl (fun _ => nI 0)) := by rw [hE177]; exact va_up_self _ _ _
  have hP9_E12_E16_E20_E23_E30_E32_E39_E41_E47_E54_E59_E64_E69_E74_E79_E85_E91_E92_E98_E105_E110_E115_E120_E125_E130_E136_E142_E148_E149_E153_E157_E160_E164_E168_E171_E177 := hP9_E12_E16_E20_E23_E30_E32_E39_E41_E47_E54_E59_E64_E69_E74_E79_E85_E91_E92_E98_E105_E110_E115_E120_E125_E130_E136_E142_E148_E149_E153_E157_E160_E164_E168_E171.out hF177 (by omega)
  have hP20_E23_E30_E32_E39_E41_E47_E54_E59_E64_E69_E74_E79_E85_E91_E92_E98_E105_E110_E115_E120_E125_E130_E136_E142_E148_E149_E153_E157_E160_E164_E168_E171_E177 := hP20_E23_E30_E32_E39_E41_E47_E54_E59_E64_E69_E74_E79_E85_E91_E92_E98_E105_E110_E115_E120_E125_E130_E136_E142_E148_E149_E153_E157_E160_E164_E168_E171.out hF177 (by omega)
  have hP157_E160_E164_E168_E171_E177 := hP157_E160_E164_E168_E171.out hF177 (by omega)
  have hP168_E171_E177 := hP168_E171.out hF177 (by omega)
  have FE177 : frN z 476 E E177 := FE171.trans (hF177.wide (by omega) (by omega))
  have C := CG.1 317 13119 (z + 318) (by omega) (by omega)
  refine g_putF (pc := 179) C hnm fl_Mod_78 fw_Mod_value ⟨_, _, rfl⟩ fE177_1 (by show z < z + 318; omega) (Nat.le_of_ble_eq_true rfl) ⟨rfl, rfl⟩ d_Mod_init_179 (fun E179 hE179 => ?_)
  have hF179 : frN z 1 E177 E179 := fun k hk => by rw [hE179, va_up_ne _ _ (by omega)]
  have fE179_1 : E179 z = .inr (9, [.ref (ka K (z + 1)), .ref (ka K (z + 155)), .int (nI 0), .int (nI 0), .int (nI 0), .ref (ka K (z + 309)), .int (nI 0), .ref (ka K (z + 310)), .int (nI 0), .ref (ka K (z + 311)), .ref (ka K (z + 312)), .int (nI 0), .ref (ka K (z + 313)), .ref (ka K (z + 315)), .int (nI 0), .ref (ka K (z + 317)), .int (nI 0), .null, .null, .null]) := by rw [hE179]; exact va_up_self _ _ _
  have fE179_2 := (congrFun hE179 (z + 309)).trans ((va_up_ne _ _ (show z + 309 ≠ z from by omega)).trans fE177_2)
  have fE179_3 := (congrFun hE179 (z + 310)).trans ((va_up_ne _ _ (show z + 310 ≠ z from by omega)).trans fE177_3)
  have fE179_4 := (congrFun hE179 (z + 311)).trans ((va_up_ne _ _ (show z + 311 ≠ z from by omega)).trans fE177_4)
  have fE179_5 := (congrFun hE179 (z + 312)).trans ((va_up_ne _ _ (show z + 312 ≠ z from by omega)).trans fE177_5)
  have fE179_6 := (congrFun hE179 (z + 313)).trans ((va_up_ne _ _ (show z + 313 ≠ z from by omega)).trans fE177_6)
  have fE179_7 := (congrFun hE179 (z + 315)).trans ((va_up_ne _ _ (show z + 315 ≠ z from by omega)).trans fE177_7)
  have fE179_8 := (congrFun hE179 (z + 317)).trans ((va_up_ne _ _ (show z + 317 ≠ z from by omega)).trans fN177)
  have hP9_E12_E16_E20_E23_E30_E32_E39_E41_E47_E54_E59_E64_E69_E74_E79_E85_E91_E92_E98_E105_E110_E115_E120_E125_E130_E136_E142_E148_E149_E153_E157_E160_E164_E168_E171_E177_E179 := hP9_E12_E16_E20_E23_E30_E32_E39_E41_E47_E54_E59_E64_E69_E74_E79_E85_E91_E92_E98_E105_E110_E115_E120_E125_E130_E136_E142_E148_E149_E153_E157_E160_E164_E168_E171_E177.out hF179 (by omega)
  have hP20_E23_E30_E32_E39_E41_E47_E54_E59_E64_E69_E74_E79_E85_E91_E92_E98_E105_E110_E115_E120_E125_E130_E136_E142_E148_E149_E153_E157_E160_E164_E168_E171_E177_E179 := hP20_E23_E30_E32_E39_E41_E47_E54_E59_E64_E69_E74_E79_E85_E91_E92_E98_E105_E110_E115_E120_E125_E130_E136_E142_E148_E149_E153_E157_E160_E164_E168_E171_E177.out hF179 (by omega)
  have hP157_E160_E164_E168_E171_E177_E179 := hP157_E160_E164_E168_E171_E177.out hF179 (by omega)
  have hP168_E171_E177_E179 := hP168_E171_E177.out hF179 (by omega)
  have FE179 : frN z 476 E E179 := FE177.trans (hF179.wide (by omega) (by omega))
  refine g_aload_n (pc := 182) C d_Mod_init_182 0 rfl ?_
  refine g_new (pc := 183) (N := z + 318) CG (kS_at CG.2.1 h0 (by omega)) (by omega) (ci := 7) rfl i_MPath t_MPath t_MPath_ok cl_Mod_69 (tb4 25 rfl rfl) (tb1 11 rfl rfl) (fs := [.null, .int (nI 0)]) hf_MPath (k' := 318) (n' := 13121) (N' := z + 319) (by omega) (by omega) (by omega) (by omega) (by omega) d_Mod_init_183 (fun E183 hE183 => ?_)
  have hF183 : frN (z + 318) 1 E179 E183 := fun k hk => by rw [hE183, va_up_ne _ _ (by omega)]
  have fE183_1 := (congrFun hE183 z).trans ((va_up_ne _ _ (show z ≠ z + 318 from by omega)).trans fE179_1)
  have fE183_2 := (congrFun hE183 (z + 309)).trans ((va_up_ne _ _ (show z + 309 ≠ z + 318 from by omega)).trans fE179_2)
  have fE183_3 := (congrFun hE183 (z + 310)).trans ((va_up_ne _ _ (show z + 310 ≠ z + 318 from by omega)).trans fE179_3)
  have fE183_4 := (congrFun hE183 (z + 311)).trans ((va_up_ne _ _ (show z + 311 ≠ z + 318 from by omega)).trans fE179_4)
  have fE183_5 := (congrFun hE183 (z + 312)).trans ((va_up_ne _ _ (show z + 312 ≠ z + 318 from by omega)).trans fE179_5)
  have fE183_6 := (congrFun hE183 (z + 313)).trans ((va_up_ne _ _ (show z + 313 ≠ z + 318 from by omega)).trans fE179_6)
  have fE183_7 := (congrFun hE183 (z + 315)).trans ((va_up_ne _ _ (show z + 315 ≠ z + 318 from by omega)).trans fE179_7)
  have fE183_8 := (congrFun hE183 (z + 317)).trans ((va_up_ne _ _ (show z + 317 ≠ z + 318 from by omega)).trans fE179_8)
  have fN183 : E183 (z + 318) = .inr (7, [.null, .int (nI 0)]) := by rw [hE183]; exact va_up_self _ _ _
  have hP9_E12_E16_E20_E23_E30_E32_E39_E41_E47_E54_E59_E64_E69_E74_E79_E85_E91_E92_E98_E105_E110_E115_E120_E125_E130_E136_E142_E148_E149_E153_E157_E160_E164_E168_E171_E177_E179_E183 := hP9_E12_E16_E20_E23_E30_E32_E39_E41_E47_E54_E59_E64_E69_E74_E79_E85_E91_E92_E98_E105_E110_E115_E120_E125_E130_E136_E142_E148_E149_E153_E157_E160_E164_E168_E171_E177_E179.out hF183 (by omega)
  have hP20_E23_E30_E32_E39_E41_E47_E54_E59_E64_E69_E74_E79_E85_E91_E92_E98_E105_E110_E115_E120_E125_E130_E136_E142_E148_E149_E153_E157_E160_E164_E168_E171_E177_E179_E183 := hP20_E23_E30_E32_E39_E41_E47_E54_E59_E64_E69_E74_E79_E85_E91_E92_E98_E105_E110_E115_E120_E125_E130_E136_E142_E148_E149_E153_E157_E160_E164_E168_E171_E177_E179.out hF183 (by omega)
  have hP157_E160_E164_E168_E171_E177_E179_E183 := hP157_E160_E164_E168_E171_E177_E179.out hF183 (by omega)
  have hP168_E171_E177_E179_E183 := hP168_E171_E177_E179.out hF183 (by omega)
  have FE183 : frN z 476 E E183 := FE179.trans (hF183.wide (by omega) (by omega))
  have C := CG.1 318 13121 (z + 319) (by omega) (by omega)
  refine g_dup (pc := 186) C d_Mod_init_186 rfl ?_
  refine g_cGN (pc := 187) (N := z + 319) (As := []) (rest := [.ref (ka K (z + 318)), .ref (ka K z)]) CG hO (kS_at CG.2.1 h0 (by omega)) (by omega) (c_MPath_init _ K CG.2.1 _ (z + 318) (by omega) fN183) mw_MPath_init rfl mo_MPath_init (C.T.2.1 _ mn_Mod_71) (by decide) rfl rfl (Nat.le_of_ble_eq_true rfl) (k' := 319) (n' := 13169) (N' := z + 320) (by omega) (by omega) (by omega) (by omega) (by omega) d_Mod_init_187 (fun E187 hp187 => ?_)
  obtain ⟨hP187, hF187⟩ := hp187
  have rE187_1 := (hF187 z (by omega)).trans (fE183_1)
  have rE187_2 := (hF187 (z + 309) (by omega)).trans (fE183_2)
  have rE187_3 := (hF187 (z + 310) (by omega)).trans (fE183_3)
  have rE187_4 := (hF187 (z + 311) (by omega)).trans (fE183_4)
  have rE187_5 := (hF187 (z + 312) (by omega)).trans (fE183_5)
  have rE187_6 := (hF187 (z + 313) (by omega)).trans (fE183_6)
  have rE187_7 := (hF187 (z + 315) (by omega)).trans (fE183_7)
  have rE187_8 := (hF187 (z + 317) (by omega)).trans (fE183_8)
  have hP9_E12_E16_E20_E23_E30_E32_E39_E41_E47_E54_E59_E64_E69_E74_E79_E85_E91_E92_E98_E105_E110_E115_E120_E125_E130_E136_E142_E148_E149_E153_E157_E160_E164_E168_E171_E177_E179_E183_E187 := hP9_E12_E16_E20_E23_E30_E32_E39_E41_E47_E54_E59_E64_E69_E74_E79_E85_E91_E92_E98_E105_E110_E115_E120_E125_E130_E136_E142_E148_E149_E153_E157_E160_E164_E168_E171_E177_E179_E183.out hF187 (by omega)
  have hP20_E23_E30_E32_E39_E41_E47_E54_E59_E64_E69_E74_E79_E85_E91_E92_E98_E105_E110_E115_E120_E125_E130_E136_E142_E148_E149_E153_E157_E160_E164_E168_E171_E177_E179_E183_E187 := hP20_E23_E30_E32_E39_E41_E47_E54_E59_E64_E69_E74_E79_E85_E91_E92_E98_E105_E110_E115_E120_E125_E130_E136_E142_E148_E149_E153_E157_E160_E164_E168_E171_E177_E179_E183.out hF187 (by omega)
  have hP157_E160_E164_E168_E171_E177_E179_E183_E187 := hP157_E160_E164_E168_E171_E177_E179_E183.out hF187 (by omega)
  have hP168_E171_E177_E179_E183_E187 := hP168_E171_E177_E179_E183.out hF187 (by omega)
  have FE187 : frN z 476 E E187 := FE183.trans (hF187.wide (by omega) (by omega))
  have C := CG.1 319 13169 (z + 320) (by omega) (by omega)
  refine g_putF (pc := 190) C hnm fl_Mod_82 fw_Mod_parent ⟨_, _, rfl⟩ rE187_1 (by show z < z + 320; omega) (Nat.le_of_ble_eq_true rfl) ⟨rfl, rfl⟩ d_Mod_init_190 (fun E190 hE190 => ?_)
  have hF190 : frN z 1 E187 E190 := fun k hk => by rw [hE190, va_up_ne _ _ (by omega)]
  have fE190_1 : E190 z = .inr (9, [.ref (ka K (z + 1)), .ref (ka K (z + 155)), .int (nI 0), .int (nI 0), .int (nI 0), .ref (ka K (z + 309)), .int (nI 0), .ref (ka K (z + 310)), .int (nI 0), .ref (ka K (z + 311)), .ref (ka K (z + 312)), .int (nI 0), .ref (ka K (z + 313)), .ref (ka K (z + 315)), .int (nI 0), .ref (ka K (z + 317)), .int (nI 0), .ref (ka K (z + 318)), .null, .null]) := by rw [hE190]; exact va_up_self _ _ _
  have fE190_2 := (congrFun hE190 (z + 309)).trans ((va_up_ne _ _ (show z + 309 ≠ z from by omega)).trans rE187_2)
  have fE190_3 := (congrFun hE190 (z + 310)).trans ((va_up_ne _ _ (show z + 310 ≠ z from by omega)).trans rE187_3)
  have fE190_4 := (congrFun hE190 (z + 311)).trans ((va_up_ne _ _ (show z + 311 ≠ z from by omega)).trans rE187_4)
  have fE190_5 := (congrFun hE190 (z + 312)).trans ((va_up_ne _ _ (show z + 312 ≠ z from by omega)).trans rE187_5)
  have fE190_6 := (congrFun hE190 (z + 313)).trans ((va_up_ne _ _ (show z + 313 ≠ z from by omega)).trans rE187_6)
  have fE190_7 := (congrFun hE190 (z + 315)).trans ((va_up_ne _ _ (show z + 315 ≠ z from by omega)).trans rE187_7)
  have fE190_8 := (congrFun hE190 (z + 317)).trans ((va_up_ne _ _ (show z + 317 ≠ z from by omega)).trans rE187_8)
  have fE190_9 := (congrFun hE190 (z + 318)).trans ((va_up_ne _ _ (show z + 318 ≠ z from by omega)).trans hP187.1)
  have hP9_E12_E16_E20_E23_E30_E32_E39_E41_E47_E54_E59_E64_E69_E74_E79_E85_E91_E92_E98_E105_E110_E115_E120_E125_E130_E136_E142_E148_E149_E153_E157_E160_E164_E168_E171_E177_E179_E183_E187_E190 := hP9_E12_E16_E20_E23_E30_E32_E39_E41_E47_E54_E59_E64_E69_E74_E79_E85_E91_E92_E98_E105_E110_E115_E120_E125_E130_E136_E142_E148_E149_E153_E157_E160_E164_E168_E171_E177_E179_E183_E187.out hF190 (by omega)
  have hP20_E23_E30_E32_E39_E41_E47_E54_E59_E64_E69_E74_E79_E85_E91_E92_E98_E105_E110_E115_E120_E125_E130_E136_E142_E148_E149_E153_E157_E160_E164_E168_E171_E177_E179_E183_E187_E190 := hP20_E23_E30_E32_E39_E41_E47_E54_E59_E64_E69_E74_E79_E85_E91_E92_E98_E105_E110_E115_E120_E125_E130_E136_E142_E148_E149_E153_E157_E160_E164_E168_E171_E177_E179_E183_E187.out hF190 (by omega)
  have hP157_E160_E164_E168_E171_E177_E179_E183_E187_E190 := hP157_E160_E164_E168_E171_E177_E179_E183_E187.out hF190 (by omega)
  have hP168_E171_E177_E179_E183_E187_E190 := hP168_E171_E177_E179_E183_E187.out hF190 (by omega)
  have hP187_E190 := hP187.out hF190 (by omega)
  have FE190 : frN z 476 E E190 := FE187.trans (hF190.wide (by omega) (by omega))
  refine g_aload_n (pc := 193) C d_Mod_init_193 0 rfl ?_
  refine g_new (pc := 194) (N := z + 320) CG (kS_at CG.2.1 h0 (by omega)) (by omega) (ci := 8) rfl i_MRoom t_MRoom t_MRoom_ok cl_Mod_7 (tb4 16 rfl rfl) (tb1 10 rfl rfl) (fs := [.null, .null, .null, .null, .null, .int (nI 0), .null, .null, .null, .null, .null, .int (nI 0)]) hf_MRoom (k' := 320) (n' := 13181) (N' := z + 321) (by omega) (by omega) (by omega) (by omega) (by omega) d_Mod_init_194 (fun E194 hE194 => ?_)
  have hF194 : frN (z + 320) 1 E190 E194 := fun k hk => by rw [hE194, va_up_ne _ _ (by omega)]
  have fE194_1 := (congrFun hE194 z).trans ((va_up_ne _ _ (show z ≠ z + 320 from by omega)).trans fE190_1)
  have fE194_2 := (congrFun hE194 (z + 309)).trans ((va_up_ne _ _ (show z + 309 ≠ z + 320 from by omega)).trans fE190_2)
  have fE194_3 := (congrFun hE194 (z + 310)).trans ((va_up_ne _ _ (show z + 310 ≠ z + 320 from by omega)).trans fE190_3)
  have fE194_4 := (congrFun hE194 (z + 311)).trans ((va_up_ne _ _ (show z + 311 ≠ z + 320 from by omega)).trans fE190_4)
  have fE194_5 := (congrFun hE194 (z + 312)).trans ((va_up_ne _ _ (show z + 312 ≠ z + 320 from by omega)).trans fE190_5)
  have fE194_6 := (congrFun hE194 (z + 313)).trans ((va_up_ne _ _ (show z + 313 ≠ z + 320 from by omega)).trans fE190_6)
  have fE194_7 := (congrFun hE194 (z + 315)).trans ((va_up_ne _ _ (show z + 315 ≠ z + 320 from by omega)).trans fE190_7)
  have fE194_8 := (congrFun hE194 (z + 317)).trans ((va_up_ne _ _ (show z + 317 ≠ z + 320 from by omega)).trans fE190_8)
  have fE194_9 := (congrFun hE194 (z + 318)).trans ((va_up_ne _ _ (show z + 318 ≠ z + 320 from by omega)).trans fE190_9)
  have fN194 : E194 (z + 320) = .inr (8, [.null, .null, .null, .null, .null, .int (nI 0), .null, .null, .null, .null, .null, .int (nI 0)]) := by rw [hE194]; exact va_up_self _ _ _
  have hP9_E12_E16_E20_E23_E30_E32_E39_E41_E47_E54_E59_E64_E69_E74_E79_E85_E91_E92_E98_E105_E110_E115_E120_E125_E130_E136_E142_E148_E149_E153_E157_E160_E164_E168_E171_E177_E179_E183_E187_E190_E194 := hP9_E12_E16_E20_E23_E30_E32_E39_E41_E47_E54_E59_E64_E69_E74_E79_E85_E91_E92_E98_E105_E110_E115_E120_E125_E130_E136_E142_E148_E149_E153_E157_E160_E164_E168_E171_E177_E179_E183_E187_E190.out hF194 (by omega)
  have hP20_E23_E30_E32_E39_E41_E47_E54_E59_E64_E69_E74_E79_E85_E91_E92_E98_E105_E110_E115_E120_E125_E130_E136_E142_E148_E149_E153_E157_E160_E164_E168_E171_E177_E179_E183_E187_E190_E194 := hP20_E23_E30_E32_E39_E41_E47_E54_E59_E64_E69_E74_E79_E85_E91_E92_E98_E105_E110_E115_E120_E125_E130_E136_E142_E148_E149_E153_E157_E160_E164_E168_E171_E177_E179_E183_E187_E190.out hF194 (by omega)
  have hP157_E160_E164_E168_E171_E177_E179_E183_E187_E190_E194 := hP157_E160_E164_E168_E171_E177_E179_E183_E187_E190.out hF194 (by omega)
  have hP168_E171_E177_E179_E183_E187_E190_E194 := hP168_E171_E177_E179_E183_E187_E190.out hF194 (by omega)
  have hP187_E190_E194 := hP187_E190.out hF194 (by omega)
  have FE194 : frN z 476 E E194 := FE190.trans (hF194.wide (by omega) (by omega))
  have C := CG.1 320 13181 (z + 321) (by omega) (by omega)
  refine g_dup (pc := 197) C d_Mod_init_197 rfl ?_
  refine g_cG (pc := 198) (N := z + 321) (As := []) (rest := [.ref (ka K (z + 320)), .ref (ka K z)]) CG hO (kS_at CG.2.1 h0 (by omega)) (by omega) (c_MRoom_init _ K CG.2.1 _ (z + 320) (by omega) fN194) mw_MRoom_init rfl mo_MRoom_init ml_Mod_9 (by decide) rfl rfl (Nat.le_of_ble_eq_true rfl) (k' := 473) (n' := 19266) (N' := z + 474) (by omega) (by omega) (by omega) (by omega) (by omega) d_Mod_init_198 (fun E198 hp198 => ?_)
  obtain ⟨hP198, hF198⟩ := hp198
  have rE198_1 := (hF198 z (by omega)).trans (fE194_1)
  have rE198_2 := (hF198 (z + 309) (by omega)).trans (fE194_2)
  have rE198_3 := (hF198 (z + 310) (by omega)).trans (fE194_3)
  have rE198_4 := (hF198 (z + 311) (by omega)).trans (fE194_4)
  have rE198_5 := (hF198 (z + 312) (by omega)).trans (fE194_5)
  have rE198_6 := (hF198 (z + 313) (by omega)).trans (fE194_6)
  have rE198_7 := (hF198 (z + 315) (by omega)).trans (fE194_7)
  have rE198_8 := (hF198 (z + 317) (by omega)).trans (fE194_8)
  have rE198_9 := (hF198 (z + 318) (by omega)).trans (fE194_9)
  have hP9_E12_E16_E20_E23_E30_E32_E39_E41_E47_E54_E59_E64_E69_E74_E79_E85_E91_E92_E98_E105_E110_E115_E120_E125_E130_E136_E142_E148_E149_E153_E157_E160_E164_E168_E171_E177_E179_E183_E187_E190_E194_E198 := hP9_E12_E16_E20_E23_E30_E32_E39_E41_E47_E54_E59_E64_E69_E74_E79_E85_E91_E92_E98_E105_E110_E115_E120_E125_E130_E136_E142_E148_E149_E153_E157_E160_E164_E168_E171_E177_E179_E183_E187_E190_E194.out hF198 (by omega)
  have hP20_E23_E30_E32_E39_E41_E47_E54_E59_E64_E69_E74_E79_E85_E91_E92_E98_E105_E110_E115_E120_E125_E130_E136_E142_E148_E149_E153_E157_E160_E164_E168_E171_E177_E179_E183_E187_E190_E194_E198 := hP20_E23_E30_E32_E39_E41_E47_E54_E59_E64_E69_E74_E79_E85_E91_E92_E98_E105_E110_E115_E120_E125_E130_E136_E142_E148_E149_E153_E157_E160_E164_E168_E171_E177_E179_E183_E187_E190_E194.out hF198 (by omega)
  have hP157_E160_E164_E168_E171_E177_E179_E183_E187_E190_E194_E198 := hP157_E160_E164_E168_E171_E177_E179_E183_E187_E190_E194.out hF198 (by omega)
  have hP168_E171_E177_E179_E183_E187_E190_E194_E198 := hP168_E171_E177_E179_E183_E187_E190_E194.out hF198 (by omega)
  have hP187_E190_E194_E198 := hP187_E190_E194.out hF198 (by omega)
  have FE198 : frN z 476 E E198 := FE194.trans (hF198.wide (by omega) (by omega))
  have C := CG.1 473 19266 (z + 474) (by omega) (by omega)
  refine g_putF (pc := 201) C hnm fl_Mod_85 fw_Mod_before ⟨_, _, rfl⟩ rE198_1 (by show z < z + 474; omega) (Nat.le_of_ble_eq_true rfl) ⟨rfl, rfl⟩ d_Mod_init_201 (fun E201 hE201 => ?_)
  have hF201 : frN z 1 E198 E201 := fun k hk => by rw [hE201, va_up_ne _ _ (by omega)]
  have fE201_1 : E201 z = .inr (9, [.ref (ka K (z + 1)), .ref (ka K (z + 155)), .int (nI 0), .int (nI 0), .int (nI 0), .ref (ka K (z + 309)), .int (nI 0), .ref (ka K (z + 310)), .int (nI 0), .ref (ka K (z + 311)), .ref (ka K (z + 312)), .int (nI 0), .ref (ka K (z + 313)), .ref (ka K (z + 315)), .int (nI 0), .ref (ka K (z + 317)), .int (nI 0), .ref (ka K (z + 318)), .ref (ka K (z + 320)), .null]) := by rw [hE201]; exact va_up_self _ _ _
  have fE201_2 := (congrFun hE201 (z + 309)).trans ((va_up_ne _ _ (show z + 309 ≠ z from by omega)).trans rE198_2)
  have fE201_3 := (congrFun hE201 (z + 310)).trans ((va_up_ne _ _ (show z + 310 ≠ z from by omega)).trans rE198_3)
  have fE201_4 := (congrFun hE201 (z + 311)).trans ((va_up_ne _ _ (show z + 311 ≠ z from by omega)).trans rE198_4)
  have fE201_5 := (congrFun hE201 (z + 312)).trans ((va_up_ne _ _ (show z + 312 ≠ z from by omega)).trans rE198_5)
  have fE201_6 := (congrFun hE201 (z + 313)).trans ((va_up_ne _ _ (show z + 313 ≠ z from by omega)).trans rE198_6)
  have fE201_7 := (congrFun hE201 (z + 315)).trans ((va_up_ne _ _ (show z + 315 ≠ z from by omega)).trans rE198_7)
  have fE201_8 := (congrFun hE201 (z + 317)).trans ((va_up_ne _ _ (show z + 317 ≠ z from by omega)).trans rE198_8)
  have fE201_9 := (congrFun hE201 (z + 318)).trans ((va_up_ne _ _ (show z + 318 ≠ z from by omega)).trans rE198_9)
  have hP9_E12_E16_E20_E23_E30_E32_E39_E41_E47_E54_E59_E64_E69_E74_E79_E85_E91_E92_E98_E105_E110_E115_E120_E125_E130_E136_E142_E148_E149_E153_E157_E160_E164_E168_E171_E177_E179_E183_E187_E190_E194_E198_E201 := hP9_E12_E16_E20_E23_E30_E32_E39_E41_E47_E54_E59_E64_E69_E74_E79_E85_E91_E92_E98_E105_E110_E115_E120_E125_E130_E136_E142_E148_E149_E153_E157_E160_E164_E168_E171_E177_E179_E183_E187_E190_E194_E198.out hF201 (by omega)
  have hP20_E23_E30_E32_E39_E41_E47_E54_E59_E64_E69_E74_E79_E85_E91_E92_E98_E105_E110_E115_E120_E125_E130_E136_E142_E148_E149_E153_E157_E160_E164_E168_E171_E177_E179_E183_E187_E190_E194_E198_E201 := hP20_E23_E30_E32_E39_E41_E47_E54_E59_E64_E69_E74_E79_E85_E91_E92_E98_E105_E110_E115_E120_E125_E130_E136_E142_E148_E149_E153_E157_E160_E164_E168_E171_E177_E179_E183_E187_E190_E194_E198.out hF201 (by omega)
  have hP157_E160_E164_E168_E171_E177_E179_E183_E187_E190_E194_E198_E201 := hP157_E160_E164_E168_E171_E177_E179_E183_E187_E190_E194_E198.out hF201 (by omega)
  have hP168_E171_E177_E179_E183_E187_E190_E194_E198_E201 := hP168_E171_E177_E179_E183_E187_E190_E194_E198.out hF201 (by omega)
  have hP187_E190_E194_E198_E201 := hP187_E190_E194_E198.out hF201 (by omega)
  have hP198_E201 := hP198.out hF201 (by omega)
  have FE201 : frN z 476 E E201 := FE198.trans (hF201.wide (by omega) (by omega))
  refine g_aload_n (pc := 204) C d_Mod_init_204 0 rfl ?_
  refine g_new (pc := 205) (N := z + 474) CG (kS_at CG.2.1 h0 (by omega)) (by omega) (ci := 7) rfl i_MPath t_MPath t_MPath_ok cl_Mod_69 (tb4 25 rfl rfl) (tb1 11 rfl rfl) (fs := [.null, .int (nI 0)]) hf_MPath (k' := 474) (n' := 19268) (N' := z + 475) (by omega) (by omega) (by omega) (by omega) (by omega) d_Mod_init_205 (fun E205 hE205 => ?_)
  have hF205 : frN (z + 474) 1 E201 E205 := fun k hk => by rw [hE205, va_up_ne _ _ (by omega)]
  have fE205_1 := (congrFun hE205 z).trans ((va_up_ne _ _ (show z ≠ z + 474 from by omega)).trans fE201_1)
  have fE205_2 := (congrFun hE205 (z + 309)).trans ((va_up_ne _ _ (show z + 309 ≠ z + 474 from by omega)).trans fE201_2)
  have fE205_3 := (congrFun hE205 (z + 310)).trans ((va_up_ne _ _ (show z + 310 ≠ z + 474 from by omega)).trans fE201_3)
  have fE205_4 := (congrFun hE205 (z + 311)).trans ((va_up_ne _ _ (show z + 311 ≠ z + 474 from by omega)).trans fE201_4)
  have fE205_5 := (congrFun hE205 (z + 312)).trans ((va_up_ne _ _ (show z + 312 ≠ z + 474 from by omega)).trans fE201_5)
  have fE205_6 := (congrFun hE205 (z + 313)).trans ((va_up_ne _ _ (show z + 313 ≠ z + 474 from by omega)).trans fE201_6)
  have fE205_7 := (congrFun hE205 (z + 315)).trans ((va_up_ne _ _ (show z + 315 ≠ z + 474 from by omega)).trans fE201_7)
  have fE205_8 := (congrFun hE205 (z + 317)).trans ((va_up_ne _ _ (show z + 317 ≠ z + 474 from by omega)).trans fE201_8)
  have fE205_9 := (congrFun hE205 (z + 318)).trans ((va_up_ne _ _ (show z + 318 ≠ z + 474 from by omega)).trans fE201_9)
  have fN205 : E205 (z + 474) = .inr (7, [.null, .int (nI 0)]) := by rw [hE205]; exact va_up_self _ _ _
  have hP9_E12_E16_E20_E23_E30_E32_E39_E41_E47_E54_E59_E64_E69_E74_E79_E85_E91_E92_E98_E105_E110_E115_E120_E125_E130_E136_E142_E148_E149_E153_E157_E160_E164_E168_E171_E177_E179_E183_E187_E190_E194_E198_E201_E205 := hP9_E12_E16_E20_E23_E30_E32_E39_E41_E47_E54_E59_E64_E69_E74_E79_E85_E91_E92_E98_E105_E110_E115_E120_E125_E130_E136_E142_E148_E149_E153_E157_E160_E164_E168_E171_E177_E179_E183_E187_E190_E194_E198_E201.out hF205 (by omega)
  have hP20_E23_E30_E32_E39_E41_E47_E54_E59_E64_E69_E74_E79_E85_E91_E92_E98_E105_E110_E115_E120_E125_E130_E136_E142_E148_E149_E153_E157_E160_E164_E168_E171_E177_E179_E183_E187_E190_E194_E198_E201_E205 := hP20_E23_E30_E32_E39_E41_E47_E54_E59_E64_E69_E74_E79_E85_E91_E92_E98_E105_E110_E115_E120_E125_E130_E136_E142_E148_E149_E153_E157_E160_E164_E168_E171_E177_E179_E183_E187_E190_E194_E198_E201.out hF205 (by omega)
  have hP157_E160_E164_E168_E171_E177_E179_E183_E187_E190_E194_E198_E201_E205 := hP157_E160_E164_E168_E171_E177_E179_E183_E187_E190_E194_E198_E201.out hF205 (by omega)
  have hP168_E171_E177_E179_E183_E187_E190_E194_E198_E201_E205 := hP168_E171_E177_E179_E183_E187_E190_E194_E198_E201.out hF205 (by omega)
  have hP187_E190_E194_E198_E201_E205 := hP187_E190_E194_E198_E201.out hF205 (by omega)
  have hP198_E201_E205 := hP198_E201.out hF205 (by omega)
  have FE205 : frN z 476 E E205 := FE201.trans (hF205.wide (by omega) (by omega))
  have C := CG.1 474 19268 (z + 475) (by omega) (by omega)
  refine g_dup (pc := 208) C d_Mod_init_208 rfl ?_
  refine g_cGN (pc := 209) (N := z + 475) (As := []) (rest := [.ref (ka K (z + 474)), .ref (ka K z)]) CG hO (kS_at CG.2.1 h0 (by omega)) (by omega) (c_MPath_init _ K CG.2.1 _ (z + 474) (by omega) fN205) mw_MPath_init rfl mo_MPath_init (C.T.2.1 _ mn_Mod_71) (by decide) rfl rfl (Nat.le_of_ble_eq_true rfl) (k' := 475) (n' := 19316) (N' := z + 476) (by omega) (by omega) (by omega) (by omega) (by omega) d_Mod_init_209 (fun E209 hp209 => ?_)
  obtain ⟨hP209, hF209⟩ := hp209
  have rE209_1 := (hF209 z (by omega)).trans (fE205_1)
  have rE209_2 := (hF209 (z + 309) (by omega)).trans (fE205_2)
  have rE209_3 := (hF209 (z + 310) (by omega)).trans (fE205_3)
  have rE209_4 := (hF209 (z + 311) (by omega)).trans (fE205_4)
  have rE209_5 := (hF209 (z + 312) (by omega)).trans (fE205_5)
  have rE209_6 := (hF209 (z + 313) (by omega)).trans (fE205_6)
  have rE209_7 := (hF209 (z + 315) (by omega)).trans (fE205_7)
  have rE209_8 := (hF209 (z + 317) (by omega)).trans (fE205_8)
  have rE209_9 := (hF209 (z + 318) (by omega)).trans (fE205_9)
  have hP9_E12_E16_E20_E23_E30_E32_E39_E41_E47_E54_E59_E64_E69_E74_E79_E85_E91_E92_E98_E105_E110_E115_E120_E125_E130_E136_E142_E148_E149_E153_E157_E160_E164_E168_E171_E177_E179_E183_E187_E190_E194_E198_E201_E205_E209 := hP9_E12_E16_E20_E23_E30_E32_E39_E41_E47_E54_E59_E64_E69_E74_E79_E85_E91_E92_E98_E105_E110_E115_E120_E125_E130_E136_E142_E148_E149_E153_E157_E160_E164_E168_E171_E177_E179_E183_E187_E190_E194_E198_E201_E205.out hF209 (by omega)
  have hP20_E23_E30_E32_E39_E41_E47_E54_E59_E64_E69_E74_E79_E85_E91_E92_E98_E105_E110_E115_E120_E125_E130_E136_E142_E148_E149_E153_E157_E160_E164_E168_E171_E177_E179_E183_E187_E190_E194_E198_E201_E205_E209 := hP20_E23_E30_E32_E39_E41_E47_E54_E59_E64_E69_E74_E79_E85_E91_E92_E98_E105_E110_E115_E120_E125_E130_E136_E142_E148_E149_E153_E157_E160_E164_E168_E171_E177_E179_E183_E187_E190_E194_E198_E201_E205.out hF209 (by omega)
  have hP157_E160_E164_E168_E171_E177_E179_E183_E187_E190_E194_E198_E201_E205_E209 := hP157_E160_E164_E168_E171_E177_E179_E183_E187_E190_E194_E198_E201_E205.out hF209 (by omega)
  have hP168_E171_E177_E179_E183_E187_E190_E194_E198_E201_E205_E209 := hP168_E171_E177_E179_E183_E187_E190_E194_E198_E201_E205.out hF209 (by omega)
  have hP187_E190_E194_E198_E201_E205_E209 := hP187_E190_E194_E198_E201_E205.out hF209 (by omega)
  have hP198_E201_E205_E209 := hP198_E201_E205.out hF209 (by omega)
  have FE209 : frN z 476 E E209 := FE205.trans (hF209.wide (by omega) (by omega))
  have C := CG.1 475 19316 (z + 476) (by omega) (by omega)
  refine g_putF (pc := 212) C hnm fl_Mod_88 fw_Mod_made ⟨_, _, rfl⟩ rE209_1 (by show z < z + 476; omega) (Nat.le_of_ble_eq_true rfl) ⟨rfl, rfl⟩ d_Mod_init_212 (fun E212 hE212 => ?_)
  have hF212 : frN z 1 E209 E212 := fun k hk => by rw [hE212, va_up_ne _ _ (by omega)]
  have fE212_1 : E212 z = .inr (9, [.ref (ka K (z + 1)), .ref (ka K (z + 155)), .int (nI 0), .int (nI 0), .int (nI 0), .ref (ka K (z + 309)), .int (nI 0), .ref (ka K (z + 310)), .int (nI 0), .ref (ka K (z + 311)), .ref (ka K (z + 312)), .int (nI 0), .ref (ka K (z + 313)), .ref (ka K (z + 315)), .int (nI 0), .ref (ka K (z + 317)), .int (nI 0), .ref (ka K (z + 318)), .ref (ka K (z + 320)), .ref (ka K (z + 474))]) := by rw [hE212]; exact va_up_self _ _ _
  have fE212_2 := (congrFun hE212 (z + 309)).trans ((va_up_ne _ _ (show z + 309 ≠ z from by omega)).trans rE209_2)
  have fE212_3 := (congrFun hE212 (z + 310)).trans ((va_up_ne _ _ (show z + 310 ≠ z from by omega)).trans rE209_3)
  have fE212_4 := (congrFun hE212 (z + 311)).trans ((va_up_ne _ _ (show z + 311 ≠ z from by omega)).trans rE209_4)
  have fE212_5 := (congrFun hE212 (z + 312)).trans ((va_up_ne _ _ (show z + 312 ≠ z from by omega)).trans rE209_5)
  have fE212_6 := (congrFun hE212 (z + 313)).trans ((va_up_ne _ _ (show z + 313 ≠ z from by omega)).trans rE209_6)
  have fE212_7 := (congrFun hE212 (z + 315)).trans ((va_up_ne _ _ (show z + 315 ≠ z from by omega)).trans rE209_7)
  have fE212_8 := (congrFun hE212 (z + 317)).trans ((va_up_ne _ _ (show z + 317 ≠ z from by omega)).trans rE209_8)
  have fE212_9 := (congrFun hE212 (z + 318)).trans ((va_up_ne _ _ (show z + 318 ≠ z from by omega)).trans rE209_9)
  have fE212_10 := (congrFun hE212 (z + 474)).trans ((va_up_ne _ _ (show z + 474 ≠ z from by omega)).trans hP209.1)
  have hP9_E12_E16_E20_E23_E30_E32_E39_E41_E47_E54_E59_E64_E69_E74_E79_E85_E91_E92_E98_E105_E110_E115_E120_E125_E130_E136_E142_E148_E149_E153_E157_E160_E164_E168_E171_E177_E179_E183_E187_E190_E194_E198_E201_E205_E209_E212 := hP9_E12_E16_E20_E23_E30_E32_E39_E41_E47_E54_E59_E64_E69_E74_E79_E85_E91_E92_E98_E105_E110_E115_E120_E125_E130_E136_E142_E148_E149_E153_E157_E160_E164_E168_E171_E177_E179_E183_E187_E190_E194_E198_E201_E205_E209.out hF212 (by omega)
  have hP20_E23_E30_E32_E39_E41_E47_E54_E59_E64_E69_E74_E79_E85_E91_E92_E98_E105_E110_E115_E120_E125_E130_E136_E142_E148_E149_E153_E157_E160_E164_E168_E171_E177_E179_E183_E187_E190_E194_E198_E201_E205_E209_E212 := hP20_E23_E30_E32_E39_E41_E47_E54_E59_E64_E69_E74_E79_E85_E91_E92_E98_E105_E110_E115_E120_E125_E130_E136_E142_E148_E149_E153_E157_E160_E164_E168_E171_E177_E179_E183_E187_E190_E194_E198_E201_E205_E209.out hF212 (by omega)
  have hP157_E160_E164_E168_E171_E177_E179_E183_E187_E190_E194_E198_E201_E205_E209_E212 := hP157_E160_E164_E168_E171_E177_E179_E183_E187_E190_E194_E198_E201_E205_E209.out hF212 (by omega)
  have hP168_E171_E177_E179_E183_E187_E190_E194_E198_E201_E205_E209_E212 := hP168_E171_E177_E179_E183_E187_E190_E194_E198_E201_E205_E209.out hF212 (by omega)
  have hP187_E190_E194_E198_E201_E205_E209_E212 := hP187_E190_E194_E198_E201_E205_E209.out hF212 (by omega)
  have hP198_E201_E205_E209_E212 := hP198_E201_E205_E209.out hF212 (by omega)
  have hP209_E212 := hP209.out hF212 (by omega)
  have FE212 : frN z 476 E E212 := FE209.trans (hF212.wide (by omega) (by omega))
  have C9 := CG.1 475 19316 (z + 1 + 475) (by omega) (by omega)
  refine g_cst (k' := 475) (n' := 19316) (N' := z + 1 + 475) (by omega) (by omega) (by omega) (g_vretG (pc := 215) C9 hR d_Mod_init_215 ?_)
  have hS1 : isS K E212 (z + 311) 8 hdJ := ⟨_, fE212_4, fun j hj => by
    rcases (show j = 0 ∨ j = 1 ∨ j = 2 ∨ j = 3 ∨ j = 4 ∨ j = 5 ∨ j = 6 ∨ j = 7 by omega) with rfl | rfl | rfl | rfl | rfl | rfl | rfl | rfl <;> rfl⟩
  have hS2 : isS K E212 (z + 312) 9 vbJ := ⟨_, fE212_5, fun j hj => by
    rcases (show j = 0 ∨ j = 1 ∨ j = 2 ∨ j = 3 ∨ j = 4 ∨ j = 5 ∨ j = 6 ∨ j = 7 ∨ j = 8 by omega) with rfl | rfl | rfl | rfl | rfl | rfl | rfl | rfl | rfl <;> rfl⟩
  exact ⟨⟨fE212_1, hP9_E12_E16_E20_E23_E30_E32_E39_E41_E47_E54_E59_E64_E69_E74_E79_E85_E91_E92_E98_E105_E110_E115_E120_E125_E130_E136_E142_E148_E149_E153_E157_E160_E164_E168_E171_E177_E179_E183_E187_E190_E194_E198_E201_E205_E209_E212, hP20_E23_E30_E32_E39_E41_E47_E54_E59_E64_E69_E74_E79_E85_E91_E92_E98_E105_E110_E115_E120_E125_E130_E136_E142_E148_E149_E153_E157_E160_E164_E168_E171_E177_E179_E183_E187_E190_E194_E198_E201_E205_E209_E212, ⟨Nat.zero_le _, _, fE212_2, fun i h => absurd h (Nat.not_lt_zero _)⟩, ⟨Nat.zero_le _, _, fE212_3, fun i h => absurd h (Nat.not_lt_zero _)⟩, hS1, hS2, hP157_E160_E164_E168_E171_E177_E179_E183_E187_E190_E194_E198_E201_E205_E209_E212, hP168_E171_E177_E179_E183_E187_E190_E194_E198_E201_E205_E209_E212, fE212_8, hP187_E190_E194_E198_E201_E205_E209_E212, hP198_E201_E205_E209_E212, hP209_E212, hN⟩, FE212⟩
