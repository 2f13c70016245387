set_option maxHeartbeats 4000000 in
set_option maxRecDepth 100000 in
theorem w_Locks_init {X : gX} {K : gK} (CG : gCG X K b_Locks_init "DavRoom$Locks" 2 3 192 31 530) (hO : gO (xs X)) (hnm : (xM X).name = "<init>") (E : gE) (q : Nat) (h0 : (xs X).heap.size = ka K (q + 1)) (post : gE → Prop) (hR : gRG X K (q + 1) 31 530 post) (hN : q + 32 ≤ kN K) (hfin : ∀ E', isLL K E' q (nI 0) [] → frN q 32 E E' → post E') : ∀ (d i : Nat) (E1 : gE) (f : Nat → Option Nat), i ≤ 10 → 11 ≤ i + d → E1 q = .inr (2, [.ref (ka K (q + 1)), .int (nI 0), .int (nI 0)]) → E1 (q + 1) = .inl (kc K 2, 10, .inr (.inr (.inr (.inr f)))) → (∀ j, j < i → f j = some (ka K (q + 2 + 3 * j))) → (∀ j, j < i → isL K E1 (q + 2 + 3 * j) ([], nI 0, nI 0, false, false)) → frN q 32 E E1 → gW (gXa X (1 + 3 * i) (10 + 52 * i)) (gKa K (q + 2 + 3 * i)) E1 15 [(1, .int (nI i)), (0, .ref (ka K q))] [] := by
  intro d
  induction d with
  | zero =>
    intro i E1 f h1 h2
    exact absurd h2 (by omega)
  | succ d ih =>
    intro i E1 f hi hd hq0 hq1 hf hL hfr
    have C := CG.1 (1 + 3 * i) (10 + 52 * i) (q + 2 + 3 * i) (by omega) (by omega)
    refine g_iload_n (pc := 15) C d_Locks_init_15 0 rfl ?_
    refine g_aload_n (pc := 16) C d_Locks_init_16 1 rfl ?_
    refine g_get (pc := 17) C fl_Locks_11 hq0 (by show q < q + 2 + 3 * i; omega) rfl d_Locks_init_17 ?_
    refine g_alen (pc := 20) (n := 10) C hq1 (by show q + 1 < q + 2 + 3 * i; omega) (gt_L _) rfl d_Locks_init_20 ?_
    refine g_icmp_geN (pc := 21) C 43 d_Locks_init_21 (by decide) (by omega) (by omega) (fun h_21 => ?_) (fun h_21 => ?_)
    · skip
      have ei : i = 10 := by omega
      subst ei
      have C9 := CG.1 31 530 (q + 1 + 31) (by omega) (by omega)
      refine g_cst (k' := 31) (n' := 530) (N' := q + 1 + 31) (by omega) (by omega) (by omega) (g_vretG (pc := 43) C9 hR d_Locks_init_43 ?_)
      exact hfin E1 ⟨id, fun _ => ([], nI 0, nI 0, false, false), f, hq0, hq1, hf, ⟨fun j h => h, fun _ _ _ _ e => e⟩, hL, Nat.zero_le _, fun i h => absurd h (Nat.not_lt_zero _), hN⟩ hfr
    · skip
      refine g_aload_n (pc := 24) C d_Locks_init_24 1 rfl ?_
      refine g_get (pc := 25) C fl_Locks_11 hq0 (by show q < q + 2 + 3 * i; omega) rfl d_Locks_init_25 ?_
      refine g_iload_n (pc := 28) C d_Locks_init_28 0 rfl ?_
      refine g_new (pc := 29) (N := q + 2 + 3 * i) CG (kS_at CG.2.1 h0 (by omega)) (by omega) (ci := 1) rfl i_Lock t_Lock t_Lock_ok cl_Locks_9 (tb1 164 rfl rfl) (tb1 8 rfl rfl) (fs := [.null, .int (nI 0), .int (nI 0), .int (nI 0), .int (nI 0)]) hf_Lock (k' := 1 + 3 * i + 1) (n' := 10 + 52 * i + 5) (N' := q + 2 + 3 * i + 1) (by omega) (by omega) (by omega) (by omega) (by omega) d_Locks_init_29 (fun E29 hE29 => ?_)
      have hF29 : frN (q + 2 + 3 * i) 1 E1 E29 := fun k hk => by rw [hE29, va_up_ne _ _ (by omega)]
      have fE29_1 := (congrFun hE29 q).trans ((va_up_ne _ _ (show q ≠ q + 2 + 3 * i from by omega)).trans hq0)
      have fE29_2 := (congrFun hE29 (q + 1)).trans ((va_up_ne _ _ (show q + 1 ≠ q + 2 + 3 * i from by omega)).trans hq1)
      have fN29 : E29 (q + 2 + 3 * i) = .inr (1, [.null, .int (nI 0), .int (nI 0), .int (nI 0), .int (nI 0)]) := by rw [hE29]; exact va_up_self _ _ _
      have FE29 : frN q 32 E E29 := hfr.trans (hF29.wide (by omega) (by omega))
      have C := CG.1 (1 + 3 * i + 1) (10 + 52 * i + 5) (q + 2 + 3 * i + 1) (by omega) (by omega)
      refine g_dup (pc := 32) C d_Locks_init_32 rfl ?_
      refine g_cGN (pc := 33) (N := q + 2 + 3 * i + 1) (As := []) (rest := [.ref (ka K (q + 2 + 3 * i)), .int (nI i), .ref (ka K (q + 1))]) CG hO (kS_at CG.2.1 h0 (by omega)) (by omega) (c_Lock_init _ K CG.2.1 _ (q + 2 + 3 * i) (by omega) fN29) mw_Lock_init rfl mo_Lock_init (C.T.2.1 _ mn_Locks_15) (by decide) rfl rfl (Nat.le_of_ble_eq_true rfl) (k' := 1 + 3 * i + 3) (n' := 10 + 52 * i + 52) (N' := q + 2 + 3 * i + 3) (by omega) (by omega) (by omega) (by omega) (by omega) d_Locks_init_33 (fun E33 hp33 => ?_)
      obtain ⟨hP33, hF33⟩ := hp33
      have rE33_1 := (hF33 q (by omega)).trans (fE29_1)
      have rE33_2 := (hF33 (q + 1) (by omega)).trans (fE29_2)
      have FE33 : frN q 32 E E33 := FE29.trans (hF33.wide (by omega) (by omega))
      have C := CG.1 (1 + 3 * i + 3) (10 + 52 * i + 52) (q + 2 + 3 * i + 3) (by omega) (by omega)
      refine g_astN (pc := 36) C rE33_2 (by show q + 1 < q + 2 + 3 * i + 3; omega) (gt_L _) (by omega) (by omega) hP33.1 (by show q + 2 + 3 * i < q + 2 + 3 * i + 3; omega) rfl d_Locks_init_36 (fun E36 hE36 => ?_)
      have hF36 : frN (q + 1) 1 E33 E36 := fun k hk => by rw [hE36, va_up_ne _ _ (by omega)]
      have fE36_1 := (congrFun hE36 q).trans ((va_up_ne _ _ (show q ≠ q + 1 from by omega)).trans rE33_1)
      have fE36_2 : E36 (q + 1) = .inl (kc K 2, 10, .inr (.inr (.inr (.inr (va_up f i (some (ka K (q + 2 + 3 * i)))))))) := by rw [hE36]; exact va_up_self _ _ _
      have fE36_3 := (congrFun hE36 (q + 2 + 3 * i)).trans ((va_up_ne _ _ (show q + 2 + 3 * i ≠ q + 1 from by omega)).trans hP33.1)
      have hP33_E36 := hP33.out hF36 (by omega)
      have FE36 : frN q 32 E E36 := FE33.trans (hF36.wide (by omega) (by omega))
      refine g_iinc (pc := 37) (pl := 0) (v := nI (i + 1)) (lv' := [(1, .int (nI (i + 1))), (0, .ref (ka K q))]) C d_Locks_init_37 rfl (nI_1 _) (by decide) rfl ?_
      refine g_goto (pc := 40) C 15 d_Locks_init_40 (by decide) ?_
      refine g_lv [0, 1] rfl (g_cst (by omega) (by omega) (by omega) (ih (i + 1) E36 _ (by omega) (by omega) fE36_1 fE36_2 (fun j h => ?_) (fun j h => ?_) FE36))
      · by_cases e : j = i
        · subst e
          rw [va_up_self]
        · rw [va_up_ne _ _ e]
          exact hf j (by omega)
      · by_cases e : j = i
        · subst e
          exact hP33_E36
        · exact (((hL j (by omega)).out hF29 (by omega)).out hF33 (by omega)).out hF36 (by omega)

set_option maxHeartbeats 4000000 in
set_option maxRecDepth 100000 in
theorem c_Locks_init (l : Launch) (K : gK) (hs : kS K) (E : gE) (q : Nat) (hN : q + 32 ≤ kN K) (hE : E q = .inr (2, [.null, .int (nI 0), .int (nI 0)])) : gMG l y_Locks_init b_Locks_init 2 3 192 31 530 K (q + 1) E [.ref (ka K q)] (fun E' => isLL K E' q (nI 0) [] ∧ frN q 32 E E') := by
  refine g_metG (by decide +kernel) (Nat.le_of_ble_eq_true rfl) rfl hs (fun X hl CG hO hnm h0 hR => ?_)
  subst hl
  show gW (gXa X 0 0) (gKa K (q + 1)) E 0 [(0, .ref (ka K q))] []
  have C := CG.1 0 0 (q + 1) (by omega) (by omega)
  refine g_aload_n (pc := 0) C d_Locks_init_0 0 rfl ?_
  refine g_objI (pc := 1) C ml_Locks_1 d_Locks_init_1 (by decide) (by decide) ?_
  refine g_aload_n (pc := 4) C d_Locks_init_4 0 rfl ?_
  refine g_bipush (pc := 5) (v := nI 10) C d_Locks_init_5 (by decide) ?_
  refine g_newq (pc := 7) (N := q + 1) CG (kS_at CG.2.1 h0 (by omega)) (by omega) cl_Locks_9 hO.2.1 (t0 := 2) rfl (len := 10) (by omega) (k' := 1) (n' := 10) (N' := q + 2) (by omega) (by omega) (by omega) (by omega) (by omega) d_Locks_init_7 (fun E7 hE7 => ?_)
  have hF7 : frN (q + 1) 1 E E7 := fun k hk => by rw [hE7, va_up_ne _ _ (by omega)]
  have fE7_1 := (congrFun hE7 q).trans ((va_up_ne _ _ (show q ≠ q + 1 from by omega)).trans hE)
  have fN7 : E7 (q + 1) = .inl (kc K 2, 10, .inr (.inr (.inr (.inr (fun _ => none))))) := by rw [hE7]; exact va_up_self _ _ _
  have FE7 : frN q 32 E E7 := frN.refl.trans (hF7.wide (by omega) (by omega))
  have C := CG.1 1 10 (q + 2) (by omega) (by omega)
  refine g_putF (pc := 10) C hnm fl_Locks_11 fw_Locks_all ⟨_, _, rfl⟩ fE7_1 (by show q < q + 2; omega) (Nat.le_of_ble_eq_true rfl) ⟨rfl, rfl⟩ d_Locks_init_10 (fun E10 hE10 => ?_)
  have hF10 : frN q 1 E7 E10 := fun k hk => by rw [hE10, va_up_ne _ _ (by omega)]
  have fE10_1 : E10 q = .inr (2, [.ref (ka K (q + 1)), .int (nI 0), .int (nI 0)]) := by rw [hE10]; exact va_up_self _ _ _
  have fE10_2 := (congrFun hE10 (q + 1)).trans ((va_up_ne _ _ (show q + 1 ≠ q from by omega)).trans fN7)
  have FE10 : frN q 32 E E10 := FE7.trans (hF10.wide (by omega) (by omega))
  refine g_iconst (pc := 13) (v := nI 0) C d_Locks_init_13 (by decide) ?_
  refine g_istore_n (pc := 14) (lv' := [(1, .int (nI 0)), (0, .ref (ka K q))]) C d_Locks_init_14 rfl (by decide) rfl ?_
  exact g_lv [0, 1] rfl (g_cst (by omega) (by omega) (by omega) (w_Locks_init CG hO hnm E q h0 _ hR hN (fun E' y1 y2 => ⟨y1, y2⟩) 11 0 E10 _ (by omega) (by omega) fE10_1 fE10_2 (fun j h => absurd h (Nat.not_lt_zero _)) (fun j h => absurd h (Nat.not_lt_zero _)) FE10))

set_option maxHeartbeats 4000000 in
set_option maxRecDepth 100000 in
theorem w_Tree_init {X : gX} {K : gK} (CG : gCG X K b_Tree_init "DavRoom$Tree" 2 3 192 206 5494) (hO : gO (xs X)) (hnm : (xM X).name = "<init>") (E : gE) (q : Nat) (h0 : (xs X).heap.size = ka K (q + 1)) (post : gE → Prop) (hR : gRG X K (q + 1) 206 5494 post) (hN : q + 207 ≤ kN K) (hfin : ∀ E', isTT K E' q (nI 0) [([47], [], false, nI 0)] → frN q 207 E E' → post E') : ∀ (d i : Nat) (E1 : gE) (f : Nat → Option Nat), i ≤ 41 → 42 ≤ i + d → E1 q = .inr (5, [.ref (ka K (q + 1)), .int (nI 0), .int (nI 0)]) → E1 (q + 1) = .inl (kc K 1, 41, .inr (.inr (.inr (.inr f)))) → (∀ j, j < i → f j = some (ka K (q + 2 + 5 * j))) → (∀ j, j < i → isR K E1 (q + 2 + 5 * j) ([], [], false, nI 0)) → frN q 207 E E1 → gW (gXa X (1 + 5 * i) (41 + 133 * i)) (gKa K (q + 2 + 5 * i)) E1 15 [(1, .int (nI i)), (0, .ref (ka K q))] [] := by
  intro d
  induction d with
  | zero =>
    intro i E1 f h1 h2
    exact absurd h2 (by omega)
  | succ d ih =>
    intro i E1 f hi hd hq0 hq1 hf hL hfr
    have C := CG.1 (1 + 5 * i) (41 + 133 * i) (q + 2 + 5 * i) (by omega) (by omega)
    refine g_iload_n (pc := 15) C d_Tree_init_15 0 rfl ?_
    refine g_aload_n (pc := 16) C d_Tree_init_16 1 rfl ?_
    refine g_get (pc := 17) C fl_Tree_11 hq0 (by show q < q + 2 + 5 * i; omega) rfl d_Tree_init_17 ?_
    refine g_alen (pc := 20) (n := 41) C hq1 (by show q + 1 < q + 2 + 5 * i; omega) (gt_R _) rfl d_Tree_init_20 ?_
    refine g_icmp_geN (pc := 21) C 43 d_Tree_init_21 (by decide) (by omega) (by omega) (fun h_21 => ?_) (fun h_21 => ?_)
    · skip
      have ei : i = 41 := by omega
      subst ei
      obtain ⟨hr0, hr1, hr2⟩ := hL 0 (by omega)
      obtain ⟨hb0, hb1, hb2, hb3, fb, hb4, hb5⟩ := hr1
      have hBB : isB (gKa K (q + 2 + 5 * 41)) E1 (q + 3) 45 [] := ⟨hb0, hb1, (by show q + 3 + 1 < q + 2 + 5 * 41; omega), hb3, fb, hb4, hb5⟩
      show gW (gXa X (1 + 5 * 41) (41 + 133 * 41)) (gKa K (q + 2 + 5 * 41)) E1 43 [(1, .int (nI 41)), (0, .ref (ka K q))] []
      refine g_aload_n (pc := 43) C d_Tree_init_43 1 rfl ?_
      refine g_get (pc := 44) C fl_Tree_11 hq0 (by show q < q + 2 + 5 * 41; omega) rfl d_Tree_init_44 ?_
      refine g_iconst (pc := 47) (v := nI 0) C d_Tree_init_47 (by decide) ?_
      refine g_aldN (pc := 48) C hq1 (by show q + 1 < q + 2 + 5 * 41; omega) (gt_R _) (by omega) (by omega) d_Tree_init_48 (hv := rf_at (hf 0 (by omega))) ?_
      refine g_get (pc := 49) C fl_Tree_16 hr0 (by show q + 2 < q + 2 + 5 * 41; omega) rfl d_Tree_init_49 ?_
      refine g_bipush (pc := 52) (v := nI 47) C d_Tree_init_52 (by decide) ?_
      refine g_cv (pc := 54) C (g_rV (As := [.int (nI 47)]) (rest := []) C (c_Bytes_add _ (gKa K (q + 2 + 5 * 41)) _ (q + 3) 45 [] (nI 47) (by decide) hBB) mw_Bytes_add mo_Bytes_add ml_Tree_20 (by decide) hb0 rfl (by show q + 3 < q + 2 + 5 * 41; omega) rfl rfl (Nat.le_of_ble_eq_true rfl) d_Tree_init_54) (fun E54 hp54 => ?_)
      obtain ⟨hB54, hF54⟩ := hp54
      have hF54 : frN (q + 3) 2 E1 E54 := fun k hk => hF54 k (by omega) (by omega)
      have rE54_1 := (hF54 q (by omega)).trans (hq0)
      have rE54_2 := (hF54 (q + 1) (by omega)).trans (hq1)
      have FE54 : frN q 207 E E54 := hfr.trans (hF54.wide (by omega) (by omega))
      refine g_aload_n (pc := 57) C d_Tree_init_57 1 rfl ?_
      refine g_iconst (pc := 58) (v := nI 1) C d_Tree_init_58 (by decide) ?_
      refine g_put (pc := 59) C fl_Tree_26 fw_Tree_size rE54_1 (by show q < q + 2 + 5 * 41; omega) (Nat.le_of_ble_eq_true rfl) ⟨rfl, rfl⟩ d_Tree_init_59 (fun E59 hE59 => ?_)
      have hF59 : frN q 1 E54 E59 := fun k hk => by rw [hE59, va_up_ne _ _ (by omega)]
      have fE59_1 : E59 q = .inr (5, [.ref (ka K (q + 1)), .int (nI 1), .int (nI 0)]) := by rw [hE59]; exact va_up_self _ _ _
      have fE59_2 := (congrFun hE59 (q + 1)).trans ((va_up_ne _ _ (show q + 1 ≠ q from by omega)).trans rE54_2)
      have FE59 : frN q 207 E E59 := FE54.trans (hF59.wide (by omega) (by omega))
      have C9 := CG.1 206 5494 (q + 1 + 206) (by omega) (by omega)
      refine g_cst (k' := 206) (n' := 5494) (N' := q + 1 + 206) (by omega) (by omega) (by omega) (g_vretG (pc := 62) C9 hR d_Tree_init_62 ?_)
      obtain ⟨k0, k1, k2, k3, fk, k4, k5⟩ := hB54
      have hroot : isR K E59 (q + 2) ([47], [], false, nI 0) := by
        refine ⟨(hF59 _ (by omega)).trans ((hF54 _ (by omega)).trans hr0), ?_, (hr2.out hF54 (by omega)).out hF59 (by omega)⟩
        exact isB.out (E := E54) ⟨k0, k1, by show q + 2 + 1 + 1 < kN K; omega, k3, fk, k4, k5⟩ hF59 (by omega)
      refine hfin E59 ⟨id, fun j => if j = 0 then ([47], [], false, nI 0) else ([], [], false, nI 0), f, fE59_1, fE59_2, hf, ⟨fun j h => h, fun _ _ _ _ e => e⟩, fun j hj => ?_, by decide, fun i h => ?_, hN⟩ FE59
      · by_cases e : j = 0
        · subst e
          exact hroot
        · simp only [if_neg e]
          exact ((hL j hj).out hF54 (by omega)).out hF59 (by omega)
      · have e : i = 0 := by
          have h9 : i < 1 := h
          omega
        subst e
        rfl
    · skip
      refine g_aload_n (pc := 24) C d_Tree_init_24 1 rfl ?_
      refine g_get (pc := 25) C fl_Tree_11 hq0 (by show q < q + 2 + 5 * i; omega) rfl d_Tree_init_25 ?_
      refine g_iload_n (pc := 28) C d_Tree_init_28 0 rfl ?_
      refine g_new (pc := 29) (N := q + 2 + 5 * i) CG (kS_at CG.2.1 h0 (by omega)) (by omega) (ci := 4) rfl i_Res t_Res t_Res_ok cl_Tree_9 (tb1 114 rfl rfl) (tb1 6 rfl rfl) (fs := [.null, .null, .int (nI 0), .int (nI 0)]) hf_Res (k' := 1 + 5 * i + 1) (n' := 41 + 133 * i + 4) (N' := q + 2 + 5 * i + 1) (by omega) (by omega) (by omega) (by omega) (by omega) d_Tree_init_29 (fun E29 hE29 => ?_)
      have hF29 : frN (q + 2 + 5 * i) 1 E1 E29 := fun k hk => by rw [hE29, va_up_ne _ _ (by omega)]
      have fE29_1 := (congrFun hE29 q).trans ((va_up_ne _ _ (show q ≠ q + 2 + 5 * i from by omega)).trans hq0)
      have fE29_2 := (congrFun hE29 (q + 1)).trans ((va_up_ne _ _ (show q + 1 ≠ q + 2 + 5 * i from by omega)).trans hq1)
      have fN29 : E29 (q + 2 + 5 * i) = .inr (4, [.null, .null, .int (nI 0), .int (nI 0)]) := by rw [hE29]; exact va_up_self _ _ _
      have FE29 : frN q 207 E E29 := hfr.trans (hF29.wide (by omega) (by omega))
      have C := CG.1 (1 + 5 * i + 1) (41 + 133 * i + 4) (q + 2 + 5 * i + 1) (by omega) (by omega)
      refine g_dup (pc := 32) C d_Tree_init_32 rfl ?_
      refine g_cGN (pc := 33) (N := q + 2 + 5 * i + 1) (As := []) (rest := [.ref (ka K (q + 2 + 5 * i)), .int (nI i), .ref (ka K (q + 1))]) CG hO (kS_at CG.2.1 h0 (by omega)) (by omega) (c_Res_init _ K CG.2.1 _ (q + 2 + 5 * i) (by omega) fN29) mw_Res_init rfl mo_Res_init (C.T.2.1 _ mn_Tree_15) (by decide) rfl rfl (Nat.le_of_ble_eq_true rfl) (k' := 1 + 5 * i + 5) (n' := 41 + 133 * i + 133) (N' := q + 2 + 5 * i + 5) (by omega) (by omega) (by omega) (by omega) (by omega) d_Tree_init_33 (fun E33 hp33 => ?_)
      obtain ⟨hP33, hF33⟩ := hp33
      have rE33_1 := (hF33 q (by omega)).trans (fE29_1)
      have rE33_2 := (hF33 (q + 1) (by omega)).trans (fE29_2)
      have FE33 : frN q 207 E E33 := FE29.trans (hF33.wide (by omega) (by omega))
      have C := CG.1 (1 + 5 * i + 5) (41 + 133 * i + 133) (q + 2 + 5 * i + 5) (by omega) (by omega)
      refine g_astN (pc := 36) C rE33_2 (by show q + 1 < q + 2 + 5 * i + 5; omega) (gt_R _) (by omega) (by omega) hP33.1 (by show q + 2 + 5 * i < q + 2 + 5 * i + 5; omega) rfl d_Tree_init_36 (fun E36 hE36 => ?_)
      have hF36 : frN (q + 1) 1 E33 E36 := fun k hk => by rw [hE36, va_up_ne _ _ (by omega)]
      have fE36_1 := (congrFun hE36 q).trans ((va_up_ne _ _ (show q ≠ q + 1 from by omega)).trans rE33_1)
      have fE36_2 : E36 (q + 1) = .inl (kc K 1, 41, .inr (.inr (.inr (.inr (va_up f i (some (ka K (q + 2 + 5 * i)))))))) := by rw [hE36]; exact va_up_self _ _ _
      have fE36_3 := (congrFun hE36 (q + 2 + 5 * i)).trans ((va_up_ne _ _ (show q + 2 + 5 * i ≠ q + 1 from by omega)).trans hP33.1)
      have hP33_E36 := hP33.out hF36 (by omega)
      have FE36 : frN q 207 E E36 := FE33.trans (hF36.wide (by omega) (by omega))
      refine g_iinc (pc := 37) (pl := 0) (v := nI (i + 1)) (lv' := [(1, .int (nI (i + 1))), (0, .ref (ka K q))]) C d_Tree_init_37 rfl (nI_1 _) (by decide) rfl ?_
      refine g_goto (pc := 40) C 15 d_Tree_init_40 (by decide) ?_
      refine g_lv [0, 1] rfl (g_cst (by omega) (by omega) (by omega) (ih (i + 1) E36 _ (by omega) (by omega) fE36_1 fE36_2 (fun j h => ?_) (fun j h => ?_) FE36))
      · by_cases e : j = i
        · subst e
          rw [va_up_self]
        · rw [va_up_ne _ _ e]
          exact hf j (by omega)
      · by_cases e : j = i
        · subst e
          exact hP33_E36
        · exact (((hL j (by omega)).out hF29 (by omega)).out hF33 (by omega)).out hF36 (by omega)

set_option maxHeartbeats 4000000 in
set_option maxRecDepth 100000 in
theorem c_Tree_init (l : Launch) (K : gK) (hs : kS K) (E : gE) (q : Nat) (hN : q + 207 ≤ kN K) (hE : E q = .inr (5, [.null, .int (nI 0), .int (nI 0)])) : gMG l y_Tree_init b_Tree_init 2 3 192 206 5494 K (q + 1) E [.ref (ka K q)] (fun E' => isTT K E' q (nI 0) [([47], [], false, nI 0)] ∧ frN q 207 E E') := by
  refine g_metG (by decide +kernel) (Nat.le_of_ble_eq_true rfl) rfl hs (fun X hl CG hO hnm h0 hR => ?_)
  subst hl
  show gW (gXa X 0 0) (gKa K (q + 1)) E 0 [(0, .ref (ka K q))] []
  have C := CG.1 0 0 (q + 1) (by omega) (by omega)
  refine g_aload_n (pc := 0) C d_Tree_init_0 0 rfl ?_
  refine g_objI (pc := 1) C ml_Tree_1 d_Tree_init_1 (by decide) (by decide) ?_
  refine g_aload_n (pc := 4) C d_Tree_init_4 0 rfl ?_
  refine g_bipush (pc := 5) (v := nI 41) C d_Tree_init_5 (by decide) ?_
  refine g_newq (pc := 7) (N := q + 1) CG (kS_at CG.2.1 h0 (by omega)) (by omega) cl_Tree_9 hO.1 (t0 := 1) rfl (len := 41) (by omega) (k' := 1) (n' := 41) (N' := q + 2) (by omega) (by omega) (by omega) (by omega) (by omega) d_Tree_init_7 (fun E7 hE7 => ?_)
  have hF7 : frN (q + 1) 1 E E7 := fun k hk => by rw [hE7, va_up_ne _ _ (by omega)]
  have fE7_1 := (congrFun hE7 q).trans ((va_up_ne _ _ (show q ≠ q + 1 from by omega)).trans hE)
  have fN7 : E7 (q + 1) = .inl (kc K 1, 41, .inr (.inr (.inr (.inr (fun _ => none))))) := by rw [hE7]; exact va_up_self _ _ _
  have FE7 : frN q 207 E E7 := frN.refl.trans (hF7.wide (by omega) (by omega))
  have C := CG.1 1 41 (q + 2) (by omega) (by omega)
  refine g_putF (pc := 10) C hnm fl_Tree_11 fw_Tree_all ⟨_, _, rfl⟩ fE7_1 (by show q < q + 2; omega) (Nat.le_of_ble_eq_true rfl) ⟨rfl, rfl⟩ d_Tree_init_10 (fun E10 hE10 => ?_)
  have hF10 : frN q 1 E7 E10 := fun k hk => by rw [hE10, va_up_ne _ _ (by omega)]
  have fE10_1 : E10 q = .inr (5, [.ref (ka K (q + 1)), .int (nI 0), .int (nI 0)]) := by rw [hE10]; exact va_up_self _ _ _
  have fE10_2 := (congrFun hE10 (q + 1)).trans ((va_up_ne _ _ (show q + 1 ≠ q from by omega)).trans fN7)
  have FE10 : frN q 207 E E10 := FE7.trans (hF10.wide (by omega) (by omega))
  refine g_iconst (pc := 13) (v := nI 0) C d_Tree_init_13 (by decide) ?_
  refine g_istore_n (pc := 14) (lv' := [(1, .int (nI 0)), (0, .ref (ka K q))]) C d_Tree_init_14 rfl (by decide) rfl ?_
  exact g_lv [0, 1] rfl (g_cst (by omega) (by omega) (by omega) (w_Tree_init CG hO hnm E q h0 _ hR hN (fun E' y1 y2 => ⟨y1, y2⟩) 42 0 E10 _ (by omega) (by omega) fE10_1 fE10_2 (fun j h => absurd h (Nat.not_lt_zero _)) (fun j h => absurd h (Nat.not_lt_zero _)) FE10))

set_option maxHeartbeats 4000000 in
set_option maxRecDepth 100000 in
theorem c_Dav_init (l : Launch) (K : gK) (hs : kS K) (E : gE) (x : Nat) (hN : x + 490 ≤ kN K) (hE : E x = .inr (6, [.null, .null, .null, .null, .null, .null, .null, .int (nI 0)])) : gMG l y_Dav_init b_Dav_init 1 4 256 489 13053 K (x + 1) E [.ref (ka K x)] (fun E' => isD K E' x [] [] [] [] [] 0 0 (nI 0) (nI 0) (nI 0) false false false (nI 0) 0 (nI 0) [([47], [], false, nI 0)] (nI 0) [([47], [], false, nI 0)] (nI 0) [] (nI 0) [] (nI 0) ∧ frN x 490 E E') := by
  refine g_metG (by decide +kernel) (Nat.le_of_ble_eq_true rfl) rfl hs (fun X hl CG hO hnm h0 hR => ?_)
  subst hl
  show gW (gXa X 0 0) (gKa K (x + 1)) E 0 [(0, .ref (ka K x))] []
  have C := CG.1 0 0 (x + 1) (by omega) (by omega)
  refine g_aload_n (pc := 0) C d_Dav_init_0 0 rfl ?_
  refine g_objI (pc := 1) C ml_Dav_1 d_Dav_init_1 (by decide) (by decide) ?_
  refine g_aload_n (pc := 4) C d_Dav_init_4 0 rfl ?_
  refine g_new (pc := 5) (N := x + 1) CG (kS_at CG.2.1 h0 (by omega)) (by omega) (ci := 0) rfl i_Bytes t_Bytes t_Bytes_ok cl_Dav_7 (tb1 27 rfl rfl) (tb1 2 rfl rfl) (fs := [.null, .int (nI 0)]) hf_Bytes (k' := 1) (n' := 2) (N' := x + 2) (by omega) (by omega) (by omega) (by omega) (by omega) d_Dav_init_5 (fun E5 hE5 => ?_)
  have hF5 : frN (x + 1) 1 E E5 := fun k hk => by rw [hE5, va_up_ne _ _ (by omega)]
  have fE5_1 := (congrFun hE5 x).trans ((va_up_ne _ _ (show x ≠ x + 1 from by omega)).trans hE)
  have fN5 : E5 (x + 1) = .inr (0, [.null, .int (nI 0)]) := by rw [hE5]; exact va_up_self _ _ _
  have FE5 : frN x 490 E E5 := frN.refl.trans (hF5.wide (by omega) (by omega))
  have C := CG.1 1 2 (x + 2) (by omega) (by omega)
  refine g_dup (pc := 8) C d_Dav_init_8 rfl ?_
  refine g_sipush (pc := 9) (v := nI 400) C d_Dav_init_9 (by decide) ?_
  refine g_cG (pc := 12) (N := x + 2) (As := [.int (nI 400)]) (rest := [.ref (ka K (x + 1)), .ref (ka K x)]) CG hO (kS_at CG.2.1 h0 (by omega)) (by omega) (c_Bytes_init _ K CG.2.1 _ (x + 1) 400 (by omega) (by omega) fN5) mw_Bytes_init rfl mo_Bytes_init ml_Dav_11 (by decide) rfl rfl (Nat.le_of_ble_eq_true rfl) (k' := 2) (n' := 402) (N' := x + 3) (by omega) (by omega) (by omega) (by omega) (by omega) d_Dav_init_12 (fun E12 hp12 => ?_)
  obtain ⟨hP12, hF12⟩ := hp12
  have rE12_1 := (hF12 x (by omega)).trans (fE5_1)
  have FE12 : frN x 490 E E12 := FE5.trans (hF12.wide (by omega) (by omega))
  have C := CG.1 2 402 (x + 3) (by omega) (by omega)
  refine g_putF (pc := 15) C hnm fl_Dav_14 fw_Dav_tape ⟨_, _, rfl⟩ rE12_1 (by show x < x + 3; omega) (Nat.le_of_ble_eq_true rfl) ⟨rfl, rfl⟩ d_Dav_init_15 (fun E15 hE15 => ?_)
  have hF15 : frN x 1 E12 E15 := fun k hk => by rw [hE15, va_up_ne _ _ (by omega)]
  have fE15_1 : E15 x = .inr (6, [.ref (ka K (x + 1)), .null, .null, .null, .null, .null, .null, .int (nI 0)]) := by rw [hE15]; exact va_up_self _ _ _
  have hP12_E15 := hP12.out hF15 (by omega)
  have FE15 : frN x 490 E E15 := FE12.trans (hF15.wide (by omega) (by omega))
  refine g_aload_n (pc := 18) C d_Dav_init_18 0 rfl ?_
  refine g_new (pc := 19) (N := x + 3) CG (kS_at CG.2.1 h0 (by omega)) (by omega) (ci := 0) rfl i_Bytes t_Bytes t_Bytes_ok cl_Dav_7 (tb1 27 rfl rfl) (tb1 2 rfl rfl) (fs := [.null, .int (nI 0)]) hf_Bytes (k' := 3) (n' := 404) (N' := x + 4) (by omega) (by omega) (by omega) (by omega) (by omega) d_Dav_init_19 (fun E19 hE19 => ?_)
  have hF19 : frN (x + 3) 1 E15 E19 := fun k hk => by rw [hE19, va_up_ne _ _ (by omega)]
  have fE19_1 := (congrFun hE19 x).trans ((va_up_ne _ _ (show x ≠ x + 3 from by omega)).trans fE15_1)
  have fN19 : E19 (x + 3) = .inr (0, [.null, .int (nI 0)]) := by rw [hE19]; exact va_up_self _ _ _
  have hP12_E15_E19 := hP12_E15.out hF19 (by omega)
  have FE19 : frN x 490 E E19 := FE15.trans (hF19.wide (by omega) (by omega))
  have C := CG.1 3 404 (x + 4) (by omega) (by omega)
  refine g_dup (pc := 22) C d_Dav_init_22 rfl ?_
  refine g_sipush (pc := 23) (v := nI 400) C d_Dav_init_23 (by decide) ?_
  refine g_cG (pc := 26) (N := x + 4) (As := [.int (nI 400)]) (rest := [.ref (ka K (x + 3)), .ref (ka K x)]) CG hO (kS_at CG.2.1 h0 (by omega)) (by omega) (c_Bytes_init _ K CG.2.1 _ (x + 3) 400 (by omega) (by omega) fN19) mw_Bytes_init rfl mo_Bytes_init ml_Dav_11 (by decide) rfl rfl (Nat.le_of_ble_eq_true rfl) (k' := 4) (n' := 804) (N' := x + 5) (by omega) (by omega) (by omega) (by omega) (by omega) d_Dav_init_26 (fun E26 hp26 => ?_)
  obtain ⟨hP26, hF26⟩ := hp26
  have rE26_1 := (hF26 x (by omega)).trans (fE19_1)
  have hP12_E15_E19_E26 := hP12_E15_E19.out hF26 (by omega)
  have FE26 : frN x 490 E E26 := FE19.trans (hF26.wide (by omega) (by omega))
  have C := CG.1 4 804 (x + 5) (by omega) (by omega)
  refine g_putF (pc := 29) C hnm fl_Dav_18 fw_Dav_out ⟨_, _, rfl⟩ rE26_1 (by show x < x + 5; omega) (Nat.le_of_ble_eq_true rfl) ⟨rfl, rfl⟩ d_Dav_init_29 (fun E29 hE29 => ?_)
  have hF29 : frN x 1 E26 E29 := fun k hk => by rw [hE29, va_up_ne _ _ (by omega)]
  have fE29_1 : E29 x = .inr (6, [.ref (ka K (x + 1)), .ref (ka K (x + 3)), .null, .null, .null, .null, .null, .int (nI 0)]) := by rw [hE29]; exact va_up_self _ _ _
  have hP12_E15_E19_E26_E29 := hP12_E15_E19_E26.out hF29 (by omega)
  have hP26_E29 := hP26.out hF29 (by omega)
  have FE29 : frN x 490 E E29 := FE26.trans (hF29.wide (by omega) (by omega))
  refine g_aload_n (pc := 32) C d_Dav_init_32 0 rfl ?_
  refine g_new (pc := 33) (N := x + 5) CG (kS_at CG.2.1 h0 (by omega)) (by omega) (ci := 3) rfl i_Req t_Req t_Req_ok cl_Dav_21 (tb1 48 rfl rfl) (tb1 4 rfl rfl) (fs := [.null, .null, .null, .int (nI 0), .int (nI 0), .int (nI 0), .int (nI 0), .int (nI 0), .int (nI 0), .int (nI 0), .int (nI 0), .int (nI 0), .int (nI 0)]) hf_Req (k' := 5) (n' := 817) (N' := x + 6) (by omega) (by omega) (by omega) (by omega) (by omega) d_Dav_init_33 (fun E33 hE33 => ?_)
  have hF33 : frN (x + 5) 1 E29 E33 := fun k hk => by rw [hE33, va_up_ne _ _ (by omega)]
  have fE33_1 := (congrFun hE33 x).trans ((va_up_ne _ _ (show x ≠ x + 5 from by omega)).trans fE29_1)
  have fN33 : E33 (x + 5) = .inr (3, [.null, .null, .null, .int (nI 0), .int (nI 0), .int (nI 0), .int (nI 0), .int (nI 0), .int (nI 0), .int (nI 0), .int (nI 0), .int (nI 0), .int (nI 0)]) := by rw [hE33]; exact va_up_self _ _ _
  have hP12_E15_E19_E26_E29_E33 := hP12_E15_E19_E26_E29.out hF33 (by omega)
  have hP26_E29_E33 := hP26_E29.out hF33 (by omega)
  have FE33 : frN x 490 E E33 := FE29.trans (hF33.wide (by omega) (by omega))
  have C := CG.1 5 817 (x + 6) (by omega) (by omega)
  refine g_dup (pc := 36) C d_Dav_init_36 rfl ?_
  refine g_cGN (pc := 37) (N := x + 6) (As := []) (rest := [.ref (ka K (x + 5)), .ref (ka K x)]) CG hO (kS_at CG.2.1 h0 (by omega)) (by omega) (c_Req_init _ K CG.2.1 _ (x + 5) (by omega) fN33) mw_Req_init rfl mo_Req_init (C.T.2.1 _ mn_Dav_23) (by decide) rfl rfl (Nat.le_of_ble_eq_true rfl) (k' := 11) (n' := 993) (N' := x + 12) (by omega) (by omega) (by omega) (by omega) (by omega) d_Dav_init_37 (fun E37 hp37 => ?_)
  obtain ⟨hP37, hF37⟩ := hp37
  have rE37_1 := (hF37 x (by omega)).trans (fE33_1)
  have hP12_E15_E19_E26_E29_E33_E37 := hP12_E15_E19_E26_E29_E33.out hF37 (by omega)
  have hP26_E29_E33_E37 := hP26_E29_E33.out hF37 (by omega)
  have FE37 : frN x 490 E E37 := FE33.trans (hF37.wide (by omega) (by omega))
  have C := CG.1 11 993 (x + 12) (by omega) (by omega)
  refine g_putF (pc := 40) C hnm fl_Dav_24 fw_Dav_asked ⟨_, _, rfl⟩ rE37_1 (by show x < x + 12; omega) (Nat.le_of_ble_eq_true rfl) ⟨rfl, rfl⟩ d_Dav_init_40 (fun E40 hE40 => ?_)
  have hF40 : frN x 1 E37 E40 := fun k hk => by rw [hE40, va_up_ne _ _ (by omega)]
  have fE40_1 : E40 x = .inr (6, [.ref (ka K (x + 1)), .ref (ka K (x + 3)), .ref (ka K (x + 5)), .null, .null, .null, .null, .int (nI 0)]) := by rw [hE40]; exact va_up_self _ _ _
  have hP12_E15_E19_E26_E29_E33_E37_E40 := hP12_E15_E19_E26_E29_E33_E37.out hF40 (by omega)
  have hP26_E29_E33_E37_E40 := hP26_E29_E33_E37.out hF40 (by omega)
  have hP37_E40 := hP37.out hF40 (by omega)
  have FE40 : frN x 490 E E40 := FE37.trans (hF40.wide (by omega) (by omega))
  refine g_aload_n (pc := 43) C d_Dav_init_43 0 rfl ?_
  refine g_new (pc := 44) (N := x + 12) CG (kS_at CG.2.1 h0 (by omega)) (by omega) (ci := 5) rfl i_Tree t_Tree t_Tree_ok cl_Dav_28 (tb1 107 rfl rfl) (tb1 5 rfl rfl) (fs := [.null, .int (nI 0), .int (nI 0)]) hf_Tree (k' := 12) (n' := 996) (N' := x + 13) (by omega) (by omega) (by omega) (by omega) (by omega) d_Dav_init_44 (fun E44 hE44 => ?_)
  have hF44 : frN (x + 12) 1 E40 E44 := fun k hk => by rw [hE44, va_up_ne _ _ (by omega)]
  have fE44_1 := (congrFun hE44 x).trans ((va_up_ne _ _ (show x ≠ x + 12 from by omega)).trans fE40_1)
  have fN44 : E44 (x + 12) = .inr (5, [.null, .int (nI 0), .int (nI 0)]) := by rw [hE44]; exact va_up_self _ _ _
  have hP12_E15_E19_E26_E29_E33_E37_E40_E44 := hP12_E15_E19_E26_E29_E33_E37_E40.out hF44 (by omega)
  have hP26_E29_E33_E37_E40_E44 := hP26_E29_E33_E37_E40.out hF44 (by omega)
  have hP37_E40_E44 := hP37_E40.out hF44 (by omega)
  have FE44 : frN x 490 E E44 := FE40.trans (hF44.wide (by omega) (by omega))
  have C := CG.1 12 996 (x + 13) (by omega) (by omega)
  refine g_dup (pc := 47) C d_Dav_init_47 rfl ?_
  refine g_cG (pc := 48) (N := x + 13) (As := []) (rest := [.ref (ka K (x + 12)), .ref (ka K x)]) CG hO (kS_at CG.2.1 h0 (by omega)) (by omega) (c_Tree_init _ K CG.2.1 _ (x + 12) (by omega) fN44) mw_Tree_init rfl mo_Tree_init ml_Dav_30 (by decide) rfl rfl (Nat.le_of_ble_eq_true rfl) (k' := 218) (n' := 6490) (N' := x + 219) (by omega) (by omega) (by omega) (by omega) (by omega) d_Dav_init_48 (fun E48 hp48 => ?_)
  obtain ⟨hP48, hF48⟩ := hp48
  have rE48_1 := (hF48 x (by omega)).trans (fE44_1)
  have hP12_E15_E19_E26_E29_E33_E37_E40_E44_E48 := hP12_E15_E19_E26_E29_E33_E37_E40_E44.out hF48 (by omega)
  have hP26_E29_E33_E37_E40_E44_E48 := hP26_E29_E33_E37_E40_E44.out hF48 (by omega)
  have hP37_E40_E44_E48 := hP37_E40_E44.out hF48 (by omega)
  have FE48 : frN x 490 E E48 := FE44.trans (hF48.wide (by omega) (by omega))
  have C := CG.1 218 6490 (x + 219) (by omega) (by omega)
  refine g_putF (pc := 51) C hnm fl_Dav_31 fw_Dav_tree ⟨_, _, rfl⟩ rE48_1 (by show x < x + 219; omega) (Nat.le_of_ble_eq_true rfl) ⟨rfl, rfl⟩ d_Dav_init_51 (fun E51 hE51 => ?_)
  have hF51 : frN x 1 E48 E51 := fun k hk => by rw [hE51, va_up_ne _ _ (by omega)]
  have fE51_1 : E51 x = .inr (6, [.ref (ka K (x + 1)), .ref (ka K (x + 3)), .ref (ka K (x + 5)), .ref (ka K (x + 12)), .null, .null, .null, .int (nI 0)]) := by rw [hE51]; exact va_up_self _ _ _
  have hP12_E15_E19_E26_E29_E33_E37_E40_E44_E48_E51 := hP12_E15_E19_E26_E29_E33_E37_E40_E44_E48.out hF51 (by omega)
  have hP26_E29_E33_E37_E40_E44_E48_E51 := hP26_E29_E33_E37_E40_E44_E48.out hF51 (by omega)
  have hP37_E40_E44_E48_E51 := hP37_E40_E44_E48.out hF51 (by omega)
  have hP48_E51 := hP48.out hF51 (by omega)
  have FE51 : frN x 490 E E51 := FE48.trans (hF51.wide (by omega) (by omega))
  refine g_aload_n (pc := 54) C d_Dav_init_54 0 rfl ?_
  refine g_new (pc := 55) (N := x + 219) CG (kS_at CG.2.1 h0 (by omega)) (by omega) (ci := 5) rfl i_Tree t_Tree t_Tree_ok cl_Dav_28 (tb1 107 rfl rfl) (tb1 5 rfl rfl) (fs := [.null, .int (nI 0), .int (nI 0)]) hf_Tree (k' := 219) (n' := 6493) (N' := x + 220) (by omega) (by omega) (by omega) (by omega) (by omega) d_Dav_init_55 (fun E55 hE55 => ?_)
  have hF55 : frN (x + 219) 1 E51 E55 := fun k hk => by rw [hE55, va_up_ne _ _ (by omega)]
  have fE55_1 := (congrFun hE55 x).trans ((va_up_ne _ _ (show x ≠ x + 219 from by omega)).trans fE51_1)
  have fN55 : E55 (x + 219) = .inr (5, [.null, .int (nI 0), .int (nI 0)]) := by rw [hE55]; exact va_up_self _ _ _
  have hP12_E15_E19_E26_E29_E33_E37_E40_E44_E48_E51_E55 := hP12_E15_E19_E26_E29_E33_E37_E40_E44_E48_E51.out hF55 (by omega)
  have hP26_E29_E33_E37_E40_E44_E48_E51_E55 := hP26_E29_E33_E37_E40_E44_E48_E51.out hF55 (by omega)
  have hP37_E40_E44_E48_E51_E55 := hP37_E40_E44_E48_E51.out hF55 (by omega)
  have hP48_E51_E55 := hP48_E51.out hF55 (by omega)
  have FE55 : frN x 490 E E55 := FE51.trans (hF55.wide (by omega) (by omega))
  have C := CG.1 219 6493 (x + 220) (by omega) (by omega)
  refine g_dup (pc := 58) C d_Dav_init_58 rfl ?_
  refine g_cG (pc := 59) (N := x + 220) (As := []) (rest := [.ref (ka K (x + 219)), .ref (ka K x)]) CG hO (kS_at CG.2.1 h0 (by omega)) (by omega) (c_Tree_init _ K CG.2.1 _ (x + 219) (by omega) fN55) mw_Tree_init rfl mo_Tree_init ml_Dav_30 (by decide) rfl rfl (Nat.le_of_ble_eq_true rfl) (k' := 425) (n' := 11987) (N' := x + 426) (by omega) (by omega) (by omega) (by omega) (by omega) d_Dav_init_59 (fun E59 hp59 => ?_)
  obtain ⟨hP59, hF59⟩ := hp59
  have rE59_1 := (hF59 x (by omega)).trans (fE55_1)
  have hP12_E15_E19_E26_E29_E33_E37_E40_E44_E48_E51_E55_E59 := hP12_E15_E19_E26_E29_E33_E37_E40_E44_E48_E51_E55.out hF59 (by omega)
  have hP26_E29_E33_E37_E40_E44_E48_E51_E55_E59 := hP26_E29_E33_E37_E40_E44_E48_E51_E55.out hF59 (by omega)
  have hP37_E40_E44_E48_E51_E55_E59 := hP37_E40_E44_E48_E51_E55.out hF59 (by omega)
  have hP48_E51_E55_E59 := hP48_E51_E55.out hF59 (by omega)
  have FE59 : frN x 490 E E59 := FE55.trans (hF59.wide (by omega) (by omega))
  have C := CG.1 425 11987 (x + 426) (by omega) (by omega)
  refine g_putF (pc := 62) C hnm fl_Dav_35 fw_Dav_keptTree ⟨_, _, rfl⟩ rE59_1 (by show x < x + 426; omega) (Nat.le_of_ble_eq_true rfl) ⟨rfl, rfl⟩ d_Dav_init_62 (fun E62 hE62 => ?_)
  have hF62 : frN x 1 E59 E62 := fun k hk => by rw [hE62, va_up_ne _ _ (by omega)]
  have fE62_1 : E62 x = .inr (6, [.ref (ka K (x + 1)), .ref (ka K (x + 3)), .ref (ka K (x + 5)), .ref (ka K (x + 12)), .ref (ka K (x + 219)), .null, .null, .int (nI 0)]) := by rw [hE62]; exact va_up_self _ _ _
  have hP12_E15_E19_E26_E29_E33_E37_E40_E44_E48_E51_E55_E59_E62 := hP12_E15_E19_E26_E29_E33_E37_E40_E44_E48_E51_E55_E59.out hF62 (by omega)
  have hP26_E29_E33_E37_E40_E44_E48_E51_E55_E59_E62 := hP26_E29_E33_E37_E40_E44_E48_E51_E55_E59.out hF62 (by omega)
  have hP37_E40_E44_E48_E51_E55_E59_E62 := hP37_E40_E44_E48_E51_E55_E59.out hF62 (by omega)
  have hP48_E51_E55_E59_E62 := hP48_E51_E55_E59.out hF62 (by omega)
  have hP59_E62 := hP59.out hF62 (by omega)
  have FE62 : frN x 490 E E62 := FE59.trans (hF62.wide (by omega) (by omega))
  refine g_aload_n (pc := 65) C d_Dav_init_65 0 rfl ?_
  refine g_new (pc := 66) (N := x + 426) CG (kS_at CG.2.1 h0 (by omega)) (by omega) (ci := 2) rfl i_Locks t_Locks t_Locks_ok cl_Dav_38 (tb1 157 rfl rfl) (tb1 7 rfl rfl) (fs := [.null, .int (nI 0), .int (nI 0)]) hf_Locks (k' := 426) (n' := 11990) (N' := x + 427) (by omega) (by omega) (by omega) (by omega) (by omega) d_Dav_init_66 (fun E66 hE66 => ?_)
  have hF66 : frN (x + 426) 1 E62 E66 := fun k hk => by rw [hE66, va_up_ne _ _ (by omega)]
  have fE66_1 := (congrFun hE66 x).trans ((va_up_ne _ _ (show x ≠ x + 426 from by omega)).trans fE62_1)
  have fN66 : E66 (x + 426) = .inr (2, [.null, .int (nI 0), .int (nI 0)]) := by rw [hE66]; exact va_up_self _ _ _
  have hP12_E15_E19_E26_E29_E33_E37_E40_E44_E48_E51_E55_E59_E62_E66 := hP12_E15_E19_E26_E29_E33_E37_E40_E44_E48_E51_E55_E59_E62.out hF66 (by omega)
  have hP26_E29_E33_E37_E40_E44_E48_E51_E55_E59_E62_E66 := hP26_E29_E33_E37_E40_E44_E48_E51_E55_E59_E62.out hF66 (by omega)
  have hP37_E40_E44_E48_E51_E55_E59_E62_E66 := hP37_E40_E44_E48_E51_E55_E59_E62.out hF66 (by omega)
  have hP48_E51_E55_E59_E62_E66 := hP48_E51_E55_E59_E62.out hF66 (by omega)
  have hP59_E62_E66 := hP59_E62.out hF66 (by omega)
  have FE66 : frN x 490 E E66 := FE62.trans (hF66.wide (by omega) (by omega))
  have C := CG.1 426 11990 (x + 427) (by omega) (by omega)
  refine g_dup (pc := 69) C d_Dav_init_69 rfl ?_
  refine g_cG (pc := 70) (N := x + 427) (As := []) (rest := [.ref (ka K (x + 426)), .ref (ka K x)]) CG hO (kS_at CG.2.1 h0 (by omega)) (by omega) (c_Locks_init _ K CG.2.1 _ (x + 426) (by omega) fN66) mw_Locks_init rfl mo_Locks_init ml_Dav_40 (by decide) rfl rfl (Nat.le_of_ble_eq_true rfl) (k' := 457) (n' := 12520) (N' := x + 458) (by omega) (by omega) (by omega) (by omega) (by omega) d_Dav_init_70 (fun E70 hp70 => ?_)
  obtain ⟨hP70, hF70⟩ := hp70
  have rE70_1 := (hF70 x (by omega)).trans (fE66_1)
  have hP12_E15_E19_E26_E29_E33_E37_E40_E44_E48_E51_E55_E59_E62_E66_E70 := hP12_E15_E19_E26_E29_E33_E37_E40_E44_E48_E51_E55_E59_E62_E66.out hF70 (by omega)
  have hP26_E29_E33_E37_E40_E44_E48_E51_E55_E59_E62_E66_E70 := hP26_E29_E33_E37_E40_E44_E48_E51_E55_E59_E62_E66.out hF70 (by omega)
  have hP37_E40_E44_E48_E51_E55_E59_E62_E66_E70 := hP37_E40_E44_E48_E51_E55_E59_E62_E66.out hF70 (by omega)
  have hP48_E51_E55_E59_E62_E66_E70 := hP48_E51_E55_E59_E62_E66.out hF70 (by omega)
  have hP59_E62_E66_E70 := hP59_E62_E66.out hF70 (by omega)
  have FE70 : frN x 490 E E70 := FE66.trans (hF70.wide (by omega) (by omega))
  have C := CG.1 457 12520 (x + 458) (by omega) (by omega)
  refine g_putF (pc := 73) C hnm fl_Dav_41 fw_Dav_locks ⟨_, _, rfl⟩ rE70_1 (by show x < x + 458; omega) (Nat.le_of_ble_eq_true rfl) ⟨rfl, rfl⟩ d_Dav_init_73 (fun E73 hE73 => ?_)
  have hF73 : frN x 1 E70 E73 := fun k hk => by rw [hE73, va_up_ne _ _ (by omega)]
  have fE73_1 : E73 x = .inr (6, [.ref (ka K (x + 1)), .ref (ka K (x + 3)), .ref (ka K (x + 5)), .ref (ka K (x + 12)), .ref (ka K (x + 219)), .ref (ka K (x + 426)), .null, .int (nI 0)]) := by rw [hE73]; exact va_up_self _ _ _
  have hP12_E15_E19_E26_E29_E33_E37_E40_E44_E48_E51_E55_E59_E62_E66_E70_E73 := hP12_E15_E19_E26_E29_E33_E37_E40_E44_E48_E51_E55_E59_E62_E66_E70.out hF73 (by omega)
  have hP26_E29_E33_E37_E40_E44_E48_E51_E55_E59_E62_E66_E70_E73 := hP26_E29_E33_E37_E40_E44_E48_E51_E55_E59_E62_E66_E70.out hF73 (by omega)
  have hP37_E40_E44_E48_E51_E55_E59_E62_E66_E70_E73 := hP37_E40_E44_E48_E51_E55_E59_E62_E66_E70.out hF73 (by omega)
  have hP48_E51_E55_E59_E62_E66_E70_E73 := hP48_E51_E55_E59_E62_E66_E70.out hF73 (by omega)
  have hP59_E62_E66_E70_E73 := hP59_E62_E66_E70.out hF73 (by omega)
  have hP70_E73 := hP70.out hF73 (by omega)
  have FE73 : frN x 490 E E73 := FE70.trans (hF73.wide (by omega) (by omega))
  refine g_aload_n (pc := 76) C d_Dav_init_76 0 rfl ?_
  refine g_new (pc := 77) (N := x + 458) CG (kS_at CG.2.1 h0 (by omega)) (by omega) (ci := 2) rfl i_Locks t_Locks t_Locks_ok cl_Dav_38 (tb1 157 rfl rfl) (tb1 7 rfl rfl) (fs := [.null, .int (nI 0), .int (nI 0)]) hf_Locks (k' := 458) (n' := 12523) (N' := x + 459) (by omega) (by omega) (by omega) (by omega) (by omega) d_Dav_init_77 (fun E77 hE77 => ?_)
  have hF77 : frN (x + 458) 1 E73 E77 := fun k hk => by rw [hE77, va_up_ne _ _ (by omega)]
  have fE77_1 := (congrFun hE77 x).trans ((va_up_ne _ _ (show x ≠ x + 458 from by omega)).trans fE73_1)
  have fN77 : E77 (x + 458) = .inr (2, [.null, .int (nI 0), .int (nI 0)]) := by rw [hE77]; exact va_up_self _ _ _
  have hP12_E15_E19_E26_E29_E33_E37_E40_E44_E48_E51_E55_E59_E62_E66_E70_E73_E77 := hP12_E15_E19_E26_E29_E33_E37_E40_E44_E48_E51_E55_E59_E62_E66_E70_E73.out hF77 (by omega)
  have hP26_E29_E33_E37_E40_E44_E48_E51_E55_E59_E62_E66_E70_E73_E77 := hP26_E29_E33_E37_E40_E44_E48_E51_E55_E59_E62_E66_E70_E73.out hF77 (by omega)
  have hP37_E40_E44_E48_E51_E55_E59_E62_E66_E70_E73_E77 := hP37_E40_E44_E48_E51_E55_E59_E62_E66_E70_E73.out hF77 (by omega)
  have hP48_E51_E55_E59_E62_E66_E70_E73_E77 := hP48_E51_E55_E59_E62_E66_E70_E73.out hF77 (by omega)
  have hP59_E62_E66_E70_E73_E77 := hP59_E62_E66_E70_E73.out hF77 (by omega)
  have hP70_E73_E77 := hP70_E73.out hF77 (by omega)
  have FE77 : frN x 490 E E77 := FE73.trans (hF77.wide (by omega) (by omega))
  have C := CG.1 458 12523 (x + 459) (by omega) (by omega)
  refine g_dup (pc := 80) C d_Dav_init_80 rfl ?_
  refine g_cG (pc := 81) (N := x + 459) (As := []) (rest := [.ref (ka K (x + 458)), .ref (ka K x)]) CG hO (kS_at CG.2.1 h0 (by omega)) (by omega) (c_Locks_init _ K CG.2.1 _ (x + 458) (by omega) fN77) mw_Locks_init rfl mo_Locks_init ml_Dav_40 (by decide) rfl rfl (Nat.le_of_ble_eq_true rfl) (k' := 489) (n' := 13053) (N' := x + 490) (by omega) (by omega) (by omega) (by omega) (by omega) d_Dav_init_81 (fun E81 hp81 => ?_)
  obtain ⟨hP81, hF81⟩ := hp81
  have rE81_1 := (hF81 x (by omega)).trans (fE77_1)
  have hP12_E15_E19_E26_E29_E33_E37_E40_E44_E48_E51_E55_E59_E62_E66_E70_E73_E77_E81 := hP12_E15_E19_E26_E29_E33_E37_E40_E44_E48_E51_E55_E59_E62_E66_E70_E73_E77.out hF81 (by omega)
  have hP26_E29_E33_E37_E40_E44_E48_E51_E55_E59_E62_E66_E70_E73_E77_E81 := hP26_E29_E33_E37_E40_E44_E48_E51_E55_E59_E62_E66_E70_E73_E77.out hF81 (by omega)
  have hP37_E40_E44_E48_E51_E55_E59_E62_E66_E70_E73_E77_E81 := hP37_E40_E44_E48_E51_E55_E59_E62_E66_E70_E73_E77.out hF81 (by omega)
  have hP48_E51_E55_E59_E62_E66_E70_E73_E77_E81 := hP48_E51_E55_E59_E62_E66_E70_E73_E77.out hF81 (by omega)
  have hP59_E62_E66_E70_E73_E77_E81 := hP59_E62_E66_E70_E73_E77.out hF81 (by omega)
  have hP70_E73_E77_E81 := hP70_E73_E77.out hF81 (by omega)
  have FE81 : frN x 490 E E81 := FE77.trans (hF81.wide (by omega) (by omega))
  have C := CG.1 489 13053 (x + 490) (by omega) (by omega)
  refine g_putF (pc := 84) C hnm fl_Dav_45 fw_Dav_keptLocks ⟨_, _, rfl⟩ rE81_1 (by show x < x + 490; omega) (Nat.le_of_ble_eq_true rfl) ⟨rfl, rfl⟩ d_Dav_init_84 (fun E84 hE84 => ?_)
  have hF84 : frN x 1 E81 E84 := fun k hk => by rw [hE84, va_up_ne _ _ (by omega)]
  have fE84_1 : E84 x = .inr (6, [.ref (ka K (x + 1)), .ref (ka K (x + 3)), .ref (ka K (x + 5)), .ref (ka K (x + 12)), .ref (ka K (x + 219)), .ref (ka K (x + 426)), .ref (ka K (x + 458)), .int (nI 0)]) := by rw [hE84]; exact va_up_self _ _ _
  have hP12_E15_E19_E26_E29_E33_E37_E40_E44_E48_E51_E55_E59_E62_E66_E70_E73_E77_E81_E84 := hP12_E15_E19_E26_E29_E33_E37_E40_E44_E48_E51_E55_E59_E62_E66_E70_E73_E77_E81.out hF84 (by omega)
  have hP26_E29_E33_E37_E40_E44_E48_E51_E55_E59_E62_E66_E70_E73_E77_E81_E84 := hP26_E29_E33_E37_E40_E44_E48_E51_E55_E59_E62_E66_E70_E73_E77_E81.out hF84 (by omega)
  have hP37_E40_E44_E48_E51_E55_E59_E62_E66_E70_E73_E77_E81_E84 := hP37_E40_E44_E48_E51_E55_E59_E62_E66_E70_E73_E77_E81.out hF84 (by omega)
  have hP48_E51_E55_E59_E62_E66_E70_E73_E77_E81_E84 := hP48_E51_E55_E59_E62_E66_E70_E73_E77_E81.out hF84 (by omega)
  have hP59_E62_E66_E70_E73_E77_E81_E84 := hP59_E62_E66_E70_E73_E77_E81.out hF84 (by omega)
  have hP70_E73_E77_E81_E84 := hP70_E73_E77_E81.out hF84 (by omega)
  have hP81_E84 := hP81.out hF84 (by omega)
  have FE84 : frN x 490 E E84 := FE81.trans (hF84.wide (by omega) (by omega))
  refine g_aload_n (pc := 87) C d_Dav_init_87 0 rfl ?_
  refine g_iconst (pc := 88) (v := nI 0) C d_Dav_init_88 (by decide) ?_
  refine g_put (pc := 89) C fl_Dav_48 fw_Dav_clock fE84_1 (by show x < x + 490; omega) (Nat.le_of_ble_eq_true rfl) ⟨rfl, rfl⟩ d_Dav_init_89 (fun E89 hE89 => ?_)
  have hF89 : frN x 1 E84 E89 := fun k hk => by rw [hE89, va_up_ne _ _ (by omega)]
  have fE89_1 : E89 x = .inr (6, [.ref (ka K (x + 1)), .ref (ka K (x + 3)), .ref (ka K (x + 5)), .ref (ka K (x + 12)), .ref (ka K (x + 219)), .ref (ka K (x + 426)), .ref (ka K (x + 458)), .int (nI 0)]) := by rw [hE89]; exact va_up_self _ _ _
  have hP12_E15_E19_E26_E29_E33_E37_E40_E44_E48_E51_E55_E59_E62_E66_E70_E73_E77_E81_E84_E89 := hP12_E15_E19_E26_E29_E33_E37_E40_E44_E48_E51_E55_E59_E62_E66_E70_E73_E77_E81_E84.out hF89 (by omega)
  have hP26_E29_E33_E37_E40_E44_E48_E51_E55_E59_E62_E66_E70_E73_E77_E81_E84_E89 := hP26_E29_E33_E37_E40_E44_E48_E51_E55_E59_E62_E66_E70_E73_E77_E81_E84.out hF89 (by omega)
  have hP37_E40_E44_E48_E51_E55_E59_E62_E66_E70_E73_E77_E81_E84_E89 := hP37_E40_E44_E48_E51_E55_E59_E62_E66_E70_E73_E77_E81_E84.out hF89 (by omega)
  have hP48_E51_E55_E59_E62_E66_E70_E73_E77_E81_E84_E89 := hP48_E51_E55_E59_E62_E66_E70_E73_E77_E81_E84.out hF89 (by omega)
  have hP59_E62_E66_E70_E73_E77_E81_E84_E89 := hP59_E62_E66_E70_E73_E77_E81_E84.out hF89 (by omega)
  have hP70_E73_E77_E81_E84_E89 := hP70_E73_E77_E81_E84.out hF89 (by omega)
  have hP81_E84_E89 := hP81_E84.out hF89 (by omega)
  have FE89 : frN x 490 E E89 := FE84.trans (hF89.wide (by omega) (by omega))
  have C9 := CG.1 489 13053 (x + 1 + 489) (by omega) (by omega)
  refine g_cst (k' := 489) (n' := 13053) (N' := x + 1 + 489) (by omega) (by omega) (by omega) (g_vretG (pc := 92) C9 hR d_Dav_init_92 ?_)
  exact ⟨⟨fE89_1, hP12_E15_E19_E26_E29_E33_E37_E40_E44_E48_E51_E55_E59_E62_E66_E70_E73_E77_E81_E84_E89, hP26_E29_E33_E37_E40_E44_E48_E51_E55_E59_E62_E66_E70_E73_E77_E81_E84_E89, hP37_E40_E44_E48_E51_E55_E59_E62_E66_E70_E73_E77_E81_E84_E89, hP48_E51_E55_E59_E62_E66_E70_E73_E77_E81_E84_E89, hP59_E62_E66_E70_E73_E77_E81_E84_E89, hP70_E73_E77_E81_E84_E89, hP81_E84_E89, hN⟩, FE89⟩
