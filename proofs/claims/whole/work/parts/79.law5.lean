theorem lw_R0 : REL [([47], [], false, nI 0)] [([], nI 2, nI 0, [])] := by
  refine ⟨?_, ?_, ?_⟩
  · intro v hv
    rw [List.mem_singleton.mp hv]
    decide
  · exact List.pairwise_singleton _ _
  · exact List.Perm.refl _
theorem lw_O0 : okL [] := fun v hv => absurd hv (by simp)
theorem lw_I0 : INV 0 [([], nI 2, nI 0, [])] [] := by
  refine ⟨?_, ?_, ?_, ?_, ?_, ?_, ?_, ?_, ?_⟩
  · intro x hx
    rw [List.mem_singleton.mp hx]
    exact Or.inl rfl
  · exact ⟨_, List.mem_singleton.mpr rfl, rfl, rfl⟩
  · intro x hx h
    rw [List.mem_singleton.mp hx] at h
    exact absurd rfl h
  · intro x hx
    rw [List.mem_singleton.mp hx]
    exact Or.inr ⟨rfl, rfl⟩
  · intro l hl
    exact absurd hl (by simp)
  · intro l hl
    exact absurd hl (by simp)
  · exact List.nodup_nil
  · decide
  · decide
set_option maxHeartbeats 4000000 in
set_option maxRecDepth 100000 in
theorem lw_first {X : gX} {K : gK} (CG : gCG X K code "DavRoomLaw" 4 2048 84000 600000 7302250) (hO : gO (xs X)) (hkN : kN K = 966) (h0 : (xs X).heap.size = ka K 0) {b L : Nat} {ys : Nat → Int32} (hX : va_X b L ys (xs X) (xs X).heap) (hbl : b < (xs X).heap.size) (hbA : ¬ xA X b) (hL : L ≤ 3072) (hend : ∀ (k n : Nat) (E : gE), k ≤ 600000 → n ≤ 7302250 → gW (gXa X k n) K E 344 [] []) (E : gE) : gW (gXa X 0 0) (gKa K 0) E 0 [(0, .ref b)] [] := by
  have CC : ∀ k n, k ≤ 600000 → n ≤ 7302250 → gC (gXa X k n) K code "DavRoomLaw" 4 2048 84000 := fun k n h1 h2 => CG.1 k n (kN K) h1 h2
  have C := CG.1 0 0 0 (by omega) (by omega)
  refine g_new (pc := 0) (N := 0) CG (kS_at CG.2.1 h0 (by omega)) (by omega) (ci := 6) rfl i_Dav t_Dav t_Dav_ok cl_Law_7 (tb1 19 rfl rfl) (tb1 1 rfl rfl) (fs := [.null, .null, .null, .null, .null, .null, .null, .int (nI 0)]) hf_Dav (k' := 1) (n' := 8) (N' := 1) (by omega) (by omega) (by omega) (by omega) (by omega) d_Law_law_0 (fun E0 hE0 => ?_)
  have hF0 : frN 0 1 E E0 := fun k hk => by rw [hE0, va_up_ne _ _ (by omega)]
  have fN0 : E0 0 = .inr (6, [.null, .null, .null, .null, .null, .null, .null, .int (nI 0)]) := by rw [hE0]; exact va_up_self _ _ _
  have FE0 : frN 0 966 E E0 := frN.refl.trans (hF0.wide (by omega) (by omega))
  have C := CG.1 1 8 1 (by omega) (by omega)
  refine g_dup (pc := 3) C d_Law_law_3 rfl ?_
  refine g_cG (pc := 4) (N := 1) (As := []) (rest := [.ref (ka K 0)]) CG hO (kS_at CG.2.1 h0 (by omega)) (by omega) (c_Dav_init _ K CG.2.1 _ (0) (by omega) fN0) mw_Dav_init rfl mo_Dav_init ml_Law_9 (by decide) rfl rfl (Nat.le_of_ble_eq_true rfl) (k' := 490) (n' := 13061) (N' := 490) (by omega) (by omega) (by omega) (by omega) (by omega) d_Law_law_4 (fun E4 hp4 => ?_)
  obtain ⟨hP4, hF4⟩ := hp4
  have FE4 : frN 0 966 E E4 := FE0.trans (hF4.wide (by omega) (by omega))
  have C := CG.1 490 13061 490 (by omega) (by omega)
  refine g_astore_n (pc := 7) (lv' := [(1, .ref (ka K 0)), (0, .ref b)]) C d_Law_law_7 rfl (by decide) rfl ?_
  refine g_new (pc := 8) (N := 490) CG (kS_at CG.2.1 h0 (by omega)) (by omega) (ci := 9) rfl i_Mod t_Mod t_Mod_ok cl_Law_10 (tb4 10 rfl rfl) (tb1 9 rfl rfl) (fs := [.null, .null, .int (nI 0), .int (nI 0), .int (nI 0), .null, .int (nI 0), .null, .int (nI 0), .null, .null, .int (nI 0), .null, .null, .int (nI 0), .null, .int (nI 0), .null, .null, .null]) hf_Mod (k' := 491) (n' := 13081) (N' := 491) (by omega) (by omega) (by omega) (by omega) (by omega) d_Law_law_8 (fun E8 hE8 => ?_)
  have hF8 : frN 490 1 E4 E8 := fun k hk => by rw [hE8, va_up_ne _ _ (by omega)]
  have fN8 : E8 490 = .inr (9, [.null, .null, .int (nI 0), .int (nI 0), .int (nI 0), .null, .int (nI 0), .null, .int (nI 0), .null, .null, .int (nI 0), .null, .null, .int (nI 0), .null, .int (nI 0), .null, .null, .null]) := by rw [hE8]; exact va_up_self _ _ _
  have hP4_E8 := hP4.out hF8 (by omega)
  have FE8 : frN 0 966 E E8 := FE4.trans (hF8.wide (by omega) (by omega))
  have C := CG.1 491 13081 491 (by omega) (by omega)
  refine g_dup (pc := 11) C d_Law_law_11 rfl ?_
  refine g_cG (pc := 12) (N := 491) (As := []) (rest := [.ref (ka K 490)]) CG hO (kS_at CG.2.1 h0 (by omega)) (by omega) (c_Mod_init _ K CG.2.1 _ (490) (by omega) fN8) mw_Mod_init rfl mo_Mod_init ml_Law_12 (by decide) rfl rfl (Nat.le_of_ble_eq_true rfl) (k' := 966) (n' := 32397) (N' := 966) (by omega) (by omega) (by omega) (by omega) (by omega) d_Law_law_12 (fun E12 hp12 => ?_)
  obtain ⟨hP12, hF12⟩ := hp12
  have hP4_E8_E12 := hP4_E8.out hF12 (by omega)
  have FE12 : frN 0 966 E E12 := FE8.trans (hF12.wide (by omega) (by omega))
  have C := CG.1 966 32397 966 (by omega) (by omega)
  refine g_astore_n (pc := 15) (lv' := [(2, .ref (ka K 490)), (1, .ref (ka K 0)), (0, .ref b)]) C d_Law_law_15 rfl (by decide) rfl ?_
  refine g_iconst (pc := 16) (v := nI 0) C d_Law_law_16 (by decide) ?_
  refine g_istore_n (pc := 17) (lv' := [(3, .int (nI 0)), (2, .ref (ka K 490)), (1, .ref (ka K 0)), (0, .ref b)]) C d_Law_law_17 rfl (by decide) rfl ?_
  have hKe : gKa K 966 = K := by
    rw [← hkN]
  refine g_lv (lv' := [(3, .int (nI 0)), (2, .ref (ka K 490)), (1, .ref (ka K 0)), (0, .ref b)]) [0, 1, 2, 3] rfl ?_
  rw [hKe]
  exact lw_loop CC CG.2.2.1 CG.2.2.2 hkN hX hbl hbA hL hend 513 0 966 32397 0 E12 (Nat.zero_le _) (by omega) (by omega) (by omega) (by omega) ⟨_, _, _, _, _, _, _, _, _, _, _, _, _, _, _, _, _, _, _, _, _, _, ⟨_, _, _, _, _, _, _, _, _, _, _, _, _, hP4_E8_E12⟩, hP12, lw_R0, lw_O0, lw_I0, lw_R0, lw_O0, lw_I0⟩

theorem whole_start {p : Program} {e : Env} {s : State} {m : MethodId} {below : List Frame} {meth : Method} {c : Code} (l : Launch) {b L : Nat} {xs : Nat → Int32} (hL : L ≤ 3072) (C0 : lw_At p s m meth c b L xs) : W p l e room_1 s m #[Value.ref b] below meth c s.heap [] 0 0 (lw_Z below #[Value.ref b] s) (entryFrame m ([Value.ref b] : List Value).toArray 4) := by
  obtain ⟨hx, hcc, hrt, hml, hown, hts, hX, hbl, hlk, hgv⟩ := C0
  have hn : ∀ w ∈ flatC narrow_1, w.before #[Value.ref b] s = true := fun w hw => flat_of_before _ hgv w (List.mem_append_right _ hw)
  obtain ⟨K, hka, hkN, hT, hZ⟩ := st_K hts hn 966
  have hkS : kS K := fun j => by
    rw [hka]
    show s.heap.size + j = s.heap.size + 0 + j
    omega
  have h0 : s.heap.size = ka K 0 := by
    rw [hka]
    rfl
  let X : gX := (p, l, e, room_1, s, m, #[.ref b], below, meth, c, lw_Z below #[.ref b] s, fun q => s.heap.size ≤ q, 0, 0, 4)
  have CG : gCG X K code "DavRoomLaw" 4 2048 84000 600000 7302250 := ⟨fun k n N hk hn' => ⟨hx, hcc, rfl, hml, hlk, hown, st_TB hts, hT, hZ, rfl, rfl, fun q h => h, hk, hn'⟩, hkS, Nat.le_refl _, Nat.le_refl _⟩
  have hend : ∀ (k n : Nat) (E : gE), k ≤ 600000 → n ≤ 7302250 → gW (gXa X k n) K E 344 [] [] := by
    intro k n E hk hn'
    have C := CG.1 k n (kN K) hk hn'
    refine g_iconst (pc := 344) (v := 1) C d_Law_law_344 (by decide) ?_
    intro H locs ls hH hl
    exact va_forget (fun q hq => hH.2.2.2.2 q hq) (W.widen hk hn' (lw_ret hx hcc hrt hlk d_Law_law_345))
  have hW := lw_first (X := X) CG (st_O hts) hkN h0 hX hbl (fun h => Nat.lt_irrefl _ (Nat.lt_of_lt_of_le hbl h)) hL hend (fun _ => .inr (0, []))
  rw [lg_entry_eq]
  exact hW s.heap [] _ ⟨fun j q hq => (by cases hq), ⟨fun i j p q hp => (by cases hp), fun k q hq => (by cases hq)⟩, va_S.rf⟩ (lv_entry [Value.ref b] (Nat.le_of_ble_eq_true rfl))
