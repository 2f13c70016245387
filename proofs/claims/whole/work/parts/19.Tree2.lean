set_option maxHeartbeats 4000000 in
set_option maxRecDepth 100000 in
theorem w_sort_in {X : gX} {K : gK} (C : gC X K b_Tree_sort "DavRoom$Tree" 4 2 128) (E1 : gE) (q n : Nat) (lt : Int32) (π1 : Nat → Nat) (v : Nat → Re) (k c : Nat) (hk : k < n) (hc : c = q + 2 + 5 * π1 k) (hraw : rawR K E1 q n lt π1 v) (hcont : ∀ (E3 : gE) (a : Nat), a ≤ k → rawR K E3 q n lt (rot π1 a k) v → frN (q + 1) 1 E1 E3 → (∀ j, a ≤ j → j < k → ltB (v (π1 k)).1 (v (π1 j)).1 = true) → (0 < a → ltB (v (π1 k)).1 (v (π1 (a - 1))).1 = false) → gW X K E3 71 [(3, .int (nI a)), (2, .ref (ka K c)), (1, .int (nI k)), (0, .ref (ka K q))] []) : ∀ (a : Nat) (E2 : gE) (f2 : Nat → Option Nat), a ≤ k → frN (q + 1) 1 E1 E2 → E2 (q + 1) = .inl (kc K 1, 41, .inr (.inr (.inr (.inr f2)))) → (∀ j, j < 41 → j ≠ a → f2 j = some (ka K (q + 2 + 5 * (if j < a then π1 j else if j ≤ k then π1 (j - 1) else π1 j)))) → (∀ j, a ≤ j → j < k → ltB (v (π1 k)).1 (v (π1 j)).1 = true) → gW X K E2 19 [(3, .int (nI a)), (2, .ref (ka K c)), (1, .int (nI k)), (0, .ref (ka K q))] [] := by
  obtain ⟨hq1, ⟨f, hq2, hqf⟩, hpm, hal, hlen, hqN⟩ := hraw
  have hpk := hpm.1 k (by omega)
  intro a
  induction a with
  | zero =>
    intro E2 f2 ha hF h2 hf2 hlt
    have hq1' := (hF q (by omega)).trans hq1
    have hcR : isR K E2 c (v (π1 k)) := by rw [hc]; exact (hal _ hpk).at (fun j g1 g2 => hF j (by omega))
    have hc1 := hcR.1
    have hcp := hcR.2.1.1
    have hcb := hcR.2.2.1
    have hcpl := hcR.2.1.2.1
    have hcbl := hcR.2.2.2.1
    refine g_iload_n (pc := 19) C d_Tree_sort_19 0 rfl ?_
    refine g_if_leN (pc := 20) C 64 d_Tree_sort_20 (by decide) (by omega) (fun h_20 => ?_) (fun h_20 => ?_)
    · skip
      refine g_aload_n (pc := 64) C d_Tree_sort_64 3 rfl ?_
      refine g_get (pc := 65) C fl_Tree_11 hq1' (by omega) rfl d_Tree_sort_65 ?_
      refine g_iload_n (pc := 68) C d_Tree_sort_68 0 rfl ?_
      refine g_aload_n (pc := 69) C d_Tree_sort_69 1 rfl ?_
      refine g_astN (pc := 70) C h2 (by omega) (gt_R _) (by omega) (by omega) hc1 (by omega) rfl d_Tree_sort_70 (fun E70 hE70 => ?_)
      have fE70_1 := (congrFun hE70 q).trans ((va_up_ne _ _ (show q ≠ q + 1 from by omega)).trans hq1')
      have fE70_2 : E70 (q + 1) = .inl (kc K 1, 41, .inr (.inr (.inr (.inr (va_up f2 0 (some (ka K c))))))) := by rw [hE70]; exact va_up_self _ _ _
      have fE70_3 := (congrFun hE70 c).trans ((va_up_ne _ _ (show c ≠ q + 1 from by omega)).trans hc1)
      have fE70_4 := (congrFun hE70 (c + 1)).trans ((va_up_ne _ _ (show c + 1 ≠ q + 1 from by omega)).trans hcp)
      have fE70_5 := (congrFun hE70 (c + 3)).trans ((va_up_ne _ _ (show c + 3 ≠ q + 1 from by omega)).trans hcb)
      refine g_lv [0, 1, 2, 3] rfl (hcont E70 0 ha ⟨fE70_1, ⟨_, fE70_2, fun j hj => ?_⟩, rot_pm hpm ha (by omega), fun j hj => (hal j hj).at (fun i g1 g2 => by rw [hE70, va_up_ne _ _ (by omega)]; exact hF i (by omega)), hlen, hqN⟩ (fun j hj => by rw [hE70, va_up_ne _ _ (by omega)]; exact hF j hj) hlt (fun z => absurd z (Nat.lt_irrefl _)))
      by_cases hja : j = 0
      · rw [hja, va_up_self, rot_a, hc]
      · rw [va_up_ne _ _ hja, hf2 j hj hja, rot]
        by_cases h1 : j < 0
        · rw [if_pos h1, if_pos h1]
        · rw [if_neg h1, if_neg h1, if_neg hja]
    · exact absurd h_20 (by decide)
  | succ a ih =>
    intro E2 f2 ha hF h2 hf2 hlt
    have hq1' := (hF q (by omega)).trans hq1
    have hcR : isR K E2 c (v (π1 k)) := by rw [hc]; exact (hal _ hpk).at (fun j g1 g2 => hF j (by omega))
    have hc1 := hcR.1
    have hcp := hcR.2.1.1
    have hcb := hcR.2.2.1
    have hcpl := hcR.2.1.2.1
    have hcbl := hcR.2.2.2.1
    obtain ⟨e, he⟩ : ∃ e, e = q + 2 + 5 * π1 a := ⟨_, rfl⟩
    have hpe := hpm.1 a (by omega)
    have heR : isR K E2 e (v (π1 a)) := by rw [he]; exact (hal _ hpe).at (fun j g1 g2 => hF j (by omega))
    have hek : va_rf (f2 a) = .ref (ka K e) := by rw [hf2 a (by omega) (by omega), if_pos (by omega), he]; rfl
    have he1 := heR.1
    have hep := heR.2.1.1
    have heb := heR.2.2.1
    have hepl := heR.2.1.2.1
    have hebl := heR.2.2.2.1
    refine g_iload_n (pc := 19) C d_Tree_sort_19 0 rfl ?_
    refine g_if_leN (pc := 20) C 64 d_Tree_sort_20 (by decide) (by omega) (fun h_20 => ?_) (fun h_20 => ?_)
    · exact absurd h_20 (by omega)
    · skip
      refine g_aload_n (pc := 23) C d_Tree_sort_23 1 rfl ?_
      refine g_get (pc := 24) C fl_Tree_16 hc1 (by omega) rfl d_Tree_sort_24 ?_
      refine g_aload_n (pc := 27) C d_Tree_sort_27 3 rfl ?_
      refine g_get (pc := 28) C fl_Tree_11 hq1' (by omega) rfl d_Tree_sort_28 ?_
      refine g_iload_n (pc := 31) C d_Tree_sort_31 0 rfl ?_
      refine g_iconst (pc := 32) (v := nI 1) C d_Tree_sort_32 (by decide) ?_
      refine g_isubN (pc := 33) C (by omega) d_Tree_sort_33 ?_
      refine g_top (y := nI a) (by rw [Nat.add_sub_cancel]) ?_
      refine g_aldN (pc := 34) C h2 (by omega) (gt_R _) (by omega) (by omega) d_Tree_sort_34 (hv := hek) ?_
      refine g_get (pc := 35) C fl_Tree_16 he1 (by omega) rfl d_Tree_sort_35 ?_
      refine g_ci (pc := 38) C (g_rV (As := [.ref (ka K (e + 1))]) (rest := []) C (c_Bytes_isBefore _ K _ (c + 1) 45 (v (π1 k)).1 (e + 1) 45 (v (π1 a)).1 hcR.2.1 heR.2.1) mw_Bytes_isBefore mo_Bytes_isBefore ml_Tree_117 (by decide) hcp rfl (by omega) rfl rfl (Nat.le_of_ble_eq_true rfl) d_Tree_sort_38) (fun r38 E38 hp38 => ?_)
      rw [hp38.1, hp38.2]
      refine g_if_eqB (pc := 41) C 64 d_Tree_sort_41 (by decide) (fun h_41 => ?_) (fun h_41 => ?_)
      · skip
        refine g_aload_n (pc := 64) C d_Tree_sort_64 3 rfl ?_
        refine g_get (pc := 65) C fl_Tree_11 hq1' (by omega) rfl d_Tree_sort_65 ?_
        refine g_iload_n (pc := 68) C d_Tree_sort_68 0 rfl ?_
        refine g_aload_n (pc := 69) C d_Tree_sort_69 1 rfl ?_
        refine g_astN (pc := 70) C h2 (by omega) (gt_R _) (by omega) (by omega) hc1 (by omega) rfl d_Tree_sort_70 (fun E70 hE70 => ?_)
        have fE70_1 := (congrFun hE70 q).trans ((va_up_ne _ _ (show q ≠ q + 1 from by omega)).trans hq1')
        have fE70_2 : E70 (q + 1) = .inl (kc K 1, 41, .inr (.inr (.inr (.inr (va_up f2 (a + 1) (some (ka K c))))))) := by rw [hE70]; exact va_up_self _ _ _
        have fE70_3 := (congrFun hE70 c).trans ((va_up_ne _ _ (show c ≠ q + 1 from by omega)).trans hc1)
        have fE70_4 := (congrFun hE70 (c + 1)).trans ((va_up_ne _ _ (show c + 1 ≠ q + 1 from by omega)).trans hcp)
        have fE70_5 := (congrFun hE70 (c + 3)).trans ((va_up_ne _ _ (show c + 3 ≠ q + 1 from by omega)).trans hcb)
        have fE70_6 := (congrFun hE70 e).trans ((va_up_ne _ _ (show e ≠ q + 1 from by omega)).trans he1)
        have fE70_7 := (congrFun hE70 (e + 1)).trans ((va_up_ne _ _ (show e + 1 ≠ q + 1 from by omega)).trans hep)
        have fE70_8 := (congrFun hE70 (e + 3)).trans ((va_up_ne _ _ (show e + 3 ≠ q + 1 from by omega)).trans heb)
        refine g_lv [0, 1, 2, 3] rfl (hcont E70 (a + 1) ha ⟨fE70_1, ⟨_, fE70_2, fun j hj => ?_⟩, rot_pm hpm ha (by omega), fun j hj => (hal j hj).at (fun i g1 g2 => by rw [hE70, va_up_ne _ _ (by omega)]; exact hF i (by omega)), hlen, hqN⟩ (fun j hj => by rw [hE70, va_up_ne _ _ (by omega)]; exact hF j hj) hlt (fun _ => by rw [Nat.add_sub_cancel]; exact h_41))
        by_cases hja : j = a + 1
        · rw [hja, va_up_self, rot_a, hc]
        · rw [va_up_ne _ _ hja, hf2 j hj hja, rot]
          by_cases h1 : j < a + 1
          · rw [if_pos h1, if_pos h1]
          · rw [if_neg h1, if_neg h1, if_neg hja]
      · skip
        refine g_aload_n (pc := 44) C d_Tree_sort_44 3 rfl ?_
        refine g_get (pc := 45) C fl_Tree_11 hq1' (by omega) rfl d_Tree_sort_45 ?_
        refine g_iload_n (pc := 48) C d_Tree_sort_48 0 rfl ?_
        refine g_aload_n (pc := 49) C d_Tree_sort_49 3 rfl ?_
        refine g_get (pc := 50) C fl_Tree_11 hq1' (by omega) rfl d_Tree_sort_50 ?_
        refine g_iload_n (pc := 53) C d_Tree_sort_53 0 rfl ?_
        refine g_iconst (pc := 54) (v := nI 1) C d_Tree_sort_54 (by decide) ?_
        refine g_isubN (pc := 55) C (by omega) d_Tree_sort_55 ?_
        refine g_top (y := nI a) (by rw [Nat.add_sub_cancel]) ?_
        refine g_aldN (pc := 56) C h2 (by omega) (gt_R _) (by omega) (by omega) d_Tree_sort_56 (hv := hek) ?_
        refine g_astN (pc := 57) C h2 (by omega) (gt_R _) (by omega) (by omega) he1 (by omega) rfl d_Tree_sort_57 (fun E57 hE57 => ?_)
        have fE57_1 := (congrFun hE57 q).trans ((va_up_ne _ _ (show q ≠ q + 1 from by omega)).trans hq1')
        have fE57_2 : E57 (q + 1) = .inl (kc K 1, 41, .inr (.inr (.inr (.inr (va_up f2 (a + 1) (some (ka K e))))))) := by rw [hE57]; exact va_up_self _ _ _
        have fE57_3 := (congrFun hE57 c).trans ((va_up_ne _ _ (show c ≠ q + 1 from by omega)).trans hc1)
        have fE57_4 := (congrFun hE57 (c + 1)).trans ((va_up_ne _ _ (show c + 1 ≠ q + 1 from by omega)).trans hcp)
        have fE57_5 := (congrFun hE57 (c + 3)).trans ((va_up_ne _ _ (show c + 3 ≠ q + 1 from by omega)).trans hcb)
        have fE57_6 := (congrFun hE57 e).trans ((va_up_ne _ _ (show e ≠ q + 1 from by omega)).trans he1)
        have fE57_7 := (congrFun hE57 (e + 1)).trans ((va_up_ne _ _ (show e + 1 ≠ q + 1 from by omega)).trans hep)
        have fE57_8 := (congrFun hE57 (e + 3)).trans ((va_up_ne _ _ (show e + 3 ≠ q + 1 from by omega)).trans heb)
        refine g_iinc (pc := 58) (pl := 0) (v := nI a) (lv' := [(3, .int (nI a)), (2, .ref (ka K c)), (1, .int (nI k)), (0, .ref (ka K q))]) C d_Tree_sort_58 rfl (pk_m1 a) (by decide) rfl ?_
        refine g_goto (pc := 61) C 19 d_Tree_sort_61 (by decide) ?_
        refine g_lv [0, 1, 2, 3] rfl (ih E57 _ (by omega) (fun j hj => by rw [hE57, va_up_ne _ _ (by omega)]; exact hF j hj) fE57_2 (fun j hj hja => ?_) (fun j h1 h2 => ?_))
        · by_cases hj1 : j = a + 1
          · rw [hj1, va_up_self, if_neg (by omega), if_pos ha, Nat.add_sub_cancel, he]
          · rw [va_up_ne _ _ hj1, hf2 j hj hj1]
            by_cases h1 : j < a
            · rw [if_pos h1, if_pos (by omega)]
            · rw [if_neg h1, if_neg (by omega)]
        · rcases Nat.eq_or_lt_of_le h1 with z | z
          · rw [← z]; exact h_41
          · exact hlt j (by omega) h2

set_option maxHeartbeats 4000000 in
set_option maxRecDepth 100000 in
theorem w_sort {X : gX} {K : gK} (C : gC X K b_Tree_sort "DavRoom$Tree" 4 2 128) (E : gE) (q n : Nat) (lt : Int32) (π : Nat → Nat) (v : Nat → Re) (hR : gRv X K (fun E' => ∃ π' : Nat → Nat, rawR K E' q n lt π' v ∧ (List.range n).map (fun j => v (π' j)) = sortF ((List.range n).map (fun j => v (π j))) ∧ (∀ j, j < n → ∃ j', j' < n ∧ π' j' = π j) ∧ frN (q + 1) 1 E E')) : ∀ (d k : Nat) (E1 : gE) (π1 : Nat → Nat), 1 ≤ k → k ≤ n → n + 1 ≤ k + d → rawR K E1 q n lt π1 v → frN (q + 1) 1 E E1 → (List.range k).map (fun j => v (π1 j)) = sortF ((List.range k).map (fun j => v (π j))) → (∀ j, k ≤ j → π1 j = π j) → (∀ j, j < n → ∃ j', j' < n ∧ π1 j' = π j) → gW X K E1 2 [(1, .int (nI k)), (0, .ref (ka K q))] [] := by
  intro d
  induction d with
  | zero =>
    intro k E1 π1 _ h1 h2
    exact absurd h2 (by omega)
  | succ d ih =>
    intro k E1 π1 hk1 hki hd hraw hfr hsrt hpi hin
    have hraw0 := hraw
    obtain ⟨hq1, ⟨f, hq2, hqf⟩, hpm, hal, hlen, hqN⟩ := hraw
    refine g_iload_n (pc := 2) C d_Tree_sort_2 0 rfl ?_
    refine g_aload_n (pc := 3) C d_Tree_sort_3 1 rfl ?_
    refine g_get (pc := 4) C fl_Tree_26 hq1 (by omega) rfl d_Tree_sort_4 ?_
    refine g_icmp_geN (pc := 7) C 77 d_Tree_sort_7 (by decide) (by omega) (by omega) (fun h_7 => ?_) (fun h_7 => ?_)
    · skip
      have ek : k = n := by omega
      refine g_vret (pc := 77) C hR d_Tree_sort_77 ?_
      subst ek
      exact ⟨π1, hraw0, hsrt, hin, hfr⟩
    · skip
      have hk : k < n := h_7
      obtain ⟨c, hc⟩ : ∃ c, c = q + 2 + 5 * π1 k := ⟨_, rfl⟩
      have hpk := hpm.1 k (by omega)
      have hcR : isR K E1 c (v (π1 k)) := by rw [hc]; exact hal _ hpk
      have hck : va_rf (f k) = .ref (ka K c) := by rw [hqf k (by omega), hc]; rfl
      have hc1 := hcR.1
      have hcp := hcR.2.1.1
      have hcb := hcR.2.2.1
      have hcpl := hcR.2.1.2.1
      have hcbl := hcR.2.2.2.1
      refine g_aload_n (pc := 10) C d_Tree_sort_10 1 rfl ?_
      refine g_get (pc := 11) C fl_Tree_11 hq1 (by omega) rfl d_Tree_sort_11 ?_
      refine g_iload_n (pc := 14) C d_Tree_sort_14 0 rfl ?_
      refine g_aldN (pc := 15) C hq2 (by omega) (gt_R _) (by omega) (by omega) d_Tree_sort_15 (hv := hck) ?_
      refine g_astore_n (pc := 16) (lv' := [(2, .ref (ka K c)), (1, .int (nI k)), (0, .ref (ka K q))]) C d_Tree_sort_16 rfl (by decide) rfl ?_
      refine g_iload_n (pc := 17) C d_Tree_sort_17 1 rfl ?_
      refine g_istore_n (pc := 18) (lv' := [(3, .int (nI k)), (2, .ref (ka K c)), (1, .int (nI k)), (0, .ref (ka K q))]) C d_Tree_sort_18 rfl (by decide) rfl ?_
      refine g_lv [0, 1, 2, 3] rfl (w_sort_in C E1 q n lt π1 v k c hk hc hraw0 (fun E3 a ha hraw3 hF3 hl1 hl2 => ?_) k E1 f (Nat.le_refl _) frN.refl hq2 (fun j hj hjk => ?_) (fun j h1 h2 => absurd h2 (by omega)))
      · skip
        refine g_iinc (pc := 71) (pl := 2) (v := nI (k + 1)) (lv' := [(1, .int (nI (k + 1))), (3, .int (nI a)), (2, .ref (ka K c)), (0, .ref (ka K q))]) C d_Tree_sort_71 rfl (nI_1 _) (by decide) rfl ?_
        refine g_goto (pc := 74) C 2 d_Tree_sort_74 (by decide) ?_
        exact g_lv [0, 3] rfl (ih (k + 1) E3 (rot π1 a k) (by omega) (by omega) (by omega) hraw3 (hfr.trans hF3) (sort_step ha hsrt (hpi k (Nat.le_refl _)) hl1 hl2) (fun j hj => by rw [rot_gt ha (by omega)]; exact hpi j (by omega)) (fun j hj => by
          obtain ⟨j1, g1, g2⟩ := hin j hj
          obtain ⟨j2, g3, g4⟩ := rot_in (π := π1) ha hk j1 g1
          exact ⟨j2, g3, g4.trans g2⟩))
      · rw [hqf j hj]
        by_cases h1 : j < k
        · rw [if_pos h1]
        · rw [if_neg h1, if_neg (by omega)]

set_option maxHeartbeats 4000000 in
set_option maxRecDepth 100000 in
theorem c_Tree_sort (l : Launch) (K : gK) (E : gE) (q n : Nat) (lt : Int32) (π : Nat → Nat) (v : Nat → Re) (hn : 1 ≤ n) (hraw : rawR K E q n lt π v) : gMv l y_Tree_sort b_Tree_sort 4 2 128 K E [.ref (ka K q)] (fun E' => ∃ π' : Nat → Nat, rawR K E' q n lt π' v ∧ (List.range n).map (fun j => v (π' j)) = sortF ((List.range n).map (fun j => v (π j))) ∧ (∀ j, j < n → ∃ j', j' < n ∧ π' j' = π j) ∧ frN (q + 1) 1 E E') := by
  refine g_metv (by decide +kernel) (Nat.le_of_ble_eq_true rfl) (fun X hl C hR => ?_)
  subst hl
  show gW X K E 0 [(0, .ref (ka K q))] []
  refine g_iconst (pc := 0) (v := nI 1) C d_Tree_sort_0 (by decide) ?_
  refine g_istore_n (pc := 1) (lv' := [(1, .int (nI 1)), (0, .ref (ka K q))]) C d_Tree_sort_1 rfl (by decide) rfl ?_
  exact w_sort C E q n lt π v hR (n + 1) 1 E π (Nat.le_refl _) hn (by omega) hraw frN.refl rfl (fun j _ => rfl) (fun j hj => ⟨j, hj, rfl⟩)

set_option maxHeartbeats 4000000 in
set_option maxRecDepth 100000 in
theorem c_Tree_put (l : Launch) (K : gK) (E : gE) (q : Nat) (lt : Int32) (rs : List Re) (c i : Nat) (b cap : Nat) (p : Bs) (hp : p.length ≤ 80) (hdis : b + 2 ≤ q ∨ q + 207 ≤ b) (hi : i < rs.length) (hB : isB K E b cap p) (hs : slotR K E q c i lt rs) : gMv l y_Tree_put b_Tree_put 3 2 128 K E [.ref (ka K q), .ref (ka K c), .ref (ka K b)] (fun E' => isTT K E' q (lt + nI 1) (rs.set i (rs[i].1, p, true, lt + nI 1)) ∧ frN q 207 E E') := by
  obtain ⟨hs1, hs2, hqN, _, hcR⟩ := hs.facts
  have hq1 : E q = .inr (5, [.ref (ka K (q + 1)), .int (nI rs.length), .int lt]) := by
    obtain ⟨π, v, h, -⟩ := hs
    exact h.1
  have hc1 := hcR.1
  have hcp := hcR.2.1.1
  have hcb := hcR.2.2.1
  have hcpl := hcR.2.1.2.1
  have hcbl := hcR.2.2.2.1
  refine g_metv (by decide +kernel) (Nat.le_of_ble_eq_true rfl) (fun X hl C hR => ?_)
  subst hl
  show gW X K E 0 [(0, .ref (ka K q)), (1, .ref (ka K c)), (2, .ref (ka K b))] []
  refine g_aload_n (pc := 0) C d_Tree_put_0 1 rfl ?_
  refine g_ifnonnull (pc := 1) C 5 d_Tree_put_1 (by decide) ?_
  refine g_aload_n (pc := 5) C d_Tree_put_5 1 rfl ?_
  refine g_get (pc := 6) C fl_Tree_34 hc1 (by omega) rfl d_Tree_put_6 ?_
  refine g_aload_n (pc := 9) C d_Tree_put_9 2 rfl ?_
  refine g_cv (pc := 10) C (g_rV (As := [.ref (ka K b)]) (rest := []) C (c_Bytes_become _ K _ (c + 3) 80 rs[i].2.1 b cap p hp (by omega) (by omega) (by omega) hcR.2.2 hB) mw_Bytes_become mo_Bytes_become ml_Tree_83 (by decide) hcb rfl (by omega) rfl rfl (Nat.le_of_ble_eq_true rfl) d_Tree_put_10) (fun E10 hp10 => ?_)
  obtain ⟨hB10, hF10⟩ := hp10
  have gc1 := (hF10 c (by omega) (by omega)).trans hc1
  have gq1 := (hF10 q (by omega) (by omega)).trans hq1
  have hPp := hcR.2.1.fr hF10 (by omega) (by omega) (by omega)
  refine g_aload_n (pc := 13) C d_Tree_put_13 1 rfl ?_
  refine g_iconst (pc := 14) (v := nI 1) C d_Tree_put_14 (by decide) ?_
  refine g_put (pc := 15) C fl_Tree_30 fw_Res_isFile gc1 (by omega) (Nat.le_of_ble_eq_true rfl) ⟨rfl, rfl⟩ d_Tree_put_15 (fun E15 hE15 => ?_)
  have fE15_1 : E15 c = .inr (4, [.ref (ka K (c + 1)), .ref (ka K (c + 3)), .int (nI 1), .int (rs[i].2.2.2)]) := by rw [hE15]; exact va_up_self _ _ _
  have fE15_2 := (congrFun hE15 q).trans ((va_up_ne _ _ (show q ≠ c from by omega)).trans gq1)
  refine g_aload_n (pc := 18) C d_Tree_put_18 1 rfl ?_
  refine g_aload_n (pc := 19) C d_Tree_put_19 0 rfl ?_
  refine g_ci (pc := 20) C (g_rV (As := []) (rest := [.ref (ka K c)]) C (c_Tree_nextVersion _ K _ q rs.length lt fE15_2 (by omega)) mw_Tree_nextVersion mo_Tree_nextVersion ml_Tree_96 (by decide) fE15_2 rfl (by omega) rfl rfl (Nat.le_of_ble_eq_true rfl) d_Tree_put_20) (fun r20 E20 hp20 => ?_)
  obtain ⟨hr20, hE20⟩ := hp20
  rw [hr20]
  have kc1 := (congrFun hE20 c).trans ((va_up_ne _ _ (show c ≠ q by omega)).trans fE15_1)
  refine g_put (pc := 23) C fl_Tree_90 fw_Res_version kc1 (by omega) (Nat.le_of_ble_eq_true rfl) ⟨rfl, rfl⟩ d_Tree_put_23 (fun E23 hE23 => ?_)
  have fE23_1 : E23 c = .inr (4, [.ref (ka K (c + 1)), .ref (ka K (c + 3)), .int (nI 1), .int (lt + nI 1)]) := by rw [hE23]; exact va_up_self _ _ _
  refine g_vret (pc := 26) C hR d_Tree_put_26 ?_
  have w15 : isR K E15 c (rs[i].1, p, true, rs[i].2.2.2) := ⟨fE15_1, hPp.at (fun k g1 g2 => by rw [hE15, va_up_ne _ _ (by omega)]), hB10.at (fun k g1 g2 => by rw [hE15, va_up_ne _ _ (by omega)])⟩
  have s15 := hs.set (fun k hk => by rw [hE15, va_up_ne _ _ (by omega), hF10 k (by omega) (by omega)]) w15
  have s20 : slotR K E20 q c i (lt + nI 1) _ := s15.num (by rw [List.length_set]; exact hE20)
  have w23 : isR K E23 c (rs[i].1, p, true, lt + nI 1) := ⟨fE23_1, hPp.at (fun k g1 g2 => by rw [hE23, va_up_ne _ _ (by omega), hE20, va_up_ne _ _ (by omega), hE15, va_up_ne _ _ (by omega)]), hB10.at (fun k g1 g2 => by rw [hE23, va_up_ne _ _ (by omega), hE20, va_up_ne _ _ (by omega), hE15, va_up_ne _ _ (by omega)])⟩
  have s23 := s20.set (fun k hk => by rw [hE23, va_up_ne _ _ (by omega)]) w23
  rw [List.set_set] at s23
  exact ⟨s23.all, fun k hk => by rw [hE23, va_up_ne _ _ (by omega), hE20, va_up_ne _ _ (by omega), hE15, va_up_ne _ _ (by omega), hF10 k (by omega) (by omega)]⟩
