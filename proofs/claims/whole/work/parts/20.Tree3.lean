theorem map_get {α : Type} {v : Nat → α} {π : Nat → Nat} {n : Nat} {l : List α} (e : (List.range n).map (fun i => v (π i)) = l) : l.length = n ∧ ∀ (i : Nat) (h : i < l.length), v (π i) = l[i] := by
  subst e
  exact ⟨by simp, fun i h => by simp⟩
theorem map_of {α : Type} {v : Nat → α} {π : Nat → Nat} {l : List α} (e : ∀ (i : Nat) (h : i < l.length), v (π i) = l[i]) : (List.range l.length).map (fun i => v (π i)) = l := by
  apply List.ext_getElem
  · simp
  · intro i h1 h2
    simp
    exact e i h2
theorem map_push {α : Type} {v : Nat → α} {π : Nat → Nat} {l : List α} {N : Nat} {w : α} (hp : isPm N π) (hN : l.length < N) (e : ∀ (i : Nat) (h : i < l.length), v (π i) = l[i]) : (List.range (l.length + 1)).map (fun i => va_up v (π l.length) w (π i)) = l ++ [w] := by
  rw [map_range_succ, va_up_self, ← map_of e]
  simp only [List.length_map, List.length_range]
  congr 1
  apply List.map_congr_left
  intro i hi
  have h := List.mem_range.mp hi
  rw [va_up_ne _ _ (pm_ne hp (by omega) hN (by omega))]
theorem rawR.push2 {K : gK} {E E' : gE} {q n : Nat} {lt lt2 : Int32} {π : Nat → Nat} {v : Nat → Re} {w : Re} (h : rawR K E q n lt π v) (hN : n < 41) (h1 : E' q = .inr (5, [.ref (ka K (q + 1)), .int (nI (n + 1)), .int lt2])) (hw : isR K E' (q + 2 + 5 * π n) w) (hf : ∀ k, k ≠ q → (k < q + 2 + 5 * π n ∨ q + 2 + 5 * π n + 5 ≤ k) → E' k = E k) : rawR K E' q (n + 1) lt2 π (va_up v (π n) w) := by
  obtain ⟨a1, ⟨f, a2, a3⟩, a4, a5, a6, a8⟩ := h
  have hp := a4.1 n hN
  refine ⟨h1, ⟨f, (hf (q + 1) (by omega) (by omega)).trans a2, a3⟩, a4, fun j hj => ?_, by omega, a8⟩
  by_cases hji : j = π n
  · subst hji
    rw [va_up_self]
    exact hw
  · rw [va_up_ne _ _ hji]
    exact (a5 j hj).at (fun k g1 g2 => hf k (by omega) (by omega))
/-- one resource changes -/
theorem rawR.set {K : gK} {E E' : gE} {q n : Nat} {lt : Int32} {π : Nat → Nat} {v : Nat → Re} {w : Re} {j : Nat} (h : rawR K E q n lt π v) (hj : j < 41) (hf : frN (q + 2 + 5 * j) 5 E E') (hw : isR K E' (q + 2 + 5 * j) w) : rawR K E' q n lt π (va_up v j w) := by
  obtain ⟨a1, ⟨f, a2, a3⟩, a4, a5, a6, a8⟩ := h
  refine ⟨(hf q (by omega)).trans a1, ⟨f, (hf (q + 1) (by omega)).trans a2, a3⟩, a4, fun i hi => ?_, a6, a8⟩
  by_cases hij : i = j
  · subst hij
    rw [va_up_self]
    exact hw
  · rw [va_up_ne _ _ hij]
    exact (a5 i hi).out hf (by omega)
/-- what comes to another head -/
def mvB (fr to p : Bs) : Bs := to ++ p.drop fr.length
def mvR (fr to : Bs) (v : Re) : Re := if atIn v.1 fr = true then (mvB fr to v.1, v.2) else v
theorem atIn_len {p q : Bs} (h : atIn p q = true) : q.length ≤ p.length := by
  unfold atIn at h
  rw [Bool.and_eq_true] at h
  have := of_decide_eq_true h.1
  omega
/-- the copies: which go, what comes of each, the last version behind them -/
def cpW (fr to : Bs) (v : Re) (lt : Int32) : Re := (mvB fr to v.1, v.2.1, v.2.2.1, if v.2.2.1 = true then lt + nI 1 else v.2.2.2)
def cpG (dp : Bool) (fr : Bs) (v : Re) : Bool := if dp = true then atIn v.1 fr else decide (v.1 = fr)
def cpS (dp : Bool) (fr to : Bs) (s : List Re × Int32) (v : Re) : List Re × Int32 := if cpG dp fr v = true then (s.1 ++ [cpW fr to v s.2], if v.2.2.1 = true then s.2 + nI 1 else s.2) else s

set_option maxHeartbeats 4000000 in
set_option maxRecDepth 100000 in
theorem c_Tree_add (l : Launch) (K : gK) (E : gE) (q : Nat) (lt : Int32) (rs : List Re) (b cap : Nat) (p : Bs) (hf : rs.length < 41) (hp : p.length ≤ 45) (hdis : b + 2 ≤ q ∨ q + 207 ≤ b) (hB : isB K E b cap p) (hTT : isTT K E q lt rs) : gMq l y_Tree_add b_Tree_add 3 (.object "DavRoom$Resource") 3 192 K E [.ref (ka K q), .ref (ka K b)] (fun o E' => ∃ c i, o = some c ∧ slotR K E' q c i lt (sortF (rs ++ [(p, [], false, nI 0)])) ∧ (∃ h : i < (sortF (rs ++ [(p, [], false, nI 0)])).length, (sortF (rs ++ [(p, [], false, nI 0)]))[i] = (p, [], false, nI 0)) ∧ frN q 207 E E') := by
  have hTT0 := hTT
  obtain ⟨π, v, f, hq1, hq2, hqf, hpm, hal, hlen, hvl, hqN⟩ := hTT
  refine g_metq (by decide +kernel) (Nat.le_of_ble_eq_true rfl) (fun X hl C hR => ?_)
  subst hl
  show gW X K E 0 [(0, .ref (ka K q)), (1, .ref (ka K b))] []
  refine g_aload_n (pc := 0) C d_Tree_add_0 0 rfl ?_
  refine g_ci (pc := 1) C (g_rV (As := []) (rest := []) C (c_Tree_isFull _ K _ q lt rs hTT0) mw_Tree_isFull mo_Tree_isFull ml_Tree_79 (by decide) hq1 rfl (by omega) rfl rfl (Nat.le_of_ble_eq_true rfl) d_Tree_add_1) (fun r1 E1 hp1 => ?_)
  rw [hp1.1, hp1.2]
  refine g_if_eqB (pc := 4) C 9 d_Tree_add_4 (by decide) (fun h_4 => ?_) (fun h_4 => ?_)
  · skip
    obtain ⟨c, hc⟩ : ∃ c, c = q + 2 + 5 * π rs.length := ⟨_, rfl⟩
    have hpk := hpm.1 rs.length (by omega)
    have hcR : isR K E c (v (π rs.length)) := by rw [hc]; exact hal _ hpk
    have hcN : c + 5 ≤ kN K := by omega
    have hck : va_rf (f rs.length) = .ref (ka K c) := by rw [hqf rs.length (by omega), hc]; rfl
    have hc1 := hcR.1
    have hcp := hcR.2.1.1
    have hcb := hcR.2.2.1
    have hcpl := hcR.2.1.2.1
    have hcbl := hcR.2.2.2.1
    refine g_aload_n (pc := 9) C d_Tree_add_9 0 rfl ?_
    refine g_get (pc := 10) C fl_Tree_11 hq1 (by omega) rfl d_Tree_add_10 ?_
    refine g_aload_n (pc := 13) C d_Tree_add_13 0 rfl ?_
    refine g_get (pc := 14) C fl_Tree_26 hq1 (by omega) rfl d_Tree_add_14 ?_
    refine g_aldN (pc := 17) C hq2 (by omega) (gt_R _) (by omega) (by omega) d_Tree_add_17 (hv := hck) ?_
    refine g_astore_n (pc := 18) (lv' := [(2, .ref (ka K c)), (0, .ref (ka K q)), (1, .ref (ka K b))]) C d_Tree_add_18 rfl (by decide) rfl ?_
    refine g_aload_n (pc := 19) C d_Tree_add_19 0 rfl ?_
    refine g_get (pc := 20) C fl_Tree_16 hc1 (by omega) rfl d_Tree_add_20 ?_
    refine g_aload_n (pc := 23) C d_Tree_add_23 2 rfl ?_
    refine g_cv (pc := 24) C (g_rV (As := [.ref (ka K b)]) (rest := []) C (c_Bytes_become _ K _ (c + 1) 45 (v (π rs.length)).1 b cap p hp (by omega) (by omega) (by omega) hcR.2.1 hB) mw_Bytes_become mo_Bytes_become ml_Tree_83 (by decide) hcp rfl (by omega) rfl rfl (Nat.le_of_ble_eq_true rfl) d_Tree_add_24) (fun E24 hp24 => ?_)
    obtain ⟨hB24, hF24⟩ := hp24
    have gc1 := (hF24 c (by omega) (by omega)).trans hc1
    have gcb := (hF24 (c + 3) (by omega) (by omega)).trans hcb
    have gq1 := (hF24 q (by omega) (by omega)).trans hq1
    have hBb := hcR.2.2.fr hF24 (by omega) (by omega) (by omega)
    refine g_aload_n (pc := 27) C d_Tree_add_27 0 rfl ?_
    refine g_get (pc := 28) C fl_Tree_34 gc1 (by omega) rfl d_Tree_add_28 ?_
    refine g_cv (pc := 31) C (g_rV (As := []) (rest := []) C (c_Bytes_clear _ K _ (c + 3) 80 (v (π rs.length)).2.1 hBb) mw_Bytes_clear mo_Bytes_clear ml_Tree_87 (by decide) gcb rfl (by omega) rfl rfl (Nat.le_of_ble_eq_true rfl) d_Tree_add_31) (fun E31 hp31 => ?_)
    obtain ⟨hB31, hF31⟩ := hp31
    have kc1 := (hF31 c (by omega) (by omega)).trans gc1
    have kq1 := (hF31 q (by omega) (by omega)).trans gq1
    have hBp := hB24.fr hF31 (by omega) (by omega) (by omega)
    refine g_aload_n (pc := 34) C d_Tree_add_34 0 rfl ?_
    refine g_iconst (pc := 35) (v := nI 0) C d_Tree_add_35 (by decide) ?_
    refine g_put (pc := 36) C fl_Tree_30 fw_Res_isFile kc1 (by omega) (Nat.le_of_ble_eq_true rfl) ⟨rfl, rfl⟩ d_Tree_add_36 (fun E36 hE36 => ?_)
    have fE36_1 : E36 c = .inr (4, [.ref (ka K (c + 1)), .ref (ka K (c + 3)), .int (nI 0), .int ((v (π rs.length)).2.2.2)]) := by rw [hE36]; exact va_up_self _ _ _
    have fE36_2 := (congrFun hE36 q).trans ((va_up_ne _ _ (show q ≠ c from by omega)).trans kq1)
    refine g_aload_n (pc := 39) C d_Tree_add_39 0 rfl ?_
    refine g_iconst (pc := 40) (v := nI 0) C d_Tree_add_40 (by decide) ?_
    refine g_put (pc := 41) C fl_Tree_90 fw_Res_version fE36_1 (by omega) (Nat.le_of_ble_eq_true rfl) ⟨rfl, rfl⟩ d_Tree_add_41 (fun E41 hE41 => ?_)
    have fE41_1 : E41 c = .inr (4, [.ref (ka K (c + 1)), .ref (ka K (c + 3)), .int (nI 0), .int (nI 0)]) := by rw [hE41]; exact va_up_self _ _ _
    have fE41_2 := (congrFun hE41 q).trans ((va_up_ne _ _ (show q ≠ c from by omega)).trans fE36_2)
    refine g_aload_n (pc := 44) C d_Tree_add_44 1 rfl ?_
    refine g_dup (pc := 45) C d_Tree_add_45 rfl ?_
    refine g_get (pc := 46) C fl_Tree_26 fE41_2 (by omega) rfl d_Tree_add_46 ?_
    refine g_iconst (pc := 49) (v := nI 1) C d_Tree_add_49 (by decide) ?_
    refine g_iaddN (pc := 50) C d_Tree_add_50 ?_
    refine g_put (pc := 51) C fl_Tree_26 fw_Tree_size fE41_2 (by omega) (Nat.le_of_ble_eq_true rfl) ⟨rfl, rfl⟩ d_Tree_add_51 (fun E51 hE51 => ?_)
    have fE51_1 := (congrFun hE51 c).trans ((va_up_ne _ _ (show c ≠ q from by omega)).trans fE41_1)
    have fE51_2 : E51 q = .inr (5, [.ref (ka K (q + 1)), .int (nI (rs.length + 1)), .int lt]) := by rw [hE51]; exact va_up_self _ _ _
    refine g_aload_n (pc := 54) C d_Tree_add_54 1 rfl ?_
    have hf51 : ∀ k, k ≠ q → (k < c ∨ c + 5 ≤ k) → E51 k = E k := fun k g1 g2 => by rw [hE51, va_up_ne _ _ (by omega), hE41, va_up_ne _ _ (by omega), hE36, va_up_ne _ _ (by omega), hF31 k (by omega) (by omega), hF24 k (by omega) (by omega)]
    have hw51 : isR K E51 c (p, [], false, nI 0) := ⟨fE51_1, hBp.at (fun k g1 g2 => by rw [hE51, va_up_ne _ _ (by omega), hE41, va_up_ne _ _ (by omega), hE36, va_up_ne _ _ (by omega)]), hB31.at (fun k g1 g2 => by rw [hE51, va_up_ne _ _ (by omega), hE41, va_up_ne _ _ (by omega), hE36, va_up_ne _ _ (by omega)])⟩
    have hr51 : rawR K E51 q (rs.length + 1) lt π (va_up v (π rs.length) (p, [], false, nI 0)) := rawR.push2 ⟨hq1, ⟨f, hq2, hqf⟩, hpm, hal, hlen, hqN⟩ hf fE51_2 (hc ▸ hw51) (hc ▸ hf51)
    refine g_cv (pc := 55) C (g_rV (As := []) (rest := []) C (c_Tree_sort _ K _ q (rs.length + 1) lt π (va_up v (π rs.length) (p, [], false, nI 0)) (by omega) hr51) mw_Tree_sort mo_Tree_sort ml_Tree_93 (by decide) fE51_2 rfl (by omega) rfl rfl (Nat.le_of_ble_eq_true rfl) d_Tree_add_55) (fun E55 hp55 => ?_)
    obtain ⟨π', hr55, hso, hin, hF55⟩ := hp55
    refine g_aload_n (pc := 58) C d_Tree_add_58 0 rfl ?_
    refine g_aret (pc := 59) (k := some c) C hR rfl d_Tree_add_59 ?_
    rw [map_push hpm hf hvl] at hso
    obtain ⟨j', hj', ej⟩ := hin rs.length (by omega)
    obtain ⟨hln, hget⟩ := map_get hso
    have hj2 : j' < (sortF (rs ++ [(p, [], false, nI 0)])).length := by omega
    refine ⟨c, j', rfl, ⟨π', _, hln ▸ hr55, hget, hj2, by rw [ej, hc]⟩, ⟨hj2, ?_⟩, fun k hk => (hF55 k (by omega)).trans (hf51 k (by omega) (by omega))⟩
    rw [← hget j' hj2, ej, va_up_self]
  · exact absurd (of_decide_eq_true h_4) (by omega)

set_option maxHeartbeats 4000000 in
set_option maxRecDepth 100000 in
theorem w_removeAll {X : gX} {K : gK} (C : gC X K b_Tree_removeAll "DavRoom$Tree" 5 2 128) (E : gE) (q : Nat) (lt : Int32) (rs : List Re) (π : Nat → Nat) (v : Nat → Re) (b cap : Nat) (p : Bs) (hdis : b + 2 ≤ q ∨ q + 207 ≤ b) (hB : isB K E b cap p) (hvl : ∀ (i : Nat) (h : i < rs.length), v (π i) = rs[i]) (hR : gRv X K (fun E' => isTT K E' q lt (rs.filter (fun v : Re => !atIn v.1 p)) ∧ frN q 207 E E')) : ∀ (d k stay : Nat) (E1 : gE) (π1 : Nat → Nat), k ≤ rs.length → rs.length + 1 ≤ k + d → stay ≤ k → rawR K E1 q rs.length lt π1 v → frN q 207 E E1 → (∀ j, k ≤ j → π1 j = π j) → (List.range stay).map (fun i => v (π1 i)) = (rs.take k).filter (fun v : Re => !atIn v.1 p) → gW X K E1 4 [(3, .int (nI k)), (2, .int (nI stay)), (0, .ref (ka K q)), (1, .ref (ka K b))] [] := by
  intro d
  induction d with
  | zero =>
    intro k stay E1 π1 h1 h2
    exact absurd h2 (by omega)
  | succ d ih =>
    intro k stay E1 π1 hki hd hst hraw hfr hpi hmap
    have hraw0 := hraw
    obtain ⟨hq1, ⟨f, hq2, hqf⟩, hpm, hal, hlen, hqN⟩ := hraw
    have hB1 := hB.out hfr hdis
    refine g_iload_n (pc := 4) C d_Tree_removeAll_4 0 rfl ?_
    refine g_aload_n (pc := 5) C d_Tree_removeAll_5 2 rfl ?_
    refine g_get (pc := 6) C fl_Tree_26 hq1 (by omega) rfl d_Tree_removeAll_6 ?_
    refine g_icmp_geN (pc := 9) C 61 d_Tree_removeAll_9 (by decide) (by omega) (by omega) (fun h_9 => ?_) (fun h_9 => ?_)
    · skip
      have ek : k = rs.length := by omega
      rw [ek, List.take_length] at hmap
      refine g_aload_n (pc := 61) C d_Tree_removeAll_61 2 rfl ?_
      refine g_iload_n (pc := 62) C d_Tree_removeAll_62 1 rfl ?_
      refine g_put (pc := 63) C fl_Tree_26 fw_Tree_size hq1 (by omega) (Nat.le_of_ble_eq_true rfl) ⟨rfl, rfl⟩ d_Tree_removeAll_63 (fun E63 hE63 => ?_)
      have fE63_1 : E63 q = .inr (5, [.ref (ka K (q + 1)), .int (nI stay), .int lt]) := by rw [hE63]; exact va_up_self _ _ _
      have fE63_2 := (congrFun hE63 (q + 1)).trans ((va_up_ne _ _ (show q + 1 ≠ q from by omega)).trans hq2)
      refine g_vret (pc := 66) C hR d_Tree_removeAll_66 ?_
      have hfr2 : frN q 207 E E63 := fun j hj => by rw [hE63, va_up_ne _ _ (by omega)]; exact hfr j hj
      have hr2 : rawR K E63 q stay lt π1 v := ⟨fE63_1, ⟨f, fE63_2, hqf⟩, hpm, fun j hj => (hal j hj).at (fun i g1 g2 => by rw [hE63, va_up_ne _ _ (by omega)]), by omega, hqN⟩
      exact ⟨hr2.fin hmap, hfr2⟩
    · skip
      have hk : k < rs.length := h_9
      obtain ⟨c, hc⟩ : ∃ c, c = q + 2 + 5 * π1 k := ⟨_, rfl⟩
      obtain ⟨e, he⟩ : ∃ e, e = q + 2 + 5 * π1 stay := ⟨_, rfl⟩
      have hpk := hpm.1 k (by omega)
      have hpe := hpm.1 stay (by omega)
      have hvk : v (π1 k) = rs[k] := by rw [hpi k (Nat.le_refl _)]; exact hvl k hk
      have hcR : isR K E1 c rs[k] := by rw [hc, ← hvk]; exact hal (π1 k) hpk
      have heR : isR K E1 e (v (π1 stay)) := by rw [he]; exact hal _ hpe
      have he1 := heR.1
      have hck : va_rf (f k) = .ref (ka K c) := by rw [hqf k (by omega), hc]; rfl
      have hek : va_rf (f stay) = .ref (ka K e) := by rw [hqf stay (by omega), he]; rfl
      have hc1 := hcR.1
      have hcp := hcR.2.1.1
      have hcb := hcR.2.2.1
      have hcpl := hcR.2.1.2.1
      have hcbl := hcR.2.2.2.1
      refine g_aload_n (pc := 12) C d_Tree_removeAll_12 2 rfl ?_
      refine g_get (pc := 13) C fl_Tree_11 hq1 (by omega) rfl d_Tree_removeAll_13 ?_
      refine g_iload_n (pc := 16) C d_Tree_removeAll_16 0 rfl ?_
      refine g_aldN (pc := 17) C hq2 (by omega) (gt_R _) (by omega) (by omega) d_Tree_removeAll_17 (hv := hck) ?_
      refine g_astore (pc := 18) (lv' := [(4, .ref (ka K c)), (3, .int (nI k)), (2, .int (nI stay)), (0, .ref (ka K q)), (1, .ref (ka K b))]) C d_Tree_removeAll_18 (by decide) rfl ?_
      refine g_aload (pc := 20) C d_Tree_removeAll_20 0 rfl ?_
      refine g_get (pc := 22) C fl_Tree_16 hc1 (by omega) rfl d_Tree_removeAll_22 ?_
      refine g_aload_n (pc := 25) C d_Tree_removeAll_25 4 rfl ?_
      refine g_ci (pc := 26) C (g_rS (As := [.ref (ka K (c + 1)), .ref (ka K b)]) (rest := []) C (c_Paths_isAtOrIn _ K _ (c + 1) 45 rs[k].1 b cap p hcR.2.1 hB1) mw_Paths_isAtOrIn mo_Paths_isAtOrIn ml_Tree_58 (by decide) rfl rfl (Nat.le_of_ble_eq_true rfl) d_Tree_removeAll_26) (fun r26 E26 hp26 => ?_)
      rw [hp26.1, hp26.2]
      refine g_if_neB (pc := 29) C 55 d_Tree_removeAll_29 (by decide) (fun h_29 => ?_) (fun h_29 => ?_)
      · skip
        refine g_iinc (pc := 55) (pl := 1) (v := nI (k + 1)) (lv' := [(3, .int (nI (k + 1))), (4, .ref (ka K c)), (2, .int (nI stay)), (0, .ref (ka K q)), (1, .ref (ka K b))]) C d_Tree_removeAll_55 rfl (nI_1 _) (by decide) rfl ?_
        refine g_goto (pc := 58) C 4 d_Tree_removeAll_58 (by decide) ?_
        exact g_lv [0, 2, 3, 4] rfl (ih (k + 1) stay E1 π1 (by omega) (by omega) (by omega) hraw0 hfr (fun j hj => hpi j (by omega)) (by rw [tk_flt _ hk, if_neg (by simp [h_29]), List.append_nil]; exact hmap))
      · skip
        refine g_aload_n (pc := 32) C d_Tree_removeAll_32 3 rfl ?_
        refine g_get (pc := 33) C fl_Tree_11 hq1 (by omega) rfl d_Tree_removeAll_33 ?_
        refine g_iload_n (pc := 36) C d_Tree_removeAll_36 1 rfl ?_
        refine g_aload_n (pc := 37) C d_Tree_removeAll_37 3 rfl ?_
        refine g_get (pc := 38) C fl_Tree_11 hq1 (by omega) rfl d_Tree_removeAll_38 ?_
        refine g_iload_n (pc := 41) C d_Tree_removeAll_41 2 rfl ?_
        refine g_aldN (pc := 42) C hq2 (by omega) (gt_R _) (by omega) (by omega) d_Tree_removeAll_42 (hv := hek) ?_
        refine g_astN (pc := 43) C hq2 (by omega) (gt_R _) (by omega) (by omega) he1 (by omega) rfl d_Tree_removeAll_43 (fun E43 hE43 => ?_)
        have fE43_1 := (congrFun hE43 q).trans ((va_up_ne _ _ (show q ≠ q + 1 from by omega)).trans hq1)
        have fE43_2 : E43 (q + 1) = .inl (kc K 1, 41, .inr (.inr (.inr (.inr (va_up f k (some (ka K e))))))) := by rw [hE43]; exact va_up_self _ _ _
        have fE43_3 := (congrFun hE43 c).trans ((va_up_ne _ _ (show c ≠ q + 1 from by omega)).trans hc1)
        have fE43_4 := (congrFun hE43 (c + 1)).trans ((va_up_ne _ _ (show c + 1 ≠ q + 1 from by omega)).trans hcp)
        have fE43_5 := (congrFun hE43 (c + 3)).trans ((va_up_ne _ _ (show c + 3 ≠ q + 1 from by omega)).trans hcb)
        have fE43_6 := (congrFun hE43 e).trans ((va_up_ne _ _ (show e ≠ q + 1 from by omega)).trans he1)
        refine g_aload_n (pc := 44) C d_Tree_removeAll_44 3 rfl ?_
        refine g_get (pc := 45) C fl_Tree_11 fE43_1 (by omega) rfl d_Tree_removeAll_45 ?_
        refine g_iload_n (pc := 48) C d_Tree_removeAll_48 2 rfl ?_
        refine g_aload (pc := 49) C d_Tree_removeAll_49 0 rfl ?_
        refine g_astN (pc := 51) C fE43_2 (by omega) (gt_R _) (by omega) (by omega) fE43_3 (by omega) rfl d_Tree_removeAll_51 (fun E51 hE51 => ?_)
        have fE51_1 := (congrFun hE51 q).trans ((va_up_ne _ _ (show q ≠ q + 1 from by omega)).trans fE43_1)
        have fE51_2 : E51 (q + 1) = .inl (kc K 1, 41, .inr (.inr (.inr (.inr (va_up (va_up f k (some (ka K e))) stay (some (ka K c))))))) := by rw [hE51]; exact va_up_self _ _ _
        have fE51_3 := (congrFun hE51 c).trans ((va_up_ne _ _ (show c ≠ q + 1 from by omega)).trans fE43_3)
        have fE51_4 := (congrFun hE51 (c + 1)).trans ((va_up_ne _ _ (show c + 1 ≠ q + 1 from by omega)).trans fE43_4)
        have fE51_5 := (congrFun hE51 (c + 3)).trans ((va_up_ne _ _ (show c + 3 ≠ q + 1 from by omega)).trans fE43_5)
        have fE51_6 := (congrFun hE51 e).trans ((va_up_ne _ _ (show e ≠ q + 1 from by omega)).trans fE43_6)
        refine g_iinc (pc := 52) (pl := 2) (v := nI (stay + 1)) (lv' := [(2, .int (nI (stay + 1))), (4, .ref (ka K c)), (3, .int (nI k)), (0, .ref (ka K q)), (1, .ref (ka K b))]) C d_Tree_removeAll_52 rfl (nI_1 _) (by decide) rfl ?_
        refine g_iinc (pc := 55) (pl := 2) (v := nI (k + 1)) (lv' := [(3, .int (nI (k + 1))), (2, .int (nI (stay + 1))), (4, .ref (ka K c)), (0, .ref (ka K q)), (1, .ref (ka K b))]) C d_Tree_removeAll_55 rfl (nI_1 _) (by decide) rfl ?_
        refine g_goto (pc := 58) C 4 d_Tree_removeAll_58 (by decide) ?_
        have hfr2 : frN (q + 1) 1 E1 E51 := fun j hj => by rw [hE51, va_up_ne _ _ (by omega), hE43, va_up_ne _ _ (by omega)]
        refine g_lv [0, 1, 3, 4] rfl (ih (k + 1) (stay + 1) E51 (swp π1 stay k) (by omega) (by omega) (by omega) ⟨fE51_1, ⟨_, fE51_2, fun j hj => ?_⟩, swp_pm hpm (by omega) (by omega), fun j hj => (hal j hj).at (fun i g1 g2 => hfr2 i (by omega)), hlen, hqN⟩ (hfr.trans (hfr2.wide (by omega) (by omega))) (fun j hj => by rw [swp_ge hst (by omega)]; exact hpi j (by omega)) (by rw [tk_flt _ hk, if_pos (by simp [h_29]), ← hvk]; exact swp_keep hst hmap))
        by_cases h1 : j = stay
        · rw [h1, va_up_self, swp_a, hc]
        · rw [va_up_ne _ _ h1]
          by_cases h2 : j = k
          · rw [h2, va_up_self, he, swp, if_neg (by omega), if_pos rfl]
          · rw [va_up_ne _ _ h2, hqf j hj, swp, if_neg h1, if_neg h2]

set_option maxHeartbeats 4000000 in
set_option maxRecDepth 100000 in
theorem c_Tree_removeAll (l : Launch) (K : gK) (E : gE) (q : Nat) (lt : Int32) (rs : List Re) (b cap : Nat) (p : Bs) (hdis : b + 2 ≤ q ∨ q + 207 ≤ b) (hB : isB K E b cap p) (hTT : isTT K E q lt rs) : gMv l y_Tree_removeAll b_Tree_removeAll 5 2 128 K E [.ref (ka K q), .ref (ka K b)] (fun E' => isTT K E' q lt (rs.filter (fun v : Re => !atIn v.1 p)) ∧ frN q 207 E E') := by
  obtain ⟨π, v, hraw, hvl⟩ := hTT.raw
  refine g_metv (by decide +kernel) (Nat.le_of_ble_eq_true rfl) (fun X hl C hR => ?_)
  subst hl
  show gW X K E 0 [(0, .ref (ka K q)), (1, .ref (ka K b))] []
  refine g_iconst (pc := 0) (v := nI 0) C d_Tree_removeAll_0 (by decide) ?_
  refine g_istore_n (pc := 1) (lv' := [(2, .int (nI 0)), (0, .ref (ka K q)), (1, .ref (ka K b))]) C d_Tree_removeAll_1 rfl (by decide) rfl ?_
  refine g_iconst (pc := 2) (v := nI 0) C d_Tree_removeAll_2 (by decide) ?_
  refine g_istore_n (pc := 3) (lv' := [(3, .int (nI 0)), (2, .int (nI 0)), (0, .ref (ka K q)), (1, .ref (ka K b))]) C d_Tree_removeAll_3 rfl (by decide) rfl ?_
  exact g_lv [0, 1, 2, 3] rfl (w_removeAll C E q lt rs π v b cap p hdis hB hvl hR (rs.length + 1) 0 0 E π (Nat.zero_le _) (by omega) (Nat.le_refl _) hraw frN.refl (fun j _ => rfl) rfl)

set_option maxHeartbeats 4000000 in
set_option maxRecDepth 100000 in
theorem w_Tree_become {X : gX} {K : gK} (C : gC X K b_Tree_become "DavRoom$Tree" 3 3 192) (E : gE) (q : Nat) (lt : Int32) (rs : List Re) (o : Nat) (lo : Int32) (rs2 : List Re) (hdis : o + 207 ≤ q ∨ q + 207 ≤ o) (π : Nat → Nat) (hO : isTT K E o lo rs2) (hR : gRv X K (fun E' => isTT K E' q lt rs2 ∧ frN q 207 E E')) : ∀ (d k : Nat) (E1 : gE) (v1 : Nat → Re), k ≤ rs2.length → rs2.length + 1 ≤ k + d → rawR K E1 q rs2.length lt π v1 → frN q 207 E E1 → (∀ (i : Nat) (h : i < rs2.length), i < k → v1 (π i) = rs2[i]) → gW X K E1 10 [(2, .int (nI k)), (0, .ref (ka K q)), (1, .ref (ka K o))] [] := by
  intro d
  induction d with
  | zero =>
    intro k E1 v1 h1 h2
    exact absurd h2 (by omega)
  | succ d ih =>
    intro k E1 v1 hki hd hraw hfr hinv
    have hraw0 := hraw
    obtain ⟨hq1, ⟨f, hq2, hqf⟩, hpm, hal, hlen, hqN⟩ := hraw
    obtain ⟨πo, vo, fo, ho1, ho2, hqfo, hpmo, halo, hleno, hvo, hoN⟩ := hO.out hfr (by omega)
    refine g_iload_n (pc := 10) C d_Tree_become_10 0 rfl ?_
    refine g_aload_n (pc := 11) C d_Tree_become_11 1 rfl ?_
    refine g_get (pc := 12) C fl_Tree_26 hq1 (by omega) rfl d_Tree_become_12 ?_
    refine g_icmp_geN (pc := 15) C 39 d_Tree_become_15 (by decide) (by omega) (by omega) (fun h_15 => ?_) (fun h_15 => ?_)
    · skip
      have ek : k = rs2.length := by omega
      refine g_vret (pc := 39) C hR d_Tree_become_39 ?_
      exact ⟨hraw0.fin (map_of (fun i h => hinv i h (by omega))), hfr⟩
    · skip
      have hk : k < rs2.length := h_15
      obtain ⟨c, hc⟩ : ∃ c, c = q + 2 + 5 * π k := ⟨_, rfl⟩
      obtain ⟨e, he⟩ : ∃ e, e = o + 2 + 5 * πo k := ⟨_, rfl⟩
      have hpk := hpm.1 k (by omega)
      have hpe := hpmo.1 k (by omega)
      have hcR : isR K E1 c (v1 (π k)) := by rw [hc]; exact hal (π k) hpk
      have heR : isR K E1 e rs2[k] := by rw [he, ← hvo k hk]; exact halo (πo k) hpe
      have hcN : c + 5 ≤ kN K := by omega
      have hck : va_rf (f k) = .ref (ka K c) := by rw [hqf k (by omega), hc]; rfl
      have hek : va_rf (fo k) = .ref (ka K e) := by rw [hqfo k (by omega), he]; rfl
      have hc1 := hcR.1
      have he1 := heR.1
      refine g_aload_n (pc := 18) C d_Tree_become_18 1 rfl ?_
      refine g_get (pc := 19) C fl_Tree_11 hq1 (by omega) rfl d_Tree_become_19 ?_
      refine g_iload_n (pc := 22) C d_Tree_become_22 0 rfl ?_
      refine g_aldN (pc := 23) C hq2 (by omega) (gt_R _) (by omega) (by omega) d_Tree_become_23 (hv := hck) ?_
      refine g_aload_n (pc := 24) C d_Tree_become_24 2 rfl ?_
      refine g_get (pc := 25) C fl_Tree_11 ho1 (by omega) rfl d_Tree_become_25 ?_
      refine g_iload_n (pc := 28) C d_Tree_become_28 0 rfl ?_
      refine g_aldN (pc := 29) C ho2 (by omega) (gt_R _) (by omega) (by omega) d_Tree_become_29 (hv := hek) ?_
      refine g_cv (pc := 30) C (g_rV (As := [.ref (ka K e)]) (rest := []) C (c_Res_become _ K _ c e (v1 (π k)) rs2[k] (by omega) hcR heR) mw_Res_become mo_Res_become ml_Tree_114 (by decide) hc1 rfl (by omega) rfl rfl (Nat.le_of_ble_eq_true rfl) d_Tree_become_30) (fun E30 hp30 => ?_)
      obtain ⟨hR30, hF30⟩ := hp30
      refine g_iinc (pc := 33) (pl := 0) (v := nI (k + 1)) (lv' := [(2, .int (nI (k + 1))), (0, .ref (ka K q)), (1, .ref (ka K o))]) C d_Tree_become_33 rfl (nI_1 _) (by decide) rfl ?_
      refine g_goto (pc := 36) C 10 d_Tree_become_36 (by decide) ?_
      refine g_lv [0, 1, 2] rfl (ih (k + 1) E30 (va_up v1 (π k) rs2[k]) (by omega) (by omega) (hraw0.set hpk (hc ▸ hF30) (hc ▸ hR30)) (hfr.trans (hF30.wide (by omega) (by omega))) (fun i hi hik => ?_))
      by_cases hik2 : i = k
      · subst hik2
        rw [va_up_self]
      · rw [va_up_ne _ _ (pm_ne hpm (by omega) (by omega) hik2)]
        exact hinv i hi (by omega)

set_option maxHeartbeats 4000000 in
set_option maxRecDepth 100000 in
theorem c_Tree_become (l : Launch) (K : gK) (E : gE) (q : Nat) (lt : Int32) (rs : List Re) (o : Nat) (lo : Int32) (rs2 : List Re) (hdis : o + 207 ≤ q ∨ q + 207 ≤ o) (hTT : isTT K E q lt rs) (hO : isTT K E o lo rs2) : gMv l y_Tree_become b_Tree_become 3 3 192 K E [.ref (ka K q), .ref (ka K o)] (fun E' => isTT K E' q lt rs2 ∧ frN q 207 E E') := by
  obtain ⟨π, v, hraw, hvl⟩ := hTT.raw
  obtain ⟨hq1, ⟨f, hq2, hqf⟩, hpm, hal, hlen, hqN⟩ := hraw
  have hO0 := hO
  obtain ⟨πo, vo, fo, ho1, ho2, hqfo, hpmo, halo, hleno, hvo, hoN⟩ := hO
  refine g_metv (by decide +kernel) (Nat.le_of_ble_eq_true rfl) (fun X hl C hR => ?_)
  subst hl
  show gW X K E 0 [(0, .ref (ka K q)), (1, .ref (ka K o))] []
  refine g_aload_n (pc := 0) C d_Tree_become_0 0 rfl ?_
  refine g_aload_n (pc := 1) C d_Tree_become_1 1 rfl ?_
  refine g_get (pc := 2) C fl_Tree_26 ho1 (by omega) rfl d_Tree_become_2 ?_
  refine g_put (pc := 5) C fl_Tree_26 fw_Tree_size hq1 (by omega) (Nat.le_of_ble_eq_true rfl) ⟨rfl, rfl⟩ d_Tree_become_5 (fun E5 hE5 => ?_)
  have fE5_1 : E5 q = .inr (5, [.ref (ka K (q + 1)), .int (nI rs2.length), .int lt]) := by rw [hE5]; exact va_up_self _ _ _
  have fE5_2 := (congrFun hE5 (q + 1)).trans ((va_up_ne _ _ (show q + 1 ≠ q from by omega)).trans hq2)
  have fE5_3 := (congrFun hE5 o).trans ((va_up_ne _ _ (show o ≠ q from by omega)).trans ho1)
  refine g_iconst (pc := 8) (v := nI 0) C d_Tree_become_8 (by decide) ?_
  refine g_istore_n (pc := 9) (lv' := [(2, .int (nI 0)), (0, .ref (ka K q)), (1, .ref (ka K o))]) C d_Tree_become_9 rfl (by decide) rfl ?_
  exact g_lv [0, 1, 2] rfl (w_Tree_become C E q lt rs o lo rs2 hdis π hO0 hR (rs2.length + 1) 0 E5 v (Nat.zero_le _) (by omega) ⟨fE5_1, ⟨f, fE5_2, hqf⟩, hpm, fun j hj => (hal j hj).at (fun i g1 g2 => by rw [hE5, va_up_ne _ _ (by omega)]), hleno, hqN⟩ (fun j hj => by rw [hE5, va_up_ne _ _ (by omega)]) (fun i _ h => absurd h (Nat.not_lt_zero _)))
