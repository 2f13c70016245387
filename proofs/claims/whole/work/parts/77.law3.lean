set_option maxHeartbeats 4000000 in
set_option maxRecDepth 100000 in
theorem lw_loop {X : gX} {K : gK} (CC : ∀ k n, k ≤ 600000 → n ≤ 7302250 → gC (gXa X k n) K code "DavRoomLaw" 4 2048 84000) (hcc : 600000 ≤ (xR X).cells) (hss : 7302250 ≤ (xR X).slots) (hkN : kN K = 966) {b L : Nat} {ys : Nat → Int32} (hX : va_X b L ys (xs X) (xs X).heap) (hbl : b < (xs X).heap.size) (hbA : ¬ xA X b) (hL : L ≤ 3072) (hend : ∀ (k n : Nat) (E : gE), k ≤ 600000 → n ≤ 7302250 → gW (gXa X k n) K E 344 [] []) : ∀ (d i k n T : Nat) (E : gE), i ≤ L → L < i + 6 * d → k + d ≤ 600000 → n + 5 * d ≤ 7302250 → T + d + 1 < 2 ^ 31 → LAWr K E T → gW (gXa X k n) K E 18 [(3, .int (nI i)), (2, .ref (ka K 490)), (1, .ref (ka K 0)), (0, .ref b)] [] := by
  intro d
  induction d with
  | zero =>
    intro i k n T E h1 h2
    exact absurd h2 (by omega)
  | succ d ih =>
    intro i k n T E hiL hd hk hn hT h
    have C := CC k n (by omega) (by omega)
    refine g_iload_n (pc := 18) C d_Law_law_18 0 rfl ?_
    refine g_aload_n (pc := 19) C d_Law_law_19 3 rfl ?_
    refine g_scl (pc := 20) (ys := ys) C hX hbl hbA d_Law_law_20 ?_
    refine g_bipush (pc := 21) (v := nI 6) C d_Law_law_21 (by decide) ?_
    refine g_isub (pc := 23) C d_Law_law_23 ?_
    refine g_icmp_gt (pc := 24) C 344 d_Law_law_24 (by decide) (fun h_24 => ?_) (fun h_24 => ?_)
    · skip
      exact g_lv [] rfl (hend k n E (by omega) (by omega))
    · skip
      have hi6 := lw_go (by omega) hL h_24
      have hnx : ∀ (k' n' T' : Nat) (E' : gE), k' ≤ k + 1 → n' ≤ n + 5 → T' ≤ T + 1 → LAWr K E' T' → gW (gXa X k' n') K E' 338 [(3, .int (nI i)), (2, .ref (ka K 490)), (1, .ref (ka K 0)), (0, .ref b)] [] := by
        intro k' n' T' E' hk' hn' hT' h'
        have C := CC k' n' (by omega) (by omega)
        refine g_iinc (pc := 338) (pl := 0) (v := nI (i + 6)) (lv' := [(3, .int (nI (i + 6))), (2, .ref (ka K 490)), (1, .ref (ka K 0)), (0, .ref b)]) C d_Law_law_338 rfl (nI_add _ 6) (by decide) rfl ?_
        refine g_goto (pc := 341) C 18 d_Law_law_341 (by decide) ?_
        exact g_lv [0, 1, 2, 3] rfl (ih (i + 6) k' n' T' E' (by omega) (by omega) (by omega) (by omega) (by omega) h')
      refine g_aload_n (pc := 27) C d_Law_law_27 3 rfl ?_
      refine g_iload_n (pc := 28) C d_Law_law_28 0 rfl ?_
      refine g_sld (pc := 29) (i := i) (ys := ys) C hX hbl hbA (by omega) (by omega) d_Law_law_29 ?_
      refine g_bipush (pc := 30) (v := nI 15) C d_Law_law_30 (by decide) ?_
      refine g_iand (pc := 32) C d_Law_law_32 ?_
      generalize ys i &&& nI 15 = x9
      rcases i32_split 9 (by omega) x9 with ⟨wk, hwk, rfl⟩ | ⟨hne, hout⟩
      · rcases (show wk = 0 ∨ wk = 1 ∨ wk = 2 ∨ wk = 3 ∨ wk = 4 ∨ wk = 5 ∨ wk = 6 ∨ wk = 7 ∨ wk = 8 ∨ wk = 9 by omega) with rfl | rfl | rfl | rfl | rfl | rfl | rfl | rfl | rfl | rfl
        · refine g_tswI (pc := 33) C 88 d_Law_law_33 (by decide) (by decide) rfl (by decide) ?_
          exact lw_b88 CC hcc hss hkN hX hbl hbA hL i k n T E hi6 (by omega) (by omega) (by omega) h hnx
        · refine g_tswI (pc := 33) C 151 d_Law_law_33 (by decide) (by decide) rfl (by decide) ?_
          exact lw_b151 CC hcc hss hkN hX hbl hbA hL i k n T E hi6 (by omega) (by omega) (by omega) h hnx
        · refine g_tswI (pc := 33) C 174 d_Law_law_33 (by decide) (by decide) rfl (by decide) ?_
          exact lw_b174 CC hcc hss hkN hX hbl hbA hL i k n T E hi6 (by omega) (by omega) (by omega) h hnx
        · refine g_tswI (pc := 33) C 187 d_Law_law_33 (by decide) (by decide) rfl (by decide) ?_
          exact lw_b187 CC hcc hss hkN hX hbl hbA hL i k n T E hi6 (by omega) (by omega) (by omega) h hnx
        · refine g_tswI (pc := 33) C 210 d_Law_law_33 (by decide) (by decide) rfl (by decide) ?_
          exact lw_b210 CC hcc hss hkN hX hbl hbA hL i k n T E hi6 (by omega) (by omega) (by omega) h hnx
        · refine g_tswI (pc := 33) C 233 d_Law_law_33 (by decide) (by decide) rfl (by decide) ?_
          exact lw_b233 CC hcc hss hkN hX hbl hbA hL i k n T E hi6 (by omega) (by omega) (by omega) h hnx
        · refine g_tswI (pc := 33) C 246 d_Law_law_33 (by decide) (by decide) rfl (by decide) ?_
          exact lw_b246 CC hcc hss hkN hX hbl hbA hL i k n T E hi6 (by omega) (by omega) (by omega) h hnx
        · refine g_tswI (pc := 33) C 259 d_Law_law_33 (by decide) (by decide) rfl (by decide) ?_
          exact lw_b259 CC hcc hss hkN hX hbl hbA hL i k n T E hi6 (by omega) (by omega) (by omega) h hnx
        · refine g_tswI (pc := 33) C 282 d_Law_law_33 (by decide) (by decide) rfl (by decide) ?_
          exact lw_b282 CC hcc hss hkN hX hbl hbA hL i k n T E hi6 (by omega) (by omega) (by omega) h hnx
        · refine g_tswI (pc := 33) C 315 d_Law_law_33 (by decide) (by decide) rfl (by decide) ?_
          exact lw_b315 CC hcc hss hkN hX hbl hbA hL i k n T E hi6 (by omega) (by omega) (by omega) h hnx
      · refine g_tswO (pc := 33) C 338 d_Law_law_33 hout (by decide) ?_
        exact hnx k n T E (by omega) (by omega) (by omega) h
