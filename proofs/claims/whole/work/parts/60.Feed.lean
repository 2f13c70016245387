theorem sh_bits (x : Int32) (b : Int32) (n : Nat) (hn : n ≤ 24) (h1 : (b.toBitVec.smod 32).toNat = n) (h2 : (b.toUInt32.toBitVec % 32).toNat = n) : lo8 (x >>> b) = lo8 ((x.toUInt32 >>> b.toUInt32).toInt32) := by
  apply UInt8.toBitVec_inj.mp
  show BitVec.signExtend 8 (BitVec.sshiftRight' x.toBitVec (b.toBitVec.smod 32)) = BitVec.signExtend 8 (x.toBitVec >>> (b.toUInt32.toBitVec % 32))
  apply BitVec.eq_of_getLsbD_eq
  intro i hi
  rw [BitVec.getLsbD_signExtend, BitVec.getLsbD_signExtend, BitVec.sshiftRight', BitVec.getLsbD_sshiftRight, BitVec.ushiftRight_eq', BitVec.getLsbD_ushiftRight, h1, h2]
  simp [show n + i < 32 by omega, show ¬ 32 ≤ i by omega, show i < 32 by omega]
theorem sh_eq8 (x : Int32) (s : Nat) (h : s = 0 ∨ s = 8 ∨ s = 16 ∨ s = 24) : lo8 (x >>> (nI s &&& 31)) = lo8 (shI x s) := by
  rcases h with rfl | rfl | rfl | rfl
  · exact sh_bits x _ 0 (by decide) (by decide) (by decide)
  · exact sh_bits x _ 8 (by decide) (by decide) (by decide)
  · exact sh_bits x _ 16 (by decide) (by decide) (by decide)
  · exact sh_bits x _ 24 (by decide) (by decide) (by decide)
theorem fd_div : ∀ i : Nat, i < 20 → nI i / nI 4 = nI (i / 4) := by decide
theorem fd_sh : ∀ i : Nat, i < 20 → nI 24 - nI 8 * (nI i - nI i / nI 4 * nI 4) = nI (24 - 8 * (i % 4)) := by decide
def w5f (w1 w2 w3 w4 w5 : Int32) : Nat → Int32 := upd (upd (upd (upd (upd (fun _ => nI 0) 0 w1) 1 w2) 2 w3) 3 w4) 4 w5
theorem w5_at {tp : Bs} {w1 w2 w3 w4 w5 : Int32} : ∀ (i : Nat), i < 20 → ∀ (h : tp.length + i < (tp ++ wordB w1 ++ wordB w2 ++ wordB w3 ++ wordB w4 ++ wordB w5).length), (tp ++ wordB w1 ++ wordB w2 ++ wordB w3 ++ wordB w4 ++ wordB w5)[tp.length + i] = lo8 (shI (w5f w1 w2 w3 w4 w5 (i / 4)) (24 - 8 * (i % 4))) := by
  intro i hi h
  have e : tp ++ wordB w1 ++ wordB w2 ++ wordB w3 ++ wordB w4 ++ wordB w5 = tp ++ (wordB w1 ++ wordB w2 ++ wordB w3 ++ wordB w4 ++ wordB w5) := by simp only [List.append_assoc]
  have e2 : (tp ++ wordB w1 ++ wordB w2 ++ wordB w3 ++ wordB w4 ++ wordB w5)[tp.length + i]? = (wordB w1 ++ wordB w2 ++ wordB w3 ++ wordB w4 ++ wordB w5)[i]? := by
    rw [e, List.getElem?_append_right (by omega), Nat.add_sub_cancel_left]
  rw [List.getElem?_eq_getElem h] at e2
  apply Option.some.inj
  rw [e2]
  rcases (show i = 0 ∨ i = 1 ∨ i = 2 ∨ i = 3 ∨ i = 4 ∨ i = 5 ∨ i = 6 ∨ i = 7 ∨ i = 8 ∨ i = 9 ∨ i = 10 ∨ i = 11 ∨ i = 12 ∨ i = 13 ∨ i = 14 ∨ i = 15 ∨ i = 16 ∨ i = 17 ∨ i = 18 ∨ i = 19 by omega) with rfl | rfl | rfl | rfl | rfl | rfl | rfl | rfl | rfl | rfl | rfl | rfl | rfl | rfl | rfl | rfl | rfl | rfl | rfl | rfl <;> rfl
/-! a method that makes one cell that nobody keeps -/
def gRF (X : gX) (K : gK) (post : Int32 → gE → Prop) : Prop := (xM X).sig.returnType = some .int ∧ xQ X = MQ (xb X) (va_Qi post (gB K) (xA X)) (xa X) (xs X) 1 5 (xA X)
def gMF (l : Launch) (y : MethodName) (cc : ByteArray) (mL rf rl : Nat) (K : gK) (E : gE) (av : List Value) (post : Int32 → gE → Prop) : Prop :=
  ∀ sz, Met l y (.code y cc mL (some .int) :: TB) (gRmG rf rl 1 5) (gPc K E av sz) (va_Qi post (gB K) (gA (ka K) (kN K) sz)) 1 5 (gA (ka K) (kN K) sz)
theorem g_metF {l : Launch} {y : MethodName} {cc : ByteArray} {mL rf rl : Nat} {K : gK} {E : gE} {av : List Value} {post : Int32 → gE → Prop} (hy : plainName y.cls = true) (hav : (lg_sl av).length ≤ mL) (body : ∀ X : gX, xl X = l → (∀ k n ad M, k ≤ 1 → n ≤ 5 → gC (gXa X k n) (kD K, kc K, ad, M, ks K, kv K) cc y.cls mL rf rl) → 1 ≤ (xR X).cells → 5 ≤ (xR X).slots → gRF X K post → gW (gXa X 0 0) K E 0 (lv_args 0 av) []) : gMF l y cc mL rf rl K E av post := by
  intro sz
  refine Met.ofW (cc := cc) (maxL := mL) (ret := some .int) hy rfl ?_
  intro p e s m args below meth c s₁ B hml hv
  obtain ⟨rfl, hsz, hP, hI, hT, hZ⟩ := hv
  have hts := atoms_spec (ws := Cond.code y cc mL (some .int) :: TB) B.pre
  subst hsz
  have hW := body (p, l, e, (headSpec (Cond.code y cc mL (some .int) :: TB) (gRmG rf rl 1 5)).room, s, m, av.toArray, below, meth, c, MQ below (va_Qi post (gB K) (gA (ka K) (kN K) s.heap.size)) av.toArray s 1 5 (gA (ka K) (kN K) s.heap.size), gA (ka K) (kN K) s.heap.size, 0, 0, mL) rfl
    (fun k n ad M hk hn => ⟨B.exec, B.bytes, rfl, hml, B.notSynchronized, findClass_of_methodNamed B.named, fun w hw => hts w (List.mem_cons_of_mem _ hw), hT, hZ, rfl, rfl, fun q h => Or.inr h, hk, hn⟩) (Nat.le_refl _) (Nat.le_refl _) ⟨B.returns, rfl⟩
  rw [lg_entry_eq]
  exact hW s.heap [] _ ⟨hP, gInj.D hI, va_S.rf⟩ (lv_entry av hav)
section GFEED
variable {X : gX} {K K0 : gK} {cc : ByteArray} {own : String} {mL rf rl pc N : Nat} {E : gE} {lv : List (Nat × Value)} {st : List Value} {post : Int32 → gE → Prop}
theorem g_iretF (C : gC (gXa X 1 5) (gKa K (N + 1)) cc own mL rf rl) (hR : gRF X K0 post) (hN : kN K0 = N) (hD : kD K0 = kD K) (hka : ∀ c, c < N → ka K0 c = ka K c) {v : Int32} (hdg : decode cc pc = .ok (.ireturn, 1)) (E2 : gE) (hE2 : ∀ c, c < N → E2 c = E c) (hp : post v E2) : gW (gXa X 1 5) (gKa K (N + 1)) E pc lv [.int v] := by
  intro H locs ls hH hl
  show W _ _ _ _ _ _ _ _ _ _ _ _ _ _ (xQ X) _
  rw [hR.2]
  refine W.iret C.1 C.2.1 hR.1 (fun t ht hW => ⟨⟨v, E2, rfl, hp, ?_⟩, hH.2.2.F ht⟩) hH.2.2.2.2 hdg C.locks
  unfold gB
  rw [ht, hN, hD]
  intro j q hq
  obtain ⟨hj, rfl⟩ := gw_of hq
  rw [hka j hj, hE2 j hj]
  exact hH.1 j _ (gw_at (by show j < N + 1; omega))
theorem g_iretW (C : gC (gXa X 0 0) K cc own mL rf rl) (hR : gRF X K post) {v : Int32} (hdg : decode cc pc = .ok (.ireturn, 1)) (hp : post v E) : gW (gXa X 0 0) K E pc lv [.int v] := by
  intro H locs ls hH hl
  show W _ _ _ _ _ _ _ _ _ _ _ _ _ _ (xQ X) _
  rw [hR.2]
  exact W.widen (k := 1) (n := 5) (Nat.zero_le _) (Nat.zero_le _) (W.iret C.1 C.2.1 hR.1 (fun t ht hW => ⟨⟨v, E, rfl, hp, by unfold gB; rw [ht]; exact hH.1⟩, hH.2.2.F ht⟩) hH.2.2.2.2 hdg C.locks)
theorem g_ad {a : Nat} (k : gW X (kD K, kc K, va_up (ka K) (kN K) a, kN K, ks K, kv K) E pc lv st) : gW X K E pc lv st := by
  have e : gw (va_up (ka K) (kN K) a) (kN K) E = gw (ka K) (kN K) E := by
    unfold gw
    apply List.map_congr_left
    intro j hj
    rw [va_up_ne _ _ (Nat.ne_of_lt (List.mem_range.mp hj))]
  intro H locs ls hH hl
  refine k H locs ls ⟨?_, ?_, hH.2.2⟩ hl
  · show va_P (kD K) cls (gw (va_up (ka K) (kN K) a) (kN K) E) H
    rw [e]
    exact hH.1
  · show va_D (xA X) (gw (va_up (ka K) (kN K) a) (kN K) E)
    rw [e]
    exact hH.2.1
theorem g_newaF (C : gC (gXa X 0 0) (gKa K N) cc own mL rf rl) (hz : (xs X).heap.size = ka K N) (hcl : 1 ≤ (xR X).cells) (hsl : 5 ≤ (xR X).slots) (hdg : decode cc pc = .ok (.newarray .int, 2))
    (kk : ∀ E' : gE, E' = va_up E N (.inl (kc K 3, 5, .inl (fun _ => nI 0))) → gW (gXa X 1 5) (gKa K (N + 1)) E' (pc + 2) lv (.ref (ka K N) :: st)) : gW (gXa X 0 0) (gKa K N) E pc lv (.int (nI 5) :: st) := by
  intro H locs ls hH hl T hT S
  have hsz : H.size = ka K N := by
    have h1 := S.heapSize
    rw [hT] at h1
    have h2 : (xs X).heap.size ≤ H.size := hH.2.2.1
    have h3 : H.size ≤ (xs X).heap.size + 0 := h1
    omega
  have hgo : W (xp X) (xl X) (xe X) (xR X) (xs X) (xm X) (xa X) (xb X) (xM X) (xc X) H locs 0 0 (xQ X) (F0 (xm X) pc ls (.int (nI 5) :: st)) := by
    refine va_newaK (atype := .int) (n := nI 5) (N := 5) C.1 C.2.1 (C.ts _ tw_int) rfl hdg rfl (nI_pos (by omega)) (nI_clamp (by omega)) (by decide) hcl hsl hsz (fun H1 cA e1 z1 o1 hAr hNm => ?_)
    have hcA : cA = kc K 3 := Option.some.inj (hNm.symm.trans (C.T.1.2 3 _ rfl).2)
    subst hcA
    have hkp : ∀ (j : Nat) (x : Nat × va_E), (gw (ka K) N E)[j]? = some x → H1[x.1]? = H[x.1]? := fun j x hx => o1 x.1 (by rw [← hsz]; exact (hH.1 j x hx).lt)
    refine kk _ rfl H1 locs ls ⟨?_, ?_, ?_⟩ hl
    · show va_P (kD K) cls (gw (ka K) (N + 1) _) H1
      rw [gw_grow]
      refine (va_P.kept (ws := gw (ka K) N E) hH.1 hkp).app (fun j x hx => ?_)
      have hz1 : j < 1 := (List.getElem?_eq_some_iff.mp hx).1
      rw [show j = 0 by omega] at hx
      cases hx
      exact e1
    · show va_D (xA X) (gw (ka K) (N + 1) _)
      rw [gw_grow]
      exact va_D.push (ws := gw (ka K) N E) hH.2.1 hH.1 hsz.symm (C.A _ (by rw [← hsz]; exact hH.2.2.1))
    · exact ⟨Nat.le_trans hH.2.2.1 (by omega), fun x h1 h2 => (o1 x (by have h9 : (xs X).heap.size ≤ H.size := hH.2.2.1; have h8 : x < (xs X).heap.size := h1; omega)).trans (hH.2.2.2.1 x h1 h2), hH.2.2.2.2⟩
  exact hgo T hT S
end GFEED
set_option maxHeartbeats 4000000 in
set_option maxRecDepth 100000 in
theorem w_Z_feed {X : gX} {K K0 : gK} {N : Nat} (C : gC (gXa X 1 5) (gKa K (N + 1)) b_Mod_feed "DavRoomModel" 8 0 0) (E0 Eb : gE) (z : Nat) (tp os pa ta pr md : Bs) (ms : List Me) (ls : List Lk) (kms : List Me) (kls : List Lk) (bms : List Me) (bls : List Lk) (ck vn tn : Int32) (mt hs bo : Nat) (vl : Nat → Int32) (w1 w2 w3 w4 w5 : Int32) (hzN : z + 476 ≤ N) (htl : tp.length + 20 ≤ 400) (post : Int32 → gE → Prop) (hR : gRF X K0 post) (hK1 : kN K0 = N) (hK2 : kD K0 = kD K) (hK3 : ∀ c, c < N → ka K0 c = ka K c) (hfin : ∀ (E' : gE) (f : Nat → Int32), E' z = .inr (9, [.ref (ka K (z + 1)), .ref (ka K (z + 155)), .int ck, .int vn, .int tn, .ref (ka K (z + 309)), .int (nI (tp.length + 20)), .ref (ka K (z + 310)), .int (nI os.length), .ref (ka K (z + 311)), .ref (ka K (z + 312)), .int (nI mt), .ref (ka K (z + 313)), .ref (ka K (z + 315)), .int (nI hs), .ref (ka K (z + 317)), .int (nI bo), .ref (ka K (z + 318)), .ref (ka K (z + 320)), .ref (ka K (z + 474))]) → E' (z + 309) = .inl (kc K 0, 400, .inl f) → (∀ (j : Nat) (h : j < (tp ++ wordB w1 ++ wordB w2 ++ wordB w3 ++ wordB w4 ++ wordB w5).length), f j = ub (tp ++ wordB w1 ++ wordB w2 ++ wordB w3 ++ wordB w4 ++ wordB w5)[j]) → (∀ k, k ≠ z → k ≠ z + 309 → E' k = if k < N then E0 k else Eb k) → post (nI (tp.length + 20)) E') : ∀ (d i : Nat) (E1 : gE) (f : Nat → Int32), i ≤ 20 → 21 ≤ i + d → E1 z = .inr (9, [.ref (ka K (z + 1)), .ref (ka K (z + 155)), .int ck, .int vn, .int tn, .ref (ka K (z + 309)), .int (nI tp.length), .ref (ka K (z + 310)), .int (nI os.length), .ref (ka K (z + 311)), .ref (ka K (z + 312)), .int (nI mt), .ref (ka K (z + 313)), .ref (ka K (z + 315)), .int (nI hs), .ref (ka K (z + 317)), .int (nI bo), .ref (ka K (z + 318)), .ref (ka K (z + 320)), .ref (ka K (z + 474))]) → E1 (z + 309) = .inl (kc K 0, 400, .inl f) → E1 N = .inl (kc K 3, 5, .inl (w5f w1 w2 w3 w4 w5)) → (∀ (j : Nat) (h : j < (tp ++ wordB w1 ++ wordB w2 ++ wordB w3 ++ wordB w4 ++ wordB w5).length), j < tp.length + i → f j = ub (tp ++ wordB w1 ++ wordB w2 ++ wordB w3 ++ wordB w4 ++ wordB w5)[j]) → (∀ k, k ≠ z + 309 → E1 k = E0 k) → gW (gXa X 1 5) (gKa K (N + 1)) E1 46 [(7, .int (nI i)), (6, .ref (ka K N)), (0, .ref (ka K z)), (1, .int w1), (2, .int w2), (3, .int w3), (4, .int w4), (5, .int w5)] [] := by
  have hTl : (tp ++ wordB w1 ++ wordB w2 ++ wordB w3 ++ wordB w4 ++ wordB w5).length = tp.length + 20 := by simp [wordB]
  intro d
  induction d with
  | zero =>
    intro i E1 f h1 h2
    exact absurd h2 (by omega)
  | succ d ih =>
    intro i E1 f hi hd e0 e9 eN hinv hfr
    refine g_iload (pc := 46) C d_Mod_feed_46 0 rfl ?_
    refine g_bipush (pc := 48) (v := nI 20) C d_Mod_feed_48 (by decide) ?_
    refine g_icmp_geN (pc := 50) C 90 d_Mod_feed_50 (by decide) (by omega) (by omega) (fun h_50 => ?_) (fun h_50 => ?_)
    · skip
      refine g_aload_n (pc := 90) C d_Mod_feed_90 2 rfl ?_
      refine g_dup (pc := 91) C d_Mod_feed_91 rfl ?_
      refine g_get (pc := 92) C fl_Mod_91 e0 (by show z < N + 1; omega) rfl d_Mod_feed_92 ?_
      refine g_bipush (pc := 95) (v := nI 20) C d_Mod_feed_95 (by decide) ?_
      refine g_iaddN (pc := 97) C d_Mod_feed_97 ?_
      refine g_put (pc := 98) C fl_Mod_91 fw_Mod_count e0 (by show z < N + 1; omega) (Nat.le_of_ble_eq_true rfl) ⟨rfl, rfl⟩ d_Mod_feed_98 (fun E98 hE98 => ?_)
      have fE98_1 : E98 z = .inr (9, [.ref (ka K (z + 1)), .ref (ka K (z + 155)), .int ck, .int vn, .int tn, .ref (ka K (z + 309)), .int (nI (tp.length + 20)), .ref (ka K (z + 310)), .int (nI os.length), .ref (ka K (z + 311)), .ref (ka K (z + 312)), .int (nI mt), .ref (ka K (z + 313)), .ref (ka K (z + 315)), .int (nI hs), .ref (ka K (z + 317)), .int (nI bo), .ref (ka K (z + 318)), .ref (ka K (z + 320)), .ref (ka K (z + 474))]) := by rw [hE98]; exact va_up_self _ _ _
      have fE98_2 := (congrFun hE98 (z + 309)).trans ((va_up_ne _ _ (show z + 309 ≠ z from by omega)).trans e9)
      have fE98_3 := (congrFun hE98 N).trans ((va_up_ne _ _ (show N ≠ z from by omega)).trans eN)
      refine g_aload_n (pc := 101) C d_Mod_feed_101 2 rfl ?_
      refine g_get (pc := 102) C fl_Mod_91 fE98_1 (by show z < N + 1; omega) rfl d_Mod_feed_102 ?_
      refine g_iretF (pc := 105) C hR hK1 hK2 hK3 d_Mod_feed_105 (fun k => if k < N then E98 k else Eb k) (fun c hc => if_pos hc) ?_
      have hFz : ∀ k, k ≠ z → k ≠ z + 309 → E98 k = E0 k := fun k z1 z2 => by rw [hE98, va_up_ne _ _ z1]; exact hfr k z2
      refine hfin _ f (by rw [if_pos (show z < N by omega)]; exact fE98_1) (by rw [if_pos (show z + 309 < N by omega)]; exact fE98_2) (fun j h => hinv j h (by omega)) (fun k z1 z2 => ?_)
      by_cases e : k < N
      · rw [if_pos e, if_pos e]
        exact hFz k z1 z2
      · rw [if_neg e, if_neg e]
    · skip
      refine g_aload_n (pc := 53) C d_Mod_feed_53 2 rfl ?_
      refine g_get (pc := 54) C fl_Mod_19 e0 (by show z < N + 1; omega) rfl d_Mod_feed_54 ?_
      refine g_aload_n (pc := 57) C d_Mod_feed_57 2 rfl ?_
      refine g_get (pc := 58) C fl_Mod_91 e0 (by show z < N + 1; omega) rfl d_Mod_feed_58 ?_
      refine g_iload (pc := 61) C d_Mod_feed_61 0 rfl ?_
      refine g_iaddN (pc := 63) C d_Mod_feed_63 ?_
      refine g_aload (pc := 64) C d_Mod_feed_64 1 rfl ?_
      refine g_iload (pc := 66) C d_Mod_feed_66 0 rfl ?_
      refine g_iconst (pc := 68) (v := nI 4) C d_Mod_feed_68 (by decide) ?_
      refine g_idiv (pc := 69) C d_Mod_feed_69 (by decide) ?_
      refine g_top (y := nI (i / 4)) (fd_div i (by omega)) ?_
      refine g_ialdN (pc := 70) C eN (by show N < N + 1; omega) (gt_I _) (by omega) (by omega) d_Mod_feed_70 ?_
      refine g_bipush (pc := 71) (v := nI 24) C d_Mod_feed_71 (by decide) ?_
      refine g_bipush (pc := 73) (v := nI 8) C d_Mod_feed_73 (by decide) ?_
      refine g_iload (pc := 75) C d_Mod_feed_75 0 rfl ?_
      refine g_iconst (pc := 77) (v := nI 4) C d_Mod_feed_77 (by decide) ?_
      refine g_irem (pc := 78) C d_Mod_feed_78 (by decide) ?_
      refine g_imul (pc := 79) C d_Mod_feed_79 ?_
      refine g_isub (pc := 80) C d_Mod_feed_80 ?_
      refine g_top (y := nI (24 - 8 * (i % 4))) (fd_sh i (by omega)) ?_
      refine g_ishr (pc := 81) C d_Mod_feed_81 ?_
      refine g_i2b (pc := 82) C d_Mod_feed_82 rfl ?_
      refine g_bastN (pc := 83) C e9 (by show z + 309 < N + 1; omega) (gt_B _) (by omega) (by omega) d_Mod_feed_83 (fun E83 hE83 => ?_)
      have fE83_1 := (congrFun hE83 z).trans ((va_up_ne _ _ (show z ≠ z + 309 from by omega)).trans e0)
      have fE83_2 : E83 (z + 309) = .inl (kc K 0, 400, .inl (upd f (tp.length + i) (vp_nar .byte ((((w5f w1 w2 w3 w4 w5) (i / 4)) >>> ((nI (24 - 8 * (i % 4))) &&& 31)).toInt8.toInt32)))) := by rw [hE83]; exact va_up_self _ _ _
      have fE83_3 := (congrFun hE83 N).trans ((va_up_ne _ _ (show N ≠ z + 309 from by omega)).trans eN)
      refine g_iinc (pc := 84) (pl := 0) (v := nI (i + 1)) (lv' := [(7, .int (nI (i + 1))), (6, .ref (ka K N)), (0, .ref (ka K z)), (1, .int w1), (2, .int w2), (3, .int w3), (4, .int w4), (5, .int w5)]) C d_Mod_feed_84 rfl (nI_1 _) (by decide) rfl ?_
      refine g_goto (pc := 87) C 46 d_Mod_feed_87 (by decide) ?_
      refine g_lv [0, 1, 2, 3, 4, 5, 6, 7] rfl (ih (i + 1) E83 _ (by omega) (by omega) fE83_1 fE83_2 fE83_3 (fun j h hj => ?_) (fun k hk => by rw [hE83, va_up_ne _ _ hk]; exact hfr k hk))
      by_cases e : j = tp.length + i
      · subst e
        rw [pk_us, w5_at i (by omega) h, ← ub_lo8, ub_nar, sh_eq8 _ _ (by omega)]
      · rw [pk_un e]
        exact hinv j h (by omega)

set_option maxHeartbeats 4000000 in
set_option maxRecDepth 100000 in
theorem w_Z_feed16 {X : gX} {K K0 : gK} {N : Nat} (CC : ∀ k n M, k ≤ 1 → n ≤ 5 → gC (gXa X k n) (gKa K M) b_Mod_feed "DavRoomModel" 8 0 0) (hc1 : 1 ≤ (xR X).cells) (hc5 : 5 ≤ (xR X).slots) (hz : (xs X).heap.size = ka K N) (E : gE) (z : Nat) (tp os pa ta pr md : Bs) (ms : List Me) (ls : List Lk) (kms : List Me) (kls : List Lk) (bms : List Me) (bls : List Lk) (ck vn tn : Int32) (mt hs bo : Nat) (vl : Nat → Int32) (w1 w2 w3 w4 w5 : Int32) (hzN : z + 476 ≤ N) (htl : tp.length + 20 ≤ 400) (post : Int32 → gE → Prop) (hR : gRF X K0 post) (hK1 : kN K0 = N) (hK2 : kD K0 = kD K) (hK3 : ∀ c, c < N → ka K0 c = ka K c) (hfin : ∀ (E' : gE) (f : Nat → Int32), E' z = .inr (9, [.ref (ka K (z + 1)), .ref (ka K (z + 155)), .int ck, .int vn, .int tn, .ref (ka K (z + 309)), .int (nI (tp.length + 20)), .ref (ka K (z + 310)), .int (nI os.length), .ref (ka K (z + 311)), .ref (ka K (z + 312)), .int (nI mt), .ref (ka K (z + 313)), .ref (ka K (z + 315)), .int (nI hs), .ref (ka K (z + 317)), .int (nI bo), .ref (ka K (z + 318)), .ref (ka K (z + 320)), .ref (ka K (z + 474))]) → E' (z + 309) = .inl (kc K 0, 400, .inl f) → (∀ (j : Nat) (h : j < (tp ++ wordB w1 ++ wordB w2 ++ wordB w3 ++ wordB w4 ++ wordB w5).length), f j = ub (tp ++ wordB w1 ++ wordB w2 ++ wordB w3 ++ wordB w4 ++ wordB w5)[j]) → (∀ k, k ≠ z → k ≠ z + 309 → E' k = E k) → post (nI (tp.length + 20)) E') (f : Nat → Int32) (e0 : E z = .inr (9, [.ref (ka K (z + 1)), .ref (ka K (z + 155)), .int ck, .int vn, .int tn, .ref (ka K (z + 309)), .int (nI tp.length), .ref (ka K (z + 310)), .int (nI os.length), .ref (ka K (z + 311)), .ref (ka K (z + 312)), .int (nI mt), .ref (ka K (z + 313)), .ref (ka K (z + 315)), .int (nI hs), .ref (ka K (z + 317)), .int (nI bo), .ref (ka K (z + 318)), .ref (ka K (z + 320)), .ref (ka K (z + 474))])) (e9 : E (z + 309) = .inl (kc K 0, 400, .inl f)) (hf : ∀ (j : Nat) (h : j < tp.length), f j = ub tp[j]) : gW (gXa X 0 0) (gKa K N) E 16 [(0, .ref (ka K z)), (1, .int w1), (2, .int w2), (3, .int w3), (4, .int w4), (5, .int w5)] [] := by
  have C := CC 0 0 N (by decide) (by decide)
  refine g_iconst (pc := 16) (v := nI 5) C d_Mod_feed_16 (by decide) ?_
  refine g_newaF (pc := 17) C hz hc1 hc5 d_Mod_feed_17 (fun E17 hE17 => ?_)
  have C := CC 1 5 (N + 1) (by decide) (by decide)
  have eN : E17 N = .inl (kc K 3, 5, .inl (fun _ => nI 0)) := by rw [hE17]; exact va_up_self _ _ _
  have ez := (congrFun hE17 z).trans ((va_up_ne _ _ (show z ≠ N by omega)).trans e0)
  have et := (congrFun hE17 (z + 309)).trans ((va_up_ne _ _ (show z + 309 ≠ N by omega)).trans e9)
  refine g_dup (pc := 19) C d_Mod_feed_19 rfl ?_
  refine g_iconst (pc := 20) (v := nI 0) C d_Mod_feed_20 (by decide) ?_
  refine g_iload_n (pc := 21) C d_Mod_feed_21 1 rfl ?_
  refine g_iastN (pc := 22) C eN (by show N < N + 1; omega) (gt_I _) (by omega) (by omega) d_Mod_feed_22 (fun E22 hE22 => ?_)
  have fE22_1 := (congrFun hE22 z).trans ((va_up_ne _ _ (show z ≠ N from by omega)).trans ez)
  have fE22_2 := (congrFun hE22 (z + 309)).trans ((va_up_ne _ _ (show z + 309 ≠ N from by omega)).trans et)
  have fE22_3 : E22 N = .inl (kc K 3, 5, .inl (upd (fun _ => nI 0) 0 w1)) := by rw [hE22]; exact va_up_self _ _ _
  refine g_dup (pc := 23) C d_Mod_feed_23 rfl ?_
  refine g_iconst (pc := 24) (v := nI 1) C d_Mod_feed_24 (by decide) ?_
  refine g_iload_n (pc := 25) C d_Mod_feed_25 2 rfl ?_
  refine g_iastN (pc := 26) C fE22_3 (by show N < N + 1; omega) (gt_I _) (by omega) (by omega) d_Mod_feed_26 (fun E26 hE26 => ?_)
  have fE26_1 := (congrFun hE26 z).trans ((va_up_ne _ _ (show z ≠ N from by omega)).trans fE22_1)
  have fE26_2 := (congrFun hE26 (z + 309)).trans ((va_up_ne _ _ (show z + 309 ≠ N from by omega)).trans fE22_2)
  have fE26_3 : E26 N = .inl (kc K 3, 5, .inl (upd (upd (fun _ => nI 0) 0 w1) 1 w2)) := by rw [hE26]; exact va_up_self _ _ _
  refine g_dup (pc := 27) C d_Mod_feed_27 rfl ?_
  refine g_iconst (pc := 28) (v := nI 2) C d_Mod_feed_28 (by decide) ?_
  refine g_iload_n (pc := 29) C d_Mod_feed_29 3 rfl ?_
  refine g_iastN (pc := 30) C fE26_3 (by show N < N + 1; omega) (gt_I _) (by omega) (by omega) d_Mod_feed_30 (fun E30 hE30 => ?_)
  have fE30_1 := (congrFun hE30 z).trans ((va_up_ne _ _ (show z ≠ N from by omega)).trans fE26_1)
  have fE30_2 := (congrFun hE30 (z + 309)).trans ((va_up_ne _ _ (show z + 309 ≠ N from by omega)).trans fE26_2)
  have fE30_3 : E30 N = .inl (kc K 3, 5, .inl (upd (upd (upd (fun _ => nI 0) 0 w1) 1 w2) 2 w3)) := by rw [hE30]; exact va_up_self _ _ _
  refine g_dup (pc := 31) C d_Mod_feed_31 rfl ?_
  refine g_iconst (pc := 32) (v := nI 3) C d_Mod_feed_32 (by decide) ?_
  refine g_iload (pc := 33) C d_Mod_feed_33 4 rfl ?_
  refine g_iastN (pc := 35) C fE30_3 (by show N < N + 1; omega) (gt_I _) (by omega) (by omega) d_Mod_feed_35 (fun E35 hE35 => ?_)
  have fE35_1 := (congrFun hE35 z).trans ((va_up_ne _ _ (show z ≠ N from by omega)).trans fE30_1)
  have fE35_2 := (congrFun hE35 (z + 309)).trans ((va_up_ne _ _ (show z + 309 ≠ N from by omega)).trans fE30_2)
  have fE35_3 : E35 N = .inl (kc K 3, 5, .inl (upd (upd (upd (upd (fun _ => nI 0) 0 w1) 1 w2) 2 w3) 3 w4)) := by rw [hE35]; exact va_up_self _ _ _
  refine g_dup (pc := 36) C d_Mod_feed_36 rfl ?_
  refine g_iconst (pc := 37) (v := nI 4) C d_Mod_feed_37 (by decide) ?_
  refine g_iload (pc := 38) C d_Mod_feed_38 5 rfl ?_
  refine g_iastN (pc := 40) C fE35_3 (by show N < N + 1; omega) (gt_I _) (by omega) (by omega) d_Mod_feed_40 (fun E40 hE40 => ?_)
  have fE40_1 := (congrFun hE40 z).trans ((va_up_ne _ _ (show z ≠ N from by omega)).trans fE35_1)
  have fE40_2 := (congrFun hE40 (z + 309)).trans ((va_up_ne _ _ (show z + 309 ≠ N from by omega)).trans fE35_2)
  have fE40_3 : E40 N = .inl (kc K 3, 5, .inl (upd (upd (upd (upd (upd (fun _ => nI 0) 0 w1) 1 w2) 2 w3) 3 w4) 4 w5)) := by rw [hE40]; exact va_up_self _ _ _
  refine g_astore (pc := 41) (lv' := [(6, .ref (ka K N)), (0, .ref (ka K z)), (1, .int w1), (2, .int w2), (3, .int w3), (4, .int w4), (5, .int w5)]) C d_Mod_feed_41 (by decide) rfl ?_
  refine g_iconst (pc := 43) (v := nI 0) C d_Mod_feed_43 (by decide) ?_
  refine g_istore (pc := 44) (lv' := [(7, .int (nI 0)), (6, .ref (ka K N)), (0, .ref (ka K z)), (1, .int w1), (2, .int w2), (3, .int w3), (4, .int w4), (5, .int w5)]) C d_Mod_feed_44 (by decide) rfl ?_
  have hA : ∀ k, k ≠ N → E40 k = E k := fun k hk => by rw [hE40, va_up_ne _ _ hk, hE35, va_up_ne _ _ hk, hE30, va_up_ne _ _ hk, hE26, va_up_ne _ _ hk, hE22, va_up_ne _ _ hk, hE17, va_up_ne _ _ hk]
  exact g_lv [0, 1, 2, 3, 4, 5, 6, 7] rfl (w_Z_feed C E40 E z tp os pa ta pr md ms ls kms kls bms bls ck vn tn mt hs bo vl w1 w2 w3 w4 w5 hzN htl post hR hK1 hK2 hK3 (fun E' f9 y1 y2 y3 y4 => hfin E' f9 y1 y2 y3 (fun k z1 z2 => (y4 k z1 z2).trans (by
    by_cases e : k < N
    · rw [if_pos e]
      exact hA k (Nat.ne_of_lt e)
    · rw [if_neg e]))) 21 0 E40 f (Nat.zero_le _) (by omega) fE40_1 fE40_2 fE40_3 (fun j h hj => by
    rw [hf j (by omega)]
    congr 1
    simp only [List.append_assoc]
    exact (List.getElem_append_left (by omega)).symm) (fun k hk => rfl))

set_option maxHeartbeats 4000000 in
set_option maxRecDepth 100000 in
theorem c_Mod_feed (l : Launch) (K : gK) (E : gE) (z : Nat) (tp os pa ta pr md : Bs) (ms : List Me) (ls : List Lk) (kms : List Me) (kls : List Lk) (bms : List Me) (bls : List Lk) (ck vn tn : Int32) (mt hs bo : Nat) (vl : Nat → Int32) (hZ : isZ K E z tp os pa ta pr md ms ls kms kls bms bls ck vn tn mt hs bo vl) (w1 w2 w3 w4 w5 : Int32) : gMF l y_Mod_feed b_Mod_feed 8 0 0 K E [.ref (ka K z), .int w1, .int w2, .int w3, .int w4, .int w5] (fun r E' => r = (if 20 + tp.length ≤ 400 then nI (tp.length + 20) else -3) ∧ isZ K E' z (if 20 + tp.length ≤ 400 then (tp ++ wordB w1 ++ wordB w2 ++ wordB w3 ++ wordB w4 ++ wordB w5) else tp) os pa ta pr md ms ls kms kls bms bls ck vn tn mt hs bo vl ∧ frN z 476 E E') := by
  have hzN := hZ.2.2.2.2.2.2.2.2.2.2.2.2.2
  have htl := hZ.2.2.2.1.1
  have hol := hZ.2.2.2.2.1.1
  have hnm := hZ.2.1.lim
  have hkm := hZ.2.2.1.lim
  have hbm := hZ.2.2.2.2.2.2.2.2.2.2.2.1.lim
  have hpal := hZ.2.2.2.2.2.2.2.1.2.1
  have htal := hZ.2.2.2.2.2.2.2.2.1.2.1
  have hprl := hZ.2.2.2.2.2.2.2.2.2.2.1.2.1
  have hmdl := hZ.2.2.2.2.2.2.2.2.2.2.2.2.1.2.1
  refine g_metF (by decide +kernel) (Nat.le_of_ble_eq_true rfl) (fun X hl CC hc1 hc5 hR => ?_)
  subst hl
  have C : gC (gXa X 0 0) K b_Mod_feed "DavRoomModel" 8 0 0 := CC 0 0 (ka K) (kN K) (by decide) (by decide)
  show gW (gXa X 0 0) K E 0 [(0, .ref (ka K z)), (1, .int w1), (2, .int w2), (3, .int w3), (4, .int w4), (5, .int w5)] []
  refine g_aload_n (pc := 0) C d_Mod_feed_0 0 rfl ?_
  refine g_get (pc := 1) C fl_Mod_91 hZ.1 (by omega) rfl d_Mod_feed_1 ?_
  refine g_bipush (pc := 4) (v := nI 20) C d_Mod_feed_4 (by decide) ?_
  refine g_iaddN (pc := 6) C d_Mod_feed_6 ?_
  refine g_sipush (pc := 7) (v := nI 400) C d_Mod_feed_7 (by decide) ?_
  refine g_icmp_leN (pc := 10) C 16 d_Mod_feed_10 (by decide) (by omega) (by omega) (fun h_10 => ?_) (fun h_10 => ?_)
  · skip
    refine g_ad (a := (xs X).heap.size) ?_
    have ha : ∀ c, c < kN K → ka K c = va_up (ka K) (kN K) (xs X).heap.size c := fun c hc => (va_up_ne _ _ (Nat.ne_of_lt hc)).symm
    rw [if_pos (by omega)] at hR
    rw [if_pos (by omega)] at hR
    obtain ⟨-, f, hf1, hf⟩ := hZ.2.2.2.1
    have e0 := hZ.1
    rw [ha (z + 1) (by omega), ha (z + 155) (by omega), ha (z + 309) (by omega), ha (z + 310) (by omega), ha (z + 311) (by omega), ha (z + 312) (by omega), ha (z + 313) (by omega), ha (z + 315) (by omega), ha (z + 317) (by omega), ha (z + 318) (by omega), ha (z + 320) (by omega), ha (z + 474) (by omega)] at e0
    rw [ha z (by omega)]
    refine g_lv [0, 1, 2, 3, 4, 5] rfl (w_Z_feed16 (K := (kD K, kc K, va_up (ka K) (kN K) (xs X).heap.size, kN K, ks K, kv K)) (N := kN K) (fun k n M h1 h2 => CC k n _ M h1 h2) hc1 hc5 (va_up_self _ _ _).symm E z tp os pa ta pr md ms ls kms kls bms bls ck vn tn mt hs bo vl w1 w2 w3 w4 w5 hzN (by omega) _ hR rfl rfl ha (fun E' f9 y1 y2 y3 y4 => ?_) f e0 hf1 hf)
    have hTl : (tp ++ wordB w1 ++ wordB w2 ++ wordB w3 ++ wordB w4 ++ wordB w5).length = tp.length + 20 := by simp [wordB]
    rw [show tp.length + 20 = (tp ++ wordB w1 ++ wordB w2 ++ wordB w3 ++ wordB w4 ++ wordB w5).length from hTl.symm] at y1
    have y1' : E' z = .inr (9, [.ref (ka K (z + 1)), .ref (ka K (z + 155)), .int ck, .int vn, .int tn, .ref (ka K (z + 309)), .int (nI ((tp ++ wordB w1 ++ wordB w2 ++ wordB w3 ++ wordB w4 ++ wordB w5).length)), .ref (ka K (z + 310)), .int (nI os.length), .ref (ka K (z + 311)), .ref (ka K (z + 312)), .int (nI mt), .ref (ka K (z + 313)), .ref (ka K (z + 315)), .int (nI hs), .ref (ka K (z + 317)), .int (nI bo), .ref (ka K (z + 318)), .ref (ka K (z + 320)), .ref (ka K (z + 474))]) := by
      rw [ha (z + 1) (by omega), ha (z + 155) (by omega), ha (z + 309) (by omega), ha (z + 310) (by omega), ha (z + 311) (by omega), ha (z + 312) (by omega), ha (z + 313) (by omega), ha (z + 315) (by omega), ha (z + 317) (by omega), ha (z + 318) (by omega), ha (z + 320) (by omega), ha (z + 474) (by omega)]
      exact y1
    have hF1 : frN (z + 309) 1 E (va_up E (z + 309) (E' (z + 309))) := fun k hk => va_up_ne _ _ (by omega)
    have hF2 : frN z 1 (va_up E (z + 309) (E' (z + 309))) E' := fun k hk => by
      by_cases e : k = z + 309
      · rw [e, va_up_self]
      · rw [va_up_ne _ _ e]
        exact y4 k (by omega) e
    exact ⟨rfl, ⟨y1', (hZ.2.1.out hF1 (by omega)).out hF2 (by omega), (hZ.2.2.1.out hF1 (by omega)).out hF2 (by omega), ⟨by rw [hTl]; omega, f9, y2, y3⟩, (hZ.2.2.2.2.1.out hF1 (by omega)).out hF2 (by omega), (hZ.2.2.2.2.2.1.out hF1 (by omega)).out hF2 (by omega), (hZ.2.2.2.2.2.2.1.out hF1 (by omega)).out hF2 (by omega), (hZ.2.2.2.2.2.2.2.1.out hF1 (by omega)).out hF2 (by omega), (hZ.2.2.2.2.2.2.2.2.1.out hF1 (by omega)).out hF2 (by omega), (hZ.2.2.2.2.2.2.2.2.2.1.out hF1 (by omega)).out hF2 (by omega), (hZ.2.2.2.2.2.2.2.2.2.2.1.out hF1 (by omega)).out hF2 (by omega), (hZ.2.2.2.2.2.2.2.2.2.2.2.1.out hF1 (by omega)).out hF2 (by omega), (hZ.2.2.2.2.2.2.2.2.2.2.2.2.1.out hF1 (by omega)).out hF2 (by omega), hzN⟩, fun k hk => y4 k (by omega) (by omega)⟩
  · skip
    refine g_bipush (pc := 13) (v := -3) C d_Mod_feed_13 (by decide) ?_
    refine g_iretW (pc := 15) C hR d_Mod_feed_15 ?_
    rw [if_neg (by omega), if_neg (by omega)]
    exact ⟨rfl, hZ, frN.refl⟩
