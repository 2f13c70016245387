/-! CONSTRUCTORS: contracts of methods that make cells -/
theorem tw_byte : Cond.arrayClass .byte ∈ TB := tb1 46 rfl rfl
theorem tw_int : Cond.arrayClass .int ∈ TB := tb4 39 rfl rfl
theorem tw_bool : Cond.arrayClass .boolean ∈ TB := tb4 40 rfl rfl
theorem g_objI {X : gX} {K : gK} {cc : ByteArray} {own : String} {mL rf rl pc : Nat} {E : gE} {lv : List (Nat × Value)} {st : List Value} (C : gC X K cc own mL rf rl) {index a : Nat} (hlink : Cond.methodLink own index Lib.objectInit ∈ TB) (hdg : decode cc pc = .ok (.invokespecial index, 3)) (hfr : 1 ≤ rf) (hlo : (st.map fun v => v.category).sum + 12 ≤ rl) (kk : gW X K E (pc + 3) lv st) : gW X K E pc lv (.ref a :: st) := by
  intro H locs ls hH hl
  exact W.objInit C.1 C.2.1 C.ow (C.ts _ hlink) (C.ts _ (tb1 24 rfl rfl)) (C.ts _ (tb1 25 rfl rfl)) rfl (hl.1.trans C.2.2.2.1.symm) rfl hdg (by rw [C.fr]; exact hfr) (by rw [C.lo]; show 2 * 0 + _ + 12 ≤ rl; omega) (kk H locs ls hH hl)
theorem g_putF {X : gX} {K : gK} {cc : ByteArray} {own : String} {mL rf rl pc : Nat} {E : gE} {lv : List (Nat × Value)} {st : List Value} (C : gC X K cc own mL rf rl) (hin2 : (xM X).name = "<init>") {index ci k b : Nat} {fs : List Value} {v : Value} {ty : FieldType} (hF : gFL own index ci k) (hF2 : gFW ci k ty true) (hown : ∃ (T : u_T) (Nf : Nat), cls[ci]? = some (own, T, Nf)) (he : E b = .inr (ci, fs)) (hb : b < kN K) (hl2 : k < fs.length) (hn : narrow ty v = v ∧ fits ty v = true) (hdg : decode cc pc = .ok (.putfield index, 3)) (kk : ∀ E' : gE, E' = va_up E b (.inr (ci, fs.set k v)) → gW X K E' (pc + 3) lv st) : gW X K E pc lv (v :: .ref (ka K b) :: st) := by
  obtain ⟨Cn, T, Nf, h1, h2, h3, h4, h5⟩ := hF
  obtain ⟨Cn', T', Nf', ty0, g1, g2, g3, g4, g5, g6⟩ := hF2
  cases h1.symm.trans g1
  obtain ⟨T9, Nf9, e1⟩ := hown
  have hce : Cn = own := congrArg Prod.fst (Option.some.inj (h1.symm.trans e1))
  subst hce
  intro H locs ls hH hl
  have h6 := gw_at (ad := ka K) (N := kN K) (E := E) hb
  rw [he] at h6
  refine va_putF (D := kD K) (C := Cn) (T := T) (N := Nf) C.1 C.2.1 C.ts h2 ty0 g2 g3 C.ow C.kk hH.1 hH.2.1 hH.2.2 b h6 h1 k h3 (ref := Cn) (C.ts _ h4) (fun x hx => by rw [← h5]; rw [h5] at hx ⊢; exact hx) g6 hin2 h5 (by rw [g2 k g4, g5]) hn.1 hn.2 hl2 hdg (fun H1 locs1 p1 p2 p3 => ?_)
  rw [gw_set hb] at p1 p2
  exact kk _ rfl H1 locs1 ls ⟨p1, p2, p3⟩ hl
def gPcG (K : gK) (E : gE) (av : List Value) (sz : Nat) : Array Value → State → Prop := va_Pc av (fun U => U.heap.size = sz ∧ va_P (kD K) cls (gw (ka K) (kN K) E) U.heap ∧ gInj (ka K) (kN K) ∧ gT K U ∧ gZ K (gA (ka K) (kN K) sz) U U.heap ∧ gO U)
abbrev gRmG (rf rl mc ms : Nat) : Room := { frames := rf, cells := mc, slots := ms, locals := rl }
def gMG (l : Launch) (y : MethodName) (cc : ByteArray) (mL rf rl mc ms : Nat) (K : gK) (N : Nat) (E : gE) (av : List Value) (post : gE → Prop) : Prop :=
  Met l y (.code y cc mL none :: TB) (gRmG rf rl mc ms) (gPcG (gKa K N) E av (ka K N)) (va_Qv post (gB (gKa K (N + mc))) (gA (ka K) N (ka K N))) mc ms (gA (ka K) N (ka K N))
def gRG (X : gX) (K : gK) (N mc ms : Nat) (post : gE → Prop) : Prop := (xM X).sig.returnType = none ∧ xQ X = MQ (xb X) (va_Qv post (gB (gKa K (N + mc))) (xA X)) (xa X) (xs X) mc ms (xA X)
theorem g_metG {l : Launch} {y : MethodName} {cc : ByteArray} {mL rf rl mc ms N : Nat} {K : gK} {E : gE} {av : List Value} {post : gE → Prop} (hy : plainName y.cls = true) (hav : (lg_sl av).length ≤ mL) (hnm : y.name = "<init>") (hs : kS K) (body : ∀ X : gX, xl X = l → gCG X K cc y.cls mL rf rl mc ms → gO (xs X) → (xM X).name = "<init>" → (xs X).heap.size = ka K N → gRG X K N mc ms post → gW (gXa X 0 0) (gKa K N) E 0 (lv_args 0 av) []) : gMG l y cc mL rf rl mc ms K N E av post := by
  refine Met.ofW (cc := cc) (maxL := mL) (ret := none) hy rfl ?_
  intro p e s m args below meth c s₁ B hml hv
  obtain ⟨rfl, hsz, hP, hI, hT, hZ, hO⟩ := hv
  have hts := atoms_spec (ws := Cond.code y cc mL none :: TB) B.pre
  have hW := body (p, l, e, (headSpec (Cond.code y cc mL none :: TB) (gRmG rf rl mc ms)).room, s, m, av.toArray, below, meth, c, MQ below (va_Qv post (gB (gKa K (N + mc))) (gA (ka K) N (ka K N))) av.toArray s mc ms (gA (ka K) N (ka K N)), gA (ka K) N (ka K N), 0, 0, mL) rfl
    ⟨fun k n N' hk hn => ⟨B.exec, B.bytes, rfl, hml, B.notSynchronized, findClass_of_methodNamed B.named, fun w hw => hts w (List.mem_cons_of_mem _ hw), hT, hZ, rfl, rfl, fun q h => Or.inr (by rw [← hsz]; exact h), hk, hn⟩, hs, Nat.le_refl _, Nat.le_refl _⟩ hO ((name_of_methodNamed B.named B.method).1.trans hnm) hsz ⟨B.returns, rfl⟩
  rw [lg_entry_eq]
  exact hW s.heap [] _ ⟨hP, gInj.D hI, va_S.rf⟩ (lv_entry av hav)
theorem g_vretG {X : gX} {K : gK} {cc : ByteArray} {own : String} {mL rf rl mc ms N pc : Nat} {E : gE} {lv : List (Nat × Value)} {post : gE → Prop} (C : gC (gXa X mc ms) (gKa K (N + mc)) cc own mL rf rl) (hR : gRG X K N mc ms post) (hdg : decode cc pc = .ok (.return_, 1)) (hp : post E) : gW (gXa X mc ms) (gKa K (N + mc)) E pc lv [] := by
  intro H locs ls hH hl
  show W _ _ _ _ _ _ _ _ _ _ _ _ _ _ (xQ X) _
  rw [hR.2]
  exact W.vret C.1 C.2.1 hR.1 (fun t ht hW => ⟨⟨E, rfl, hp, by unfold gB; rw [ht]; exact hH.1⟩, hH.2.2.F ht⟩) hH.2.2.2.2 hdg C.locks
theorem gPcG_blind {K : gK} {E : gE} {av : List Value} {sz : Nat} : FrameBlind (gPcG K E av sz) := fun a U g mk q => by
  obtain ⟨q0, q1, qP, qI, qT, qZ, qO⟩ := q
  exact ⟨q0, q1, qP, qI, gT.same (u := U) (U := U.calling g mk a) rfl qT, gZ.moved (u := U) (U := U.calling g mk a) (Vm.Alike.refl U.vm) qZ, gO.moved (u := U) (U := U.calling g mk a) (Vm.Alike.refl U.vm) qO⟩
theorem kS.inj {K : gK} (hs : kS K) (M : Nat) : gInj (ka K) M := fun i j _ _ e => by
  have e1 := hs i
  have e2 := hs j
  omega
section GCG
variable {X : gX} {K : gK} {cc : ByteArray} {own : String} {mL rf rl mc ms pc k n N : Nat} {E : gE} {lv : List (Nat × Value)} {st rest : List Value} {y : MethodName} {bytes : ByteArray} {mL' rf' rl' mc' ms' nA index a : Nat} {As : List Value} {post : gE → Prop}
theorem g_runG (CG : gCG X K cc own mL rf rl mc ms) (hO : gO (xs X)) {H : Heap} {locs : List Loc} {ls : Array Slot} {k' n' N' : Nat} (hk : k + mc' = k') (hn : n + ms' = n') (hN : N + mc' = N') (hc : k' ≤ mc) (hs : n' ≤ ms) (hsz : H.size = ka K N) (hH : gH (gXa X k n) (gKa K N) E H locs) (hl : lv_has ls (xL X) lv) (av : Array Value)
    (hr : va_Run (xp X) (xl X) (xe X) (xR X) (xs X) (xm X) (xa X) (xb X) (xM X) (xc X) H locs k n mc' ms' (F0 (xm X) pc ls st) rest (va_Qv post (gB (gKa K (N + mc'))) (gA (ka K) N (ka K N)) av) (gA (ka K) N (ka K N)))
    (kk : ∀ E' : gE, post E' → gW (gXa X k' n') (gKa K N') E' (pc + 3) lv rest) : W (xp X) (xl X) (xe X) (xR X) (xs X) (xm X) (xa X) (xb X) (xM X) (xc X) H locs k n (xQ X) (F0 (xm X) pc ls st) := by
  subst hk; subst hn; subst hN
  have C := CG.1 k n N (by omega) (by omega)
  have hsub : ∀ q, gA (ka K) N (ka K N) q → xA X q := by
    rintro q (⟨j, hj, rfl⟩ | h)
    · exact hH.2.1.2 j _ (gw_at hj)
    · exact C.A q (Nat.le_trans hH.2.2.1 (by rw [hsz]; exact h))
  refine va_callv hr hH.2.2 (fun q _ h => hsub q h) hsub (fun E' t H1 locs1 ht _ hp hB _ _ hS => kk E' hp H1 locs1 ls ⟨ht ▸ hB, ⟨?_, ?_⟩, hS⟩ hl)
  · exact (gInj.D (sz := 0) (CG.2.1.inj _)).1
  · intro j q hq
    obtain ⟨hj, rfl⟩ := gw_of hq
    rcases Nat.lt_or_ge j N with h | h
    · exact hH.2.1.2 j (ka K j, E j) (gw_at h)
    · refine C.A _ (Nat.le_trans hH.2.2.1 ?_)
      rw [hsz]
      show ka K N ≤ ka K j
      rw [CG.2.1 N, CG.2.1 j]
      omega
theorem gPcG_at (CG : gCG X K cc own mL rf rl mc ms) (hk : k ≤ mc) (hn : n ≤ ms) (hO : gO (xs X)) {H : Heap} {locs : List Loc} (hsz : H.size = ka K N) (hH : gH (gXa X k n) (gKa K N) E H locs) (av : List Value) : ∀ U : State, U.heap = H → (xs X).WarmedH U.vm → gPcG (gKa K N) E av (ka K N) av.toArray U := fun U hU hW => by
  have C := CG.1 k n N hk hn
  have q := gPc_at C hH av U hU hW
  rw [hsz] at q
  exact ⟨q.1, q.2.1, q.2.2.1, q.2.2.2.1, q.2.2.2.2.1, q.2.2.2.2.2, gO.moved hW.alike hO⟩
theorem g_cG (CG : gCG X K cc own mL rf rl mc ms) (hO : gO (xs X)) (hz : (xs X).heap.size + k = ka K N) (hkN : k ≤ N) (hM : gMG (xl X) y bytes mL' rf' rl' mc' ms' K N E (.ref a :: As) post) (mw : gMW y bytes mL' none nA) (hini : y.name = "<init>") (mo : Cond.instanceMethod y ∈ TB) (hlink : Cond.methodLink own index y ∈ TB) (hr : rf' + 1 ≤ rf ∧ 8 + (mL' + 11) + rl' ≤ rl) (hA : As.length = nA) (hst : st = As.reverse ++ .ref a :: rest) (hcat : (rest.map fun v => v.category).sum ≤ 8) {k' n' N' : Nat} (hk : k + mc' = k') (hn : n + ms' = n') (hN : N + mc' = N') (hc : k' ≤ mc) (hs : n' ≤ ms) (hdg : decode cc pc = .ok (.invokespecial index, 3))
    (kk : ∀ E' : gE, post E' → gW (gXa X k' n') (gKa K N') E' (pc + 3) lv rest) : gW (gXa X k n) (gKa K N) E pc lv st := by
  subst hst
  intro H locs ls hH hl T hT S
  have hsz := g_size hz hkN CG.2.1 hH hT S
  have C := CG.1 k n N (by omega) (by omega)
  exact g_runG CG hO hk hn hN hc hs hsz hH hl _ (va_runI (As := As) (rest := rest) (n := nA) ⟨C.1, C.2.1, C.2.2.2.1, C.ow, C.ts⟩ hM ⟨callB_of nA C.ts (gGood mw.1.2) rfl rfl rfl (C.ts _ mw.1.1) (C.ts _ hlink) mw.2 ⟨by rw [C.fr]; exact hr.1, by rw [C.lo]; exact hr.2⟩, hini, C.ts _ mo⟩ ⟨gPcG_blind, gPcG_at CG (by omega) (by omega) hO hsz hH _⟩ rfl hA hl.1 rfl (lv_room hcat) hdg ⟨by have := CG.2.2.1; omega, by have := CG.2.2.2; omega⟩) kk T hT S
theorem g_cGN (CG : gCG X K cc own mL rf rl mc ms) (hO : gO (xs X)) (hz : (xs X).heap.size + k = ka K N) (hkN : k ≤ N) {host : String} (hM : gMG (xl X) y bytes mL' rf' rl' mc' ms' K N E (.ref a :: As) post) (mw : gMW y bytes mL' none nA) (hini : y.name = "<init>") (mo : Cond.instanceMethod y ∈ TB) (hlink : va_Nw (.methodLinkNest own index y host) (xs X)) (hr : rf' + 1 ≤ rf ∧ 8 + (mL' + 11) + rl' ≤ rl) (hA : As.length = nA) (hst : st = As.reverse ++ .ref a :: rest) (hcat : (rest.map fun v => v.category).sum ≤ 8) {k' n' N' : Nat} (hk : k + mc' = k') (hn : n + ms' = n') (hN : N + mc' = N') (hc : k' ≤ mc) (hs : n' ≤ ms) (hdg : decode cc pc = .ok (.invokespecial index, 3))
    (kk : ∀ E' : gE, post E' → gW (gXa X k' n') (gKa K N') E' (pc + 3) lv rest) : gW (gXa X k n) (gKa K N) E pc lv st := by
  subst hst
  intro H locs ls hH hl T hT S
  have hsz := g_size hz hkN CG.2.1 hH hT S
  have C := CG.1 k n N (by omega) (by omega)
  exact g_runG CG hO hk hn hN hc hs hsz hH hl _ (va_runIN (As := As) (rest := rest) (n := nA) ⟨C.1, C.2.1, C.2.2.2.1, C.ow, C.ts⟩ hM ⟨va_cnB nA C.ts (gGood mw.1.2) rfl rfl rfl hlink (C.ts _ mw.1.1) mw.2 ⟨by rw [C.fr]; exact hr.1, by rw [C.lo]; exact hr.2⟩, hini, C.ts _ mo⟩ ⟨gPcG_blind, gPcG_at CG (by omega) (by omega) hO hsz hH _⟩ rfl hA hl.1 rfl (lv_room hcat) hdg ⟨by have := CG.2.2.1; omega, by have := CG.2.2.2; omega⟩) kk T hT S
end GCG
