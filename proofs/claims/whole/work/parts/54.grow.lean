/-! GROWING WORLDS: the cells' addresses are one behind the other; a walk that makes cells has their number in X, and the number of the world's codes in K -/
abbrev gXa (X : gX) (k n : Nat) : gX := (xp X, xl X, xe X, xR X, xs X, xm X, xa X, xb X, xM X, xc X, xQ X, xA X, k, n, xL X)
abbrev gKa (K : gK) (N : Nat) : gK := (kD K, kc K, ka K, N, ks K, kv K)
def kS (K : gK) : Prop := ∀ j, ka K j = ka K 0 + j
/-- the array classes that must have been made: of objects, of arrays -/
def gO (U : State) : Prop := va_AO "DavRoom$Resource" U ∧ va_AO "DavRoom$Lock" U ∧ va_AO "DavRoomModel$Path" U ∧ va_AO "java/lang/String" U ∧ ∃ (comp cA : ClassId) (kA : Class), U.vm.findClass (FieldType.array .byte).toString = some comp ∧ U.vm.classes[cA]? = some kA ∧ kA.kind = .array comp (.array .byte) ∧ U.vm.findClass ("[" ++ (FieldType.array .byte).toString) = some cA
theorem gO.moved {u U : State} (hvm : u.vm.Alike U.vm) (h : gO u) : gO U := by
  obtain ⟨h1, h2, h3, h4, comp, cA, kA, g1, g2, g3, g4⟩ := h
  obtain ⟨k', hk', he⟩ := hvm.2.2 _ _ g2
  exact ⟨h1.moved hvm, h2.moved hvm, h3.moved hvm, h4.moved hvm, comp, cA, k', by rw [hvm.findClass]; exact g1, hk', by rw [he]; exact g3, by rw [hvm.findClass]; exact g4⟩
theorem gw_grow {ad : Nat → Nat} {N : Nat} {E : gE} {e : va_E} : gw ad (N + 1) (va_up E N e) = gw ad N E ++ [(ad N, e)] := by
  rw [gw_push]
  congr 1
  funext k
  by_cases h : k = N
  · subst h
    rw [va_up_self]
  · rw [va_up_ne _ _ h]
def gCG (X : gX) (K : gK) (cc : ByteArray) (own : String) (mL rf rl mc ms : Nat) : Prop := (∀ k n N, k ≤ mc → n ≤ ms → gC (gXa X k n) (gKa K N) cc own mL rf rl) ∧ kS K ∧ mc ≤ (xR X).cells ∧ ms ≤ (xR X).slots
section GNEW
variable {X : gX} {K : gK} {cc : ByteArray} {own : String} {mL rf rl mc ms pc k n N : Nat} {E : gE} {lv : List (Nat × Value)} {st : List Value}
theorem g_size {H : Heap} {locs : List Loc} {T : State} (hz : (xs X).heap.size + k = ka K N) (hkN : k ≤ N) (hs : kS K) (hH : gH (gXa X k n) (gKa K N) E H locs) (hT : T.heap = H) (hS : Stand (xp X) (xl X) (xe X) (xR X) (xs X) (xm X) (xa X) (xb X) (xM X) (xc X) T locs k n) : H.size = ka K N := by
  have h1 := hS.heapSize
  rw [hT] at h1
  have h2 : (xs X).heap.size ≤ H.size := hH.2.2.1
  rcases Nat.eq_zero_or_pos k with h | h
  · omega
  · have h3 : ka K (N - 1) < H.size := (hH.1 (N - 1) _ (gw_at (ad := ka K) (N := N) (E := E) (by omega))).lt
    have e1 := hs N
    have e2 := hs (N - 1)
    omega
theorem g_newa (CG : gCG X K cc own mL rf rl mc ms) (hz : (xs X).heap.size + k = ka K N) (hkN : k ≤ N) {atype : ArrayType} {ty : FieldType} (hty : Op.newarray.typeOf atype = ty) (hw : Cond.arrayClass ty ∈ TB) {t0 : Nat} (ht : (gty (kc K))[t0]? = some (kc K t0, ty)) (hra : ∀ (U : State) (c : ClassId), va_RA U c ty → U.vm.findClass ("[" ++ ty.toString) = some c) {len k' n' N' : Nat} {a0 : Nat → Int32} (ha : ∀ cA : ClassId, vp_cell cA (len, .inl a0) = arrV cA len (fun _ => defaultValue ty)) (hb : len * componentBytes ty ≤ 536870912) (hlen : len < 2 ^ 20) (hk : k + 1 = k') (hn : n + len = n') (hN : N + 1 = N') (hc : k' ≤ mc) (hs : n' ≤ ms) (hdg : decode cc pc = .ok (.newarray atype, 2))
    (kk : ∀ E' : gE, E' = va_up E N (.inl (kc K t0, len, .inl a0)) → gW (gXa X k' n') (gKa K N') E' (pc + 2) lv (.ref (ka K N) :: st)) : gW (gXa X k n) (gKa K N) E pc lv (.int (nI len) :: st) := by
  subst hk; subst hn; subst hN
  have C := CG.1 k n N (by omega) (by omega)
  intro H locs ls hH hl T hT S
  have hsz := g_size hz hkN CG.2.1 hH hT S
  have hgo : W (xp X) (xl X) (xe X) (xR X) (xs X) (xm X) (xa X) (xb X) (xM X) (xc X) H locs k n (xQ X) (F0 (xm X) pc ls (.int (nI len) :: st)) := by
    subst hty
    refine va_newaK (n := nI len) (N := len) C.1 C.2.1 (C.ts _ hw) rfl hdg rfl (nI_pos (by omega)) (nI_clamp (by omega)) hb (Nat.le_trans hc CG.2.2.1) (Nat.le_trans hs CG.2.2.2) hsz (fun H1 cA e1 z1 o1 hAr hNm => ?_)
    have hcA : cA = kc K t0 := Option.some.inj (hNm.symm.trans (hra _ _ (C.T.1.2 t0 _ ht).2))
    subst hcA
    have hkp : ∀ (j : Nat) (x : Nat × va_E), (gw (ka K) N E)[j]? = some x → H1[x.1]? = H[x.1]? := fun j x hx => o1 x.1 (by rw [← hsz]; exact (hH.1 j x hx).lt)
    refine kk _ rfl H1 locs ls ⟨?_, ?_, ?_⟩ hl
    · show va_P (kD K) cls (gw (ka K) (N + 1) _) H1
      rw [gw_grow]
      refine (va_P.kept (ws := gw (ka K) N E) hH.1 hkp).app (fun j x hx => ?_)
      have hz1 : j < 1 := (List.getElem?_eq_some_iff.mp hx).1
      rw [show j = 0 by omega] at hx
      cases hx
      show H1[ka K N]? = some (vp_cell _ _)
      rw [ha]
      exact e1
    · show va_D (xA X) (gw (ka K) (N + 1) _)
      rw [gw_grow]
      exact va_D.push (ws := gw (ka K) N E) hH.2.1 hH.1 hsz.symm (C.A _ (by rw [← hsz]; exact hH.2.2.1))
    · exact ⟨Nat.le_trans hH.2.2.1 (by omega), fun x h1 h2 => (o1 x (by have h9 : (xs X).heap.size ≤ H.size := hH.2.2.1; have h8 : x < (xs X).heap.size := h1; omega)).trans (hH.2.2.2.1 x h1 h2), hH.2.2.2.2⟩
  exact hgo T hT S
theorem g_newq (CG : gCG X K cc own mL rf rl mc ms) (hz : (xs X).heap.size + k = ka K N) (hkN : k ≤ N) {Cn : String} {index : Nat} (hlink : Cond.classLink own index Cn ∈ TB) (hov : va_AO Cn (xs X)) {t0 : Nat} (ht : (gty (kc K))[t0]? = some (kc K t0, .object Cn)) {len k' n' N' : Nat} (hlen : len < 2 ^ 20) (hk : k + 1 = k') (hn : n + len = n') (hN : N + 1 = N') (hc : k' ≤ mc) (hs : n' ≤ ms) (hdg : decode cc pc = .ok (.anewarray index, 3))
    (kk : ∀ E' : gE, E' = va_up E N (.inl (kc K t0, len, .inr (.inr (.inr (.inr (fun _ => none)))))) → gW (gXa X k' n') (gKa K N') E' (pc + 3) lv (.ref (ka K N) :: st)) : gW (gXa X k n) (gKa K N) E pc lv (.int (nI len) :: st) := by
  subst hk; subst hn; subst hN
  have C := CG.1 k n N (by omega) (by omega)
  intro H locs ls hH hl T hT S
  have hsz := g_size hz hkN CG.2.1 hH hT S
  have hcl : (nI len).toNatClampNeg = len := nI_clamp (by omega)
  have hgo : W (xp X) (xl X) (xe X) (xR X) (xs X) (xm X) (xa X) (xb X) (xM X) (xc X) H locs k n (xQ X) (F0 (xm X) pc ls (.int (nI len) :: st)) := by
    refine W.anew C.1 C.2.1 C.ow (C.ts _ hlink) (va_AO.use hov) rfl hdg rfl (nI_pos (by omega)) (by rw [hcl]; omega) (Nat.le_trans hc CG.2.2.1) (by rw [hcl]; exact Nat.le_trans hs CG.2.2.2) (fun cA kA comp f1 f2 f3 f4 => ?_)
    rw [hcl]
    have hcA : cA = kc K t0 := by
      obtain ⟨kA', comp', q1, q2, q3, q4⟩ := (C.T.1.2 t0 _ ht).2
      exact Option.some.inj (f1.symm.trans q4)
    subst hcA
    generalize hH1 : H.push ({ cls := kc K t0, slots := Array.replicate len .null, vm := .none } : Cell) = H1
    have z1 : H1.size = H.size + 1 := by rw [← hH1, Array.size_push]
    have e1 : H1[H.size]? = some (arrV (kc K t0) len (fun _ => .null)) := by rw [← hH1, Array.getElem?_push_size, ← arrV_new]
    have o1 : ∀ q : Nat, q < H.size → H1[q]? = H[q]? := fun q hq => by rw [← hH1, Array.getElem?_push, if_neg (Nat.ne_of_lt hq)]
    have hkp : ∀ (j : Nat) (x : Nat × va_E), (gw (ka K) N E)[j]? = some x → H1[x.1]? = H[x.1]? := fun j x hx => o1 x.1 ((hH.1 j x hx).lt)
    rw [hsz]
    refine kk _ rfl H1 locs ls ⟨?_, ?_, ?_⟩ hl
    · show va_P (kD K) cls (gw (ka K) (N + 1) _) H1
      rw [gw_grow]
      refine (va_P.kept (ws := gw (ka K) N E) hH.1 hkp).app (fun j x hx => ?_)
      have hz1 : j < 1 := (List.getElem?_eq_some_iff.mp hx).1
      rw [show j = 0 by omega] at hx
      cases hx
      show H1[ka K N]? = some (vp_cell _ _)
      rw [vp_cell_q, ← hsz]
      exact e1
    · show va_D (xA X) (gw (ka K) (N + 1) _)
      rw [gw_grow]
      exact va_D.push (ws := gw (ka K) N E) hH.2.1 hH.1 hsz.symm (C.A _ (by rw [← hsz]; exact hH.2.2.1))
    · exact ⟨Nat.le_trans hH.2.2.1 (by omega), fun x h1 h2 => (o1 x (by have h9 : (xs X).heap.size ≤ H.size := hH.2.2.1; have h8 : x < (xs X).heap.size := h1; omega)).trans (hH.2.2.2.1 x h1 h2), hH.2.2.2.2⟩
  exact hgo T hT S
theorem g_new (CG : gCG X K cc own mL rf rl mc ms) (hz : (xs X).heap.size + k = ka K N) (hkN : k ≤ N) {Cn : String} {T0 : u_T} {ci index Nf : Nat} (hcl : cls[ci]? = some (Cn, T0, Nf)) (hin : ∀ w ∈ u_ws Cn T0 Nf, w ∈ TB) (ty : Nat → FieldType) (hty : ∀ k, k < Nf → parseFieldDescriptor (T0 k).2.2.1 = some (ty k)) (hlink : Cond.classLink own index Cn ∈ TB) (hinst : Cond.instantiable Cn Nf ∈ TB) (hini : Cond.initialized Cn ∈ TB) {fs : List Value} (hfs : ∀ j, j < Nf → defaultValue (ty j) = vp_V fs j) {k' n' N' : Nat} (hk : k + 1 = k') (hn : n + Nf = n') (hN : N + 1 = N') (hc : k' ≤ mc) (hs : n' ≤ ms) (hdg : decode cc pc = .ok (.new index, 3))
    (kk : ∀ E' : gE, E' = va_up E N (.inr (ci, fs)) → gW (gXa X k' n') (gKa K N') E' (pc + 3) lv (.ref (ka K N) :: st)) : gW (gXa X k n) (gKa K N) E pc lv st := by
  subst hk; subst hn; subst hN
  have C := CG.1 k n N (by omega) (by omega)
  intro H locs ls hH hl T hT S
  have hsz := g_size hz hkN CG.2.1 hH hT S
  have hgo : W (xp X) (xl X) (xe X) (xR X) (xs X) (xm X) (xa X) (xb X) (xM X) (xc X) H locs k n (xQ X) (F0 (xm X) pc ls st) := by
    have hKn := C.T.1.1 ci _ hcl
    refine W.newcK C.1 C.2.1 C.ow (C.ts _ hlink) (C.ts _ hinst) (C.ts _ hini) rfl hdg (Nat.le_trans hc CG.2.2.1) (Nat.le_trans hs CG.2.2.2) hKn.2.1 hsz (fun H1 kC hkC e1 z1 o1 => ?_)
    have hkp : ∀ (j : Nat) (x : Nat × va_E), (gw (ka K) N E)[j]? = some x → H1[x.1]? = H[x.1]? := fun j x hx => o1 x.1 (by rw [← hsz]; exact (hH.1 j x hx).lt)
    refine kk _ rfl H1 locs ls ⟨?_, ?_, ?_⟩ hl
    · show va_P (kD K) cls (gw (ka K) (N + 1) _) H1
      rw [gw_grow]
      refine (va_P.kept (ws := gw (ka K) N E) hH.1 hkp).app (fun j x hx => ?_)
      have hz1 : j < 1 := (List.getElem?_eq_some_iff.mp hx).1
      rw [show j = 0 by omega] at hx
      cases hx
      exact ⟨_, hcl, (u_born ty C.ts hin hKn hkC e1 hty).to hfs⟩
    · show va_D (xA X) (gw (ka K) (N + 1) _)
      rw [gw_grow]
      exact va_D.push (ws := gw (ka K) N E) hH.2.1 hH.1 hsz.symm (C.A _ (by rw [← hsz]; exact hH.2.2.1))
    · exact ⟨Nat.le_trans hH.2.2.1 (by omega), fun x h1 h2 => (o1 x (by have h9 : (xs X).heap.size ≤ H.size := hH.2.2.1; have h8 : x < (xs X).heap.size := h1; omega)).trans (hH.2.2.2.1 x h1 h2), hH.2.2.2.2⟩
  exact hgo T hT S
end GNEW
