/-! multianewarray of two dimensions -/
section MULTI
variable {E9 : CtlPost} {e : Env} {d : Bool} {acts : List Action} {s : State}
theorem mu_inner {cB cC : ClassId} {kB : Class} {n2 : Nat} {Q : Addr → Pre} (hk : s.vm.classes[cB]? = some kB) (hkind : kB.kind = .array cC .byte) (hn : n2 < 2 ^ 20) (hlimit : ¬ n2 > e.platform.arrayLengthLimit) (hheap : ¬ n2 * componentBytes .byte > e.platform.maxHeapBytes) (hcells : s.heap.size < e.platform.maxCells) (hslots : s.slotsUsed + n2 ≤ e.platform.maxSlots)
    (hq : ∀ acts', Q s.heap.size d acts' (s.pushCell { cls := cB, slots := Array.replicate n2 (.int 0) })) : wp (Op.multianewarray.make cB [nI n2]) Q E9 e d acts s := by
  have hc : (nI n2).toNatClampNeg = n2 := nI_clamp (by omega)
  have hp : ¬ nI n2 < 0 := nI_pos (by omega)
  simp only [Op.multianewarray.make, wp_bind', W.ite, hp, if_false, wp_pure', W.theClass, hk, Option.some.injEq, exists_eq_left', hkind, hc]
  exact W.newArray_of hk hkind hlimit hheap hcells hslots rfl hq
def muP (inner : Cell) (s : State) : Nat → State
  | 0 => s
  | i + 1 => (muP inner s i).pushCell inner
theorem muP_vm {inner : Cell} {s : State} : ∀ i, (muP inner s i).vm = s.vm := by
  intro i
  induction i with
  | zero => rfl
  | succ i ih => exact ih
theorem muP_size {inner : Cell} {s : State} : ∀ i, (muP inner s i).heap.size = s.heap.size + i := by
  intro i
  induction i with
  | zero => rfl
  | succ i ih =>
    show ((muP inner s i).heap.push inner).size = _
    rw [Array.size_push, ih]
    omega
theorem muP_used {inner : Cell} {s : State} : ∀ i, (muP inner s i).slotsUsed = s.slotsUsed + i * inner.slots.size := by
  intro i
  induction i with
  | zero =>
    show s.slotsUsed = s.slotsUsed + 0 * _
    omega
  | succ i ih =>
    show (muP inner s i).slotsUsed + inner.slots.size = _
    rw [ih, Nat.add_mul]
    omega
theorem muP_old {inner : Cell} {s : State} {q : Nat} (h : q < s.heap.size) : ∀ i, (muP inner s i).heap[q]? = s.heap[q]? := by
  intro i
  induction i with
  | zero => rfl
  | succ i ih =>
    show ((muP inner s i).heap.push inner)[q]? = _
    rw [Array.getElem?_push, if_neg (by rw [muP_size]; omega), ih]
theorem muP_new {inner : Cell} {s : State} : ∀ (i j : Nat), j < i → (muP inner s i).heap[s.heap.size + j]? = some inner := by
  intro i
  induction i with
  | zero => intro j h; exact absurd h (Nat.not_lt_zero _)
  | succ i ih =>
    intro j h
    show ((muP inner s i).heap.push inner)[s.heap.size + j]? = _
    rw [Array.getElem?_push, muP_size]
    by_cases e : j = i
    · rw [if_pos (by omega)]
    · rw [if_neg (by omega)]
      exact ih j (by omega)
theorem arr_set_last {A : Array Cell} {x c : Cell} : (A.push x).setIfInBounds A.size c = A.push c := by
  apply Array.ext_getElem?
  intro k
  rw [Array.getElem?_setIfInBounds, Array.getElem?_push, Array.getElem?_push, Array.size_push]
  by_cases e : k = A.size
  · subst e
    simp
  · rw [if_neg (Ne.symm e), if_neg e, if_neg e]
theorem arr_set_push {A : Array Cell} {a : Nat} {x c : Cell} (h : a < A.size) : (A.push x).setIfInBounds a c = (A.setIfInBounds a c).push x := by
  apply Array.ext_getElem?
  intro k
  rw [Array.getElem?_setIfInBounds, Array.getElem?_push, Array.getElem?_push, Array.getElem?_setIfInBounds, Array.size_setIfInBounds, Array.size_push]
  by_cases e : a = k
  · subst e
    rw [if_pos rfl, if_pos rfl, if_pos (by omega), if_neg (by omega), if_pos h]
  · rw [if_neg e, if_neg e]
theorem muP_set {inner c c' : Cell} {s : State} (hc : c'.slots.size = c.slots.size) : ∀ i, (muP inner (s.pushCell c) i).setCell s.heap.size c' = muP inner (s.pushCell c') i := by
  intro i
  induction i with
  | zero =>
    show ({ s with heap := (s.heap.push c).setIfInBounds s.heap.size c', slotsUsed := s.slotsUsed + c.slots.size } : State) = s.pushCell c'
    rw [arr_set_last, ← hc]
    rfl
  | succ i ih =>
    have hz : s.heap.size < (muP inner (s.pushCell c) i).heap.size := by
      rw [muP_size]
      show s.heap.size < (s.heap.push c).size + i
      rw [Array.size_push]
      omega
    show ({ muP inner (s.pushCell c) i with heap := ((muP inner (s.pushCell c) i).heap.push inner).setIfInBounds s.heap.size c', slotsUsed := (muP inner (s.pushCell c) i).slotsUsed + inner.slots.size } : State) = (muP inner (s.pushCell c') i).pushCell inner
    rw [← ih, arr_set_push hz]
    rfl
theorem muP_top {inner : Cell} {s : State} {f : JFrame} : ∀ i, muP inner (s.setTop f) i = (muP inner s i).setTop f := by
  intro i
  induction i with
  | zero => rfl
  | succ i ih =>
    show (muP inner (s.setTop f) i).pushCell inner = ((muP inner s i).pushCell inner).setTop f
    rw [ih, State.pushCell_setTop]
def muO (cA : ClassId) (n1 a i : Nat) : Cell := arrV cA n1 (fun j => if j < i then .ref (a + 1 + j) else .null)
theorem mu_loop {cA cB cC : ClassId} {kA kB : Class} {n1 n2 : Nat} {Q : Addr → Pre} (hkA : s.vm.classes[cA]? = some kA) (hkindA : kA.kind = .array cB (.array .byte)) (hk : s.vm.classes[cB]? = some kB) (hkind : kB.kind = .array cC .byte) (hn : n2 < 2 ^ 20) (hn1 : n1 < 2 ^ 20) (h0 : 0 < n1) (hlimit1 : ¬ n1 > e.platform.arrayLengthLimit) (hheap1 : ¬ n1 * componentBytes (.array .byte) > e.platform.maxHeapBytes) (hlimit : ¬ n2 > e.platform.arrayLengthLimit) (hheap : ¬ n2 * componentBytes .byte > e.platform.maxHeapBytes) (hcells : s.heap.size + n1 < e.platform.maxCells) (hslots : s.slotsUsed + n1 + n1 * n2 ≤ e.platform.maxSlots)
    (hq : ∀ acts' d', Q s.heap.size d' acts' (muP { cls := cB, slots := Array.replicate n2 (.int 0) } (s.pushCell (muO cA n1 s.heap.size n1)) n1)) : wp (Op.multianewarray.make cA [nI n1, nI n2]) Q E9 e d acts s := by
  have hc : (nI n1).toNatClampNeg = n1 := nI_clamp (by omega)
  have hp : ¬ nI n1 < 0 := nI_pos (by omega)
  have hne : ¬ nI n1 = 0 := nI_ne0 h0 (by omega)
  rw [Op.multianewarray.make]
  simp only [wp_bind', W.ite, hp, if_false, wp_pure', W.theClass, hkA, Option.some.injEq, exists_eq_left', hkindA, hc]
  refine W.newArray_of hkA hkindA hlimit1 hheap1 (by omega) (by omega) rfl (fun acts1 => ?_)
  simp only [beq_iff_eq, hne, if_false, wp_pure']
  simp only [wp_bind']
  rw [Std.Legacy.Range.forIn_eq_forIn_range', show ([:n1] : Std.Legacy.Range).size = n1 from by simp [Std.Legacy.Range.size]]
  have hO : ∀ i, (muO cA n1 s.heap.size i).slots.size = n1 := fun i => arrV_size _ _ _
  have hat : ∀ i, (muP { cls := cB, slots := Array.replicate n2 (.int 0) } (s.pushCell (muO cA n1 s.heap.size i)) i).heap[s.heap.size]? = some (muO cA n1 s.heap.size i) := fun i => by
    rw [muP_old (by show s.heap.size < (s.heap.push _).size; rw [Array.size_push]; omega)]
    show (s.heap.push _)[s.heap.size]? = _
    rw [Array.getElem?_push_size]
  refine wp_forIn_inv (fun rest s' => ∃ i, rest = List.range' i (n1 - i) ∧ i ≤ n1 ∧ s' = muP { cls := cB, slots := Array.replicate n2 (.int 0) } (s.pushCell (muO cA n1 s.heap.size i)) i) _ _ ⟨0, rfl, Nat.zero_le _, ?_⟩ ?_ ?_
  · show s.pushCell _ = s.pushCell _
    rw [arrV_new]
    rfl
  · rintro x rest s' d' acts' Q' ⟨i, hr, hi, rfl⟩ hQ'
    have hlt : i < n1 := by
      rcases Nat.lt_or_ge i n1 with h | h
      · exact h
      · rw [Nat.sub_eq_zero_of_le h] at hr
        cases hr
    rw [show n1 - i = (n1 - (i + 1)) + 1 by omega, List.range'_succ] at hr
    obtain ⟨hx1, hx2⟩ := List.cons.inj hr
    have hx3 := hx1.symm
    subst hx3
    subst hx2
    have hsz : (muP { cls := cB, slots := Array.replicate n2 (.int 0) } (s.pushCell (muO cA n1 s.heap.size i)) i).heap.size = s.heap.size + 1 + i := by
      rw [muP_size]
      show (s.heap.push _).size + i = _
      rw [Array.size_push]
    have hus : (muP { cls := cB, slots := Array.replicate n2 (.int 0) } (s.pushCell (muO cA n1 s.heap.size i)) i).slotsUsed = s.slotsUsed + n1 + i * n2 := by
      rw [muP_used]
      show s.slotsUsed + (muO cA n1 s.heap.size i).slots.size + i * (Array.replicate n2 (Value.int 0)).size = _
      rw [hO, Array.size_replicate]
    have hmul : (i + 1) * n2 ≤ n1 * n2 := Nat.mul_le_mul_right _ (by omega)
    rw [Nat.add_mul] at hmul
    simp only [wp_bind']
    refine mu_inner (kB := kB) (cC := cC) (by rw [muP_vm]; exact hk) hkind hn hlimit hheap (by rw [hsz]; omega) (by rw [hus]; omega) (fun acts2 => ?_)
    rw [hsz]
    have hset : ((muP { cls := cB, slots := Array.replicate n2 (.int 0) } (s.pushCell (muO cA n1 s.heap.size i)) i).pushCell { cls := cB, slots := Array.replicate n2 (.int 0) }).setCell s.heap.size ((muO cA n1 s.heap.size i).setSlot i (.ref (s.heap.size + 1 + i))) = muP { cls := cB, slots := Array.replicate n2 (.int 0) } (s.pushCell (muO cA n1 s.heap.size (i + 1))) (i + 1) := by
      have e1 := muP_set (inner := { cls := cB, slots := Array.replicate n2 (.int 0) }) (s := s) (c := muO cA n1 s.heap.size i) (c' := muO cA n1 s.heap.size (i + 1)) (by rw [hO, hO]) (i + 1)
      rw [← e1]
      have e2 : (muO cA n1 s.heap.size i).setSlot i (.ref (s.heap.size + 1 + i)) = muO cA n1 s.heap.size (i + 1) := by
        unfold muO
        rw [arrV_store]
        congr 1
        funext j
        unfold updV
        by_cases h : j = i
        · subst h
          rw [if_pos rfl, if_pos (by omega)]
        · rw [if_neg h]
          by_cases h2 : j < i
          · simp only [if_pos h2, if_pos (show j < i + 1 by omega)]
          · simp only [if_neg h2, if_neg (show ¬ j < i + 1 by omega)]
      rw [e2]
      rfl
    rw [wp_bind']
    refine (W.writeLoc _ _ _ _).mpr ⟨muO cA n1 s.heap.size i, ?_, ?_, ?_, ?_, ?_⟩
    · show ((muP _ _ i).heap.push _)[s.heap.size]? = _
      rw [Array.getElem?_push, if_neg (by rw [hsz]; omega)]
      exact hat i
    · intro h
      cases h
    · rw [hO]
      exact hlt
    · have hv : ((muP { cls := cB, slots := Array.replicate n2 (.int 0) } (s.pushCell (muO cA n1 s.heap.size i)) i).pushCell { cls := cB, slots := Array.replicate n2 (.int 0) }).vm.classes[cA]? = some kA := by
        show (muP _ _ i).vm.classes[cA]? = _
        rw [muP_vm]
        exact hkA
      revert hv
      generalize ((muP { cls := cB, slots := Array.replicate n2 (.int 0) } (s.pushCell (muO cA n1 s.heap.size i)) i).pushCell { cls := cB, slots := Array.replicate n2 (.int 0) }) = s9
      intro hv
      show s9.fitsSlot cA .none i _ = true
      simp [State.fitsSlot, State.slotType?, hv, hkindA, fits]
    · rw [hset, wp_pure']
      exact hQ' _ _ _ ⟨i + 1, rfl, hlt, rfl⟩
  · rintro s' d' acts' ⟨i, hr, hi, rfl⟩
    have e : i = n1 := by
      rcases Nat.lt_or_ge i n1 with h | h
      · rw [show n1 - i = (n1 - (i + 1)) + 1 by omega, List.range'_succ] at hr
        cases hr
      · omega
    subst e
    exact hq _ _
theorem mu_sem {f : JFrame} {rest : List Value} {index n1 n2 : Nat} {cA cB cC : ClassId} {kA kB : Class} {Q : Unit → Pre} (hs : s.topJava?.isSome) (hr : s.vm.classReady f.method.cls index cA) (hstack : f.stack = .int (nI n2) :: .int (nI n1) :: rest) (hkA : s.vm.classes[cA]? = some kA) (hkindA : kA.kind = .array cB (.array .byte)) (hk : s.vm.classes[cB]? = some kB) (hkind : kB.kind = .array cC .byte) (hn : n2 < 2 ^ 20) (hn1 : n1 < 2 ^ 20) (h0 : 0 < n1) (hlimit1 : ¬ n1 > e.platform.arrayLengthLimit) (hheap1 : ¬ n1 * componentBytes (.array .byte) > e.platform.maxHeapBytes) (hlimit : ¬ n2 > e.platform.arrayLengthLimit) (hheap : ¬ n2 * componentBytes .byte > e.platform.maxHeapBytes) (hcells : s.heap.size + n1 < e.platform.maxCells) (hslots : s.slotsUsed + n1 + n1 * n2 ≤ e.platform.maxSlots)
    (hq : ∀ acts' d', Q () d' acts' ((muP { cls := cB, slots := Array.replicate n2 (.int 0) } (s.pushCell (muO cA n1 s.heap.size n1)) n1).setTop { f with stack := .ref s.heap.size :: rest })) : wp (Op.multianewarray.sem index 2) Q E9 e d acts (s.setTop f) := by
  simp only [Op.multianewarray.sem, popN, wp_bind', W.resolveClassAt_ready (State.method?_setTop f hs) hr, W.pop, State.topJava?_setTop' _ hs, Option.some.injEq, exists_eq_left', hstack, List.cons.injEq, exists_cons_eq, State.setTop_setTop, wp_pure', List.nil_append, List.cons_append, List.mapM_cons, List.mapM_nil]
  have hmt : ∀ i, (muP { cls := cB, slots := Array.replicate n2 (.int 0) } (s.pushCell (muO cA n1 s.heap.size n1)) i).topJava?.isSome := by
    intro i
    induction i with
    | zero => exact hs
    | succ i ih => exact ih
  refine mu_loop (s := s.setTop _) (by rw [State.vm_setTop]; exact hkA) hkindA (by rw [State.vm_setTop]; exact hk) hkind hn hn1 h0 hlimit1 hheap1 hlimit hheap (by rw [State.heap_setTop]; exact hcells) (by rw [State.slotsUsed_setTop]; exact hslots) (fun acts1 d1 => ?_)
  rw [State.heap_setTop, State.pushCell_setTop, muP_top]
  simp only [wp_bind', W.mark, W.pushRef, State.topJava?_setTop' _ (hmt n1), Option.some.injEq, exists_eq_left', State.setTop_setTop]
  exact hq _ _
theorem mu_cold {f : JFrame} {index c : Nat} {vm' : Vm} {Q : Unit → Pre} (hs : s.topJava?.isSome) (hg : (Jvm.resolveClass f.method.cls index).Gives e.toSetting s.vm (.ok c) vm') (hr : vm'.classReady f.method.cls index c) (hsz : vm'.classes.size ≤ s.vm.classes.size) :
    wp (Op.multianewarray.sem index 2) Q E9 e d acts (s.setTop f) ↔ wp (Op.multianewarray.sem index 2) Q E9 e d acts ((s.setVm vm').setTop f) := by
  simp only [Op.multianewarray.sem, wp_bind']
  exact W.resolveClassAt_transfer (s := s.setTop f) (State.method?_setTop f hs) hg hr hsz
end MULTI
section MULTI2
variable {p : Program} {l : Launch} {e : Env} {R : Room} {s : State} {m : MethodId} {args : Array Value} {below : List Frame} {meth : Method} {c : Code} {H : Heap} {locs : List Loc} {cells slots : Nat} {Q : State → Prop}
theorem mu_stand {T : State} (X : Stand p l e R s m args below meth c T locs cells slots) (inner : Cell) : ∀ i, Stand p l e R s m args below meth c (muP inner T i) locs (cells + i) (slots + i * inner.slots.size) := by
  intro i
  induction i with
  | zero =>
    rw [Nat.zero_mul]
    exact X
  | succ i ih =>
    have h := ih.pushed inner
    rw [show cells + (i + 1) = cells + i + 1 by omega, Nat.add_mul, Nat.one_mul, ← Nat.add_assoc]
    exact h
theorem W_multi {cc : ByteArray} (hexec : p.tables.exec = Jvm.exec) (hb : c.code = cc) {own : String} {index : Nat} (hown : s.vm.findClass own = some m.cls) (hclink : (Cond.classLink own index "[[B").before args s = true) {comp cA cC : ClassId} {kA kB : Class} (hA : s.vm.findClass "[[B" = some cA) (hkA : s.vm.classes[cA]? = some kA) (hkindA : kA.kind = .array comp (.array .byte)) (hkB : s.vm.classes[comp]? = some kB) (hkindB : kB.kind = .array cC .byte)
    {g : JFrame} (hg : g.method = m) (hdg : decode cc g.pc = .ok (.multianewarray index 2, 4)) {n1 n2 : Nat} {rest : List Value} (hstack : g.stack = .int (nI n2) :: .int (nI n1) :: rest) (h0 : 0 < n1) (hn1 : n1 < 2 ^ 20) (hn2 : n2 < 2 ^ 20) (hcells : cells + (1 + n1) ≤ R.cells) (hslots : slots + (n1 + n1 * n2) ≤ R.slots)
    (kk : ∀ H' : Heap, H'[H.size]? = some (muO cA n1 H.size n1) → (∀ j, j < n1 → H'[H.size + 1 + j]? = some { cls := comp, slots := Array.replicate n2 (.int 0) }) → H'.size = H.size + 1 + n1 → (∀ q, q < H.size → H'[q]? = H[q]?) →
      W p l e R s m args below meth c H' locs (cells + (1 + n1)) (slots + (n1 + n1 * n2)) Q { g with pc := g.pc + 4, stack := .ref H.size :: rest }) : W p l e R s m args below meth c H locs cells slots Q g := by
  intro T hT X
  subst hT; subst hb; subst hg
  have hpl : e.platform.magicAccessors = ({} : Platform).magicAccessors := by rw [X.admits.platform]
  obtain ⟨cc', hfcc, hcl⟩ := Cond.classLink_spec hown hclink e.platform hpl
  cases hA.symm.trans hfcc
  obtain ⟨hg₁, hwarm₁, hready₁⟩ := State.classEntry (e := e) X.warmed hcl
  generalize T.vm.noted g.method.cls index (.cls cA) = vm₁ at hg₁ hwarm₁ hready₁
  have hal : s.vm.Alike vm₁ := hwarm₁.alike
  obtain ⟨kA₁, hkA₁, heA⟩ := hal.2.2 _ _ hkA
  obtain ⟨kB₁, hkB₁, heB⟩ := hal.2.2 _ _ hkB
  have hkindA₁ : kA₁.kind = .array comp (.array .byte) := by rw [heA]; exact hkindA
  have hkindB₁ : kB₁.kind = .array cC .byte := by rw [heB]; exact hkindB
  have X₁ := X.noted hwarm₁
  have X₂ := X₁.pushed (muO cA n1 T.heap.size n1)
  have X₃ := mu_stand X₂ { cls := comp, slots := Array.replicate n2 (.int 0) } n1
  obtain ⟨hr1, hr2⟩ := X.roomAbove hcells hslots
  have hsz0 : ((T.setVm vm₁).pushCell (muO cA n1 T.heap.size n1)).heap.size = T.heap.size + 1 := by
    show (T.heap.push _).size = _
    rw [Array.size_push]
  have e1 : (muP { cls := comp, slots := Array.replicate n2 (.int 0) } ((T.setVm vm₁).pushCell (muO cA n1 T.heap.size n1)) n1).heap[T.heap.size]? = some (muO cA n1 T.heap.size n1) := by
    rw [muP_old (by rw [hsz0]; omega)]
    show (T.heap.push _)[T.heap.size]? = _
    rw [Array.getElem?_push_size]
  have e2 : ∀ j, j < n1 → (muP { cls := comp, slots := Array.replicate n2 (.int 0) } ((T.setVm vm₁).pushCell (muO cA n1 T.heap.size n1)) n1).heap[T.heap.size + 1 + j]? = some { cls := comp, slots := Array.replicate n2 (.int 0) } := fun j hj => by
    rw [← hsz0]
    exact muP_new n1 j hj
  have e3 : (muP { cls := comp, slots := Array.replicate n2 (.int 0) } ((T.setVm vm₁).pushCell (muO cA n1 T.heap.size n1)) n1).heap.size = T.heap.size + 1 + n1 := by rw [muP_size, hsz0]
  have e4 : ∀ q, q < T.heap.size → (muP { cls := comp, slots := Array.replicate n2 (.int 0) } ((T.setVm vm₁).pushCell (muO cA n1 T.heap.size n1)) n1).heap[q]? = T.heap[q]? := fun q hq => by
    rw [muP_old (by rw [hsz0]; omega)]
    show (T.heap.push _)[q]? = _
    rw [Array.getElem?_push, if_neg (by omega)]
  have X₄ : Stand p l e R s g.method args below meth c (muP { cls := comp, slots := Array.replicate n2 (.int 0) } ((T.setVm vm₁).pushCell (muO cA n1 T.heap.size n1)) n1) locs (cells + (1 + n1)) (slots + (n1 + n1 * n2)) := by
    have h9 : (muO cA n1 T.heap.size n1).slots.size = n1 := arrV_size _ _ _
    have h8 : ({ cls := comp, slots := Array.replicate n2 (.int 0) } : Cell).slots.size = n2 := Array.size_replicate
    rw [h9, h8, Nat.add_assoc, Nat.add_assoc] at X₃
    exact X₃
  obtain ⟨t', a1, b1⟩ := kk _ e1 e2 e3 e4 _ rfl X₄
  refine ⟨t', ?_, b1⟩
  refine Steps.instr (c := _) (by simpa using X.here) ?_
  rw [hdg]
  show wpRun (p.tables.exec (.multianewarray index 2)) _ _ e (T.setTop g)
  rw [hexec]
  show wp (Op.multianewarray.sem index 2) _ _ e _ _ (T.setTop g)
  rw [mu_cold X.here.top hg₁ hready₁ (by no_record)]
  refine mu_sem (s := T.setVm vm₁) X.here.top hready₁ hstack hkA₁ hkindA₁ hkB₁ hkindB₁ hn2 hn1 h0 (by rw [Launch.admits_arrayLengthLimit X.admits]; omega) (by rw [Launch.admits_maxHeapBytes X.admits]; show ¬ n1 * 4 > 536870912; omega) (by rw [Launch.admits_arrayLengthLimit X.admits]; omega) (by rw [Launch.admits_maxHeapBytes X.admits]; show ¬ n2 * 1 > 536870912; omega) (by show T.heap.size + n1 < _; omega) (by show T.slotsUsed + n1 + n1 * n2 ≤ _; omega) (fun acts' d' => ?_)
  intro acts''
  have htop : (muP { cls := comp, slots := Array.replicate n2 (.int 0) } ((T.setVm vm₁).pushCell (muO cA n1 T.heap.size n1)) n1).topJava?.isSome := X₄.here.top
  simp [jvm, htop]
  exact a1
end MULTI2
theorem g_multi {X : gX} {K : gK} {cc : ByteArray} {own : String} {mL rf rl mc ms pc k n N : Nat} {E : gE} {lv : List (Nat × Value)} {st : List Value} (CG : gCG X K cc own mL rf rl mc ms) (hO : gO (xs X)) (hz : (xs X).heap.size + k = ka K N) (hkN : k ≤ N) {index : Nat} (hlink : Cond.classLink own index "[[B" ∈ TB) {n1 n2 k' n' N' : Nat} (h0 : 0 < n1) (hn1 : n1 < 2 ^ 20) (hn2 : n2 < 2 ^ 20) (hk : k + (1 + n1) = k') (hn : n + (n1 + n1 * n2) = n') (hN : N + (1 + n1) = N') (hc : k' ≤ mc) (hs : n' ≤ ms) (hdg : decode cc pc = .ok (.multianewarray index 2, 4))
    (kk : ∀ (E' : gE) (f : Nat → Option Nat), E' N = .inl (kc K 6, n1, .inr (.inr (.inr (.inr f)))) → (∀ j, j < n1 → f j = some (ka K (N + 1 + j))) → (∀ j, j < n1 → E' (N + 1 + j) = .inl (kc K 0, n2, .inl (fun _ => nI 0))) → frN N (1 + n1) E E' → gW (gXa X k' n') (gKa K N') E' (pc + 4) lv (.ref (ka K N) :: st)) : gW (gXa X k n) (gKa K N) E pc lv (.int (nI n2) :: .int (nI n1) :: st) := by
  subst hk; subst hn; subst hN
  have C := CG.1 k n N (by omega) (by omega)
  intro H locs ls hH hl T hT S
  have hsz := g_size hz hkN CG.2.1 hH hT S
  obtain ⟨comp, cA, kA, f1, f2, f3, f4⟩ := hO.2.2.2.2
  have hc0 := C.T.1.2 0 _ rfl
  have hc6 := C.T.1.2 6 _ rfl
  have hcomp : comp = kc K 0 := Option.some.inj (f1.symm.trans hc0.2)
  have hcA : cA = kc K 6 := Option.some.inj (f4.symm.trans hc6.2)
  subst hcomp; subst hcA
  have hgo : W (xp X) (xl X) (xe X) (xR X) (xs X) (xm X) (xa X) (xb X) (xM X) (xc X) H locs k n (xQ X) (F0 (xm X) pc ls (.int (nI n2) :: .int (nI n1) :: st)) := by
    obtain ⟨-, kB, hkB, cC, hkindB⟩ := hc0.1 0 (fun _ => .null)
    refine W_multi C.1 C.2.1 C.ow (C.ts _ hlink) f4 f2 f3 hkB hkindB rfl hdg rfl h0 hn1 hn2 (Nat.le_trans hc CG.2.2.1) (Nat.le_trans hs CG.2.2.2) (fun H1 e1 e2 e3 e4 => ?_)
    rw [hsz] at e1 e2 e3 e4 ⊢
    have hkj : ∀ j, ka K (N + j) = ka K N + j := fun j => by
      rw [CG.2.1 (N + j), CG.2.1 N]
      omega
    refine kk (fun q => if q = N then .inl (kc K 6, n1, .inr (.inr (.inr (.inr (fun j => if j < n1 then some (ka K (N + 1 + j)) else none))))) else if N < q ∧ q < N + 1 + n1 then .inl (kc K 0, n2, .inl (fun _ => nI 0)) else E q) _ (if_pos rfl) (fun j hj => if_pos hj) (fun j hj => by simp only [if_neg (show ¬ N + 1 + j = N by omega), if_pos (show N < N + 1 + j ∧ N + 1 + j < N + 1 + n1 by omega)]) (fun q hq => by simp only [if_neg (show ¬ q = N by omega), if_neg (show ¬ (N < q ∧ q < N + 1 + n1) by omega)]) H1 locs ls ⟨?_, ?_, ?_⟩ hl
    · intro j q hq
      obtain ⟨hj, rfl⟩ := gw_of hq
      have hj' : j < N + (1 + n1) := hj
      by_cases a1 : j = N
      · subst a1
        simp only [if_pos rfl]
        show H1[ka K j]? = some (vp_cell _ _)
        rw [vp_cell_q, e1]
        unfold muO
        congr 2
        funext q
        by_cases a2 : q < n1
        · rw [if_pos a2, if_pos a2, Nat.add_assoc j 1 q, hkj]
          show _ = Value.ref _
          rw [← Nat.add_assoc]
        · rw [if_neg a2, if_neg a2]
          rfl
      · by_cases a2 : N < j ∧ j < N + 1 + n1
        · simp only [if_neg a1, if_pos a2]
          show H1[ka K j]? = some (vp_cell _ _)
          have e5 := e2 (j - (N + 1)) (by omega)
          rw [show j = N + (1 + (j - (N + 1))) by omega, hkj, ← Nat.add_assoc, e5, arrV_new]
          rfl
        · simp only [if_neg a1, if_neg a2]
          have hjN : j < N := by omega
          have hold := hH.1 j (ka K j, E j) (gw_at hjN)
          have hlt : ka K j < ka K N := by
            rw [CG.2.1 j, CG.2.1 N]
            omega
          exact (va_P.kept (ws := [(ka K j, E j)]) (fun i q hq => by
            have hi : i < 1 := (List.getElem?_eq_some_iff.mp hq).1
            rw [show i = 0 by omega] at hq
            cases hq
            exact hold) (fun i q hq => by
            have hi : i < 1 := (List.getElem?_eq_some_iff.mp hq).1
            rw [show i = 0 by omega] at hq
            cases hq
            exact e4 _ hlt)) 0 _ rfl
    · refine ⟨(gInj.D (sz := 0) (CG.2.1.inj _)).1, fun j q hq => ?_⟩
      obtain ⟨hj, rfl⟩ := gw_of hq
      rcases Nat.lt_or_ge j N with h | h
      · exact hH.2.1.2 j (ka K j, E j) (gw_at h)
      · refine C.A _ (Nat.le_trans hH.2.2.1 ?_)
        rw [hsz]
        show ka K N ≤ ka K j
        rw [CG.2.1 N, CG.2.1 j]
        omega
    · exact ⟨Nat.le_trans hH.2.2.1 (by omega), fun x h1 h2 => (e4 x (by have h9 : (xs X).heap.size ≤ H.size := hH.2.2.1; have h8 : x < (xs X).heap.size := h1; omega)).trans (hH.2.2.2.1 x h1 h2), hH.2.2.2.2⟩
  exact hgo T hT S
