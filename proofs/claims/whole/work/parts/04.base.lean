/-! THE CODED WORLD. Every cell of the two systems has a code, a number below N, in the order in which the cells are made; ad gives a code's address, E what the cell holds. A method's contract speaks of E alone. -/
abbrev gE : Type := Nat → va_E
def gw (ad : Nat → Nat) (N : Nat) (E : gE) : va_W := (List.range N).map (fun k => (ad k, E k))
theorem gw_len {ad : Nat → Nat} {N : Nat} {E : gE} : (gw ad N E).length = N := by simp [gw]
theorem gw_at {ad : Nat → Nat} {N : Nat} {E : gE} {k : Nat} (h : k < N) : (gw ad N E)[k]? = some (ad k, E k) := by
  simp [gw, List.getElem?_map, List.getElem?_range h]
theorem gw_of {ad : Nat → Nat} {N : Nat} {E : gE} {k : Nat} {q : Nat × va_E} (h : (gw ad N E)[k]? = some q) : k < N ∧ q = (ad k, E k) := by
  have hk : k < N := by
    have h1 := (List.getElem?_eq_some_iff.mp h).1
    rw [gw_len] at h1
    exact h1
  exact ⟨hk, (Option.some.inj ((gw_at (ad := ad) (E := E) hk).symm.trans h)).symm⟩
theorem gw_set {ad : Nat → Nat} {N : Nat} {E : gE} {k : Nat} {e : va_E} (h : k < N) : (gw ad N E).set k (ad k, e) = gw ad N (va_up E k e) := by
  apply List.ext_getElem?
  intro j
  by_cases hj : j = k
  · subst hj
    rw [gw_at h, List.getElem?_set_self (by rw [gw_len]; exact h), va_up_self]
  · rw [List.getElem?_set_ne (Ne.symm hj)]
    by_cases hjN : j < N
    · rw [gw_at hjN, gw_at hjN, va_up_ne _ _ hj]
    · rw [List.getElem?_eq_none (by rw [gw_len]; omega), List.getElem?_eq_none (by rw [gw_len]; omega)]
theorem gw_push {ad : Nat → Nat} {N : Nat} {E : gE} {a : Nat} {e : va_E} : gw ad N E ++ [(a, e)] = gw (va_up ad N a) (N + 1) (va_up E N e) := by
  simp only [gw, List.range_succ, List.map_append, List.map_cons, List.map_nil, va_up_self]
  congr 1
  apply List.map_congr_left
  intro k hk
  have h1 : k ≠ N := by
    have := List.mem_range.mp hk
    omega
  rw [va_up_ne _ _ h1, va_up_ne _ _ h1]
theorem gw_D {A : Nat → Prop} {ad : Nat → Nat} {N : Nat} {E E' : gE} (h : va_D A (gw ad N E)) : va_D A (gw ad N E') := by
  refine ⟨fun i j x y hx hy e => ?_, fun k q hq => ?_⟩
  · obtain ⟨hi, rfl⟩ := gw_of hx
    obtain ⟨hj, rfl⟩ := gw_of hy
    exact h.1 i j _ _ (gw_at hi) (gw_at hj) e
  · obtain ⟨hk, rfl⟩ := gw_of hq
    exact h.2 k (ad k, E k) (gw_at hk)
/-- the cells that a method may change: those of its world, and those that it makes -/
def gA (ad : Nat → Nat) (N sz : Nat) : Nat → Prop := fun q => (∃ k, k < N ∧ ad k = q) ∨ sz ≤ q
def gInj (ad : Nat → Nat) (N : Nat) : Prop := ∀ i j : Nat, i < N → j < N → ad i = ad j → i = j
theorem gInj.D {ad : Nat → Nat} {N sz : Nat} {E : gE} (h : gInj ad N) : va_D (gA ad N sz) (gw ad N E) := by
  refine ⟨fun i j x y hx hy e => ?_, fun k q hq => ?_⟩
  · obtain ⟨hi, rfl⟩ := gw_of hx
    obtain ⟨hj, rfl⟩ := gw_of hy
    exact h i j hi hj e
  · obtain ⟨hk, rfl⟩ := gw_of hq
    exact Or.inl ⟨k, hk, rfl⟩
theorem gInj.of {A : Nat → Prop} {ad : Nat → Nat} {N : Nat} {E : gE} (h : va_D A (gw ad N E)) : gInj ad N := fun i j hi hj e => h.1 i j _ _ (gw_at hi) (gw_at hj) e
/-- what stays the same in a world: the classes' numbers, the array classes, the addresses, how many cells -/
abbrev gK : Type := va_G × (Nat → ClassId) × (Nat → Nat) × Nat × (Nat → Nat) × (Nat → Nat)
abbrev kD (K : gK) : va_G := K.1
abbrev kc (K : gK) : Nat → ClassId := K.2.1
abbrev ka (K : gK) : Nat → Nat := K.2.2.1
abbrev kN (K : gK) : Nat := K.2.2.2.1
abbrev ks (K : gK) : Nat → Nat := K.2.2.2.2.1
abbrev kv (K : gK) : Nat → Nat := K.2.2.2.2.2
/-- the String constants: whose entry, the text, its bytes -/
def SC : List (String × Nat × String × Bs) := [("DavRoom$Request", 94, "GET ", [71, 69, 84, 32]), ("DavRoom$Request", 96, "PUT ", [80, 85, 84, 32]), ("DavRoom$Request", 98, "DELETE ", [68, 69, 76, 69, 84, 69, 32]), ("DavRoom$Request", 100, "MKCOL ", [77, 75, 67, 79, 76, 32]), ("DavRoom$Request", 102, "COPY ", [67, 79, 80, 89, 32]), ("DavRoom$Request", 104, "MOVE ", [77, 79, 86, 69, 32]), ("DavRoom$Request", 106, "LOCK ", [76, 79, 67, 75, 32]), ("DavRoom$Request", 108, "UNLOCK ", [85, 78, 76, 79, 67, 75, 32]), ("DavRoom$Request", 110, "LIST ", [76, 73, 83, 84, 32]), ("DavRoom$Request", 74, " DAV\n", [32, 68, 65, 86, 10]), ("DavRoom$Request", 142, "depth: ", [100, 101, 112, 116, 104, 58, 32]), ("DavRoom$Request", 144, "to: ", [116, 111, 58, 32]), ("DavRoom$Request", 146, "over: ", [111, 118, 101, 114, 58, 32]), ("DavRoom$Request", 148, "match: ", [109, 97, 116, 99, 104, 58, 32]), ("DavRoom$Request", 150, "none: ", [110, 111, 110, 101, 58, 32]), ("DavRoom$Request", 152, "token: ", [116, 111, 107, 101, 110, 58, 32]), ("DavRoom$Request", 154, "for: ", [102, 111, 114, 58, 32]), ("DavRoom$Request", 156, "sort: ", [115, 111, 114, 116, 58, 32]), ("DavRoom$Request", 179, "all", [97, 108, 108]), ("DavRoom$Request", 181, "1", [49]), ("DavRoom$Request", 183, "0", [48]), ("DavRoom$Request", 161, "no", [110, 111]), ("DavRoom$Request", 167, "yes", [121, 101, 115]), ("DavRoom$Request", 169, "any", [97, 110, 121]), ("DavRoom$Request", 175, "one", [111, 110, 101]), ("DavRoom$Request", 177, "many", [109, 97, 110, 121]), ("DavRoomModel", 28, "depth", [100, 101, 112, 116, 104]), ("DavRoomModel", 30, "to", [116, 111]), ("DavRoomModel", 32, "over", [111, 118, 101, 114]), ("DavRoomModel", 34, "match", [109, 97, 116, 99, 104]), ("DavRoomModel", 36, "none", [110, 111, 110, 101]), ("DavRoomModel", 38, "token", [116, 111, 107, 101, 110]), ("DavRoomModel", 40, "for", [102, 111, 114]), ("DavRoomModel", 42, "sort", [115, 111, 114, 116]), ("DavRoomModel", 48, "GET", [71, 69, 84]), ("DavRoomModel", 50, "PUT", [80, 85, 84]), ("DavRoomModel", 52, "DELETE", [68, 69, 76, 69, 84, 69]), ("DavRoomModel", 54, "MKCOL", [77, 75, 67, 79, 76]), ("DavRoomModel", 56, "COPY", [67, 79, 80, 89]), ("DavRoomModel", 58, "MOVE", [77, 79, 86, 69]), ("DavRoomModel", 60, "LOCK", [76, 79, 67, 75]), ("DavRoomModel", 62, "UNLOCK", [85, 78, 76, 79, 67, 75]), ("DavRoomModel", 64, "LIST", [76, 73, 83, 84]), ("DavRoomModel", 153, "DAV", [68, 65, 86]), ("DavRoomModel", 106, "/", [47]), ("DavRoomModel", 119, "all", [97, 108, 108]), ("DavRoomModel", 121, "1", [49]), ("DavRoomModel", 123, "0", [48]), ("DavRoomModel", 129, "yes", [121, 101, 115]), ("DavRoomModel", 131, "no", [110, 111]), ("DavRoomModel", 137, "any", [97, 110, 121]), ("DavRoomModel", 139, "one", [111, 110, 101]), ("DavRoomModel", 141, "many", [109, 97, 110, 121])]
/-- what a nest's members link of each other -/
def NST : List Cond := [(Cond.methodLinkNest "DavRoom" 23 ⟨"DavRoom$Request", "<init>", "()V"⟩ "DavRoom"), (Cond.methodLinkNest "DavRoom$Tree" 15 ⟨"DavRoom$Resource", "<init>", "()V"⟩ "DavRoom"), (Cond.methodLinkNest "DavRoom$Locks" 15 ⟨"DavRoom$Lock", "<init>", "()V"⟩ "DavRoom"), (Cond.methodLinkNest "DavRoomModel$Room" 52 ⟨"DavRoomModel$Path", "<init>", "()V"⟩ "DavRoomModel"), (Cond.fieldLinkNest "DavRoomModel" 116 "DavRoomModel$Path" "at" "[B" "DavRoomModel"), (Cond.fieldLinkNest "DavRoomModel" 103 "DavRoomModel$Path" "size" "I" "DavRoomModel"), (Cond.fieldLinkNest "DavRoomModel" 216 "DavRoomModel$Room" "path" "[LDavRoomModel$Path;" "DavRoomModel"), (Cond.fieldLinkNest "DavRoomModel" 183 "DavRoomModel$Room" "kind" "[I" "DavRoomModel"), (Cond.fieldLinkNest "DavRoomModel" 186 "DavRoomModel$Room" "version" "[I" "DavRoomModel"), (Cond.fieldLinkNest "DavRoomModel" 232 "DavRoomModel$Room" "size" "[I" "DavRoomModel"), (Cond.fieldLinkNest "DavRoomModel" 234 "DavRoomModel$Room" "data" "[[B" "DavRoomModel"), (Cond.fieldLinkNest "DavRoomModel" 215 "DavRoomModel$Room" "count" "I" "DavRoomModel"), (Cond.fieldLinkNest "DavRoomModel" 315 "DavRoomModel$Room" "lockPath" "[LDavRoomModel$Path;" "DavRoomModel"), (Cond.fieldLinkNest "DavRoomModel" 258 "DavRoomModel$Room" "token" "[I" "DavRoomModel"), (Cond.fieldLinkNest "DavRoomModel" 324 "DavRoomModel$Room" "deep" "[Z" "DavRoomModel"), (Cond.fieldLinkNest "DavRoomModel" 318 "DavRoomModel$Room" "one" "[Z" "DavRoomModel"), (Cond.fieldLinkNest "DavRoomModel" 312 "DavRoomModel$Room" "end" "[I" "DavRoomModel"), (Cond.fieldLinkNest "DavRoomModel" 251 "DavRoomModel$Room" "locks" "I" "DavRoomModel"), (Cond.methodLinkNest "DavRoomModel" 71 ⟨"DavRoomModel$Path", "<init>", "()V"⟩ "DavRoomModel")]
def MAYv : List Int32 := [8, 56, 40, 32, 39, 38, 225, 32, 1]
def nstOk (w : Cond) : Prop := (∃ (a : String) (i : Nat) (b n d h : String), w = .fieldLinkNest a i b n d h) ∨ ∃ (a : String) (i : Nat) (x : MethodName) (h : String), w = .methodLinkNest a i x h
theorem NST_ok : ∀ w ∈ NST, nstOk w := by
  unfold NST
  repeat' first | refine List.forall_mem_cons.mpr ⟨Or.inl ⟨_, _, _, _, _, _, rfl⟩, ?_⟩ | refine List.forall_mem_cons.mpr ⟨Or.inr ⟨_, _, _, _, rfl⟩, ?_⟩
  intro w h
  cases h
/-- what the tables say in every state -/
def gT (K : gK) (U : State) : Prop := va_K (kD K) cls (gty (kc K)) U ∧ (∀ w ∈ NST, va_Nw w U) ∧ ∀ (i : Nat) (q : String × Nat × String × Bs), SC[i]? = some q → vk_R q.1 q.2.1 q.2.2.1 (ks K i) U
theorem gT.warm {K : gK} {s U : State} (hW : s.WarmedH U.vm) (h : gT K s) : gT K U := by
  refine ⟨va_K.moved hW.alike h.1, fun w hw => ?_, fun i q hq => vk_R.warm hW (h.2.2 i q hq)⟩
  rcases NST_ok w hw with ⟨a, i, b, n, d, hh, rfl⟩ | ⟨a, i, x, hh, rfl⟩
  · exact va_Nw.warmF hW (h.2.1 _ hw)
  · exact va_Nw.warmM hW (h.2.1 _ hw)
theorem gT.same {K : gK} {u U : State} (hv : U.vm = u.vm) (h : gT K u) : gT K U := by
  refine ⟨va_K.moved (by rw [hv]; exact Vm.Alike.refl u.vm) h.1, fun w hw => ?_, fun i q hq => vk_R.same hv (h.2.2 i q hq)⟩
  rcases NST_ok w hw with ⟨a, i, b, n, d, hh, rfl⟩ | ⟨a, i, x, hh, rfl⟩
  · exact va_Nw.same rfl hv.symm (h.2.1 _ hw)
  · exact va_Nw.same rfl hv.symm (h.2.1 _ hw)
/-- a String constant: an object of one byte array -/
def gStr (q v : Nat) (tx : Bs) (A : Nat → Prop) (U : State) (H : Heap) : Prop := va_O "java/lang/String" q A U H ∧ va_OF "java/lang/String" "coder" "B" (.int 0) q A U H ∧ va_OF "java/lang/String" "value" "[B" (.ref v) q A U H ∧ va_T .byte v tx.length (fun j => .int (ub (tx.getD j 0))) A U H
/-- what never changes in the heap: the String constants, two statics -/
def gZ (K : gK) (A : Nat → Prop) (U : State) (H : Heap) : Prop := (∀ (i : Nat) (q : String × Nat × String × Bs), SC[i]? = some q → gStr (ks K i) (kv K i) q.2.2.2 A U H) ∧ va_Z "java/lang/String" "COMPACT_STRINGS" "Z" (.int 1) A U H ∧ va_Z "DavRoomModel" "MAY" "[I" (.ref (ks K 60)) A U H ∧ va_T .int (ks K 60) 9 (fun j => .int (MAYv.getD j 0)) A U H ∧ va_Zq "jdk/internal/util/Preconditions" "SIOOBE_FORMATTER" "Ljava/util/function/BiFunction;" A U H
theorem gZ.moved {K : gK} {A : Nat → Prop} {u U : State} {H : Heap} (hvm : u.vm.Alike U.vm) (h : gZ K A u H) : gZ K A U H :=
  ⟨fun i q hq => ⟨va_O.moved hvm (h.1 i q hq).1, va_OF.moved hvm (h.1 i q hq).2.1, va_OF.moved hvm (h.1 i q hq).2.2.1, va_T.moved hvm (h.1 i q hq).2.2.2⟩, h.2.1.moved hvm, h.2.2.1.moved hvm, h.2.2.2.1.moved hvm, h.2.2.2.2.moved hvm⟩
theorem gZ.kept {K : gK} {A : Nat → Prop} {U : State} {H H1 : Heap} (h : gZ K A U H) (hq : ∀ a : Nat, a < H.size → ¬ A a → H1[a]? = H[a]?) : gZ K A U H1 :=
  ⟨fun i q hi => ⟨(h.1 i q hi).1.kept hq, (h.1 i q hi).2.1.kept hq, (h.1 i q hi).2.2.1.kept hq, (h.1 i q hi).2.2.2.kept hq⟩, h.2.1.kept hq, h.2.2.1.kept hq, h.2.2.2.1.kept hq, h.2.2.2.2.kept hq⟩
theorem gZ.narrow {K : gK} {A B : Nat → Prop} {U : State} {H : Heap} (h : gZ K A U H) (hAB : ∀ q, B q → A q) : gZ K B U H :=
  ⟨fun i q hi => ⟨(h.1 i q hi).1.narrow hAB, (h.1 i q hi).2.1.narrow hAB, (h.1 i q hi).2.2.1.narrow hAB, (h.1 i q hi).2.2.2.narrow hAB⟩, h.2.1.narrow hAB, h.2.2.1.narrow hAB, h.2.2.2.1.narrow hAB, h.2.2.2.2.narrow hAB⟩
/-- what stays the same in a walk -/
abbrev gX : Type := Program × Launch × Env × Room × State × MethodId × Array Value × List Frame × Method × Code × (State → Prop) × (Nat → Prop) × Nat × Nat × Nat
abbrev xp (X : gX) : Program := X.1
abbrev xl (X : gX) : Launch := X.2.1
abbrev xe (X : gX) : Env := X.2.2.1
abbrev xR (X : gX) : Room := X.2.2.2.1
abbrev xs (X : gX) : State := X.2.2.2.2.1
abbrev xm (X : gX) : MethodId := X.2.2.2.2.2.1
abbrev xa (X : gX) : Array Value := X.2.2.2.2.2.2.1
abbrev xb (X : gX) : List Frame := X.2.2.2.2.2.2.2.1
abbrev xM (X : gX) : Method := X.2.2.2.2.2.2.2.2.1
abbrev xc (X : gX) : Code := X.2.2.2.2.2.2.2.2.2.1
abbrev xQ (X : gX) : State → Prop := X.2.2.2.2.2.2.2.2.2.2.1
abbrev xA (X : gX) : Nat → Prop := X.2.2.2.2.2.2.2.2.2.2.2.1
abbrev xk (X : gX) : Nat := X.2.2.2.2.2.2.2.2.2.2.2.2.1
abbrev xn (X : gX) : Nat := X.2.2.2.2.2.2.2.2.2.2.2.2.2.1
abbrev xL (X : gX) : Nat := X.2.2.2.2.2.2.2.2.2.2.2.2.2.2
def gH (X : gX) (K : gK) (E : gE) (H : Heap) (locs : List Loc) : Prop := va_P (kD K) cls (gw (ka K) (kN K) E) H ∧ va_D (xA X) (gw (ka K) (kN K) E) ∧ va_S (xA X) (xs X).heap H locs
/-- the machine, at pc, with these locals and this stack, over any heap that holds E, comes to its end -/
def gW (X : gX) (K : gK) (E : gE) (pc : Nat) (lv : List (Nat × Value)) (st : List Value) : Prop := ∀ (H : Heap) (locs : List Loc) (ls : Array Slot), gH X K E H locs → lv_has ls (xL X) lv → W (xp X) (xl X) (xe X) (xR X) (xs X) (xm X) (xa X) (xb X) (xM X) (xc X) H locs (xk X) (xn X) (xQ X) (F0 (xm X) pc ls st)
/-- what a walk knows of its method -/
def gC (X : gX) (K : gK) (cc : ByteArray) (own : String) (mL rf rl : Nat) : Prop :=
  (xp X).tables.exec = Jvm.exec ∧ (xc X).code = cc ∧ mL = xL X ∧ (xc X).maxLocals = xL X ∧ (xM X).locks = false ∧ (xs X).vm.findClass own = some (xm X).cls ∧ (∀ w ∈ TB, w.before (xa X) (xs X) = true) ∧ gT K (xs X) ∧ gZ K (xA X) (xs X) (xs X).heap ∧ (xR X).frames = rf ∧ (xR X).locals = rl ∧ (∀ q, (xs X).heap.size ≤ q → xA X q) ∧ xk X + 0 ≤ (xR X).cells ∧ xn X + 0 ≤ (xR X).slots
section GROWS
variable {X : gX} {K : gK} {cc : ByteArray} {own : String} {mL rf rl pc : Nat} {E : gE} {lv : List (Nat × Value)} {st : List Value}
theorem g_iconst (C : gC X K cc own mL rf rl) {n : Int} {v : Int32} (hdg : decode cc pc = .ok (.iconst n, 1)) (hv : Int32.ofInt n = v) (k : gW X K E (pc + 1) lv (.int v :: st)) : gW X K E pc lv (st) :=
  fun H locs ls hH hl => lv_iconst C.1 C.2.1 hdg hv (k H locs ls hH hl)
theorem g_bipush (C : gC X K cc own mL rf rl) {n : Int} {v : Int32} (hdg : decode cc pc = .ok (.bipush n, 2)) (hv : (Int8.ofInt n).toInt32 = v) (k : gW X K E (pc + 2) lv (.int v :: st)) : gW X K E pc lv (st) :=
  fun H locs ls hH hl => lv_bipush C.1 C.2.1 hdg hv (k H locs ls hH hl)
theorem g_sipush (C : gC X K cc own mL rf rl) {n : Int} {v : Int32} (hdg : decode cc pc = .ok (.sipush n, 3)) (hv : (Int16.ofInt n).toInt32 = v) (k : gW X K E (pc + 3) lv (.int v :: st)) : gW X K E pc lv (st) :=
  fun H locs ls hH hl => lv_sipush C.1 C.2.1 hdg hv (k H locs ls hH hl)
theorem g_null (C : gC X K cc own mL rf rl)  (hdg : decode cc pc = .ok (.aconst_null, 1))  (k : gW X K E (pc + 1) lv (.null :: st)) : gW X K E pc lv (st) :=
  fun H locs ls hH hl => lv_null C.1 C.2.1 hdg (k H locs ls hH hl)
theorem g_iload_n (C : gC X K cc own mL rf rl) {q : Fin 4} {x : Int32} (hdg : decode cc pc = .ok (.iload_n q, 1)) (pl : Nat) (h : lv[pl]? = some ((q : Nat), .int x)) (k : gW X K E (pc + 1) lv (.int x :: st)) : gW X K E pc lv (st) :=
  fun H locs ls hH hl => lv_iload_n C.1 C.2.1 hdg rfl (lv_at hl pl h) (k H locs ls hH hl)
theorem g_iload (C : gC X K cc own mL rf rl) {i : Nat} {x : Int32} (hdg : decode cc pc = .ok (.iload i, 2)) (pl : Nat) (h : lv[pl]? = some (i, .int x)) (k : gW X K E (pc + 2) lv (.int x :: st)) : gW X K E pc lv (st) :=
  fun H locs ls hH hl => lv_iload C.1 C.2.1 hdg (lv_at hl pl h) (k H locs ls hH hl)
theorem g_aload_n (C : gC X K cc own mL rf rl) {q : Fin 4} {x : Nat} (hdg : decode cc pc = .ok (.aload_n q, 1)) (pl : Nat) (h : lv[pl]? = some ((q : Nat), .ref x)) (k : gW X K E (pc + 1) lv (.ref x :: st)) : gW X K E pc lv (st) :=
  fun H locs ls hH hl => lv_aload_n C.1 C.2.1 hdg rfl (lv_at hl pl h) (k H locs ls hH hl)
theorem g_aload (C : gC X K cc own mL rf rl) {i : Nat} {x : Nat} (hdg : decode cc pc = .ok (.aload i, 2)) (pl : Nat) (h : lv[pl]? = some (i, .ref x)) (k : gW X K E (pc + 2) lv (.ref x :: st)) : gW X K E pc lv (st) :=
  fun H locs ls hH hl => lv_aload C.1 C.2.1 hdg (lv_at hl pl h) (k H locs ls hH hl)
theorem g_aload_nN (C : gC X K cc own mL rf rl) {q : Fin 4} (hdg : decode cc pc = .ok (.aload_n q, 1)) (pl : Nat) (h : lv[pl]? = some ((q : Nat), .null)) (k : gW X K E (pc + 1) lv (.null :: st)) : gW X K E pc lv (st) :=
  fun H locs ls hH hl => lv_aload_nN C.1 C.2.1 hdg rfl (lv_at hl pl h) (k H locs ls hH hl)
theorem g_aloadN (C : gC X K cc own mL rf rl) {i : Nat} (hdg : decode cc pc = .ok (.aload i, 2)) (pl : Nat) (h : lv[pl]? = some (i, .null)) (k : gW X K E (pc + 2) lv (.null :: st)) : gW X K E pc lv (st) :=
  fun H locs ls hH hl => lv_aloadN C.1 C.2.1 hdg (lv_at hl pl h) (k H locs ls hH hl)
theorem g_istore_n (C : gC X K cc own mL rf rl) {q : Fin 4} {i : Nat} {x : Int32} (lv' : List (Nat × Value)) (hdg : decode cc pc = .ok (.istore_n q, 1)) (hi : (q : Nat) = i) (hn : i < mL) (hl2 : (i, Value.int x) :: lv.filter (fun q => !(q.1 == i) && !(q.1 + 1 == i && q.2.category == 2)) = lv') (k : gW X K E (pc + 1) lv' st) : gW X K E pc lv (.int x :: st) :=
  fun H locs ls hH hl => lv_istore_n C.1 C.2.1 hdg hi hl (C.2.2.1 ▸ hn) hl2 (fun ls2 hl3 => k H locs ls2 hH hl3)
theorem g_istore (C : gC X K cc own mL rf rl) {i : Nat} {x : Int32} (lv' : List (Nat × Value)) (hdg : decode cc pc = .ok (.istore i, 2)) (hn : i < mL) (hl2 : (i, Value.int x) :: lv.filter (fun q => !(q.1 == i) && !(q.1 + 1 == i && q.2.category == 2)) = lv') (k : gW X K E (pc + 2) lv' st) : gW X K E pc lv (.int x :: st) :=
  fun H locs ls hH hl => lv_istore C.1 C.2.1 hdg hl (C.2.2.1 ▸ hn) hl2 (fun ls2 hl3 => k H locs ls2 hH hl3)
theorem g_astore_n (C : gC X K cc own mL rf rl) {q : Fin 4} {i : Nat} {x : Nat} (lv' : List (Nat × Value)) (hdg : decode cc pc = .ok (.astore_n q, 1)) (hi : (q : Nat) = i) (hn : i < mL) (hl2 : (i, Value.ref x) :: lv.filter (fun q => !(q.1 == i) && !(q.1 + 1 == i && q.2.category == 2)) = lv') (k : gW X K E (pc + 1) lv' st) : gW X K E pc lv (.ref x :: st) :=
  fun H locs ls hH hl => lv_astore_n C.1 C.2.1 hdg hi hl (C.2.2.1 ▸ hn) hl2 (fun ls2 hl3 => k H locs ls2 hH hl3)
theorem g_astore (C : gC X K cc own mL rf rl) {i : Nat} {x : Nat} (lv' : List (Nat × Value)) (hdg : decode cc pc = .ok (.astore i, 2)) (hn : i < mL) (hl2 : (i, Value.ref x) :: lv.filter (fun q => !(q.1 == i) && !(q.1 + 1 == i && q.2.category == 2)) = lv') (k : gW X K E (pc + 2) lv' st) : gW X K E pc lv (.ref x :: st) :=
  fun H locs ls hH hl => lv_astore C.1 C.2.1 hdg hl (C.2.2.1 ▸ hn) hl2 (fun ls2 hl3 => k H locs ls2 hH hl3)
theorem g_astore_nN (C : gC X K cc own mL rf rl) {q : Fin 4} {i : Nat}  (lv' : List (Nat × Value)) (hdg : decode cc pc = .ok (.astore_n q, 1)) (hi : (q : Nat) = i) (hn : i < mL) (hl2 : (i, Value.null) :: lv.filter (fun q => !(q.1 == i) && !(q.1 + 1 == i && q.2.category == 2)) = lv') (k : gW X K E (pc + 1) lv' st) : gW X K E pc lv (.null :: st) :=
  fun H locs ls hH hl => lv_astore_nN C.1 C.2.1 hdg hi hl (C.2.2.1 ▸ hn) hl2 (fun ls2 hl3 => k H locs ls2 hH hl3)
theorem g_astoreN (C : gC X K cc own mL rf rl) {i : Nat}  (lv' : List (Nat × Value)) (hdg : decode cc pc = .ok (.astore i, 2)) (hn : i < mL) (hl2 : (i, Value.null) :: lv.filter (fun q => !(q.1 == i) && !(q.1 + 1 == i && q.2.category == 2)) = lv') (k : gW X K E (pc + 2) lv' st) : gW X K E pc lv (.null :: st) :=
  fun H locs ls hH hl => lv_astoreN C.1 C.2.1 hdg hl (C.2.2.1 ▸ hn) hl2 (fun ls2 hl3 => k H locs ls2 hH hl3)
theorem g_iinc (C : gC X K cc own mL rf rl) {i pl : Nat} {n : Int} {x v : Int32} (lv' : List (Nat × Value)) (hdg : decode cc pc = .ok (.iinc i n, 3)) (hk : lv[pl]? = some (i, .int x)) (hv : x + Int32.ofInt n = v) (hn : i < mL) (hl2 : (i, Value.int v) :: lv.filter (fun q => !(q.1 == i) && !(q.1 + 1 == i && q.2.category == 2)) = lv') (k : gW X K E (pc + 3) lv' st) : gW X K E pc lv st :=
  fun H locs ls hH hl => lv_iinc C.1 C.2.1 hdg hl hk hv (C.2.2.1 ▸ hn) hl2 (fun ls2 hl3 => k H locs ls2 hH hl3)
theorem g_iadd (C : gC X K cc own mL rf rl) {x y : Int32} (hdg : decode cc pc = .ok (.iadd, 1))  (k : gW X K E (pc + 1) lv (.int (x + y) :: st)) : gW X K E pc lv (.int y :: .int x :: st) :=
  fun H locs ls hH hl => lv_iadd C.1 C.2.1 hdg (k H locs ls hH hl)
theorem g_isub (C : gC X K cc own mL rf rl) {x y : Int32} (hdg : decode cc pc = .ok (.isub, 1))  (k : gW X K E (pc + 1) lv (.int (x - y) :: st)) : gW X K E pc lv (.int y :: .int x :: st) :=
  fun H locs ls hH hl => lv_isub C.1 C.2.1 hdg (k H locs ls hH hl)
theorem g_imul (C : gC X K cc own mL rf rl) {x y : Int32} (hdg : decode cc pc = .ok (.imul, 1))  (k : gW X K E (pc + 1) lv (.int (x * y) :: st)) : gW X K E pc lv (.int y :: .int x :: st) :=
  fun H locs ls hH hl => lv_imul C.1 C.2.1 hdg (k H locs ls hH hl)
theorem g_iand (C : gC X K cc own mL rf rl) {x y : Int32} (hdg : decode cc pc = .ok (.iand, 1))  (k : gW X K E (pc + 1) lv (.int (x &&& y) :: st)) : gW X K E pc lv (.int y :: .int x :: st) :=
  fun H locs ls hH hl => lv_iand C.1 C.2.1 hdg (k H locs ls hH hl)
theorem g_ior (C : gC X K cc own mL rf rl) {x y : Int32} (hdg : decode cc pc = .ok (.ior, 1))  (k : gW X K E (pc + 1) lv (.int (x ||| y) :: st)) : gW X K E pc lv (.int y :: .int x :: st) :=
  fun H locs ls hH hl => lv_ior C.1 C.2.1 hdg (k H locs ls hH hl)
theorem g_ixor (C : gC X K cc own mL rf rl) {x y : Int32} (hdg : decode cc pc = .ok (.ixor, 1))  (k : gW X K E (pc + 1) lv (.int (x ^^^ y) :: st)) : gW X K E pc lv (.int y :: .int x :: st) :=
  fun H locs ls hH hl => lv_ixor C.1 C.2.1 hdg (k H locs ls hH hl)
theorem g_idiv (C : gC X K cc own mL rf rl) {x y : Int32} (hdg : decode cc pc = .ok (.idiv, 1)) (hne : ¬ y = 0) (k : gW X K E (pc + 1) lv (.int (x / y) :: st)) : gW X K E pc lv (.int y :: .int x :: st) :=
  fun H locs ls hH hl => lv_idiv C.1 C.2.1 hdg hne (k H locs ls hH hl)
theorem g_irem (C : gC X K cc own mL rf rl) {x y : Int32} (hdg : decode cc pc = .ok (.irem, 1)) (hne : ¬ y = 0) (k : gW X K E (pc + 1) lv (.int (x - x / y * y) :: st)) : gW X K E pc lv (.int y :: .int x :: st) :=
  fun H locs ls hH hl => lv_irem C.1 C.2.1 hdg hne (k H locs ls hH hl)
theorem g_ishl (C : gC X K cc own mL rf rl) {x y : Int32} (hdg : decode cc pc = .ok (.ishl, 1))  (k : gW X K E (pc + 1) lv (.int (x <<< (y &&& 31)) :: st)) : gW X K E pc lv (.int y :: .int x :: st) :=
  fun H locs ls hH hl => lv_ishl C.1 C.2.1 hdg (k H locs ls hH hl)
theorem g_ishr (C : gC X K cc own mL rf rl) {x y : Int32} (hdg : decode cc pc = .ok (.ishr, 1))  (k : gW X K E (pc + 1) lv (.int (x >>> (y &&& 31)) :: st)) : gW X K E pc lv (.int y :: .int x :: st) :=
  fun H locs ls hH hl => lv_ishr C.1 C.2.1 hdg (k H locs ls hH hl)
theorem g_iushr (C : gC X K cc own mL rf rl) {x y v : Int32} (hdg : decode cc pc = .ok (.iushr, 1)) (hv : (x.toUInt32 >>> (y.toUInt32 &&& Int32.toUInt32 31)).toInt32 = v) (k : gW X K E (pc + 1) lv (.int v :: st)) : gW X K E pc lv (.int y :: .int x :: st) :=
  fun H locs ls hH hl => lv_iushr C.1 C.2.1 hdg hv (k H locs ls hH hl)
theorem g_i2b (C : gC X K cc own mL rf rl) {x v : Int32} (hdg : decode cc pc = .ok (.i2b, 1)) (hv : x.toInt8.toInt32 = v) (k : gW X K E (pc + 1) lv (.int v :: st)) : gW X K E pc lv (.int x :: st) :=
  fun H locs ls hH hl => lv_i2b C.1 C.2.1 hdg hv (k H locs ls hH hl)
theorem g_dup (C : gC X K cc own mL rf rl) {va : Value} (hdg : decode cc pc = .ok (.dup, 1)) (hva : va.category = 1) (k : gW X K E (pc + 1) lv (va :: va :: st)) : gW X K E pc lv (va :: st) :=
  fun H locs ls hH hl => lv_dup C.1 C.2.1 hdg hva (k H locs ls hH hl)
theorem g_pop (C : gC X K cc own mL rf rl) {va : Value} (hdg : decode cc pc = .ok (.pop, 1)) (hva : va.category = 1) (k : gW X K E (pc + 1) lv (st)) : gW X K E pc lv (va :: st) :=
  fun H locs ls hH hl => lv_pop C.1 C.2.1 hdg hva (k H locs ls hH hl)
theorem g_dup_x1 (C : gC X K cc own mL rf rl) {va vb : Value} (hdg : decode cc pc = .ok (.dup_x1, 1)) (hva : va.category = 1) (hvb : vb.category = 1) (k : gW X K E (pc + 1) lv (va :: vb :: va :: st)) : gW X K E pc lv (va :: vb :: st) :=
  fun H locs ls hH hl => lv_dup_x1 C.1 C.2.1 hdg hva hvb (k H locs ls hH hl)
theorem g_if_eq (C : gC X K cc own mL rf rl) {x : Int32} {off : Int} (tgt : Nat) (hdg : decode cc pc = .ok (.ifCond .eq off, 3)) (ht : (pc : Int) + off = (tgt : Int)) (kt : x = 0 → gW X K E tgt lv st) (kf : ¬ x = 0 → gW X K E (pc + 3) lv st) : gW X K E pc lv (.int x :: st) :=
  fun H locs ls hH hl => lv_if_eq C.1 C.2.1 hdg ht (fun z => kt z H locs ls hH hl) (fun z => kf z H locs ls hH hl)
theorem g_icmp_eq (C : gC X K cc own mL rf rl) {x y : Int32} {off : Int} (tgt : Nat) (hdg : decode cc pc = .ok (.if_icmp .eq off, 3)) (ht : (pc : Int) + off = (tgt : Int)) (kt : x = y → gW X K E tgt lv st) (kf : ¬ x = y → gW X K E (pc + 3) lv st) : gW X K E pc lv (.int y :: .int x :: st) :=
  fun H locs ls hH hl => lv_icmp_eq C.1 C.2.1 hdg ht (fun z => kt z H locs ls hH hl) (fun z => kf z H locs ls hH hl)
theorem g_if_ne (C : gC X K cc own mL rf rl) {x : Int32} {off : Int} (tgt : Nat) (hdg : decode cc pc = .ok (.ifCond .ne off, 3)) (ht : (pc : Int) + off = (tgt : Int)) (kt : ¬ x = 0 → gW X K E tgt lv st) (kf : x = 0 → gW X K E (pc + 3) lv st) : gW X K E pc lv (.int x :: st) :=
  fun H locs ls hH hl => lv_if_ne C.1 C.2.1 hdg ht (fun z => kt z H locs ls hH hl) (fun z => kf z H locs ls hH hl)
theorem g_icmp_ne (C : gC X K cc own mL rf rl) {x y : Int32} {off : Int} (tgt : Nat) (hdg : decode cc pc = .ok (.if_icmp .ne off, 3)) (ht : (pc : Int) + off = (tgt : Int)) (kt : ¬ x = y → gW X K E tgt lv st) (kf : x = y → gW X K E (pc + 3) lv st) : gW X K E pc lv (.int y :: .int x :: st) :=
  fun H locs ls hH hl => lv_icmp_ne C.1 C.2.1 hdg ht (fun z => kt z H locs ls hH hl) (fun z => kf z H locs ls hH hl)
theorem g_if_lt (C : gC X K cc own mL rf rl) {x : Int32} {off : Int} (tgt : Nat) (hdg : decode cc pc = .ok (.ifCond .lt off, 3)) (ht : (pc : Int) + off = (tgt : Int)) (kt : x < 0 → gW X K E tgt lv st) (kf : ¬ x < 0 → gW X K E (pc + 3) lv st) : gW X K E pc lv (.int x :: st) :=
  fun H locs ls hH hl => lv_if_lt C.1 C.2.1 hdg ht (fun z => kt z H locs ls hH hl) (fun z => kf z H locs ls hH hl)
theorem g_icmp_lt (C : gC X K cc own mL rf rl) {x y : Int32} {off : Int} (tgt : Nat) (hdg : decode cc pc = .ok (.if_icmp .lt off, 3)) (ht : (pc : Int) + off = (tgt : Int)) (kt : x < y → gW X K E tgt lv st) (kf : ¬ x < y → gW X K E (pc + 3) lv st) : gW X K E pc lv (.int y :: .int x :: st) :=
  fun H locs ls hH hl => lv_icmp_lt C.1 C.2.1 hdg ht (fun z => kt z H locs ls hH hl) (fun z => kf z H locs ls hH hl)
theorem g_if_ge (C : gC X K cc own mL rf rl) {x : Int32} {off : Int} (tgt : Nat) (hdg : decode cc pc = .ok (.ifCond .ge off, 3)) (ht : (pc : Int) + off = (tgt : Int)) (kt : 0 ≤ x → gW X K E tgt lv st) (kf : ¬ 0 ≤ x → gW X K E (pc + 3) lv st) : gW X K E pc lv (.int x :: st) :=
  fun H locs ls hH hl => lv_if_ge C.1 C.2.1 hdg ht (fun z => kt z H locs ls hH hl) (fun z => kf z H locs ls hH hl)
theorem g_icmp_ge (C : gC X K cc own mL rf rl) {x y : Int32} {off : Int} (tgt : Nat) (hdg : decode cc pc = .ok (.if_icmp .ge off, 3)) (ht : (pc : Int) + off = (tgt : Int)) (kt : y ≤ x → gW X K E tgt lv st) (kf : ¬ y ≤ x → gW X K E (pc + 3) lv st) : gW X K E pc lv (.int y :: .int x :: st) :=
  fun H locs ls hH hl => lv_icmp_ge C.1 C.2.1 hdg ht (fun z => kt z H locs ls hH hl) (fun z => kf z H locs ls hH hl)
theorem g_if_gt (C : gC X K cc own mL rf rl) {x : Int32} {off : Int} (tgt : Nat) (hdg : decode cc pc = .ok (.ifCond .gt off, 3)) (ht : (pc : Int) + off = (tgt : Int)) (kt : 0 < x → gW X K E tgt lv st) (kf : ¬ 0 < x → gW X K E (pc + 3) lv st) : gW X K E pc lv (.int x :: st) :=
  fun H locs ls hH hl => lv_if_gt C.1 C.2.1 hdg ht (fun z => kt z H locs ls hH hl) (fun z => kf z H locs ls hH hl)
theorem g_icmp_gt (C : gC X K cc own mL rf rl) {x y : Int32} {off : Int} (tgt : Nat) (hdg : decode cc pc = .ok (.if_icmp .gt off, 3)) (ht : (pc : Int) + off = (tgt : Int)) (kt : y < x → gW X K E tgt lv st) (kf : ¬ y < x → gW X K E (pc + 3) lv st) : gW X K E pc lv (.int y :: .int x :: st) :=
  fun H locs ls hH hl => lv_icmp_gt C.1 C.2.1 hdg ht (fun z => kt z H locs ls hH hl) (fun z => kf z H locs ls hH hl)
theorem g_if_le (C : gC X K cc own mL rf rl) {x : Int32} {off : Int} (tgt : Nat) (hdg : decode cc pc = .ok (.ifCond .le off, 3)) (ht : (pc : Int) + off = (tgt : Int)) (kt : x ≤ 0 → gW X K E tgt lv st) (kf : ¬ x ≤ 0 → gW X K E (pc + 3) lv st) : gW X K E pc lv (.int x :: st) :=
  fun H locs ls hH hl => lv_if_le C.1 C.2.1 hdg ht (fun z => kt z H locs ls hH hl) (fun z => kf z H locs ls hH hl)
theorem g_icmp_le (C : gC X K cc own mL rf rl) {x y : Int32} {off : Int} (tgt : Nat) (hdg : decode cc pc = .ok (.if_icmp .le off, 3)) (ht : (pc : Int) + off = (tgt : Int)) (kt : x ≤ y → gW X K E tgt lv st) (kf : ¬ x ≤ y → gW X K E (pc + 3) lv st) : gW X K E pc lv (.int y :: .int x :: st) :=
  fun H locs ls hH hl => lv_icmp_le C.1 C.2.1 hdg ht (fun z => kt z H locs ls hH hl) (fun z => kf z H locs ls hH hl)
theorem g_goto (C : gC X K cc own mL rf rl) {off : Int} (tgt : Nat) (hdg : decode cc pc = .ok (.goto off, 3)) (ht : (pc : Int) + off = (tgt : Int)) (k : gW X K E tgt lv st) : gW X K E pc lv st :=
  fun H locs ls hH hl => lv_goto C.1 C.2.1 hdg ht (k H locs ls hH hl)
theorem g_ifnull (C : gC X K cc own mL rf rl) {x : Nat} {off : Int} (hdg : decode cc pc = .ok (.ifnull off, 3)) (k : gW X K E (pc + 3) lv st) : gW X K E pc lv (.ref x :: st) :=
  fun H locs ls hH hl => lv_ifnull C.1 C.2.1 hdg (k H locs ls hH hl)
theorem g_ifnullN (C : gC X K cc own mL rf rl) {off : Int} (tgt : Nat) (hdg : decode cc pc = .ok (.ifnull off, 3)) (ht : (pc : Int) + off = (tgt : Int)) (k : gW X K E tgt lv st) : gW X K E pc lv (.null :: st) :=
  fun H locs ls hH hl => lv_ifnullN C.1 C.2.1 hdg ht (k H locs ls hH hl)
theorem g_ifnonnull (C : gC X K cc own mL rf rl) {x : Nat} {off : Int} (tgt : Nat) (hdg : decode cc pc = .ok (.ifnonnull off, 3)) (ht : (pc : Int) + off = (tgt : Int)) (k : gW X K E tgt lv st) : gW X K E pc lv (.ref x :: st) :=
  fun H locs ls hH hl => lv_ifnonnull C.1 C.2.1 hdg ht (k H locs ls hH hl)
theorem g_ifnonnullN (C : gC X K cc own mL rf rl) {off : Int} (hdg : decode cc pc = .ok (.ifnonnull off, 3)) (k : gW X K E (pc + 3) lv st) : gW X K E pc lv (.null :: st) :=
  fun H locs ls hH hl => lv_ifnonnullN C.1 C.2.1 hdg (k H locs ls hH hl)
end GROWS
section GHEAP
variable {X : gX} {K : gK} {cc : ByteArray} {own : String} {mL rf rl pc : Nat} {E : gE} {lv : List (Nat × Value)} {st : List Value}
theorem gC.ts (C : gC X K cc own mL rf rl) : ∀ w ∈ TB, w.before (xa X) (xs X) = true := C.2.2.2.2.2.2.1
theorem gC.ow (C : gC X K cc own mL rf rl) : (xs X).vm.findClass own = some (xm X).cls := C.2.2.2.2.2.1
theorem gC.kk (C : gC X K cc own mL rf rl) : va_K (kD K) cls (gty (kc K)) (xs X) := C.2.2.2.2.2.2.2.1.1
theorem gC.T (C : gC X K cc own mL rf rl) : gT K (xs X) := C.2.2.2.2.2.2.2.1
theorem gC.Z (C : gC X K cc own mL rf rl) : gZ K (xA X) (xs X) (xs X).heap := C.2.2.2.2.2.2.2.2.1
theorem gC.fr (C : gC X K cc own mL rf rl) : (xR X).frames = rf := C.2.2.2.2.2.2.2.2.2.1
theorem gC.lo (C : gC X K cc own mL rf rl) : (xR X).locals = rl := C.2.2.2.2.2.2.2.2.2.2.1
theorem gC.A (C : gC X K cc own mL rf rl) : ∀ q, (xs X).heap.size ≤ q → xA X q := C.2.2.2.2.2.2.2.2.2.2.2.1
theorem gC.kc (C : gC X K cc own mL rf rl) : xk X + 0 ≤ (xR X).cells := C.2.2.2.2.2.2.2.2.2.2.2.2.1
theorem gC.kn (C : gC X K cc own mL rf rl) : xn X + 0 ≤ (xR X).slots := C.2.2.2.2.2.2.2.2.2.2.2.2.2
/-- locals in another order, or fewer -/
theorem g_lv {lv' : List (Nat × Value)} (ks : List Nat) (h : lv_pick lv ks = lv') (k : gW X K E pc lv' st) : gW X K E pc lv st := fun H locs ls hH hl => k H locs ls hH (lv_sub hl ks h)
theorem g_topi {x : Int32} (k : ∀ y : Int32, y = x → gW X K E pc lv (.int y :: st)) : gW X K E pc lv (.int x :: st) := k x rfl
theorem g_E {E' : gE} (h : E = E') (k : gW X K E' pc lv st) : gW X K E pc lv st := h ▸ k
theorem g_st {st' : List Value} (h : st = st') (k : gW X K E pc lv st') : gW X K E pc lv st := h ▸ k
/-- a field's link: the class's number, the field's place -/
def gFL (own : String) (index ci k : Nat) : Prop := ∃ (Cn : String) (T : u_T) (Nf : Nat), cls[ci]? = some (Cn, T, Nf) ∧ (∀ w ∈ u_ws Cn T Nf, w ∈ TB) ∧ k < Nf ∧ Cond.fieldLink own index Cn (T k).2.1 (T k).2.2.1 ∈ TB ∧ (T k).1 = Cn
/-- a field that may be written: its type -/
def gFW (ci k : Nat) (ty : FieldType) (fin : Bool) : Prop := ∃ (Cn : String) (T : u_T) (Nf : Nat) (ty0 : Nat → FieldType), cls[ci]? = some (Cn, T, Nf) ∧ (∀ j, j < Nf → parseFieldDescriptor (T j).2.2.1 = some (ty0 j)) ∧ (∀ a, a < Nf → ∀ b, b < Nf → a ≠ b → (T a).2.1 ≠ (T b).2.1) ∧ k < Nf ∧ ty0 k = ty ∧ (T k).2.2.2 = fin
theorem g_get (C : gC X K cc own mL rf rl) {index ci k b : Nat} {fs : List Value} {v : Value} (hF : gFL own index ci k) (he : E b = .inr (ci, fs)) (hb : b < kN K) (hv : fs[k]? = some v) (hdg : decode cc pc = .ok (.getfield index, 3)) (kk : gW X K E (pc + 3) lv (v :: st)) : gW X K E pc lv (.ref (ka K b) :: st) := by
  obtain ⟨Cn, T, Nf, h1, h2, h3, h4, h5⟩ := hF
  intro H locs ls hH hl
  have h6 := gw_at (ad := ka K) (N := kN K) (E := E) hb
  rw [he] at h6
  exact va_get (D := kD K) (C := Cn) (T := T) (N := Nf) C.1 C.2.1 C.ts h2 C.ow C.kk hH.1 b h6 h1 k h3 (ref := Cn) (C.ts _ h4) (fun x hx => by rw [← h5]; rw [h5] at hx ⊢; exact hx) hv hdg (kk H locs ls hH hl)
theorem g_put (C : gC X K cc own mL rf rl) {index ci k b : Nat} {fs : List Value} {v : Value} {ty : FieldType} (hF : gFL own index ci k) (hF2 : gFW ci k ty false) (he : E b = .inr (ci, fs)) (hb : b < kN K) (hl2 : k < fs.length) (hn : narrow ty v = v ∧ fits ty v = true) (hdg : decode cc pc = .ok (.putfield index, 3)) (kk : ∀ E' : gE, E' = va_up E b (.inr (ci, fs.set k v)) → gW X K E' (pc + 3) lv st) : gW X K E pc lv (v :: .ref (ka K b) :: st) := by
  obtain ⟨Cn, T, Nf, h1, h2, h3, h4, h5⟩ := hF
  obtain ⟨Cn', T', Nf', ty0, g1, g2, g3, g4, g5, g6⟩ := hF2
  cases h1.symm.trans g1
  intro H locs ls hH hl
  have h6 := gw_at (ad := ka K) (N := kN K) (E := E) hb
  rw [he] at h6
  refine va_put (D := kD K) (C := Cn) (T := T) (N := Nf) C.1 C.2.1 C.ts h2 ty0 g2 g3 C.ow C.kk hH.1 hH.2.1 hH.2.2 b h6 h1 k h3 (ref := Cn) (C.ts _ h4) (fun x hx => by rw [← h5]; rw [h5] at hx ⊢; exact hx) g6 (by rw [g2 k g4, g5]) hn.1 hn.2 hl2 hdg (fun H1 locs1 p1 p2 p3 => ?_)
  rw [gw_set hb] at p1 p2
  exact kk _ rfl H1 locs1 ls ⟨p1, p2, p3⟩ hl
theorem g_alen (C : gC X K cc own mL rf rl) {b t0 : Nat} {cA : ClassId} {x : vp_A} {ty : FieldType} (he : E b = .inl (cA, x)) (hb : b < kN K) (ht : (gty (kc K))[t0]? = some (cA, ty)) {n : Nat} (hn : x.1 = n) (hdg : decode cc pc = .ok (.arraylength, 1)) (kk : gW X K E (pc + 1) lv (.int (nI n) :: st)) : gW X K E pc lv (.ref (ka K b) :: st) := by
  intro H locs ls hH hl
  have h6 := gw_at (ad := ka K) (N := kN K) (E := E) hb
  rw [he] at h6
  exact va_alen C.1 C.2.1 C.kk hH.1 b t0 h6 ht (by rw [hn]; rfl) hdg (kk H locs ls hH hl)
theorem g_baldN (C : gC X K cc own mL rf rl) {b t0 i n : Nat} {cA : ClassId} {f : Nat → Int32} (he : E b = .inl (cA, n, .inl f)) (hb : b < kN K) (ht : (gty (kc K))[t0]? = some (cA, .byte)) (hi : i < n) (hn : n < 2 ^ 31) (hdg : decode cc pc = .ok (.baload, 1)) (kk : gW X K E (pc + 1) lv (.int (f i) :: st)) : gW X K E pc lv (.int (nI i) :: .ref (ka K b) :: st) := by
  intro H locs ls hH hl
  have h6 := gw_at (ad := ka K) (N := kN K) (E := E) hb
  rw [he] at h6
  refine va_bald C.1 C.2.1 C.kk hH.1 b t0 h6 ht (vp_in_nI hi hn) hdg ?_
  rw [nI_clamp (by omega)]
  exact kk H locs ls hH hl
theorem g_ialdN (C : gC X K cc own mL rf rl) {b t0 i n : Nat} {cA : ClassId} {f : Nat → Int32} (he : E b = .inl (cA, n, .inl f)) (hb : b < kN K) (ht : (gty (kc K))[t0]? = some (cA, .int)) (hi : i < n) (hn : n < 2 ^ 31) (hdg : decode cc pc = .ok (.iaload, 1)) (kk : gW X K E (pc + 1) lv (.int (f i) :: st)) : gW X K E pc lv (.int (nI i) :: .ref (ka K b) :: st) := by
  intro H locs ls hH hl
  have h6 := gw_at (ad := ka K) (N := kN K) (E := E) hb
  rw [he] at h6
  refine va_iald C.1 C.2.1 C.kk hH.1 b t0 h6 ht (vp_in_nI hi hn) hdg ?_
  rw [nI_clamp (by omega)]
  exact kk H locs ls hH hl
theorem g_zaldN (C : gC X K cc own mL rf rl) {b t0 i n : Nat} {cA : ClassId} {f : Nat → Int32} (he : E b = .inl (cA, n, .inl f)) (hb : b < kN K) (ht : (gty (kc K))[t0]? = some (cA, .boolean)) (hi : i < n) (hn : n < 2 ^ 31) (hdg : decode cc pc = .ok (.baload, 1)) (kk : gW X K E (pc + 1) lv (.int (f i) :: st)) : gW X K E pc lv (.int (nI i) :: .ref (ka K b) :: st) := by
  intro H locs ls hH hl
  have h6 := gw_at (ad := ka K) (N := kN K) (E := E) hb
  rw [he] at h6
  refine va_zald C.1 C.2.1 C.kk hH.1 b t0 h6 ht (vp_in_nI hi hn) hdg ?_
  rw [nI_clamp (by omega)]
  exact kk H locs ls hH hl
theorem g_bastN (C : gC X K cc own mL rf rl) {b t0 i n : Nat} {cA : ClassId} {f : Nat → Int32} {x : Int32} (he : E b = .inl (cA, n, .inl f)) (hb : b < kN K) (ht : (gty (kc K))[t0]? = some (cA, .byte)) (hi : i < n) (hn : n < 2 ^ 31) (hdg : decode cc pc = .ok (.bastore, 1)) (kk : ∀ E' : gE, E' = va_up E b (.inl (cA, n, .inl (upd f i (vp_nar .byte x)))) → gW X K E' (pc + 1) lv st) : gW X K E pc lv (.int x :: .int (nI i) :: .ref (ka K b) :: st) := by
  intro H locs ls hH hl
  have h6 := gw_at (ad := ka K) (N := kN K) (E := E) hb
  rw [he] at h6
  refine va_bast C.1 C.2.1 C.kk hH.1 hH.2.1 hH.2.2 b t0 h6 ht (vp_in_nI hi hn) hdg (fun H1 locs1 p1 p2 p3 => ?_)
  rw [nI_clamp (by omega), gw_set hb] at p1 p2
  exact kk _ rfl H1 locs1 ls ⟨p1, p2, p3⟩ hl
theorem g_iastN (C : gC X K cc own mL rf rl) {b t0 i n : Nat} {cA : ClassId} {f : Nat → Int32} {x : Int32} (he : E b = .inl (cA, n, .inl f)) (hb : b < kN K) (ht : (gty (kc K))[t0]? = some (cA, .int)) (hi : i < n) (hn : n < 2 ^ 31) (hdg : decode cc pc = .ok (.iastore, 1)) (kk : ∀ E' : gE, E' = va_up E b (.inl (cA, n, .inl (upd f i (x)))) → gW X K E' (pc + 1) lv st) : gW X K E pc lv (.int x :: .int (nI i) :: .ref (ka K b) :: st) := by
  intro H locs ls hH hl
  have h6 := gw_at (ad := ka K) (N := kN K) (E := E) hb
  rw [he] at h6
  refine va_iast C.1 C.2.1 C.kk hH.1 hH.2.1 hH.2.2 b t0 h6 ht (vp_in_nI hi hn) hdg (fun H1 locs1 p1 p2 p3 => ?_)
  rw [nI_clamp (by omega), gw_set hb] at p1 p2
  exact kk _ rfl H1 locs1 ls ⟨p1, p2, p3⟩ hl
theorem g_zastN (C : gC X K cc own mL rf rl) {b t0 i n : Nat} {cA : ClassId} {f : Nat → Int32} {x : Int32} (he : E b = .inl (cA, n, .inl f)) (hb : b < kN K) (ht : (gty (kc K))[t0]? = some (cA, .boolean)) (hi : i < n) (hn : n < 2 ^ 31) (hdg : decode cc pc = .ok (.bastore, 1)) (kk : ∀ E' : gE, E' = va_up E b (.inl (cA, n, .inl (upd f i (vp_nar .boolean x)))) → gW X K E' (pc + 1) lv st) : gW X K E pc lv (.int x :: .int (nI i) :: .ref (ka K b) :: st) := by
  intro H locs ls hH hl
  have h6 := gw_at (ad := ka K) (N := kN K) (E := E) hb
  rw [he] at h6
  refine va_zast C.1 C.2.1 C.kk hH.1 hH.2.1 hH.2.2 b t0 h6 ht (vp_in_nI hi hn) hdg (fun H1 locs1 p1 p2 p3 => ?_)
  rw [nI_clamp (by omega), gw_set hb] at p1 p2
  exact kk _ rfl H1 locs1 ls ⟨p1, p2, p3⟩ hl
theorem g_aldN (C : gC X K cc own mL rf rl) {b t0 i n : Nat} {cA : ClassId} {Cn : String} {f : Nat → Option Nat} (he : E b = .inl (cA, n, .inr (.inr (.inr (.inr f))))) (hb : b < kN K) (ht : (gty (kc K))[t0]? = some (cA, .object Cn)) (hi : i < n) (hn : n < 2 ^ 31) (hdg : decode cc pc = .ok (.aaload, 1)) {v : Value} (hv : va_rf (f i) = v) (kk : gW X K E (pc + 1) lv (v :: st)) : gW X K E pc lv (.int (nI i) :: .ref (ka K b) :: st) := by
  subst hv
  intro H locs ls hH hl
  have h6 := gw_at (ad := ka K) (N := kN K) (E := E) hb
  rw [he] at h6
  refine va_aldq C.1 C.2.1 C.kk hH.1 b t0 h6 ht (vp_in_nI hi hn) hdg ?_
  rw [nI_clamp (by omega)]
  exact kk H locs ls hH hl
theorem g_astN (C : gC X K cc own mL rf rl) {b t0 i n c ci : Nat} {cA : ClassId} {r : vw_C} {vs : List Value} {f : Nat → Option Nat} (he : E b = .inl (cA, n, .inr (.inr (.inr (.inr f))))) (hb : b < kN K) (ht : (gty (kc K))[t0]? = some (cA, .object r.1)) (hi : i < n) (hn : n < 2 ^ 31) (hc : E c = .inr (ci, vs)) (hcb : c < kN K) (hcl : cls[ci]? = some r) (hdg : decode cc pc = .ok (.aastore, 1)) (kk : ∀ E' : gE, E' = va_up E b (.inl (cA, n, .inr (.inr (.inr (.inr (va_up f i (some (ka K c)))))))) → gW X K E' (pc + 1) lv st) : gW X K E pc lv (.ref (ka K c) :: .int (nI i) :: .ref (ka K b) :: st) := by
  intro H locs ls hH hl
  have h6 := gw_at (ad := ka K) (N := kN K) (E := E) hb
  rw [he] at h6
  have h7 := gw_at (ad := ka K) (N := kN K) (E := E) hcb
  rw [hc] at h7
  refine va_astq C.1 C.2.1 C.kk hH.1 hH.2.1 hH.2.2 b t0 c ci h6 ht h7 hcl (vp_in_nI hi hn) hdg (fun H1 locs1 p1 p2 p3 => ?_)
  rw [nI_clamp (by omega), gw_set hb] at p1 p2
  exact kk _ rfl H1 locs1 ls ⟨p1, p2, p3⟩ hl
theorem g_icmp_eqN (C : gC X K cc own mL rf rl) {a b : Nat} {off : Int} (tgt : Nat) (hdg : decode cc pc = .ok (.if_icmp .eq off, 3)) (ht : (pc : Int) + off = (tgt : Int)) (ha : a < 2 ^ 31) (hb : b < 2 ^ 31) (kt : a = b → gW X K E tgt lv st) (kf : a ≠ b → gW X K E (pc + 3) lv st) : gW X K E pc lv (.int (nI b) :: .int (nI a) :: st) :=
  g_icmp_eq C tgt hdg ht (fun z => kt ((nI_eq ha hb).mp z)) (fun z => kf (fun q => z ((nI_eq ha hb).mpr q)))
theorem g_icmp_neN (C : gC X K cc own mL rf rl) {a b : Nat} {off : Int} (tgt : Nat) (hdg : decode cc pc = .ok (.if_icmp .ne off, 3)) (ht : (pc : Int) + off = (tgt : Int)) (ha : a < 2 ^ 31) (hb : b < 2 ^ 31) (kt : a ≠ b → gW X K E tgt lv st) (kf : a = b → gW X K E (pc + 3) lv st) : gW X K E pc lv (.int (nI b) :: .int (nI a) :: st) :=
  g_icmp_ne C tgt hdg ht (fun z => kt (fun q => z ((nI_eq ha hb).mpr q))) (fun z => kf ((nI_eq ha hb).mp z))
theorem g_icmp_ltN (C : gC X K cc own mL rf rl) {a b : Nat} {off : Int} (tgt : Nat) (hdg : decode cc pc = .ok (.if_icmp .lt off, 3)) (ht : (pc : Int) + off = (tgt : Int)) (ha : a < 2 ^ 31) (hb : b < 2 ^ 31) (kt : a < b → gW X K E tgt lv st) (kf : b ≤ a → gW X K E (pc + 3) lv st) : gW X K E pc lv (.int (nI b) :: .int (nI a) :: st) :=
  g_icmp_lt C tgt hdg ht (fun z => kt ((nI_ltI ha hb).mp z)) (fun z => kf (by have q := mt (nI_ltI ha hb).mpr z; omega))
theorem g_icmp_geN (C : gC X K cc own mL rf rl) {a b : Nat} {off : Int} (tgt : Nat) (hdg : decode cc pc = .ok (.if_icmp .ge off, 3)) (ht : (pc : Int) + off = (tgt : Int)) (ha : a < 2 ^ 31) (hb : b < 2 ^ 31) (kt : b ≤ a → gW X K E tgt lv st) (kf : a < b → gW X K E (pc + 3) lv st) : gW X K E pc lv (.int (nI b) :: .int (nI a) :: st) :=
  g_icmp_ge C tgt hdg ht (fun z => kt ((nI_leI hb ha).mp z)) (fun z => kf (by have q := mt (nI_leI hb ha).mpr z; omega))
theorem g_icmp_gtN (C : gC X K cc own mL rf rl) {a b : Nat} {off : Int} (tgt : Nat) (hdg : decode cc pc = .ok (.if_icmp .gt off, 3)) (ht : (pc : Int) + off = (tgt : Int)) (ha : a < 2 ^ 31) (hb : b < 2 ^ 31) (kt : b < a → gW X K E tgt lv st) (kf : a ≤ b → gW X K E (pc + 3) lv st) : gW X K E pc lv (.int (nI b) :: .int (nI a) :: st) :=
  g_icmp_gt C tgt hdg ht (fun z => kt ((nI_ltI hb ha).mp z)) (fun z => kf (by have q := mt (nI_ltI hb ha).mpr z; omega))
theorem g_icmp_leN (C : gC X K cc own mL rf rl) {a b : Nat} {off : Int} (tgt : Nat) (hdg : decode cc pc = .ok (.if_icmp .le off, 3)) (ht : (pc : Int) + off = (tgt : Int)) (ha : a < 2 ^ 31) (hb : b < 2 ^ 31) (kt : a ≤ b → gW X K E tgt lv st) (kf : b < a → gW X K E (pc + 3) lv st) : gW X K E pc lv (.int (nI b) :: .int (nI a) :: st) :=
  g_icmp_le C tgt hdg ht (fun z => kt ((nI_leI ha hb).mp z)) (fun z => kf (by have q := mt (nI_leI ha hb).mpr z; omega))
theorem g_if_eqN (C : gC X K cc own mL rf rl) {a : Nat} {off : Int} (tgt : Nat) (hdg : decode cc pc = .ok (.ifCond .eq off, 3)) (ht : (pc : Int) + off = (tgt : Int)) (ha : a < 2 ^ 31) (kt : a = 0 → gW X K E tgt lv st) (kf : 0 < a → gW X K E (pc + 3) lv st) : gW X K E pc lv (.int (nI a) :: st) := by
  rcases Nat.eq_zero_or_pos a with h | h
  · exact g_if_eq C tgt hdg ht (fun _ => kt h) (fun z => absurd (by rw [h]; rfl) z)
  · exact g_if_eq C tgt hdg ht (fun z => absurd z (nI_ne0 h ha)) (fun _ => kf h)
theorem g_if_neN (C : gC X K cc own mL rf rl) {a : Nat} {off : Int} (tgt : Nat) (hdg : decode cc pc = .ok (.ifCond .ne off, 3)) (ht : (pc : Int) + off = (tgt : Int)) (ha : a < 2 ^ 31) (kt : 0 < a → gW X K E tgt lv st) (kf : a = 0 → gW X K E (pc + 3) lv st) : gW X K E pc lv (.int (nI a) :: st) := by
  rcases Nat.eq_zero_or_pos a with h | h
  · exact g_if_ne C tgt hdg ht (fun z => absurd (by rw [h]; rfl) z) (fun _ => kf h)
  · exact g_if_ne C tgt hdg ht (fun _ => kt h) (fun z => absurd z (nI_ne0 h ha))
theorem g_if_gtN (C : gC X K cc own mL rf rl) {a : Nat} {off : Int} (tgt : Nat) (hdg : decode cc pc = .ok (.ifCond .gt off, 3)) (ht : (pc : Int) + off = (tgt : Int)) (ha : a < 2 ^ 31) (kt : 0 < a → gW X K E tgt lv st) (kf : a = 0 → gW X K E (pc + 3) lv st) : gW X K E pc lv (.int (nI a) :: st) := by
  rcases Nat.eq_zero_or_pos a with h | h
  · exact g_if_gt C tgt hdg ht (fun z => absurd z (by rw [h]; decide)) (fun _ => kf h)
  · exact g_if_gt C tgt hdg ht (fun _ => kt h) (fun z => absurd (by have q := nI_lt h ha; rw [nI_0] at q; exact q) z)
theorem g_if_leN (C : gC X K cc own mL rf rl) {a : Nat} {off : Int} (tgt : Nat) (hdg : decode cc pc = .ok (.ifCond .le off, 3)) (ht : (pc : Int) + off = (tgt : Int)) (ha : a < 2 ^ 31) (kt : a = 0 → gW X K E tgt lv st) (kf : 0 < a → gW X K E (pc + 3) lv st) : gW X K E pc lv (.int (nI a) :: st) := by
  rcases Nat.eq_zero_or_pos a with h | h
  · exact g_if_le C tgt hdg ht (fun _ => kt h) (fun z => absurd (by rw [h]; decide) z)
  · exact g_if_le C tgt hdg ht (fun z => absurd z (nI_nle h ha)) (fun _ => kf h)
theorem g_if_ltN (C : gC X K cc own mL rf rl) {a : Nat} {off : Int} (tgt : Nat) (hdg : decode cc pc = .ok (.ifCond .lt off, 3)) (ht : (pc : Int) + off = (tgt : Int)) (ha : a < 2 ^ 31) (kf : gW X K E (pc + 3) lv st) : gW X K E pc lv (.int (nI a) :: st) :=
  g_if_lt C tgt hdg ht (fun z => absurd z (nI_pos ha)) (fun _ => kf)
theorem g_if_geN (C : gC X K cc own mL rf rl) {a : Nat} {off : Int} (tgt : Nat) (hdg : decode cc pc = .ok (.ifCond .ge off, 3)) (ht : (pc : Int) + off = (tgt : Int)) (ha : a < 2 ^ 31) (kt : gW X K E tgt lv st) : gW X K E pc lv (.int (nI a) :: st) :=
  g_if_ge C tgt hdg ht (fun _ => kt) (fun z => absurd (nI_pos' ha) z)
theorem g_if_eqB (C : gC X K cc own mL rf rl) {b : Bool} {off : Int} (tgt : Nat) (hdg : decode cc pc = .ok (.ifCond .eq off, 3)) (ht : (pc : Int) + off = (tgt : Int)) (kt : b = false → gW X K E tgt lv st) (kf : b = true → gW X K E (pc + 3) lv st) : gW X K E pc lv (.int (bI b) :: st) :=
  g_if_eq C tgt hdg ht (fun z => kt (bI_0.mp z)) (fun z => kf (bI_n0.mp z))
theorem g_if_neB (C : gC X K cc own mL rf rl) {b : Bool} {off : Int} (tgt : Nat) (hdg : decode cc pc = .ok (.ifCond .ne off, 3)) (ht : (pc : Int) + off = (tgt : Int)) (kt : b = true → gW X K E tgt lv st) (kf : b = false → gW X K E (pc + 3) lv st) : gW X K E pc lv (.int (bI b) :: st) :=
  g_if_ne C tgt hdg ht (fun z => kt (bI_n0.mp z)) (fun z => kf (bI_0.mp z))
end GHEAP
/-! CONTRACTS OVER THE CODED WORLD: of methods that make no cell -/
def gPc (K : gK) (E : gE) (av : List Value) (sz : Nat) : Array Value → State → Prop := va_Pc av (fun U => U.heap.size = sz ∧ va_P (kD K) cls (gw (ka K) (kN K) E) U.heap ∧ gInj (ka K) (kN K) ∧ gT K U ∧ gZ K (gA (ka K) (kN K) sz) U U.heap)
def gB (K : gK) (E : gE) (t : State) : Prop := va_P (kD K) cls (gw (ka K) (kN K) E) t.heap
def gRm (rf rl : Nat) : Room := { frames := rf, cells := 0, slots := 0, locals := rl }
def gM (l : Launch) (y : MethodName) (cc : ByteArray) (mL : Nat) (ret : Option FieldType) (rf rl : Nat) (K : gK) (E : gE) (av : List Value) (Q : Nat → Array Value → State → Outcome → State → Prop) : Prop :=
  ∀ sz, Met l y (.code y cc mL ret :: TB) (gRm rf rl) (gPc K E av sz) (Q sz) 0 0 (gA (ka K) (kN K) sz)
/-- it answers an int, a truth value, nothing, a reference or null -/
abbrev gMi (l : Launch) (y : MethodName) (cc : ByteArray) (mL : Nat) (ret : FieldType) (rf rl : Nat) (K : gK) (E : gE) (av : List Value) (post : Int32 → gE → Prop) : Prop := gM l y cc mL (some ret) rf rl K E av (fun sz => va_Qi post (gB K) (gA (ka K) (kN K) sz))
abbrev gMv (l : Launch) (y : MethodName) (cc : ByteArray) (mL : Nat) (rf rl : Nat) (K : gK) (E : gE) (av : List Value) (post : gE → Prop) : Prop := gM l y cc mL none rf rl K E av (fun sz => va_Qv post (gB K) (gA (ka K) (kN K) sz))
abbrev gMq (l : Launch) (y : MethodName) (cc : ByteArray) (mL : Nat) (ret : FieldType) (rf rl : Nat) (K : gK) (E : gE) (av : List Value) (post : Option Nat → gE → Prop) : Prop := gM l y cc mL (some ret) rf rl K E av (fun sz => va_Qq (fun r E' => ∃ k : Option Nat, r = Option.map (ka K) k ∧ post k E') (gB K) (gA (ka K) (kN K) sz))
/-- how a walk must end -/
def gR (X : gX) (ret : Option FieldType) (Q : Array Value → State → Outcome → State → Prop) : Prop := (xM X).sig.returnType = ret ∧ xQ X = MQ (xb X) Q (xa X) (xs X) (xk X) (xn X) (xA X)
abbrev gRi (X : gX) (K : gK) (ret : FieldType) (post : Int32 → gE → Prop) : Prop := gR X (some ret) (va_Qi post (gB K) (xA X))
abbrev gRv (X : gX) (K : gK) (post : gE → Prop) : Prop := gR X none (va_Qv post (gB K) (xA X))
abbrev gRq (X : gX) (K : gK) (ret : FieldType) (post : Option Nat → gE → Prop) : Prop := gR X (some ret) (va_Qq (fun r E' => ∃ k : Option Nat, r = Option.map (ka K) k ∧ post k E') (gB K) (xA X))
section GMET
variable {l : Launch} {y : MethodName} {cc : ByteArray} {mL rf rl : Nat} {ret : Option FieldType} {K : gK} {E : gE} {av : List Value} {Q : Nat → Array Value → State → Outcome → State → Prop} {QA : (Nat → Prop) → Array Value → State → Outcome → State → Prop}
theorem g_met (hy : plainName y.cls = true) (hav : (lg_sl av).length ≤ mL) (hQ : ∀ sz, Q sz = QA (gA (ka K) (kN K) sz)) (body : ∀ X : gX, xl X = l → gC X K cc y.cls mL rf rl → gR X ret (QA (xA X)) → gW X K E 0 (lv_args 0 av) []) : gM l y cc mL ret rf rl K E av Q := by
  intro sz
  refine Met.ofW (cc := cc) (maxL := mL) (ret := ret) hy rfl ?_
  intro p e s m args below meth c s₁ B hml hv
  obtain ⟨rfl, hsz, hP, hI, hT, hZ⟩ := hv
  have hts := atoms_spec (ws := Cond.code y cc mL ret :: TB) B.pre
  subst hsz
  rw [hQ]
  have hW := body (p, l, e, (headSpec (Cond.code y cc mL ret :: TB) (gRm rf rl)).room, s, m, av.toArray, below, meth, c, MQ below (QA (gA (ka K) (kN K) s.heap.size)) av.toArray s 0 0 (gA (ka K) (kN K) s.heap.size), gA (ka K) (kN K) s.heap.size, 0, 0, mL) rfl
    ⟨B.exec, B.bytes, rfl, hml, B.notSynchronized, findClass_of_methodNamed B.named, fun w hw => hts w (List.mem_cons_of_mem _ hw), hT, hZ, rfl, rfl, fun q h => Or.inr h, Nat.zero_le _, Nat.zero_le _⟩ ⟨B.returns, rfl⟩
  rw [lg_entry_eq]
  exact hW s.heap [] _ ⟨hP, hI.D, va_S.rf⟩ (lv_entry av hav)
theorem g_meti {ret : FieldType} {post : Int32 → gE → Prop} (hy : plainName y.cls = true) (hav : (lg_sl av).length ≤ mL) (body : ∀ X : gX, xl X = l → gC X K cc y.cls mL rf rl → gRi X K ret post → gW X K E 0 (lv_args 0 av) []) : gMi l y cc mL ret rf rl K E av post :=
  g_met (QA := fun A => va_Qi post (gB K) A) hy hav (fun _ => rfl) body
theorem g_metv {post : gE → Prop} (hy : plainName y.cls = true) (hav : (lg_sl av).length ≤ mL) (body : ∀ X : gX, xl X = l → gC X K cc y.cls mL rf rl → gRv X K post → gW X K E 0 (lv_args 0 av) []) : gMv l y cc mL rf rl K E av post :=
  g_met (QA := fun A => va_Qv post (gB K) A) hy hav (fun _ => rfl) body
theorem g_metq {ret : FieldType} {post : Option Nat → gE → Prop} (hy : plainName y.cls = true) (hav : (lg_sl av).length ≤ mL) (body : ∀ X : gX, xl X = l → gC X K cc y.cls mL rf rl → gRq X K ret post → gW X K E 0 (lv_args 0 av) []) : gMq l y cc mL ret rf rl K E av post :=
  g_met (QA := fun A => va_Qq (fun r E' => ∃ k : Option Nat, r = Option.map (ka K) k ∧ post k E') (gB K) A) hy hav (fun _ => rfl) body
end GMET
section GRET
variable {X : gX} {K : gK} {cc : ByteArray} {own : String} {mL rf rl pc : Nat} {E : gE} {lv : List (Nat × Value)} {st : List Value}
theorem gC.locks (C : gC X K cc own mL rf rl) : (xM X).locks = false := C.2.2.2.2.1
theorem g_iret (C : gC X K cc own mL rf rl) {v : Int32} {post : Int32 → gE → Prop} (hR : gRi X K .int post) (hdg : decode cc pc = .ok (.ireturn, 1)) (hp : post v E) : gW X K E pc lv [.int v] := by
  intro H locs ls hH hl
  rw [hR.2]
  exact W.iret C.1 C.2.1 hR.1 (fun t ht hW => ⟨⟨v, E, rfl, hp, by unfold gB; rw [ht]; exact hH.1⟩, hH.2.2.F ht⟩) hH.2.2.2.2 hdg C.locks
theorem g_zret (C : gC X K cc own mL rf rl) {v : Int32} {ty : FieldType} {post : Int32 → gE → Prop} (hR : gRi X K ty post) (hn : narrow ty (.int v) = .int v) (hdg : decode cc pc = .ok (.ireturn, 1)) (hp : post v E) : gW X K E pc lv [.int v] := by
  intro H locs ls hH hl
  rw [hR.2]
  exact W.zret C.1 C.2.1 hR.1 hn (fun t ht hW => ⟨⟨v, E, rfl, hp, by unfold gB; rw [ht]; exact hH.1⟩, hH.2.2.F ht⟩) hH.2.2.2.2 hdg C.locks
theorem g_vret (C : gC X K cc own mL rf rl) {post : gE → Prop} (hR : gRv X K post) (hdg : decode cc pc = .ok (.return_, 1)) (hp : post E) : gW X K E pc lv [] := by
  intro H locs ls hH hl
  rw [hR.2]
  exact W.vret C.1 C.2.1 hR.1 (fun t ht hW => ⟨⟨E, rfl, hp, by unfold gB; rw [ht]; exact hH.1⟩, hH.2.2.F ht⟩) hH.2.2.2.2 hdg C.locks
theorem g_aret (C : gC X K cc own mL rf rl) {k : Option Nat} {Cn : String} {post : Option Nat → gE → Prop} (hR : gRq X K (.object Cn) post) {v : Value} (hv : v = va_rf (Option.map (ka K) k)) (hdg : decode cc pc = .ok (.areturn, 1)) (hp : post k E) : gW X K E pc lv [v] := by
  subst hv
  intro H locs ls hH hl
  rw [hR.2]
  exact W.aret C.1 C.2.1 hR.1 (Or.inl ⟨_, rfl⟩) (va_rf_or _) (fun t ht hW => ⟨⟨_, E, rfl, ⟨k, rfl, hp⟩, by unfold gB; rw [ht]; exact hH.1⟩, hH.2.2.F ht⟩) hH.2.2.2.2 hdg C.locks
end GRET
/-- what the tables say of a method that is called: of an object, of a class, of a nest mate -/
def gMW (y : MethodName) (bytes : ByteArray) (mL : Nat) (ret : Option FieldType) (n : Nat) : Prop := (Cond.initialized y.cls ∈ TB ∧ Cond.code y bytes mL ret ∈ TB) ∧ (y.cls ≠ "java/lang/invoke/MethodHandle" ∧ y.cls ≠ "java/lang/invoke/VarHandle" ∧ (parseMethodDescriptor y.desc).map (fun d => d.parameters.length) = some n)
def gMO (y : MethodName) : Prop := Cond.instanceMethod y ∈ TB ∧ Cond.selects y.cls y y ∈ TB
theorem gGood {y : MethodName} {bytes : ByteArray} {mL : Nat} {ret : Option FieldType} (h : Cond.code y bytes mL ret ∈ TB) : GoodIn TB (Cond.code y bytes mL ret :: TB) := by
  intro w hw
  rcases List.mem_cons.mp hw with rfl | hw
  · exact tb_good _ h
  · exact tb_good _ hw
theorem gA_sub {X : gX} {K : gK} {cc : ByteArray} {own : String} {mL rf rl : Nat} {E : gE} {H : Heap} {locs : List Loc} (C : gC X K cc own mL rf rl) (hH : gH X K E H locs) : ∀ q, gA (ka K) (kN K) H.size q → xA X q := by
  rintro q (⟨k, hk, rfl⟩ | h)
  · exact hH.2.1.2 k _ (gw_at hk)
  · exact C.A q (Nat.le_trans hH.2.2.1 h)
theorem gPc_blind {K : gK} {E : gE} {av : List Value} {sz : Nat} : FrameBlind (gPc K E av sz) := fun a U g mk q => by
  obtain ⟨q0, q1, qP, qI, qT, qZ⟩ := q
  exact ⟨q0, q1, qP, qI, gT.same (u := U) (U := U.calling g mk a) rfl qT, gZ.moved (u := U) (U := U.calling g mk a) (Vm.Alike.refl U.vm) qZ⟩
theorem gPc_at {X : gX} {K : gK} {cc : ByteArray} {own : String} {mL rf rl : Nat} {E : gE} {H : Heap} {locs : List Loc} (C : gC X K cc own mL rf rl) (hH : gH X K E H locs) (av : List Value) : ∀ U : State, U.heap = H → (xs X).WarmedH U.vm → gPc K E av H.size av.toArray U := fun U hU hW =>
  ⟨rfl, by rw [hU], by rw [hU]; exact hH.1, gInj.of hH.2.1, gT.warm hW C.T, by rw [hU]; exact (((C.Z.kept hH.2.2.2.1).narrow (gA_sub C hH)).moved hW.alike)⟩
/-- a call that is under way -/
def gRun (X : gX) (K : gK) (E : gE) (pc : Nat) (lv : List (Nat × Value)) (st rest : List Value) (Q : Nat → Array Value → State → Outcome → State → Prop) (av : Array Value) : Prop := ∀ (H : Heap) (locs : List Loc) (ls : Array Slot), gH X K E H locs → lv_has ls (xL X) lv → va_Run (xp X) (xl X) (xe X) (xR X) (xs X) (xm X) (xa X) (xb X) (xM X) (xc X) H locs (xk X) (xn X) 0 0 (F0 (xm X) pc ls st) rest (Q H.size av) (gA (ka K) (kN K) H.size)
section GCALL
variable {X : gX} {K : gK} {cc : ByteArray} {own : String} {mL rf rl pc : Nat} {E : gE} {lv : List (Nat × Value)} {st rest : List Value}
variable {y : MethodName} {bytes : ByteArray} {mL' n index b rf' rl' : Nat} {ret : Option FieldType} {As : List Value} {Q : Nat → Array Value → State → Outcome → State → Prop}
theorem g_rV (C : gC X K cc own mL rf rl) (hM : gM (xl X) y bytes mL' ret rf' rl' K E (.ref (ka K b) :: As) Q) (mw : gMW y bytes mL' ret n) (mo : gMO y) (hlink : Cond.methodLink own index y ∈ TB) (hr : rf' + 1 ≤ rf ∧ 8 + (mL' + 11) + rl' ≤ rl)
    {ci : Nat} {fs : List Value} {T : u_T} {Nf : Nat} (he : E b = .inr (ci, fs)) (hcl : cls[ci]? = some (y.cls, T, Nf)) (hb : b < kN K) (hn : As.length = n) (hst : st = As.reverse ++ .ref (ka K b) :: rest) (hcat : (rest.map fun v => v.category).sum ≤ 8) (hdg : decode cc pc = .ok (.invokevirtual index, 3)) : gRun X K E pc lv st rest Q (.ref (ka K b) :: As).toArray := by
  subst hst
  intro H locs ls hH hl
  have h6 := gw_at (ad := ka K) (N := kN K) (E := E) hb
  rw [he] at h6
  refine va_runV (As := As) (rest := rest) (n := n) ⟨C.1, C.2.1, C.2.2.2.1, C.ow, C.ts⟩ (hM H.size) (cwV n C.ts (fun w hw => ?_) rfl rfl rfl ⟨rfl, mw.2⟩ ⟨by rw [C.fr]; exact hr.1, by rw [C.lo]; exact hr.2⟩) ⟨gPc_blind, va_recv C.kk hH.1 hcl h6, gPc_at C hH _⟩ rfl hn hl.1 rfl (lv_room hcat) hdg ⟨C.kc, C.kn⟩
  rcases List.mem_append.mp hw with h | h
  · simp only [List.mem_cons, List.not_mem_nil, or_false] at h
    rcases h with rfl | rfl | rfl | rfl
    · exact tb_good _ hlink
    · exact tb_good _ mo.1
    · exact tb_good _ mo.2
    · exact tb_good _ mw.1.1
  · exact gGood mw.1.2 w h
theorem g_rVN (C : gC X K cc own mL rf rl) {host : String} (hM : gM (xl X) y bytes mL' ret rf' rl' K E (.ref (ka K b) :: As) Q) (mw : gMW y bytes mL' ret n) (mo : gMO y) (hlink : va_Nw (.methodLinkNest own index y host) (xs X)) (hr : rf' + 1 ≤ rf ∧ 8 + (mL' + 11) + rl' ≤ rl)
    {ci : Nat} {fs : List Value} {T : u_T} {Nf : Nat} (he : E b = .inr (ci, fs)) (hcl : cls[ci]? = some (y.cls, T, Nf)) (hb : b < kN K) (hn : As.length = n) (hst : st = As.reverse ++ .ref (ka K b) :: rest) (hcat : (rest.map fun v => v.category).sum ≤ 8) (hdg : decode cc pc = .ok (.invokevirtual index, 3)) : gRun X K E pc lv st rest Q (.ref (ka K b) :: As).toArray := by
  subst hst
  intro H locs ls hH hl
  have h6 := gw_at (ad := ka K) (N := kN K) (E := E) hb
  rw [he] at h6
  exact va_runVN (C := y.cls) (As := As) (rest := rest) (n := n) ⟨C.1, C.2.1, C.2.2.2.1, C.ow, C.ts⟩ (hM H.size) ⟨va_cnB n C.ts (gGood mw.1.2) rfl rfl rfl hlink (C.ts _ mw.1.1) mw.2 ⟨by rw [C.fr]; exact hr.1, by rw [C.lo]; exact hr.2⟩, C.ts _ mo.1, C.ts _ mo.2⟩ ⟨gPc_blind, va_recv C.kk hH.1 hcl h6, gPc_at C hH _⟩ rfl hn hl.1 rfl (lv_room hcat) hdg ⟨C.kc, C.kn⟩
theorem g_rS (C : gC X K cc own mL rf rl) (hM : gM (xl X) y bytes mL' ret rf' rl' K E As Q) (mw : gMW y bytes mL' ret n) (mo : Cond.static y ∈ TB) (hlink : Cond.methodLink own index y ∈ TB) (hr : rf' + 1 ≤ rf ∧ 8 + (mL' + 11) + rl' ≤ rl)
    (hn : As.length = n) (hst : st = As.reverse ++ rest) (hcat : (rest.map fun v => v.category).sum ≤ 8) (hdg : decode cc pc = .ok (.invokestatic index, 3)) : gRun X K E pc lv st rest Q As.toArray := by
  subst hst
  intro H locs ls hH hl
  refine va_runS (As := As) (rest := rest) (n := n) ⟨C.1, C.2.1, C.2.2.2.1, C.ow, C.ts⟩ (hM H.size) (va_cwS n C.ts (fun w hw => ?_) rfl rfl rfl mw.2 ⟨by rw [C.fr]; exact hr.1, by rw [C.lo]; exact hr.2⟩) ⟨gPc_blind, gPc_at C hH _⟩ rfl hn hl.1 rfl (lv_room hcat) hdg ⟨C.kc, C.kn⟩
  rcases List.mem_append.mp hw with h | h
  · simp only [List.mem_cons, List.not_mem_nil, or_false] at h
    rcases h with rfl | rfl | rfl
    · exact tb_good _ hlink
    · exact tb_good _ mo
    · exact tb_good _ mw.1.1
  · exact gGood mw.1.2 w h
theorem g_rSN (C : gC X K cc own mL rf rl) {host : String} (hM : gM (xl X) y bytes mL' ret rf' rl' K E As Q) (mw : gMW y bytes mL' ret n) (mo : Cond.static y ∈ TB) (hlink : va_Nw (.methodLinkNest own index y host) (xs X)) (hr : rf' + 1 ≤ rf ∧ 8 + (mL' + 11) + rl' ≤ rl)
    (hn : As.length = n) (hst : st = As.reverse ++ rest) (hcat : (rest.map fun v => v.category).sum ≤ 8) (hdg : decode cc pc = .ok (.invokestatic index, 3)) : gRun X K E pc lv st rest Q As.toArray := by
  subst hst
  intro H locs ls hH hl
  exact va_runSN (As := As) (rest := rest) (n := n) ⟨C.1, C.2.1, C.2.2.2.1, C.ow, C.ts⟩ (hM H.size) ⟨va_cnB n C.ts (gGood mw.1.2) rfl rfl rfl hlink (C.ts _ mw.1.1) mw.2 ⟨by rw [C.fr]; exact hr.1, by rw [C.lo]; exact hr.2⟩, C.ts _ mo, trivial⟩ ⟨gPc_blind, gPc_at C hH _⟩ rfl hn hl.1 rfl (lv_room hcat) hdg ⟨C.kc, C.kn⟩
variable {av : Array Value}
theorem g_ci (C : gC X K cc own mL rf rl) {post : Int32 → gE → Prop} (hr : gRun X K E pc lv st rest (fun sz => va_Qi post (gB K) (gA (ka K) (kN K) sz)) av) (kk : ∀ (r : Int32) (E' : gE), post r E' → gW X K E' (pc + 3) lv (.int r :: rest)) : gW X K E pc lv st := by
  intro H locs ls hH hl
  exact va_calli (hr H locs ls hH hl) hH.2.2 (fun q _ h => gA_sub C hH q h) (gA_sub C hH) (fun r E' t H1 locs1 ht _ hp hB _ _ hS => kk r E' hp H1 locs1 ls ⟨ht ▸ hB, gw_D hH.2.1, hS⟩ hl)
theorem g_cv (C : gC X K cc own mL rf rl) {post : gE → Prop} (hr : gRun X K E pc lv st rest (fun sz => va_Qv post (gB K) (gA (ka K) (kN K) sz)) av) (kk : ∀ (E' : gE), post E' → gW X K E' (pc + 3) lv rest) : gW X K E pc lv st := by
  intro H locs ls hH hl
  exact va_callv (hr H locs ls hH hl) hH.2.2 (fun q _ h => gA_sub C hH q h) (gA_sub C hH) (fun E' t H1 locs1 ht _ hp hB _ _ hS => kk E' hp H1 locs1 ls ⟨ht ▸ hB, gw_D hH.2.1, hS⟩ hl)
theorem g_cq (C : gC X K cc own mL rf rl) {post : Option Nat → gE → Prop} (hr : gRun X K E pc lv st rest (fun sz => va_Qq (fun r E' => ∃ k : Option Nat, r = Option.map (ka K) k ∧ post k E') (gB K) (gA (ka K) (kN K) sz)) av) (kn : ∀ (E' : gE), post none E' → gW X K E' (pc + 3) lv (.null :: rest)) (kk : ∀ (k : Nat) (E' : gE), post (some k) E' → gW X K E' (pc + 3) lv (.ref (ka K k) :: rest)) : gW X K E pc lv st := by
  intro H locs ls hH hl
  refine va_callq (hr H locs ls hH hl) hH.2.2 (fun q _ h => gA_sub C hH q h) (gA_sub C hH) (fun r E' t H1 locs1 ht _ hp hB _ _ hS => ?_)
  obtain ⟨k, rfl, hp⟩ := hp
  cases k with
  | none => exact kn E' hp H1 locs1 ls ⟨ht ▸ hB, gw_D hH.2.1, hS⟩ hl
  | some k => exact kk k E' hp H1 locs1 ls ⟨ht ▸ hB, gw_D hH.2.1, hS⟩ hl
end GCALL
