/-! what holds at the law's entry -/
theorem ltb1 {w : Cond} (i : Nat) (h : tables_1_1[i]? = some w) : w ∈ lw_tbl := List.mem_append_right _ (List.mem_append_left _ (List.mem_of_getElem? h))
theorem ltb2 {w : Cond} (i : Nat) (h : tables_1_2[i]? = some w) : w ∈ lw_tbl := List.mem_append_right _ (List.mem_append_right _ (List.mem_append_left _ (List.mem_of_getElem? h)))
theorem ltb3 {w : Cond} (i : Nat) (h : tables_1_3[i]? = some w) : w ∈ lw_tbl := List.mem_append_right _ (List.mem_append_right _ (List.mem_append_right _ (List.mem_append_left _ (List.mem_of_getElem? h))))
theorem ltb4 {w : Cond} (i : Nat) (h : tables_1_4[i]? = some w) : w ∈ lw_tbl := List.mem_append_right _ (List.mem_append_right _ (List.mem_append_right _ (List.mem_append_right _ (List.mem_append_left _ (List.mem_of_getElem? h)))))
theorem ltb5 {w : Cond} (i : Nat) (h : tables_1_5[i]? = some w) : w ∈ lw_tbl := List.mem_append_right _ (List.mem_append_right _ (List.mem_append_right _ (List.mem_append_right _ (List.mem_append_right _ (List.mem_of_getElem? h)))))
section START
variable {s : State} {args : Array Value}
theorem st_TB (hts : ∀ w ∈ lw_tbl, w.before args s = true) : ∀ w ∈ TB, w.before args s = true := fun w hw => hts w (List.mem_filter.mp hw).1
theorem st_D (hts : ∀ w ∈ lw_tbl, w.before args s = true) : ∃ D : va_G, ∀ (c : Nat) (q : vw_C), cls[c]? = some q → u_Kn s q.1 q.2.1 q.2.2 (D.1 c) (D.2 c) := by
  have h : ∀ c : Nat, ∃ d : ClassId × (Nat → Nat), ∀ q : vw_C, cls[c]? = some q → u_Kn s q.1 q.2.1 q.2.2 d.1 d.2 := by
    intro c
    match c with
    | 0 =>
      obtain ⟨a, b, h⟩ := u_known (n := 2) (st_TB hts) i_Bytes (st_TB hts _ (tb1 27 rfl rfl))
      exact ⟨(a, b), fun q hq => by cases hq; exact h⟩
    | 1 =>
      obtain ⟨a, b, h⟩ := u_known (n := 5) (st_TB hts) i_Lock (st_TB hts _ (tb1 164 rfl rfl))
      exact ⟨(a, b), fun q hq => by cases hq; exact h⟩
    | 2 =>
      obtain ⟨a, b, h⟩ := u_known (n := 3) (st_TB hts) i_Locks (st_TB hts _ (tb1 157 rfl rfl))
      exact ⟨(a, b), fun q hq => by cases hq; exact h⟩
    | 3 =>
      obtain ⟨a, b, h⟩ := u_known (n := 13) (st_TB hts) i_Req (st_TB hts _ (tb1 48 rfl rfl))
      exact ⟨(a, b), fun q hq => by cases hq; exact h⟩
    | 4 =>
      obtain ⟨a, b, h⟩ := u_known (n := 4) (st_TB hts) i_Res (st_TB hts _ (tb1 114 rfl rfl))
      exact ⟨(a, b), fun q hq => by cases hq; exact h⟩
    | 5 =>
      obtain ⟨a, b, h⟩ := u_known (n := 3) (st_TB hts) i_Tree (st_TB hts _ (tb1 107 rfl rfl))
      exact ⟨(a, b), fun q hq => by cases hq; exact h⟩
    | 6 =>
      obtain ⟨a, b, h⟩ := u_known (n := 8) (st_TB hts) i_Dav (st_TB hts _ (tb1 19 rfl rfl))
      exact ⟨(a, b), fun q hq => by cases hq; exact h⟩
    | 7 =>
      obtain ⟨a, b, h⟩ := u_known (n := 2) (st_TB hts) i_MPath (st_TB hts _ (tb4 25 rfl rfl))
      exact ⟨(a, b), fun q hq => by cases hq; exact h⟩
    | 8 =>
      obtain ⟨a, b, h⟩ := u_known (n := 12) (st_TB hts) i_MRoom (st_TB hts _ (tb4 16 rfl rfl))
      exact ⟨(a, b), fun q hq => by cases hq; exact h⟩
    | 9 =>
      obtain ⟨a, b, h⟩ := u_known (n := 20) (st_TB hts) i_Mod (st_TB hts _ (tb4 10 rfl rfl))
      exact ⟨(a, b), fun q hq => by cases hq; exact h⟩
    | n + 10 => exact ⟨(0, fun _ => 0), fun q hq => by cases hq⟩
  obtain ⟨d, hd⟩ := Classical.axiomOfChoice h
  exact ⟨(fun c => (d c).1, fun c => (d c).2), fun c q hq => hd c q hq⟩
theorem st_arr {ty : FieldType} (h : (Cond.arrayClass ty).before args s = true) (hra : ∀ c : ClassId, s.vm.findClass ("[" ++ ty.toString) = some c → va_RA s c ty) : ∃ cA : ClassId, ArrOfT s cA ty ∧ va_RA s cA ty := by
  obtain ⟨c, k, comp, h1, h2, h3⟩ := Cond.arrayClass_spec (args := args) (first := s) (o := none) (s := s) (idx := []) h
  exact ⟨c, fun n z => ⟨fun k h => (by cases h), k, h2, comp, h3⟩, hra c h1⟩
theorem st_obj {C : String} (h : (Cond.arrayOver (.object C)).before args s = true) : ∃ cA : ClassId, ArrOfT s cA (.object C) ∧ va_RA s cA (.object C) := by
  obtain ⟨comp, c, k, h1, h2, h3, h4, h5⟩ := Cond.arrayOver_spec (args := args) (first := s) (o := none) (s := s) (idx := []) h
  exact ⟨c, fun n z => ⟨fun k h => (by cases h), k, h3, comp, h4⟩, k, comp, h3, h4, h1, h5⟩
theorem st_arA (h : (Cond.arrayOver (.array .byte)).before args s = true) : ∃ cA : ClassId, ArrOfT s cA (.array .byte) ∧ va_RA s cA (.array .byte) := by
  obtain ⟨comp, c, k, h1, h2, h3, h4, h5⟩ := arrayOverA_spec (args := args) (first := s) (o := none) (s := s) (idx := []) h
  exact ⟨c, fun n z => ⟨fun k h => (by cases h), k, h3, comp, h4⟩, h5⟩
theorem st_kc (hts : ∀ w ∈ lw_tbl, w.before args s = true) : ∃ kc : Nat → ClassId, ∀ (k : Nat) (q : ClassId × FieldType), (gty kc)[k]? = some q → ArrOfT s q.1 q.2 ∧ va_RA s q.1 q.2 := by
  obtain ⟨c0, a0, r0⟩ := st_arr (ty := .byte) (hts _ (ltb1 46 rfl)) (fun c h => h)
  obtain ⟨c1, a1, r1⟩ := st_obj (C := "DavRoom$Resource") (hts _ (ltb1 113 rfl))
  obtain ⟨c2, a2, r2⟩ := st_obj (C := "DavRoom$Lock") (hts _ (ltb1 163 rfl))
  obtain ⟨c3, a3, r3⟩ := st_arr (ty := .int) (hts _ (ltb4 39 rfl)) (fun c h => h)
  obtain ⟨c4, a4, r4⟩ := st_arr (ty := .boolean) (hts _ (ltb4 40 rfl)) (fun c h => h)
  obtain ⟨c5, a5, r5⟩ := st_obj (C := "DavRoomModel$Path") (hts _ (ltb4 22 rfl))
  obtain ⟨c6, a6, r6⟩ := st_arA (hts _ (ltb4 24 rfl))
  obtain ⟨c7, a7, r7⟩ := st_obj (C := "java/lang/String") (hts _ (ltb4 91 rfl))
  refine ⟨fun k => [c0, c1, c2, c3, c4, c5, c6, c7].getD k 0, fun k q hq => ?_⟩
  match k, hq with
  | 0, hq => cases hq; exact ⟨a0, r0⟩
  | 1, hq => cases hq; exact ⟨a1, r1⟩
  | 2, hq => cases hq; exact ⟨a2, r2⟩
  | 3, hq => cases hq; exact ⟨a3, r3⟩
  | 4, hq => cases hq; exact ⟨a4, r4⟩
  | 5, hq => cases hq; exact ⟨a5, r5⟩
  | 6, hq => cases hq; exact ⟨a6, r6⟩
  | 7, hq => cases hq; exact ⟨a7, r7⟩
  | n + 8, hq => cases hq
theorem st_O (hts : ∀ w ∈ lw_tbl, w.before args s = true) : gO s := by
  obtain ⟨comp, c, k, h1, h2, h3, h4, h5⟩ := arrayOverA_spec (args := args) (first := s) (o := none) (s := s) (idx := []) (hts _ (ltb4 24 rfl))
  exact ⟨va_AO.of (hts _ (ltb1 113 rfl)), va_AO.of (hts _ (ltb1 163 rfl)), va_AO.of (hts _ (ltb4 22 rfl)), va_AO.of (hts _ (ltb4 91 rfl)), comp, c, k, h1, h3, h4, h5⟩
theorem st_N (hts : ∀ w ∈ lw_tbl, w.before args s = true) : ∀ w ∈ NST, va_Nw w s := by
  have h : ∀ w ∈ NST, w ∈ lw_tbl := by
    unfold NST
    refine List.forall_mem_cons.mpr ⟨ltb1 49 rfl, ?_⟩
    refine List.forall_mem_cons.mpr ⟨ltb1 115 rfl, ?_⟩
    refine List.forall_mem_cons.mpr ⟨ltb1 165 rfl, ?_⟩
    refine List.forall_mem_cons.mpr ⟨ltb4 26 rfl, ?_⟩
    refine List.forall_mem_cons.mpr ⟨ltb4 31 rfl, ?_⟩
    refine List.forall_mem_cons.mpr ⟨ltb4 33 rfl, ?_⟩
    refine List.forall_mem_cons.mpr ⟨ltb4 42 rfl, ?_⟩
    refine List.forall_mem_cons.mpr ⟨ltb4 44 rfl, ?_⟩
    refine List.forall_mem_cons.mpr ⟨ltb4 46 rfl, ?_⟩
    refine List.forall_mem_cons.mpr ⟨ltb4 48 rfl, ?_⟩
    refine List.forall_mem_cons.mpr ⟨ltb4 50 rfl, ?_⟩
    refine List.forall_mem_cons.mpr ⟨ltb4 52 rfl, ?_⟩
    refine List.forall_mem_cons.mpr ⟨ltb4 54 rfl, ?_⟩
    refine List.forall_mem_cons.mpr ⟨ltb4 56 rfl, ?_⟩
    refine List.forall_mem_cons.mpr ⟨ltb4 58 rfl, ?_⟩
    refine List.forall_mem_cons.mpr ⟨ltb4 60 rfl, ?_⟩
    refine List.forall_mem_cons.mpr ⟨ltb4 62 rfl, ?_⟩
    refine List.forall_mem_cons.mpr ⟨ltb4 64 rfl, ?_⟩
    refine List.forall_mem_cons.mpr ⟨ltb4 110 rfl, ?_⟩
    intro w h
    cases h
  intro w hw
  rcases NST_ok w hw with ⟨a, i, b, n, d, hh, rfl⟩ | ⟨a, i, x, hh, rfl⟩
  · exact va_Nw.of rfl (hts _ (h _ hw))
  · exact va_Nw.of rfl (hts _ (h _ hw))
theorem SC_len : ∀ q ∈ SC, q.2.2.2.length < 2 ^ 31 := by decide
theorem ub_getD (tx : Bs) (j : Nat) : (tx.map ub).getD j 0 = ub (tx.getD j 0) := by
  rw [List.getD_eq_getElem?_getD, List.getD_eq_getElem?_getD, List.getElem?_map]
  cases tx[j]? <;> rfl
theorem st_S (hn : ∀ w ∈ flatC narrow_1, w.before args s = true) {A : Nat → Prop} (hA : ∀ a : Nat, a < s.heap.size → ¬ A a) : ∃ a : Nat → Nat × Nat, ∀ (i : Nat) (q : String × Nat × String × Bs), SC[i]? = some q → gStr (a i).1 (a i).2 q.2.2.2 A s s.heap ∧ (Term.string q.1 q.2.1).eval args s none [] s = some (.ref (a i).1) := by
  have h : ∀ i : Nat, ∃ a : Nat × Nat, ∀ q : String × Nat × String × Bs, SC[i]? = some q → gStr a.1 a.2 q.2.2.2 A s s.heap ∧ (Term.string q.1 q.2.1).eval args s none [] s = some (.ref a.1) := by
    intro i
    cases hq : SC[i]? with
    | none => exact ⟨(0, 0), fun q h => by cases h⟩
    | some q =>
      have hm := List.mem_of_getElem? hq
      have hin := fun w hw => hn w (mkS_in q hm w hw)
      have e0 : ∀ i : Nat, i < 1 → i = 0 := fun i h => by omega
      obtain ⟨aK, aV, hS, hE⟩ := vk_Sof (args := args) (s := s) (N := 1) (tm := fun _ => Term.string q.1 q.2.1) (len := [q.2.2.2.length]) (byt := [q.2.2.2.map ub]) (A := A)
        (fun i h => by rw [e0 i h]; exact SC_len q hm)
        (fun i h => hin _ (List.mem_append_left _ (List.mem_of_getElem? (i := 0) rfl)))
        (fun i h => hin _ (List.mem_append_left _ (List.mem_of_getElem? (i := 1) rfl)))
        (fun i h => hin _ (List.mem_append_left _ (List.mem_of_getElem? (i := 2) rfl)))
        (fun i h => by rw [e0 i h]; exact hin _ (List.mem_append_left _ (List.mem_of_getElem? (i := 3) rfl)))
        (fun i h j hj => by
          rw [e0 i h] at hj ⊢
          have hz : ([q.2.2.2.map ub].getD 0 []).getD j 0 = ub (q.2.2.2.getD j 0) := ub_getD _ _
          rw [hz]
          exact hin _ (List.mem_append_right _ (List.mem_map.mpr ⟨j, List.mem_range.mpr hj, rfl⟩)))
        (fun i j h1 h2 h3 => absurd ((e0 i h1).trans (e0 j h2).symm) h3) hA
      refine ⟨(aK 0, aV 0), fun q' h' => ?_⟩
      cases h'
      obtain ⟨k1, k2, k3, k4⟩ := hS.1 0 (by decide)
      refine ⟨⟨k1, k2, k3, ?_⟩, hE 0 (by decide)⟩
      have hz : (fun j : Nat => Value.int (([q.2.2.2.map ub].getD 0 []).getD j 0)) = fun j : Nat => Value.int (ub (q.2.2.2.getD j 0)) := by
        funext j
        rw [show ([q.2.2.2.map ub].getD 0 []).getD j 0 = ub (q.2.2.2.getD j 0) from ub_getD _ _]
      rw [hz] at k4
      exact k4
  exact Classical.axiomOfChoice h
theorem SC_in : ∀ q ∈ SC, Cond.stringRef q.1 q.2.1 q.2.2.1 ∈ lw_tbl := by
  unfold SC
  refine List.forall_mem_cons.mpr ⟨ltb2 37 rfl, ?_⟩
  refine List.forall_mem_cons.mpr ⟨ltb2 38 rfl, ?_⟩
  refine List.forall_mem_cons.mpr ⟨ltb2 39 rfl, ?_⟩
  refine List.forall_mem_cons.mpr ⟨ltb2 40 rfl, ?_⟩
  refine List.forall_mem_cons.mpr ⟨ltb2 41 rfl, ?_⟩
  refine List.forall_mem_cons.mpr ⟨ltb2 42 rfl, ?_⟩
  refine List.forall_mem_cons.mpr ⟨ltb2 43 rfl, ?_⟩
  refine List.forall_mem_cons.mpr ⟨ltb2 44 rfl, ?_⟩
  refine List.forall_mem_cons.mpr ⟨ltb2 45 rfl, ?_⟩
  refine List.forall_mem_cons.mpr ⟨ltb2 107 rfl, ?_⟩
  refine List.forall_mem_cons.mpr ⟨ltb2 150 rfl, ?_⟩
  refine List.forall_mem_cons.mpr ⟨ltb2 151 rfl, ?_⟩
  refine List.forall_mem_cons.mpr ⟨ltb2 152 rfl, ?_⟩
  refine List.forall_mem_cons.mpr ⟨ltb2 153 rfl, ?_⟩
  refine List.forall_mem_cons.mpr ⟨ltb2 154 rfl, ?_⟩
  refine List.forall_mem_cons.mpr ⟨ltb2 155 rfl, ?_⟩
  refine List.forall_mem_cons.mpr ⟨ltb2 156 rfl, ?_⟩
  refine List.forall_mem_cons.mpr ⟨ltb2 157 rfl, ?_⟩
  refine List.forall_mem_cons.mpr ⟨ltb2 170 rfl, ?_⟩
  refine List.forall_mem_cons.mpr ⟨ltb2 174 rfl, ?_⟩
  refine List.forall_mem_cons.mpr ⟨ltb2 175 rfl, ?_⟩
  refine List.forall_mem_cons.mpr ⟨ltb2 176 rfl, ?_⟩
  refine List.forall_mem_cons.mpr ⟨ltb2 177 rfl, ?_⟩
  refine List.forall_mem_cons.mpr ⟨ltb2 178 rfl, ?_⟩
  refine List.forall_mem_cons.mpr ⟨ltb2 182 rfl, ?_⟩
  refine List.forall_mem_cons.mpr ⟨ltb2 183 rfl, ?_⟩
  refine List.forall_mem_cons.mpr ⟨ltb4 92 rfl, ?_⟩
  refine List.forall_mem_cons.mpr ⟨ltb4 93 rfl, ?_⟩
  refine List.forall_mem_cons.mpr ⟨ltb4 94 rfl, ?_⟩
  refine List.forall_mem_cons.mpr ⟨ltb4 95 rfl, ?_⟩
  refine List.forall_mem_cons.mpr ⟨ltb4 96 rfl, ?_⟩
  refine List.forall_mem_cons.mpr ⟨ltb4 97 rfl, ?_⟩
  refine List.forall_mem_cons.mpr ⟨ltb4 98 rfl, ?_⟩
  refine List.forall_mem_cons.mpr ⟨ltb4 99 rfl, ?_⟩
  refine List.forall_mem_cons.mpr ⟨ltb4 100 rfl, ?_⟩
  refine List.forall_mem_cons.mpr ⟨ltb4 101 rfl, ?_⟩
  refine List.forall_mem_cons.mpr ⟨ltb4 102 rfl, ?_⟩
  refine List.forall_mem_cons.mpr ⟨ltb4 103 rfl, ?_⟩
  refine List.forall_mem_cons.mpr ⟨ltb4 104 rfl, ?_⟩
  refine List.forall_mem_cons.mpr ⟨ltb4 105 rfl, ?_⟩
  refine List.forall_mem_cons.mpr ⟨ltb4 106 rfl, ?_⟩
  refine List.forall_mem_cons.mpr ⟨ltb4 107 rfl, ?_⟩
  refine List.forall_mem_cons.mpr ⟨ltb4 108 rfl, ?_⟩
  refine List.forall_mem_cons.mpr ⟨ltb4 192 rfl, ?_⟩
  refine List.forall_mem_cons.mpr ⟨ltb4 203 rfl, ?_⟩
  refine List.forall_mem_cons.mpr ⟨ltb4 215 rfl, ?_⟩
  refine List.forall_mem_cons.mpr ⟨ltb4 216 rfl, ?_⟩
  refine List.forall_mem_cons.mpr ⟨ltb4 217 rfl, ?_⟩
  refine List.forall_mem_cons.mpr ⟨ltb4 218 rfl, ?_⟩
  refine List.forall_mem_cons.mpr ⟨ltb4 219 rfl, ?_⟩
  refine List.forall_mem_cons.mpr ⟨ltb4 224 rfl, ?_⟩
  refine List.forall_mem_cons.mpr ⟨ltb4 225 rfl, ?_⟩
  refine List.forall_mem_cons.mpr ⟨ltb4 226 rfl, ?_⟩
  intro w h
  cases h
theorem may_in : (Cond.arrayOf (.static "DavRoomModel" "MAY" "[I") .int) ∈ flatC narrow_1 ∧ (Cond.eq (.length (.static "DavRoomModel" "MAY" "[I")) (.int (Int32.ofNat 9))) ∈ flatC narrow_1 ∧ (∀ j, j < 9 → (Cond.eq (.elem (.static "DavRoomModel" "MAY" "[I") (.int (Int32.ofNat j))) (.int (MAYv.getD j 0))) ∈ flatC narrow_1) ∧ (Cond.eq (.static "java/lang/String" "COMPACT_STRINGS" "Z") (.int 1)) ∈ flatC narrow_1 ∧ (Cond.isRef (.static "jdk/internal/util/Preconditions" "SIOOBE_FORMATTER" "Ljava/util/function/BiFunction;")) ∈ flatC narrow_1 := by
  have h : (flatC narrow_1).take 19 = [Cond.arrayOf (.arg 0) .int, Cond.le (.length (.arg 0)) (.int 3072), Cond.eq (.static "java/lang/String" "COMPACT_STRINGS" "Z") (.int 1), Cond.isRef (.static "jdk/internal/util/Preconditions" "SIOOBE_FORMATTER" "Ljava/util/function/BiFunction;"), Cond.eq (.static "java/lang/StringUTF16" "$assertionsDisabled" "Z") (.int 1), Cond.eq (.static "java/lang/StringUTF16" "HI_BYTE_SHIFT" "I") (.int 0), Cond.eq (.static "java/lang/StringUTF16" "LO_BYTE_SHIFT" "I") (.int 8), Cond.isRef (.static "DavRoomModel" "MAY" "[I"), Cond.arrayOf (.static "DavRoomModel" "MAY" "[I") .int, Cond.eq (.length (.static "DavRoomModel" "MAY" "[I")) (.int (Int32.ofNat 9))] ++ (List.range 9).map (fun j => Cond.eq (.elem (.static "DavRoomModel" "MAY" "[I") (.int (Int32.ofNat j))) (.int (MAYv.getD j 0))) := by decide +kernel
  have hm : ∀ w, w ∈ (flatC narrow_1).take 19 → w ∈ flatC narrow_1 := fun w hw => List.mem_of_mem_take hw
  rw [h] at hm
  exact ⟨hm _ (List.mem_append_left _ (List.mem_of_getElem? (i := 8) rfl)), hm _ (List.mem_append_left _ (List.mem_of_getElem? (i := 9) rfl)), fun j hj => hm _ (List.mem_append_right _ (List.mem_map.mpr ⟨j, List.mem_range.mpr hj, rfl⟩)), hm _ (List.mem_append_left _ (List.mem_of_getElem? (i := 2) rfl)), hm _ (List.mem_append_left _ (List.mem_of_getElem? (i := 3) rfl))⟩
/-- the world that the law begins with -/
theorem st_K (hts : ∀ w ∈ lw_tbl, w.before args s = true) (hn : ∀ w ∈ flatC narrow_1, w.before args s = true) (N : Nat) : ∃ K : gK, (ka K = fun k => s.heap.size + k) ∧ kN K = N ∧ gT K s ∧ gZ K (fun q => s.heap.size ≤ q) s s.heap := by
  have hA : ∀ a : Nat, a < s.heap.size → ¬ (fun q => s.heap.size ≤ q) a := fun a h q => by
    have q' : s.heap.size ≤ a := q
    omega
  obtain ⟨D, hD⟩ := st_D hts
  obtain ⟨kc, hkc⟩ := st_kc hts
  obtain ⟨a, ha⟩ := st_S (A := fun q => s.heap.size ≤ q) hn hA
  obtain ⟨m1, m2, m3, m4, m5⟩ := may_in
  obtain ⟨t, ht, hT⟩ := va_Tof (args := args) (s := s) (tm := (.static "DavRoomModel" "MAY" "[I")) (ty := .int) (N := 9) (f := fun j => .int (MAYv.getD j 0)) (A := fun q => s.heap.size ≤ q) (by decide) (hn _ m1) (va_eqt (hn _ m2)) (fun j hj => va_eqt (hn _ (m3 j hj))) hA
  refine ⟨(D, kc, fun k => s.heap.size + k, N, fun i => if i = 60 then t else (a i).1, fun i => (a i).2), rfl, rfl, ⟨⟨hD, hkc⟩, st_N hts, fun i q hq => ?_⟩, fun i q hq => ?_, ?_, ?_, ?_, ?_⟩
  · have hi : i ≠ 60 := by
      have := (List.getElem?_eq_some_iff.mp hq).1
      have h53 : SC.length = 53 := rfl
      omega
    show vk_R q.1 q.2.1 q.2.2.1 (if i = 60 then t else (a i).1) s
    rw [if_neg hi]
    exact vk_R.of (hts _ (SC_in q (List.mem_of_getElem? hq))) (ha i q hq).2
  · have hi : i ≠ 60 := by
      have := (List.getElem?_eq_some_iff.mp hq).1
      have h53 : SC.length = 53 := rfl
      omega
    show gStr (if i = 60 then t else (a i).1) (a i).2 q.2.2.2 _ s s.heap
    rw [if_neg hi]
    exact (ha i q hq).1
  · exact va_Zof (hts _ (ltb2 59 rfl)) (hts _ (ltb1 12 rfl)) (va_eqt (hn _ m4)) hA
  · exact va_Zof (hts _ (ltb4 228 rfl)) (hts _ (ltb1 9 rfl)) ht hA
  · exact hT
  · exact va_Zqof (hts _ (ltb2 75 rfl)) (hts _ (ltb1 14 rfl)) (hn _ m5) hA
end START