/-! the texts of the statement, string by string -/
def mkV (q : String × Nat × String × Bs) : Term := .field (.string q.1 q.2.1) "java/lang/String" "value" "[B"
def mkS (q : String × Nat × String × Bs) : List Cond := [.exactly (.string q.1 q.2.1) "java/lang/String", .eq (.field (.string q.1 q.2.1) "java/lang/String" "coder" "B") (.int 0), .arrayOf (mkV q) .byte, .eq (.length (mkV q)) (.int (Int32.ofNat q.2.2.2.length))] ++ (List.range q.2.2.2.length).map (fun j => .eq (.elem (mkV q) (.int (Int32.ofNat j))) (.int (ub (q.2.2.2.getD j 0))))
def notSt : Cond → Bool
  | .eq (.string _ _) (.string _ _) => false
  | _ => true
set_option maxRecDepth 100000 in
theorem mk_0 : ((flatC narrow_1).drop 19).filter notSt = SC.flatMap mkS := by decide +kernel
theorem mkS_in : ∀ q ∈ SC, ∀ w ∈ mkS q, w ∈ flatC narrow_1 := by
  intro q hq w hw
  have h : w ∈ SC.flatMap mkS := List.mem_flatMap.mpr ⟨q, hq, hw⟩
  rw [← mk_0] at h
  exact List.mem_of_mem_drop (List.mem_filter.mp h).1
