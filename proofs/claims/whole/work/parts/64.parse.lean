/-! what is read of a request, by both -/
theorem hb1 : ∀ n, n < 256 → ∀ k, k < 8 → hasB (nI n) (2 ^ k) = bitN n k := by decide +kernel
theorem hb2 : ∀ n, n < 256 → ∀ k, k < 8 → nI n ||| nI (2 ^ k) = nI (n ||| 2 ^ k) := by decide +kernel
theorem hb3 : ∀ n, n < 256 → ∀ k, k < 8 → n ||| 2 ^ k < 256 := by decide +kernel
theorem hb4 : ∀ n, n < 256 → ∀ k, k < 8 → ∀ j, j < 8 → bitN (n ||| 2 ^ k) j = (bitN n j || decide (j = k)) := by decide +kernel
def pcN (n : Nat) : Nat := (List.range 8).countP (fun k => bitN n k)
theorem pc1 : ∀ n, n < 256 → ∀ k, k < 8 → bitN n k = false → pcN (n ||| 2 ^ k) = pcN n + 1 := by decide +kernel
theorem pc8 (n : Nat) : pcN n ≤ 8 := Nat.le_trans List.countP_le_length (by rw [List.length_range]; exact Nat.le_refl _)
def HR (t : Bs) (dp : Nat) (ma tk tm : Int32) (an sp al : Bool) (se : Int32) (ta : Bs) (hs : Nat) (vl : Nat → Int32) : Prop :=
  se = nI hs ∧ hs < 256 ∧ (bitN hs 1 = true → ta = rp t ∧ pathOK t = true)
  ∧ ((bitN hs 0 = true ∧ ((dp = 0 ∧ vl 0 = nI 0) ∨ (dp = 1 ∧ vl 0 = nI 1) ∨ (dp = 2 ∧ vl 0 = -1))) ∨ (bitN hs 0 = false ∧ dp = 2))
  ∧ ((bitN hs 2 = true ∧ sp = decide (vl 2 = nI 0)) ∨ (bitN hs 2 = false ∧ sp = false))
  ∧ (bitN hs 3 = true → an = decide (vl 3 < 0) ∧ ma = vl 3)
  ∧ ((bitN hs 5 = true ∧ tk = vl 5 ∧ ∃ t, t < 2 ^ 31 ∧ vl 5 = nI t) ∨ (bitN hs 5 = false ∧ tk = -1))
  ∧ ((bitN hs 6 = true ∧ tm = vl 6) ∨ (bitN hs 6 = false ∧ tm = nI 100))
  ∧ ((bitN hs 7 = true ∧ al = decide (vl 7 = nI 1)) ∨ (bitN hs 7 = false ∧ al = true))
def HRh (h : Hs) (ta : Bs) (hs : Nat) (vl : Nat → Int32) : Prop := HR h.1 h.2.1 h.2.2.1 h.2.2.2.1 h.2.2.2.2.1 h.2.2.2.2.2.1 h.2.2.2.2.2.2.1 h.2.2.2.2.2.2.2.1 h.2.2.2.2.2.2.2.2.1 ta hs vl
theorem HR_step {t : Bs} {dp : Nat} {ma tk tm : Int32} {an sp al : Bool} {se : Int32} {cu : Nat} {ta : Bs} {hs : Nat} {vl : Nat → Int32} {k : Nat} {l : Bs} (hk : k < 8) (hb : bitN hs k = false) (ho : okV k l = true) (h : HR t dp ma tk tm an sp al se ta hs vl) (e : Nat) :
    ∃ h' : Hs, (match setV k l (t, dp, ma, tk, tm, an, sp, al, se, cu) with
        | (ta, dp, ma, tk, tm, an, sp, al, se, _) => some (ta, dp, ma, tk, tm, an, sp, al, se ||| nI (2 ^ k), e + 1)) = some h' ∧ HRh h' (taS k l ta) (hs ||| 2 ^ k) (vlS k l vl) ∧ h'.2.2.2.2.2.2.2.2.2 = e + 1 := by
  obtain ⟨h1, h2, h3, h4, h5, h6, h7, h8, h9⟩ := h
  subst h1
  have hor := hb2 hs h2 k hk
  have hlt := hb3 hs h2 k hk
  have hbt := fun j hj => hb4 hs h2 k hk j hj
  rcases (show k = 0 ∨ k = 1 ∨ k = 2 ∨ k = 3 ∨ k = 4 ∨ k = 5 ∨ k = 6 ∨ k = 7 by omega) with rfl | rfl | rfl | rfl | rfl | rfl | rfl | rfl
  · refine ⟨_, rfl, ⟨hor, hlt, ?_, ?_, ?_, ?_, ?_, ?_, ?_⟩, rfl⟩
    · rw [hbt 1 (by decide)]; intro q; exact h3 (by simpa using q)
    · left
      rw [hbt 0 (by decide)]
      refine ⟨by simp, ?_⟩
      show (dpL l = 0 ∧ upd vl 0 (valM 0 l) 0 = nI 0) ∨ (dpL l = 1 ∧ upd vl 0 (valM 0 l) 0 = nI 1) ∨ (dpL l = 2 ∧ upd vl 0 (valM 0 l) 0 = -1)
      rw [pk_us]
      have ho' : (decide (l = t_all) || (decide (l = t_d1) || decide (l = t_d0))) = true := ho
      rw [Bool.or_eq_true, Bool.or_eq_true, decide_eq_true_eq, decide_eq_true_eq, decide_eq_true_eq] at ho'
      rcases ho' with rfl | rfl | rfl
      · exact Or.inr (Or.inr ⟨by decide, by decide⟩)
      · exact Or.inr (Or.inl ⟨by decide, by decide⟩)
      · exact Or.inl ⟨by decide, by decide⟩
    · rw [hbt 2 (by decide)]; simpa [vlS, pk_un] using h5
    · rw [hbt 3 (by decide)]; simpa [vlS, pk_un] using h6
    · rw [hbt 5 (by decide)]; simpa [vlS, pk_un] using h7
    · rw [hbt 6 (by decide)]; simpa [vlS, pk_un] using h8
    · rw [hbt 7 (by decide)]; simpa [vlS, pk_un] using h9
  · have ho' : pathOK l = true := ho
    refine ⟨_, rfl, ⟨hor, hlt, ?_, ?_, ?_, ?_, ?_, ?_, ?_⟩, rfl⟩
    · intro _
      refine ⟨?_, ?_⟩
      · show (if pathOK l = true then rp l else []) = rp (if pathOK l = true then l else t)
        rw [if_pos ho', if_pos ho']
      · show pathOK (if pathOK l = true then l else t) = true
        rw [if_pos ho']
        exact ho'
    · rw [hbt 0 (by decide)]; simpa [vlS] using h4
    · rw [hbt 2 (by decide)]; simpa [vlS] using h5
    · rw [hbt 3 (by decide)]; simpa [vlS] using h6
    · rw [hbt 5 (by decide)]; simpa [vlS] using h7
    · rw [hbt 6 (by decide)]; simpa [vlS] using h8
    · rw [hbt 7 (by decide)]; simpa [vlS] using h9
  · refine ⟨_, rfl, ⟨hor, hlt, ?_, ?_, ?_, ?_, ?_, ?_, ?_⟩, rfl⟩
    · rw [hbt 1 (by decide)]; intro q; exact h3 (by simpa using q)
    · rw [hbt 0 (by decide)]; simpa [vlS, pk_un] using h4
    · left
      rw [hbt 2 (by decide)]
      refine ⟨by simp, ?_⟩
      show decide (l = t_no) = decide (upd vl 2 (valM 2 l) 2 = nI 0)
      rw [pk_us]
      have ho' : (decide (l = t_no) || decide (l = t_yes)) = true := ho
      rw [Bool.or_eq_true, decide_eq_true_eq, decide_eq_true_eq] at ho'
      rcases ho' with rfl | rfl <;> decide
    · rw [hbt 3 (by decide)]; simpa [vlS, pk_un] using h6
    · rw [hbt 5 (by decide)]; simpa [vlS, pk_un] using h7
    · rw [hbt 6 (by decide)]; simpa [vlS, pk_un] using h8
    · rw [hbt 7 (by decide)]; simpa [vlS, pk_un] using h9
  · refine ⟨_, rfl, ⟨hor, hlt, ?_, ?_, ?_, ?_, ?_, ?_, ?_⟩, rfl⟩
    · rw [hbt 1 (by decide)]; intro q; exact h3 (by simpa using q)
    · rw [hbt 0 (by decide)]; simpa [vlS, pk_un] using h4
    · rw [hbt 2 (by decide)]; simpa [vlS, pk_un] using h5
    · intro _
      show decide (l = t_any) = decide (upd vl 3 (numV l) 3 < 0) ∧ numV l = upd vl 3 (numV l) 3
      rw [pk_us]
      refine ⟨?_, rfl⟩
      have ho' : (decide (l = t_any) || decide (¬ numV l = -1)) = true := ho
      rw [Bool.or_eq_true, decide_eq_true_eq, decide_eq_true_eq] at ho'
      rcases ho' with rfl | q
      · decide
      · have q2 : ¬ l = t_any := by
          rintro rfl
          exact q (by decide)
        rw [decide_eq_false q2, decide_eq_false (fun z => q ((numV_neg l).mp z))]
    · rw [hbt 5 (by decide)]; simpa [vlS, pk_un] using h7
    · rw [hbt 6 (by decide)]; simpa [vlS, pk_un] using h8
    · rw [hbt 7 (by decide)]; simpa [vlS, pk_un] using h9
  · refine ⟨_, rfl, ⟨hor, hlt, ?_, ?_, ?_, ?_, ?_, ?_, ?_⟩, rfl⟩
    · rw [hbt 1 (by decide)]; intro q; exact h3 (by simpa using q)
    · rw [hbt 0 (by decide)]; simpa [vlS] using h4
    · rw [hbt 2 (by decide)]; simpa [vlS] using h5
    · rw [hbt 3 (by decide)]; simpa [vlS] using h6
    · rw [hbt 5 (by decide)]; simpa [vlS] using h7
    · rw [hbt 6 (by decide)]; simpa [vlS] using h8
    · rw [hbt 7 (by decide)]; simpa [vlS] using h9
  · refine ⟨_, rfl, ⟨hor, hlt, ?_, ?_, ?_, ?_, ?_, ?_, ?_⟩, rfl⟩
    · rw [hbt 1 (by decide)]; intro q; exact h3 (by simpa using q)
    · rw [hbt 0 (by decide)]; simpa [vlS, pk_un] using h4
    · rw [hbt 2 (by decide)]; simpa [vlS, pk_un] using h5
    · rw [hbt 3 (by decide)]; simpa [vlS, pk_un] using h6
    · left
      rw [hbt 5 (by decide)]
      refine ⟨by simp, ?_, ?_⟩
      · show numV l = upd vl 5 (numV l) 5
        rw [pk_us]
      · show ∃ t, t < 2 ^ 31 ∧ upd vl 5 (numV l) 5 = nI t
        rw [pk_us]
        have ho' : decide (¬ numV l = -1) = true := ho
        rcases numV_cases l with q | q
        · exact absurd q (of_decide_eq_true ho')
        · exact q
    · rw [hbt 6 (by decide)]; simpa [vlS, pk_un] using h8
    · rw [hbt 7 (by decide)]; simpa [vlS, pk_un] using h9
  · refine ⟨_, rfl, ⟨hor, hlt, ?_, ?_, ?_, ?_, ?_, ?_, ?_⟩, rfl⟩
    · rw [hbt 1 (by decide)]; intro q; exact h3 (by simpa using q)
    · rw [hbt 0 (by decide)]; simpa [vlS, pk_un] using h4
    · rw [hbt 2 (by decide)]; simpa [vlS, pk_un] using h5
    · rw [hbt 3 (by decide)]; simpa [vlS, pk_un] using h6
    · rw [hbt 5 (by decide)]; simpa [vlS, pk_un] using h7
    · left
      rw [hbt 6 (by decide)]
      refine ⟨by simp, ?_⟩
      show numV l = upd vl 6 (numV l) 6
      rw [pk_us]
    · rw [hbt 7 (by decide)]; simpa [vlS, pk_un] using h9
  · refine ⟨_, rfl, ⟨hor, hlt, ?_, ?_, ?_, ?_, ?_, ?_, ?_⟩, rfl⟩
    · rw [hbt 1 (by decide)]; intro q; exact h3 (by simpa using q)
    · rw [hbt 0 (by decide)]; simpa [vlS, pk_un] using h4
    · rw [hbt 2 (by decide)]; simpa [vlS, pk_un] using h5
    · rw [hbt 3 (by decide)]; simpa [vlS, pk_un] using h6
    · rw [hbt 5 (by decide)]; simpa [vlS, pk_un] using h7
    · rw [hbt 6 (by decide)]; simpa [vlS, pk_un] using h8
    · left
      rw [hbt 7 (by decide)]
      refine ⟨by simp, ?_⟩
      show decide (l = t_one) = decide (upd vl 7 (valM 7 l) 7 = nI 1)
      rw [pk_us]
      show decide (l = t_one) = decide ((if l = t_one then nI 1 else nI 0) = nI 1)
      by_cases q : l = t_one
      · rw [if_pos q, decide_eq_true q]
        rfl
      · rw [if_neg q, decide_eq_false q]
        rfl
