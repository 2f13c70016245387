/-! the headers one behind the other -/
theorem idxO_lt {bs : Bs} {c : Int32} {k e : Nat} (h : idxO bs c k = some e) : k ≤ e ∧ ∃ he : e < bs.length, nI bs[e].toNat = c := by
  unfold idxO at h
  rw [Option.map_eq_some_iff] at h
  obtain ⟨j, h1, rfl⟩ := h
  obtain ⟨h2, h3, -⟩ := List.findIdx?_eq_some_iff_getElem.mp h1
  rw [List.length_drop] at h2
  refine ⟨by omega, by omega, ?_⟩
  rw [List.getElem_drop] at h3
  exact eq_of_beq h3
theorem idxO_first {bs : Bs} {c : Int32} {k e : Nat} (h : idxO bs c k = some e) : ∀ (t : Nat) (ht : t < bs.length), k ≤ t → t < e → ¬ nI bs[t].toNat = c := by
  unfold idxO at h
  rw [Option.map_eq_some_iff] at h
  obtain ⟨j, h1, rfl⟩ := h
  obtain ⟨h2, h3, h4⟩ := List.findIdx?_eq_some_iff_getElem.mp h1
  intro t ht h5 h6 e
  have h7 := h4 (t - k) (by omega)
  rw [List.getElem_drop] at h7
  have h8 : k + (t - k) = t := by omega
  simp only [h8] at h7
  rw [e] at h7
  simp at h7
theorem idxO_of {bs : Bs} {c : Int32} {k e : Nat} (hk : k ≤ e) (he : e < bs.length) (h1 : nI bs[e].toNat = c) (h2 : ∀ (t : Nat) (ht : t < bs.length), k ≤ t → t < e → ¬ nI bs[t].toNat = c) : idxO bs c k = some e := by
  unfold idxO
  rw [Option.map_eq_some_iff]
  refine ⟨e - k, ?_, by omega⟩
  rw [List.findIdx?_eq_some_iff_getElem]
  refine ⟨by rw [List.length_drop]; omega, ?_, fun j hj => ?_⟩
  · rw [List.getElem_drop]
    have h8 : k + (e - k) = e := by omega
    simp only [h8]
    rw [h1]
    exact beq_self_eq_true _
  · rw [List.getElem_drop]
    intro q
    exact h2 (k + j) (by omega) (by omega) (by omega) (eq_of_beq q)
theorem fdM_some {bs : Bs} {c k e : Nat} (h : idxO bs (nI c) k = some e) : fdM bs c k = e := by rw [fdM, h]; rfl
theorem fdM_none {bs : Bs} {c k : Nat} (h : idxO bs (nI c) k = none) : fdM bs c k = max k bs.length := by rw [fdM, h]; rfl
def relH (a : Option Hs) (b : Option (Bs × Nat × (Nat → Int32) × Nat)) (n : Nat) : Prop := match a, b with
  | none, none => True
  | some h, some (ta, hs, vl, at_) => HRh h ta hs vl ∧ h.2.2.2.2.2.2.2.2.2 = at_ + 1 ∧ at_ < n
  | _, _ => False
theorem hs_rel {bs : Bs} (hl : bs.length < 2 ^ 20) : ∀ (n d : Nat) (h : Hs) (ta : Bs) (hs : Nat) (vl : Nat → Int32) (at_ : Nat), HRh h ta hs vl → h.2.2.2.2.2.2.2.2.2 = at_ → 8 < n + pcN hs → bs.length < d + at_ → at_ ≤ bs.length → relH (hsF bs n h) (hlM bs d at_ ta hs vl) bs.length := by
  intro n
  induction n with
  | zero =>
    intro d h ta hs vl at_ _ _ h3
    have := pc8 hs
    omega
  | succ n ih =>
    intro d h ta hs vl at_ hH hat hn hd hle
    cases d with
    | zero => omega
    | succ d =>
      obtain ⟨t, dp, ma, tk, tm, an, sp, al, se, cu⟩ := h
      have hat' : cu = at_ := hat
      subst hat'
      have hH' : HR t dp ma tk tm an sp al se ta hs vl := hH
      have e0 : hsF bs (n + 1) (t, dp, ma, tk, tm, an, sp, al, se, cu) = if atI bs (nI cu) = nI 10 then some (t, dp, ma, tk, tm, an, sp, al, se, cu + 1) else match hdS bs (t, dp, ma, tk, tm, an, sp, al, se, cu) with
        | none => none
        | some h' => hsF bs n h' := rfl
      rw [e0, hlM]
      by_cases hlt : cu < bs.length
      · rw [if_pos hlt, atI_in hlt (by omega), getD_in hlt]
        by_cases h10 : bs[cu].toNat = 10
        · rw [if_pos (by rw [h10]), if_pos h10]
          exact ⟨hH', rfl, hlt⟩
        · rw [if_neg (fun e => h10 ((nI_eq (Nat.lt_trans (UInt8.toNat_lt _) (by decide)) (by decide)).mp e)), if_neg h10]
          cases hi : idxO bs (nI 10) cu with
          | none =>
            have e1 : hdS bs (t, dp, ma, tk, tm, an, sp, al, se, cu) = none := by simp only [hdS, hi]
            rw [e1, fdM_none hi, if_pos (by omega)]
            exact True.intro
          | some e =>
            obtain ⟨he1, he2, he3⟩ := idxO_lt hi
            rw [fdM_some hi, if_neg (by omega)]
            cases hf : (List.range 8).find? (fun k => textAt bs (hdT k) cu) with
            | none =>
              have e1 : hdS bs (t, dp, ma, tk, tm, an, sp, al, se, cu) = none := by simp only [hdS, hi, hf]
              have e2 : hdM bs cu e ta hs vl = none := by simp only [hdM, hf]
              rw [e1, e2]
              exact True.intro
            | some k =>
              have hk : k < 8 := List.mem_range.mp (List.mem_of_find?_eq_some hf)
              have hse := hH'.1
              subst hse
              have e2 : hdM bs cu e ta hs vl = if (!bitN hs k && okV k (part bs (cu + (hdT k).length) e)) = true then some (taS k (part bs (cu + (hdT k).length) e) ta, hs ||| 2 ^ k, vlS k (part bs (cu + (hdT k).length) e) vl) else none := by simp only [hdM, hf]
              have e1 := hdS_s (bs := bs) (h := (t, dp, ma, tk, tm, an, sp, al, nI hs, cu)) (e := e) (k := k) hi hf
              rw [hb1 hs hH'.2.1 k hk] at e1
              by_cases hc : (!bitN hs k && okV k (part bs (cu + (hdT k).length) e)) = true
              · rw [if_pos hc] at e1 e2
                rw [Bool.and_eq_true, Bool.not_eq_true'] at hc
                obtain ⟨h', k1, k2, k3⟩ := HR_step (cu := cu) hk hc.1 hc.2 hH' e
                rw [e2, e1.trans k1]
                exact ih d h' _ _ _ (e + 1) k2 k3 (by rw [pc1 hs hH'.2.1 k hk hc.1]; omega) (by omega) (by omega)
              · rw [if_neg hc] at e1 e2
                rw [e1, e2]
                exact True.intro
      · rw [if_neg hlt, atI_out (by omega) (by omega), if_neg (by decide)]
        have e1 : hdS bs (t, dp, ma, tk, tm, an, sp, al, se, cu) = none := by simp only [hdS, idxO_end (show bs.length ≤ cu by omega)]
        rw [e1]
        exact True.intro
/-! the first line -/
theorem part_at {bs tx : Bs} {i j k : Nat} (h : part bs i j = tx) (hk : k < tx.length) (hj : j ≤ bs.length) : ∃ hb : i + k < bs.length, bs[i + k] = tx[k] := by
  subst h
  have hl := hk
  rw [part_len] at hl
  exact ⟨by omega, (part_get hk (by omega)).symm⟩
theorem vb_sp : ∀ v, v < 9 → (vbT v).length = (vbU v).length + 1 ∧ vbT v = vbU v ++ [32] ∧ (∀ c ∈ vbU v, c.toNat ≠ 32 ∧ c.toNat ≠ 10) := by decide
theorem ni_u8 {c : UInt8} {n : Nat} (hn : n < 2 ^ 31) : nI c.toNat = nI n ↔ c.toNat = n := nI_eq (Nat.lt_trans (UInt8.toNat_lt _) (by decide)) hn
theorem text_vb {bs : Bs} {v : Nat} (hv : v < 9) (h : textAt bs (vbT v) 0 = true) : idxO bs (nI 32) 0 = some (vbU v).length ∧ part bs 0 (vbU v).length = vbU v ∧ (∀ (t : Nat) (ht : t < bs.length), t ≤ (vbU v).length → bs[t].toNat ≠ 10) := by
  obtain ⟨h1, h2, h3⟩ := vb_sp v hv
  have hle := text_le h
  have hat : ∀ (m : Nat) (hm : m < (vbU v).length), ∃ hb : m < bs.length, bs[m] = (vbU v)[m] := by
    intro m hm
    obtain ⟨hb, e⟩ := text_in h (m := m) (by omega)
    refine ⟨by omega, ?_⟩
    simp only [Nat.zero_add] at e
    rw [e]
    simp only [h2]
    rw [List.getElem_append_left hm]
  have hsp : ∃ hb : (vbU v).length < bs.length, bs[(vbU v).length] = 32 := by
    obtain ⟨hb, e⟩ := text_in h (m := (vbU v).length) (by omega)
    refine ⟨by omega, ?_⟩
    simp only [Nat.zero_add] at e
    rw [e]
    simp only [h2]
    rw [List.getElem_append_right (Nat.le_refl _)]
    simp
  obtain ⟨hb, hsp⟩ := hsp
  refine ⟨idxO_of (Nat.zero_le _) hb (by rw [hsp]; rfl) (fun t ht _ ht2 e => ?_), ?_, fun t ht ht2 e => ?_⟩
  · obtain ⟨_, q⟩ := hat t ht2
    rw [q, ni_u8 (by decide)] at e
    exact (h3 _ (List.getElem_mem _)).1 e
  · apply List.ext_getElem
    · rw [part_len]
      omega
    · intro m g1 g2
      rw [part_get g1 (by omega)]
      obtain ⟨_, q⟩ := hat m g2
      simp only [Nat.zero_add]
      exact q
  · rcases Nat.lt_or_ge t (vbU v).length with g | g
    · obtain ⟨_, q⟩ := hat t g
      rw [q] at e
      exact (h3 _ (List.getElem_mem _)).2 e
    · have : t = (vbU v).length := by omega
      subst this
      rw [hsp] at e
      exact absurd e (by decide)
theorem vb_text {bs : Bs} {v : Nat} (hv : v < 9) (hs : fdM bs 32 0 < bs.length) (h : part bs 0 (fdM bs 32 0) = vbU v) : textAt bs (vbT v) 0 = true := by
  obtain ⟨h1, h2, h3⟩ := vb_sp v hv
  have hl : fdM bs 32 0 = (vbU v).length := by
    rw [← h, part_len]
    omega
  obtain ⟨_, hc⟩ := fdM_in hs
  unfold textAt
  rw [decide_eq_true_eq]
  refine ⟨by omega, ?_⟩
  rw [Nat.zero_add, h1, h2]
  have e : part bs 0 ((vbU v).length + 1) = part bs 0 (vbU v).length ++ [bs[(vbU v).length]'(by omega)] := by
    unfold part
    rw [List.drop_zero, List.drop_zero, List.take_append_getElem (by omega)]
  have e2 : bs[(vbU v).length]'(by omega) = 32 := by
    have hc' := (ni_u8 (n := 32) (by decide)).mp hc
    simp only [hl] at hc'
    exact UInt8.toNat_inj.mp hc'
  rw [hl] at h
  rw [e, h, e2]
theorem find_eq {α : Type} {l : List α} {f g : α → Bool} (h : ∀ x ∈ l, f x = g x) : l.find? f = l.find? g := by
  induction l with
  | nil => rfl
  | cons x l ih =>
    rw [List.find?_cons, List.find?_cons, h x List.mem_cons_self, ih (fun y hy => h y (List.mem_cons_of_mem _ hy))]
theorem ok_no {p : Bs} (h : pathOK p = true) : ∀ c ∈ p, c.toNat ≠ 32 ∧ c.toNat ≠ 10 := by
  by_cases e : p = [47]
  · subst e
    decide
  · have hv := vp_ok h
    rw [rp_ne e] at hv
    rcases hv with rfl | ⟨l, rfl, h2, -⟩
    · cases h
    · intro c hc
      rcases List.mem_cons.mp hc with rfl | hc
      · decide
      · rcases pV_chr l 0 0 h2 c hc with q | q
        · omega
        · have := of_decide_eq_true q
          omega
/-- what both make of the text: nothing, or the same -/
def relQ (bs : Bs) (a : Option (Nat × Bs × Hs × Bs)) (b : Option RM) : Prop := match a, b with
  | none, none => True
  | some (v, p, h, bd), some (m, p', t, hs, vl, bo) => v = m ∧ v < 9 ∧ p' = rp p ∧ pathOK p = true ∧ HRh h t hs vl ∧ bd = part bs bo bs.length ∧ bo ≤ bs.length ∧ bs.length - bo ≤ 80 ∧ (h.2.1 ≠ 1 ∨ v = 8) ∧ ((v = 4 ∨ v = 5) → bitN hs 1 = true) ∧ (v = 7 → bitN hs 5 = true) ∧ (v = 5 → bitN hs 0 = false)
  | _, _ => False
theorem fit_eq : ∀ v, v < 9 → ∀ n, n < 256 → (decide (nI n &&& nI (needN v) = nI (needN v)) = decide ((¬ (v = 4 ∨ v = 5) ∨ bitN n 1 = true) ∧ (v ≠ 7 ∨ bitN n 5 = true))) := by decide +kernel
theorem may_eq : ∀ v, v < 9 → MAYv.getD v 0 = nI (usedN v) := by decide
theorem fin_eq {v hs dp : Nat} {vl : Nat → Int32} {n : Nat} (hv : v < 9) (hh : hs < 256) (hd : (bitN hs 0 = true ∧ ((dp = 0 ∧ vl 0 = nI 0) ∨ (dp = 1 ∧ vl 0 = nI 1) ∨ (dp = 2 ∧ vl 0 = -1))) ∨ (bitN hs 0 = false ∧ dp = 2)) : (fitB (nI hs) v dp && decide (n ≤ if v = 1 then 80 else 0)) = finM v hs vl n := by
  unfold fitB finM
  rw [may_eq v hv, fit_eq v hv hs hh]
  have h1 : decide (dp ≠ 1 ∨ v = 8) = decide (bitN hs 0 = false ∨ ¬ vl 0 = nI 1 ∨ v = 8) := by
    rw [decide_eq_decide]
    rcases hd with ⟨h0, (⟨h, q⟩ | ⟨h, q⟩ | ⟨h, q⟩)⟩ | ⟨h0, h⟩
    · rw [h0, h, q]; simp; left; decide
    · rw [h0, h, q]; simp
    · rw [h0, h, q]; simp; left; decide
    · rw [h0, h]; simp
  have h2 : decide (n ≤ if v = 1 then 80 else 0) = decide (n ≤ 80 ∧ (n = 0 ∨ v = 1)) := by
    rw [decide_eq_decide]
    by_cases e : v = 1
    · rw [if_pos e]; simp [e]
    · rw [if_neg e]; simp [e]; omega
  rw [h1, h2, ← Bool.decide_and, ← Bool.decide_and, ← Bool.decide_and, decide_eq_decide]
  constructor
  · rintro ⟨⟨⟨a, b⟩, c⟩, d⟩
    exact ⟨d.1, d.2, a, b.1, b.2, c⟩
  · rintro ⟨a, b, c, d, e, f⟩
    exact ⟨⟨⟨c, d, e⟩, f⟩, a, b⟩
theorem HR_0 (c : Nat) (ta : Bs) (vl : Nat → Int32) : HRh (h0S c) ta 0 vl := by
  refine ⟨rfl, by decide, fun q => absurd q (by decide), Or.inr ⟨by decide, rfl⟩, Or.inr ⟨by decide, rfl⟩, fun q => absurd q (by decide), Or.inr ⟨by decide, rfl⟩, Or.inr ⟨by decide, rfl⟩, Or.inr ⟨by decide, rfl⟩⟩
theorem dav_no : ∀ i : Nat, i < 4 → ∀ h : i < t_dav.length, t_dav[i].toNat ≠ 10 := by decide
/-- the first line, of both -/
theorem fl_rel {bs : Bs} : (flS bs = none ∧ (∀ ta vl, reM bs ta vl = none)) ∨ ∃ v p c, flS bs = some (v, p, c) ∧ v < 9 ∧ pathOK p = true ∧ c ≤ bs.length ∧ ∀ ta vl, reM bs ta vl = endM bs v (rp p) (hlM bs (bs.length + 1) c ta 0 vl) := by
  by_cases hsp : fdM bs 32 0 < bs.length
  · have hf : (List.range 9).find? (fun j => textAt bs (vbT j) 0) = (List.range 9).find? (fun k => decide (part bs 0 (fdM bs 32 0) = vbU k)) := by
      apply find_eq
      intro v hv
      have hv9 := List.mem_range.mp hv
      rw [Bool.eq_iff_iff, decide_eq_true_eq]
      constructor
      · intro h
        obtain ⟨k1, k2, -⟩ := text_vb hv9 h
        rw [fdM_some k1]
        exact k2
      · exact vb_text hv9 hsp
    cases hfv : (List.range 9).find? (fun j => textAt bs (vbT j) 0) with
    | none =>
      left
      refine ⟨flS_n hfv, fun ta vl => ?_⟩
      unfold reM
      rw [← hf, hfv]
      split <;> rfl
    | some v =>
      have hv9 : v < 9 := List.mem_range.mp (List.mem_of_find?_eq_some hfv)
      have htx := List.find?_some hfv
      obtain ⟨k1, k2, k3⟩ := text_vb hv9 htx
      obtain ⟨q1, q2, q3⟩ := vb_sp v hv9
      have hs1 := fdM_some k1
      have hkl := (idxO_lt k1).2.1
      cases hm : idxO bs (nI 32) (vbT v).length with
      | none =>
        left
        refine ⟨flS_m hfv hm, fun ta vl => ?_⟩
        unfold reM
        rw [hs1, ← q1, fdM_none hm, if_neg (by omega)]
      | some m =>
        obtain ⟨m1, m2, m3⟩ := idxO_lt hm
        have hs2 : fdM bs 32 (fdM bs 32 0 + 1) = m := by rw [hs1, ← q1, fdM_some hm]
        by_cases hok : (textAt bs t_dav m && pathOK (part bs (vbT v).length m)) = true
        · right
          rw [Bool.and_eq_true] at hok
          have hle := text_le hok.1
          have h4 : t_dav.length = 5 := rfl
          have hlf : ∃ hb : m + 4 < bs.length, bs[m + 4] = 10 := text_in hok.1 (m := 4) (by decide)
          obtain ⟨hb4, hlf⟩ := hlf
          have hno : ∀ (t : Nat) (ht : t < bs.length), 0 ≤ t → t < m + 4 → ¬ nI bs[t].toNat = nI 10 := by
            intro t ht _ ht2 e
            rw [ni_u8 (by decide)] at e
            rcases Nat.lt_or_ge (vbU v).length t with g | g
            · rcases Nat.lt_or_ge t m with g2 | g2
              · have hin : bs[t] ∈ part bs (vbT v).length m := by
                  have hl : t - (vbT v).length < (part bs (vbT v).length m).length := by rw [part_len]; omega
                  have := part_get hl (show (vbT v).length + (t - (vbT v).length) < bs.length by omega)
                  have e9 : (vbT v).length + (t - (vbT v).length) = t := by omega
                  simp only [e9] at this
                  rw [← this]
                  exact List.getElem_mem _
                exact (ok_no hok.2 _ hin).2 e
              · obtain ⟨_, z⟩ := text_in hok.1 (m := t - m) (by rw [h4]; omega)
                have e9 : m + (t - m) = t := by omega
                simp only [e9] at z
                rw [z] at e
                exact dav_no (t - m) (by omega) (by rw [h4]; omega) e
            · exact k3 t ht g e
          have hlf0 : fdM bs 10 0 = m + 4 := fdM_some (idxO_of (Nat.zero_le _) hb4 (by rw [hlf]; rfl) hno)
          have hdav : part bs (m + 1) (m + 4) = t_DAV := by
            apply List.ext_getElem
            · rw [part_len]
              show min (m + 4) bs.length - (m + 1) = 3
              omega
            · intro i g1 g2
              have g3 : i < 3 := g2
              rw [part_get g1 (by omega)]
              obtain ⟨_, z⟩ := text_in hok.1 (m := i + 1) (by rw [h4]; omega)
              have e9 : m + (i + 1) = m + 1 + i := by omega
              simp only [e9] at z
              rw [z]
              rcases (show i = 0 ∨ i = 1 ∨ i = 2 by omega) with rfl | rfl | rfl <;> rfl
          refine ⟨v, part bs (vbT v).length m, m + 5, ?_, hv9, hok.2, by omega, fun ta vl => ?_⟩
          · rw [flS_s hfv hm, if_pos (by rw [hok.1, hok.2]; rfl)]
          · unfold reM
            rw [hs2, hlf0, if_pos ⟨m2, hb4, by omega, hdav⟩, ← hf, hfv]
            simp only []
            rw [hs1, ← q1, if_pos hok.2]
        · left
          refine ⟨by rw [flS_s hfv hm, if_neg hok], fun ta vl => ?_⟩
          unfold reM
          rw [hs2, hs1, ← q1]
          by_cases hc : m < bs.length ∧ fdM bs 10 0 < bs.length ∧ m ≤ fdM bs 10 0 ∧ part bs (m + 1) (fdM bs 10 0) = t_DAV
          · obtain ⟨c1, c2, c3, c4⟩ := hc
            rw [if_pos ⟨c1, c2, c3, c4⟩]
            have hl3 : fdM bs 10 0 - (m + 1) = 3 := by
              have := congrArg List.length c4
              rw [part_len] at this
              have h3 : t_DAV.length = 3 := rfl
              omega
            have hfl : fdM bs 10 0 = m + 4 := by omega
            have htd : textAt bs t_dav m = true := by
              unfold textAt
              rw [decide_eq_true_eq]
              refine ⟨by show m + 5 ≤ _; omega, ?_⟩
              apply List.ext_getElem
              · rw [part_len]
                show min (m + 5) bs.length - m = 5
                omega
              · intro i g1 g2
                have g3 : i < 5 := g2
                rw [part_get g1 (by omega)]
                obtain ⟨_, z10⟩ := fdM_in c2
                have z10' := (ni_u8 (n := 10) (by decide)).mp z10
                simp only [hfl] at z10' c4
                have m3' := (ni_u8 (n := 32) (by decide)).mp m3
                rcases (show i = 0 ∨ i = 1 ∨ i = 2 ∨ i = 3 ∨ i = 4 by omega) with rfl | rfl | rfl | rfl | rfl
                · exact UInt8.toNat_inj.mp m3'
                · obtain ⟨_, z⟩ := part_at c4 (k := 0) (by decide) (by omega)
                  exact z
                · obtain ⟨_, z⟩ := part_at c4 (k := 1) (by decide) (by omega)
                  exact z
                · obtain ⟨_, z⟩ := part_at c4 (k := 2) (by decide) (by omega)
                  exact z
                · exact UInt8.toNat_inj.mp z10'
            have hp : ¬ pathOK (part bs (vbT v).length m) = true := fun h => hok (by rw [htd, h]; rfl)
            cases (List.range 9).find? (fun k => decide (part bs 0 (vbU v).length = vbU k)) with
            | none => rfl
            | some k =>
              simp only []
              rw [if_neg hp]
          · rw [if_neg hc]
  · left
    refine ⟨?_, fun ta vl => ?_⟩
    · apply flS_n
      rw [List.find?_eq_none]
      intro v hv h
      obtain ⟨k1, -, -⟩ := text_vb (List.mem_range.mp hv) h
      rw [fdM_some k1] at hsp
      exact hsp (idxO_lt k1).2.1
    · unfold reM
      rw [if_neg]
      rintro ⟨h, -⟩
      have := (fdM_le (bs := bs) (c := 32) (k := fdM bs 32 0 + 1)).1
      omega
theorem mv_0 : ∀ n, n < 256 → nI n &&& (MAYv.getD 5 0 ^^^ -1) = 0 → bitN n 0 = false := by decide +kernel
theorem ask_rel {bs : Bs} (hl : bs.length ≤ 400) (ta : Bs) (vl : Nat → Int32) : relQ bs (askS bs) (reM bs ta vl) := by
  rcases fl_rel (bs := bs) with ⟨h1, h2⟩ | ⟨v, p, c, h1, h2, h3, h4, h5⟩
  · rw [h2, askS_1 h1]
    exact True.intro
  · rw [h5]
    have hr := hs_rel (bs := bs) (by omega) 9 (bs.length + 1) (h0S c) ta 0 vl c (HR_0 c ta vl) rfl (by have := pc8 0; omega) (by omega) h4
    cases hh : hsF bs 9 (h0S c) with
    | none =>
      rw [hh] at hr
      rw [askS_2 h1 hh]
      cases hm : hlM bs (bs.length + 1) c ta 0 vl with
      | none => exact True.intro
      | some q =>
        rw [hm] at hr
        exact hr.elim
    | some h =>
      rw [hh] at hr
      cases hm : hlM bs (bs.length + 1) c ta 0 vl with
      | none =>
        rw [hm] at hr
        exact hr.elim
      | some q =>
        obtain ⟨ta', hs', vl', at_⟩ := q
        rw [hm] at hr
        obtain ⟨g1, g2, g3⟩ := hr
        rw [askS_3 h1 hh, g2, g1.1, fin_eq h2 g1.2.1 g1.2.2.2.1, endM]
        by_cases hf : finM v hs' vl' (bs.length - (at_ + 1)) = true
        · rw [if_pos hf, if_pos hf]
          have hf' := of_decide_eq_true hf
          refine ⟨rfl, h2, rfl, h3, g1, rfl, by omega, by omega, ?_, ?_, ?_, fun hv => mv_0 hs' g1.2.1 (by have q := hf'.2.2.1; rw [hv] at q; exact q)⟩
          · have hfe := hf
            rw [← fin_eq (dp := h.2.1) h2 g1.2.1 g1.2.2.2.1, Bool.and_eq_true] at hfe
            have hq := hfe.1
            unfold fitB at hq
            rw [Bool.and_eq_true] at hq
            exact of_decide_eq_true hq.2
          · intro hv
            rcases hf'.2.2.2.1 with q | q
            · exact absurd hv q
            · exact q
          · intro hv
            rcases hf'.2.2.2.2.1 with q | q
            · exact absurd hv q
            · exact q
        · rw [if_neg hf, if_neg hf]
          exact True.intro
