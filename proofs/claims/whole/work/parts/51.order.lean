/-! the order of the reference's paths, and what comes next in it -/
theorem i32_irr {a : Int32} (h : a < a) : False := by
  rw [Int32.lt_iff_toInt_lt] at h
  omega
theorem ltS_irr : ∀ a : Bs, ltS a a = false := by
  intro a
  induction a with
  | nil => rfl
  | cons x l ih => rw [ltS, if_pos rfl, ih]
theorem ltS_tr : ∀ {a b c : Bs}, ltS a b = true → ltS b c = true → ltS a c = true := by
  intro a
  induction a with
  | nil =>
    intro b c h1 h2
    cases b with
    | nil => cases h1
    | cons y r =>
      cases c with
      | nil => cases h2
      | cons z q => rfl
  | cons x l ih =>
    intro b c h1 h2
    cases b with
    | nil => cases h1
    | cons y r =>
      cases c with
      | nil => cases h2
      | cons z q =>
        rw [ltS] at h1 h2 ⊢
        by_cases e1 : x = y
        · subst e1
          rw [if_pos rfl] at h1
          by_cases e2 : x = z
          · subst e2
            rw [if_pos rfl] at h2 ⊢
            exact ih h1 h2
          · rw [if_neg e2] at h2 ⊢
            exact h2
        · rw [if_neg e1] at h1
          have g1 := of_decide_eq_true h1
          by_cases e2 : y = z
          · subst e2
            rw [if_neg e1]
            exact h1
          · rw [if_neg e2] at h2
            have g2 := of_decide_eq_true h2
            have g3 := Int32.lt_trans g1 g2
            rw [if_neg (fun e => by rw [e] at g3; exact i32_irr g3)]
            exact decide_eq_true g3
theorem ltS_tri : ∀ {a b : Bs}, ltS a b = false → ltS b a = false → a = b := by
  intro a
  induction a with
  | nil =>
    intro b h1 h2
    cases b with
    | nil => rfl
    | cons y r => cases h1
  | cons x l ih =>
    intro b h1 h2
    cases b with
    | nil => cases h2
    | cons y r =>
      rw [ltS] at h1 h2
      by_cases e1 : x = y
      · subst e1
        rw [if_pos rfl] at h1 h2
        rw [ih h1 h2]
      · rw [if_neg e1] at h1
        rw [if_neg (Ne.symm e1)] at h2
        have g1 := of_decide_eq_false h1
        have g2 := of_decide_eq_false h2
        exact absurd (ub_inj.mp (Int32.le_antisymm (Int32.not_lt.mp g2) (Int32.not_lt.mp g1))) e1
def insM (x : Me) : List Me → List Me
  | [] => [x]
  | y :: l => if ltS x.1 y.1 = true then x :: y :: l else y :: insM x l
def srt (ms : List Me) : List Me := ms.foldr insM []
theorem insM_perm (x : Me) : ∀ l : List Me, (insM x l).Perm (x :: l) := by
  intro l
  induction l with
  | nil => exact List.Perm.refl _
  | cons y l ih =>
    rw [insM]
    split
    · exact List.Perm.refl _
    · exact (List.Perm.cons y ih).trans (List.Perm.swap x y l)
theorem srt_perm (ms : List Me) : (srt ms).Perm ms := by
  induction ms with
  | nil => exact List.Perm.refl _
  | cons x l ih => exact (insM_perm x _).trans (List.Perm.cons x ih)
def ndM (ms : List Me) : Prop := (ms.map (fun x : Me => x.1)).Nodup
def sdM (xs : List Me) : Prop := xs.Pairwise (fun x y : Me => ltS x.1 y.1 = true)
theorem insM_sd (x : Me) : ∀ l : List Me, sdM l → (∀ y ∈ l, x.1 ≠ y.1) → sdM (insM x l) := by
  intro l
  induction l with
  | nil => intro _ _; exact List.pairwise_singleton _ _
  | cons y l ih =>
    intro hs hn
    rw [insM]
    have hs' := List.pairwise_cons.mp hs
    split
    · rename_i h
      refine List.pairwise_cons.mpr ⟨fun z hz => ?_, hs⟩
      rcases List.mem_cons.mp hz with e | e
      · rw [e]
        exact h
      · exact ltS_tr h (hs'.1 z e)
    · rename_i h
      refine List.pairwise_cons.mpr ⟨fun z hz => ?_, ih hs'.2 (fun y hy => hn y (List.mem_cons_of_mem _ hy))⟩
      rcases List.mem_cons.mp ((insM_perm x l).mem_iff.mp hz) with e | e
      · rw [e]
        cases g : ltS y.1 x.1 with
        | true => rfl
        | false => exact absurd (ltS_tri (Bool.eq_false_iff.mpr h) g) (hn y List.mem_cons_self)
      · exact hs'.1 z e
theorem srt_sd {ms : List Me} (h : ndM ms) : sdM (srt ms) := by
  induction ms with
  | nil => exact List.Pairwise.nil
  | cons x l ih =>
    rw [ndM, List.map_cons, List.nodup_cons] at h
    refine insM_sd x _ (ih h.2) (fun y hy e => h.1 ?_)
    rw [e]
    exact List.mem_map_of_mem ((srt_perm l).mem_iff.mp hy)
/-- the best is the least of those that are asked for -/
theorem best_min {ms : List Me} {q : Me → Bool} : ∀ {k j : Nat}, bestF ms q k = some j → ∀ (hj : j < ms.length) (m : Nat) (hm : m < ms.length), m < k → q ms[m] = true → ltS ms[m].1 ms[j].1 = false := by
  intro k
  induction k with
  | zero =>
    intro j h
    cases h
  | succ k ih =>
    intro j h hj m hm hmk hqm
    rcases Nat.lt_or_ge k ms.length with hk | hk
    · cases hq : q ms[k] with
      | false =>
        rw [best_no hk hq] at h
        rcases Nat.lt_or_ge m k with g | g
        · exact ih h hj m hm g hqm
        · have e : m = k := by omega
          subst e
          rw [hq] at hqm
          cases hqm
      | true =>
        cases hb : bestF ms q k with
        | none =>
          rw [best_0 hk hq hb] at h
          cases h
          rcases Nat.lt_or_ge m k with g | g
          · exfalso
            have hn : ∀ (k : Nat), bestF ms q k = none → ∀ (m : Nat) (hm : m < ms.length), m < k → q ms[m] = false := by
              intro k
              induction k with
              | zero => intro _ m _ g; exact absurd g (Nat.not_lt_zero _)
              | succ k ih2 =>
                intro hb m hm g
                rcases Nat.lt_or_ge k ms.length with hk | hk
                · cases hq : q ms[k] with
                  | false =>
                    rw [best_no hk hq] at hb
                    rcases Nat.lt_or_ge m k with g2 | g2
                    · exact ih2 hb m hm g2
                    · have e : m = k := by omega
                      subst e
                      exact hq
                  | true =>
                    cases hb2 : bestF ms q k with
                    | none =>
                      rw [best_0 hk hq hb2] at hb
                      cases hb
                    | some i =>
                      obtain ⟨h1, h2, h3⟩ := best_lt hb2
                      rw [best_s hk hq hb2 h2] at hb
                      split at hb <;> cases hb
                · rw [bestF] at hb
                  simp only [List.getElem?_eq_none hk] at hb
                  exact ih2 hb m hm (by omega)
            rw [hn k hb m hm g] at hqm
            cases hqm
          · have e : m = k := by omega
            subst e
            exact ltS_irr _
        | some i =>
          obtain ⟨h1, h2, h3⟩ := best_lt hb
          rw [best_s hk hq hb h2] at h
          split at h
          · rename_i hl
            cases h
            rcases Nat.lt_or_ge m k with g | g
            · have z := ih hb h2 m hm g hqm
              cases g2 : ltS ms[m].1 ms[k].1 with
              | false => rfl
              | true =>
                rw [ltS_tr g2 hl] at z
                cases z
            · have e : m = k := by omega
              subst e
              exact ltS_irr _
          · rename_i hl
            cases h
            rcases Nat.lt_or_ge m k with g | g
            · exact ih hb h2 m hm g hqm
            · have e : m = k := by omega
              subst e
              exact Bool.eq_false_iff.mpr hl
    · rw [bestF] at h
      simp only [List.getElem?_eq_none hk] at h
      exact ih h hj m hm (by omega) hqm
theorem best_some {ms : List Me} {q : Me → Bool} : ∀ {k m : Nat} (hm : m < ms.length), m < k → q ms[m] = true → ∃ j, bestF ms q k = some j := by
  intro k
  induction k with
  | zero => intro m _ g; exact absurd g (Nat.not_lt_zero _)
  | succ k ih =>
    intro m hm g hqm
    rcases Nat.lt_or_ge k ms.length with hk | hk
    · cases hq : q ms[k] with
      | false =>
        rw [best_no hk hq]
        rcases Nat.lt_or_ge m k with g2 | g2
        · exact ih hm g2 hqm
        · have e : m = k := by omega
          subst e
          rw [hq] at hqm
          cases hqm
      | true =>
        cases hb : bestF ms q k with
        | none => exact ⟨k, best_0 hk hq hb⟩
        | some i =>
          obtain ⟨h1, h2, h3⟩ := best_lt hb
          rw [best_s hk hq hb h2]
          split
          · exact ⟨k, rfl⟩
          · exact ⟨i, rfl⟩
    · rw [bestF]
      simp only [List.getElem?_eq_none hk]
      exact ih hm (by omega) hqm
/-- the sorted row is what comes, one after the other -/
theorem sch_sd {ms : List Me} {g : Me → Bool} {xs : List Me} (hp : xs.Perm ms) (hs : sdM xs) : ∀ (n : Nat) (la : Option Bs), (xs.filter (selQ g la)).length = n → sch ms g la (xs.filter (selQ g la)) := by
  intro n
  induction n with
  | zero =>
    intro la hl
    have e := List.eq_nil_of_length_eq_zero hl
    rw [e]
    show bestF ms (selQ g la) ms.length = none
    cases hb : bestF ms (selQ g la) ms.length with
    | none => rfl
    | some j =>
      obtain ⟨_, h2, h3⟩ := best_lt hb
      have hm : ms[j] ∈ xs.filter (selQ g la) := List.mem_filter.mpr ⟨hp.mem_iff.mpr (List.getElem_mem h2), h3⟩
      rw [e] at hm
      cases hm
  | succ n ih =>
    intro la hl
    cases hx : xs.filter (selQ g la) with
    | nil =>
      rw [hx] at hl
      cases hl
    | cons x r =>
      have hxm : x ∈ xs.filter (selQ g la) := by rw [hx]; exact List.mem_cons_self
      obtain ⟨hx1, hx2⟩ := List.mem_filter.mp hxm
      obtain ⟨m, hm, hme⟩ := List.getElem_of_mem (hp.mem_iff.mp hx1)
      obtain ⟨j, hj⟩ := best_some (q := selQ g la) (k := ms.length) hm hm (by rw [hme]; exact hx2)
      obtain ⟨_, h2, h3⟩ := best_lt hj
      have hsf : sdM (x :: r) := by
        rw [← hx]
        exact List.Pairwise.filter _ hs
      have hsf' := List.pairwise_cons.mp hsf
      have hjx : ms[j] = x := by
        have hmj : ms[j] ∈ xs.filter (selQ g la) := List.mem_filter.mpr ⟨hp.mem_iff.mpr (List.getElem_mem h2), h3⟩
        rw [hx] at hmj
        rcases List.mem_cons.mp hmj with e | e
        · exact e
        · have z := best_min hj h2 m hm hm (by rw [hme]; exact hx2)
          rw [hme, hsf'.1 _ e] at z
          cases z
      have hr : xs.filter (selQ g (some x.1)) = r := by
        have e1 : xs.filter (selQ g (some x.1)) = (xs.filter (selQ g la)).filter (fun y : Me => ltS x.1 y.1) := by
          rw [List.filter_filter]
          apply List.filter_congr
          intro y hy
          cases hg : g y with
          | false => simp only [selQ, hg, Bool.false_and, Bool.and_false]
          | true =>
            simp only [selQ, hg, Bool.true_and]
            cases hl2 : ltS x.1 y.1 with
            | false => rfl
            | true =>
              cases la with
              | none => rfl
              | some a =>
                rw [selQ, Bool.and_eq_true] at hx2
                simp only [Bool.true_and, ltS_tr hx2.2 hl2]
        rw [e1, hx, List.filter_cons]
        rw [if_neg (by rw [ltS_irr]; decide)]
        exact List.filter_eq_self.mpr (fun y hy => hsf'.1 y hy)
      refine ⟨j, h2, hj, hjx, ?_⟩
      rw [← hr]
      apply ih
      rw [hr]
      rw [hx, List.length_cons] at hl
      omega
theorem selQ_none {g : Me → Bool} : selQ g none = g := by
  funext x
  rw [selQ]
  simp
theorem sch_srt {ms : List Me} (g : Me → Bool) (h : ndM ms) : sch ms g none ((srt ms).filter g) := by
  have e := sch_sd (g := g) (srt_perm ms) (srt_sd h) _ none rfl
  rw [selQ_none] at e
  exact e
