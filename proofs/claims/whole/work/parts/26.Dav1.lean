theorem isTT.h {K : gK} {E : gE} {q : Nat} {lt : Int32} {rs : List Re} (h : isTT K E q lt rs) : E q = .inr (5, [.ref (ka K (q + 1)), .int (nI rs.length), .int lt]) := by
  obtain ⟨π, v, f, h, -⟩ := h
  exact h
theorem isTT.le {K : gK} {E : gE} {q : Nat} {lt : Int32} {rs : List Re} (h : isTT K E q lt rs) : rs.length ≤ 41 := by
  obtain ⟨π, v, f, -, -, -, -, -, h, -⟩ := h
  exact h
theorem isLL.h {K : gK} {E : gE} {q : Nat} {lt : Int32} {ls : List Lk} (h : isLL K E q lt ls) : E q = .inr (2, [.ref (ka K (q + 1)), .int (nI ls.length), .int lt]) := by
  obtain ⟨π, v, f, h, -⟩ := h
  exact h
theorem isLL.le {K : gK} {E : gE} {q : Nat} {lt : Int32} {ls : List Lk} (h : isLL K E q lt ls) : ls.length ≤ 10 := by
  obtain ⟨π, v, f, -, -, -, -, -, h, -⟩ := h
  exact h
theorem wordB_len (w : Int32) : (wordB w).length = 4 := rfl
theorem i32_nat {w : Int32} {n : Nat} (hn : n < 2 ^ 31) (h1 : ¬ w < 0) (h2 : w ≤ nI n) : ∃ j, j ≤ n ∧ w = nI j := nI_of2 (nI_toInt hn) h1 h2
/-- a small number, or not -/
theorem i32_split (n : Nat) (hn : n < 2 ^ 30) (w : Int32) : (∃ k, k ≤ n ∧ w = nI k) ∨ ((¬ ∃ k, k ≤ n ∧ w = nI k) ∧ (w.toInt < 0 ∨ (n : Int) < w.toInt)) := by
  by_cases h : w < 0
  · refine Or.inr ⟨fun ⟨k, hk, e⟩ => ?_, Or.inl ?_⟩
    · rw [e] at h
      exact nI_pos (by omega) h
    · rw [Int32.lt_iff_toInt_lt] at h
      simpa using h
  · by_cases h2 : w ≤ nI n
    · exact Or.inl (i32_nat (by omega) h h2)
    · refine Or.inr ⟨fun ⟨k, hk, e⟩ => ?_, Or.inr ?_⟩
      · rw [e, nI_leI (by omega) (by omega)] at h2
        omega
      · rw [Int32.le_iff_toInt_le, nI_toInt (by omega)] at h2
        omega
theorem rng_lo {w n : Int32} (h : w < 0) : ¬ (decide (¬ w < 0) && decide (w ≤ n)) = true := by
  rw [decide_eq_false (fun z => z h), Bool.false_and]
  decide
theorem rng_hi {w n : Int32} (h : ¬ w ≤ n) : ¬ (decide (¬ w < 0) && decide (w ≤ n)) = true := by
  rw [decide_eq_false h, Bool.and_false]
  decide

/-- the class's object at x with all that it holds -/
def isD (K : gK) (E : gE) (x : Nat) (tp os pa ta ba : Bs) (vb dp : Nat) (ma tk tm : Int32) (an sp al : Bool) (se : Int32) (cu : Nat) (vt : Int32) (rs : List Re) (kt : Int32) (krs : List Re) (lt : Int32) (ls : List Lk) (kl : Int32) (kls : List Lk) (ck : Int32) : Prop := E x = .inr (6, [.ref (ka K (x + 1)), .ref (ka K (x + 3)), .ref (ka K (x + 5)), .ref (ka K (x + 12)), .ref (ka K (x + 219)), .ref (ka K (x + 426)), .ref (ka K (x + 458)), .int ck]) ∧ isB K E (x + 1) 400 tp ∧ isB K E (x + 3) 400 os ∧ isQ K E (x + 5) pa ta ba vb dp ma tk tm an sp al se cu ∧ isTT K E (x + 12) vt rs ∧ isTT K E (x + 219) kt krs ∧ isLL K E (x + 426) lt ls ∧ isLL K E (x + 458) kl kls ∧ x + 490 ≤ kN K
theorem isD.tape {K : gK} {E E' : gE} {x : Nat} {tp os pa ta ba : Bs} {vb dp : Nat} {ma tk tm : Int32} {an sp al : Bool} {se : Int32} {cu : Nat} {vt : Int32} {rs : List Re} {kt : Int32} {krs : List Re} {lt : Int32} {ls : List Lk} {kl : Int32} {kls : List Lk} {ck : Int32} (h : isD K E x tp os pa ta ba vb dp ma tk tm an sp al se cu vt rs kt krs lt ls kl kls ck) {tp' : Bs} (hf : frN (x + 1) 2 E E') (hn : isB K E' (x + 1) 400 tp') : isD K E' x tp' os pa ta ba vb dp ma tk tm an sp al se cu vt rs kt krs lt ls kl kls ck := ⟨(hf x (by omega)).trans h.1, hn, h.2.2.1.out hf (by omega), h.2.2.2.1.out hf (by omega), h.2.2.2.2.1.out hf (by omega), h.2.2.2.2.2.1.out hf (by omega), h.2.2.2.2.2.2.1.out hf (by omega), h.2.2.2.2.2.2.2.1.out hf (by omega), h.2.2.2.2.2.2.2.2⟩
theorem isD.outp {K : gK} {E E' : gE} {x : Nat} {tp os pa ta ba : Bs} {vb dp : Nat} {ma tk tm : Int32} {an sp al : Bool} {se : Int32} {cu : Nat} {vt : Int32} {rs : List Re} {kt : Int32} {krs : List Re} {lt : Int32} {ls : List Lk} {kl : Int32} {kls : List Lk} {ck : Int32} (h : isD K E x tp os pa ta ba vb dp ma tk tm an sp al se cu vt rs kt krs lt ls kl kls ck) {os' : Bs} (hf : frN (x + 3) 2 E E') (hn : isB K E' (x + 3) 400 os') : isD K E' x tp os' pa ta ba vb dp ma tk tm an sp al se cu vt rs kt krs lt ls kl kls ck := ⟨(hf x (by omega)).trans h.1, h.2.1.out hf (by omega), hn, h.2.2.2.1.out hf (by omega), h.2.2.2.2.1.out hf (by omega), h.2.2.2.2.2.1.out hf (by omega), h.2.2.2.2.2.2.1.out hf (by omega), h.2.2.2.2.2.2.2.1.out hf (by omega), h.2.2.2.2.2.2.2.2⟩
theorem isD.ask {K : gK} {E E' : gE} {x : Nat} {tp os pa ta ba : Bs} {vb dp : Nat} {ma tk tm : Int32} {an sp al : Bool} {se : Int32} {cu : Nat} {vt : Int32} {rs : List Re} {kt : Int32} {krs : List Re} {lt : Int32} {ls : List Lk} {kl : Int32} {kls : List Lk} {ck : Int32} (h : isD K E x tp os pa ta ba vb dp ma tk tm an sp al se cu vt rs kt krs lt ls kl kls ck) {pa' : Bs} {ta' : Bs} {ba' : Bs} {vb' : Nat} {dp' : Nat} {ma' : Int32} {tk' : Int32} {tm' : Int32} {an' : Bool} {sp' : Bool} {al' : Bool} {se' : Int32} {cu' : Nat} (hf : frN (x + 5) 7 E E') (hn : isQ K E' (x + 5) pa' ta' ba' vb' dp' ma' tk' tm' an' sp' al' se' cu') : isD K E' x tp os pa' ta' ba' vb' dp' ma' tk' tm' an' sp' al' se' cu' vt rs kt krs lt ls kl kls ck := ⟨(hf x (by omega)).trans h.1, h.2.1.out hf (by omega), h.2.2.1.out hf (by omega), hn, h.2.2.2.2.1.out hf (by omega), h.2.2.2.2.2.1.out hf (by omega), h.2.2.2.2.2.2.1.out hf (by omega), h.2.2.2.2.2.2.2.1.out hf (by omega), h.2.2.2.2.2.2.2.2⟩
theorem isD.tree {K : gK} {E E' : gE} {x : Nat} {tp os pa ta ba : Bs} {vb dp : Nat} {ma tk tm : Int32} {an sp al : Bool} {se : Int32} {cu : Nat} {vt : Int32} {rs : List Re} {kt : Int32} {krs : List Re} {lt : Int32} {ls : List Lk} {kl : Int32} {kls : List Lk} {ck : Int32} (h : isD K E x tp os pa ta ba vb dp ma tk tm an sp al se cu vt rs kt krs lt ls kl kls ck) {vt' : Int32} {rs' : List Re} (hf : frN (x + 12) 207 E E') (hn : isTT K E' (x + 12) vt' rs') : isD K E' x tp os pa ta ba vb dp ma tk tm an sp al se cu vt' rs' kt krs lt ls kl kls ck := ⟨(hf x (by omega)).trans h.1, h.2.1.out hf (by omega), h.2.2.1.out hf (by omega), h.2.2.2.1.out hf (by omega), hn, h.2.2.2.2.2.1.out hf (by omega), h.2.2.2.2.2.2.1.out hf (by omega), h.2.2.2.2.2.2.2.1.out hf (by omega), h.2.2.2.2.2.2.2.2⟩
theorem isD.ktree {K : gK} {E E' : gE} {x : Nat} {tp os pa ta ba : Bs} {vb dp : Nat} {ma tk tm : Int32} {an sp al : Bool} {se : Int32} {cu : Nat} {vt : Int32} {rs : List Re} {kt : Int32} {krs : List Re} {lt : Int32} {ls : List Lk} {kl : Int32} {kls : List Lk} {ck : Int32} (h : isD K E x tp os pa ta ba vb dp ma tk tm an sp al se cu vt rs kt krs lt ls kl kls ck) {kt' : Int32} {krs' : List Re} (hf : frN (x + 219) 207 E E') (hn : isTT K E' (x + 219) kt' krs') : isD K E' x tp os pa ta ba vb dp ma tk tm an sp al se cu vt rs kt' krs' lt ls kl kls ck := ⟨(hf x (by omega)).trans h.1, h.2.1.out hf (by omega), h.2.2.1.out hf (by omega), h.2.2.2.1.out hf (by omega), h.2.2.2.2.1.out hf (by omega), hn, h.2.2.2.2.2.2.1.out hf (by omega), h.2.2.2.2.2.2.2.1.out hf (by omega), h.2.2.2.2.2.2.2.2⟩
theorem isD.lock {K : gK} {E E' : gE} {x : Nat} {tp os pa ta ba : Bs} {vb dp : Nat} {ma tk tm : Int32} {an sp al : Bool} {se : Int32} {cu : Nat} {vt : Int32} {rs : List Re} {kt : Int32} {krs : List Re} {lt : Int32} {ls : List Lk} {kl : Int32} {kls : List Lk} {ck : Int32} (h : isD K E x tp os pa ta ba vb dp ma tk tm an sp al se cu vt rs kt krs lt ls kl kls ck) {lt' : Int32} {ls' : List Lk} (hf : frN (x + 426) 32 E E') (hn : isLL K E' (x + 426) lt' ls') : isD K E' x tp os pa ta ba vb dp ma tk tm an sp al se cu vt rs kt krs lt' ls' kl kls ck := ⟨(hf x (by omega)).trans h.1, h.2.1.out hf (by omega), h.2.2.1.out hf (by omega), h.2.2.2.1.out hf (by omega), h.2.2.2.2.1.out hf (by omega), h.2.2.2.2.2.1.out hf (by omega), hn, h.2.2.2.2.2.2.2.1.out hf (by omega), h.2.2.2.2.2.2.2.2⟩
theorem isD.klock {K : gK} {E E' : gE} {x : Nat} {tp os pa ta ba : Bs} {vb dp : Nat} {ma tk tm : Int32} {an sp al : Bool} {se : Int32} {cu : Nat} {vt : Int32} {rs : List Re} {kt : Int32} {krs : List Re} {lt : Int32} {ls : List Lk} {kl : Int32} {kls : List Lk} {ck : Int32} (h : isD K E x tp os pa ta ba vb dp ma tk tm an sp al se cu vt rs kt krs lt ls kl kls ck) {kl' : Int32} {kls' : List Lk} (hf : frN (x + 458) 32 E E') (hn : isLL K E' (x + 458) kl' kls') : isD K E' x tp os pa ta ba vb dp ma tk tm an sp al se cu vt rs kt krs lt ls kl' kls' ck := ⟨(hf x (by omega)).trans h.1, h.2.1.out hf (by omega), h.2.2.1.out hf (by omega), h.2.2.2.1.out hf (by omega), h.2.2.2.2.1.out hf (by omega), h.2.2.2.2.2.1.out hf (by omega), h.2.2.2.2.2.2.1.out hf (by omega), hn, h.2.2.2.2.2.2.2.2⟩
theorem isD.clock {K : gK} {E E' : gE} {x : Nat} {tp os pa ta ba : Bs} {vb dp : Nat} {ma tk tm : Int32} {an sp al : Bool} {se : Int32} {cu : Nat} {vt : Int32} {rs : List Re} {kt : Int32} {krs : List Re} {lt : Int32} {ls : List Lk} {kl : Int32} {kls : List Lk} {ck : Int32} (h : isD K E x tp os pa ta ba vb dp ma tk tm an sp al se cu vt rs kt krs lt ls kl kls ck) {ck' : Int32} (hf : frN x 1 E E') (hn : E' x = .inr (6, [.ref (ka K (x + 1)), .ref (ka K (x + 3)), .ref (ka K (x + 5)), .ref (ka K (x + 12)), .ref (ka K (x + 219)), .ref (ka K (x + 426)), .ref (ka K (x + 458)), .int ck'])) : isD K E' x tp os pa ta ba vb dp ma tk tm an sp al se cu vt rs kt krs lt ls kl kls ck' := ⟨hn, h.2.1.out hf (by omega), h.2.2.1.out hf (by omega), h.2.2.2.1.out hf (by omega), h.2.2.2.2.1.out hf (by omega), h.2.2.2.2.2.1.out hf (by omega), h.2.2.2.2.2.2.1.out hf (by omega), h.2.2.2.2.2.2.2.1.out hf (by omega), h.2.2.2.2.2.2.2.2⟩
theorem fl_Dav_59 : gFL "DavRoom" 59 0 1 := ⟨_, _, _, rfl, i_Bytes, by decide, tb1 37 rfl rfl, rfl⟩
theorem fl_Dav_78 : gFL "DavRoom" 78 3 0 := ⟨_, _, _, rfl, i_Req, by decide, tb1 56 rfl rfl, rfl⟩
theorem fl_Dav_238 : gFL "DavRoom" 238 3 1 := ⟨_, _, _, rfl, i_Req, by decide, tb1 58 rfl rfl, rfl⟩
theorem fl_Dav_208 : gFL "DavRoom" 208 3 2 := ⟨_, _, _, rfl, i_Req, by decide, tb1 60 rfl rfl, rfl⟩
theorem fl_Dav_89 : gFL "DavRoom" 89 3 3 := ⟨_, _, _, rfl, i_Req, by decide, tb1 62 rfl rfl, rfl⟩
theorem fl_Dav_264 : gFL "DavRoom" 264 3 4 := ⟨_, _, _, rfl, i_Req, by decide, tb1 64 rfl rfl, rfl⟩
theorem fl_Dav_190 : gFL "DavRoom" 190 3 5 := ⟨_, _, _, rfl, i_Req, by decide, tb1 66 rfl rfl, rfl⟩
theorem fl_Dav_213 : gFL "DavRoom" 213 3 6 := ⟨_, _, _, rfl, i_Req, by decide, tb1 68 rfl rfl, rfl⟩
theorem fl_Dav_277 : gFL "DavRoom" 277 3 7 := ⟨_, _, _, rfl, i_Req, by decide, tb1 70 rfl rfl, rfl⟩
theorem fl_Dav_187 : gFL "DavRoom" 187 3 8 := ⟨_, _, _, rfl, i_Req, by decide, tb1 72 rfl rfl, rfl⟩
theorem fl_Dav_248 : gFL "DavRoom" 248 3 9 := ⟨_, _, _, rfl, i_Req, by decide, tb1 74 rfl rfl, rfl⟩
theorem fl_Dav_287 : gFL "DavRoom" 287 3 10 := ⟨_, _, _, rfl, i_Req, by decide, tb1 76 rfl rfl, rfl⟩
theorem fl_Dav_148 : gFL "DavRoom" 148 4 0 := ⟨_, _, _, rfl, i_Res, by decide, tb1 123 rfl rfl, rfl⟩
theorem fl_Dav_145 : gFL "DavRoom" 145 4 1 := ⟨_, _, _, rfl, i_Res, by decide, tb1 126 rfl rfl, rfl⟩
theorem fl_Dav_136 : gFL "DavRoom" 136 4 2 := ⟨_, _, _, rfl, i_Res, by decide, tb1 129 rfl rfl, rfl⟩
theorem fl_Dav_142 : gFL "DavRoom" 142 4 3 := ⟨_, _, _, rfl, i_Res, by decide, tb1 131 rfl rfl, rfl⟩
theorem fl_Dav_174 : gFL "DavRoom" 174 1 0 := ⟨_, _, _, rfl, i_Lock, by decide, tb1 173 rfl rfl, rfl⟩
theorem fl_Dav_160 : gFL "DavRoom" 160 1 1 := ⟨_, _, _, rfl, i_Lock, by decide, tb1 176 rfl rfl, rfl⟩
theorem fl_Dav_165 : gFL "DavRoom" 165 1 2 := ⟨_, _, _, rfl, i_Lock, by decide, tb1 179 rfl rfl, rfl⟩
theorem fl_Dav_168 : gFL "DavRoom" 168 1 3 := ⟨_, _, _, rfl, i_Lock, by decide, tb1 182 rfl rfl, rfl⟩
theorem fl_Dav_171 : gFL "DavRoom" 171 1 4 := ⟨_, _, _, rfl, i_Lock, by decide, tb1 185 rfl rfl, rfl⟩
theorem fl_Dav_14 : gFL "DavRoom" 14 6 0 := ⟨_, _, _, rfl, i_Dav, by decide, tb1 207 rfl rfl, rfl⟩
theorem fl_Dav_18 : gFL "DavRoom" 18 6 1 := ⟨_, _, _, rfl, i_Dav, by decide, tb1 208 rfl rfl, rfl⟩
theorem fl_Dav_24 : gFL "DavRoom" 24 6 2 := ⟨_, _, _, rfl, i_Dav, by decide, tb1 209 rfl rfl, rfl⟩
theorem fl_Dav_31 : gFL "DavRoom" 31 6 3 := ⟨_, _, _, rfl, i_Dav, by decide, tb1 210 rfl rfl, rfl⟩
theorem fl_Dav_35 : gFL "DavRoom" 35 6 4 := ⟨_, _, _, rfl, i_Dav, by decide, tb1 211 rfl rfl, rfl⟩
theorem fl_Dav_41 : gFL "DavRoom" 41 6 5 := ⟨_, _, _, rfl, i_Dav, by decide, tb1 212 rfl rfl, rfl⟩
theorem fl_Dav_45 : gFL "DavRoom" 45 6 6 := ⟨_, _, _, rfl, i_Dav, by decide, tb1 213 rfl rfl, rfl⟩
theorem fl_Dav_48 : gFL "DavRoom" 48 6 7 := ⟨_, _, _, rfl, i_Dav, by decide, tb1 214 rfl rfl, rfl⟩
theorem ml_Dav_1 : Cond.methodLink "DavRoom" 1 ⟨"java/lang/Object", "<init>", "()V"⟩ ∈ TB := tb1 23 rfl rfl
theorem ml_Dav_11 : Cond.methodLink "DavRoom" 11 ⟨"DavRoom$Bytes", "<init>", "(I)V"⟩ ∈ TB := tb1 28 rfl rfl
theorem ml_Dav_30 : Cond.methodLink "DavRoom" 30 ⟨"DavRoom$Tree", "<init>", "()V"⟩ ∈ TB := tb1 108 rfl rfl
theorem ml_Dav_40 : Cond.methodLink "DavRoom" 40 ⟨"DavRoom$Locks", "<init>", "()V"⟩ ∈ TB := tb1 158 rfl rfl
theorem ml_Dav_52 : Cond.methodLink "DavRoom" 52 ⟨"DavRoom$Bytes", "hasRoomFor", "(I)Z"⟩ ∈ TB := tb1 236 rfl rfl
theorem ml_Dav_56 : Cond.methodLink "DavRoom" 56 ⟨"DavRoom$Bytes", "addWord", "(I)V"⟩ ∈ TB := tb2 0 rfl rfl
theorem ml_Dav_62 : Cond.methodLink "DavRoom" 62 ⟨"DavRoom$Bytes", "cutTo", "(I)V"⟩ ∈ TB := tb2 9 rfl rfl
theorem ml_Dav_65 : Cond.methodLink "DavRoom" 65 ⟨"DavRoom$Bytes", "clear", "()V"⟩ ∈ TB := tb2 17 rfl rfl
theorem ml_Dav_68 : Cond.methodLink "DavRoom" 68 ⟨"DavRoom$Request", "readFirstLine", "(LDavRoom$Bytes;)Z"⟩ ∈ TB := tb2 21 rfl rfl
theorem ml_Dav_72 : Cond.methodLink "DavRoom" 72 ⟨"DavRoom$Request", "readHeaders", "(LDavRoom$Bytes;)Z"⟩ ∈ TB := tb2 128 rfl rfl
theorem ml_Dav_75 : Cond.methodLink "DavRoom" 75 ⟨"DavRoom$Request", "readBody", "(LDavRoom$Bytes;)Z"⟩ ∈ TB := tb2 184 rfl rfl
theorem ml_Dav_81 : Cond.methodLink "DavRoom" 81 ⟨"DavRoom$Tree", "find", "(LDavRoom$Bytes;I)LDavRoom$Resource;"⟩ ∈ TB := tb2 188 rfl rfl
theorem ml_Dav_85 : Cond.methodLink "DavRoom" 85 ⟨"DavRoom", "conditionsHold", "(LDavRoom$Resource;)Z"⟩ ∈ TB := tb2 196 rfl rfl
theorem ml_Dav_184 : Cond.methodLink "DavRoom" 184 ⟨"DavRoom$Request", "has", "(I)Z"⟩ ∈ TB := tb2 200 rfl rfl
theorem ml_Dav_92 : Cond.methodLink "DavRoom" 92 ⟨"DavRoom", "answerGet", "(LDavRoom$Resource;)I"⟩ ∈ TB := tb2 201 rfl rfl
theorem ml_Dav_193 : Cond.methodLink "DavRoom" 193 ⟨"DavRoom$Bytes", "addPart", "(LDavRoom$Bytes;II)V"⟩ ∈ TB := tb2 205 rfl rfl
theorem ml_Dav_197 : Cond.methodLink "DavRoom" 197 ⟨"DavRoom$Tree", "tellSegments", "(LDavRoom$Bytes;LDavRoom$Bytes;)V"⟩ ∈ TB := tb2 206 rfl rfl
theorem ml_Dav_96 : Cond.methodLink "DavRoom" 96 ⟨"DavRoom", "answerPut", "(LDavRoom$Resource;)I"⟩ ∈ TB := tb2 222 rfl rfl
theorem ml_Dav_201 : Cond.methodLink "DavRoom" 201 ⟨"DavRoom", "refusalOfNew", "()I"⟩ ∈ TB := tb2 226 rfl rfl
theorem ml_Dav_218 : Cond.methodLink "DavRoom" 218 ⟨"DavRoom$Tree", "homeOf", "(LDavRoom$Bytes;)LDavRoom$Resource;"⟩ ∈ TB := tb2 230 rfl rfl
theorem ml_Dav_214 : Cond.methodLink "DavRoom" 214 ⟨"DavRoom$Locks", "isFree", "(LDavRoom$Bytes;I)Z"⟩ ∈ TB := tb2 236 rfl rfl
theorem ml_Dav_221 : Cond.methodLink "DavRoom" 221 ⟨"DavRoom$Tree", "isFull", "()Z"⟩ ∈ TB := tb3 12 rfl rfl
theorem ml_Dav_204 : Cond.methodLink "DavRoom" 204 ⟨"DavRoom$Tree", "add", "(LDavRoom$Bytes;)LDavRoom$Resource;"⟩ ∈ TB := tb3 16 rfl rfl
theorem ml_Dav_209 : Cond.methodLink "DavRoom" 209 ⟨"DavRoom$Tree", "put", "(LDavRoom$Resource;LDavRoom$Bytes;)V"⟩ ∈ TB := tb3 34 rfl rfl
theorem ml_Dav_99 : Cond.methodLink "DavRoom" 99 ⟨"DavRoom", "answerDelete", "(LDavRoom$Resource;)I"⟩ ∈ TB := tb3 42 rfl rfl
theorem ml_Dav_225 : Cond.methodLink "DavRoom" 225 ⟨"DavRoom$Paths", "isRoot", "(LDavRoom$Bytes;)Z"⟩ ∈ TB := tb3 46 rfl rfl
theorem ml_Dav_230 : Cond.methodLink "DavRoom" 230 ⟨"DavRoom$Tree", "mayLeave", "(LDavRoom$Resource;LDavRoom$Locks;I)Z"⟩ ∈ TB := tb3 47 rfl rfl
theorem ml_Dav_234 : Cond.methodLink "DavRoom" 234 ⟨"DavRoom", "takeAway", "(LDavRoom$Bytes;)V"⟩ ∈ TB := tb3 53 rfl rfl
theorem ml_Dav_258 : Cond.methodLink "DavRoom" 258 ⟨"DavRoom$Locks", "dropAtOrIn", "(LDavRoom$Bytes;)V"⟩ ∈ TB := tb3 57 rfl rfl
theorem ml_Dav_308 : Cond.methodLink "DavRoom" 308 ⟨"DavRoom$Tree", "removeAll", "(LDavRoom$Bytes;)V"⟩ ∈ TB := tb3 66 rfl rfl
theorem ml_Dav_102 : Cond.methodLink "DavRoom" 102 ⟨"DavRoom", "answerMkcol", "(LDavRoom$Resource;)I"⟩ ∈ TB := tb3 70 rfl rfl
theorem ml_Dav_105 : Cond.methodLink "DavRoom" 105 ⟨"DavRoom", "answerTransfer", "(LDavRoom$Resource;Z)I"⟩ ∈ TB := tb3 74 rfl rfl
theorem ml_Dav_241 : Cond.methodLink "DavRoom" 241 ⟨"DavRoom$Paths", "isAtOrIn", "(LDavRoom$Bytes;LDavRoom$Bytes;)Z"⟩ ∈ TB := tb3 78 rfl rfl
theorem ml_Dav_245 : Cond.methodLink "DavRoom" 245 ⟨"DavRoom", "wouldBeTooDeep", "(LDavRoom$Resource;)Z"⟩ ∈ TB := tb3 79 rfl rfl
theorem ml_Dav_271 : Cond.methodLink "DavRoom" 271 ⟨"DavRoom$Tree", "reachOf", "(LDavRoom$Bytes;)I"⟩ ∈ TB := tb3 83 rfl rfl
theorem ml_Dav_274 : Cond.methodLink "DavRoom" 274 ⟨"DavRoom$Paths", "segments", "(LDavRoom$Bytes;)I"⟩ ∈ TB := tb3 92 rfl rfl
theorem ml_Dav_251 : Cond.methodLink "DavRoom" 251 ⟨"DavRoom$Tree", "areFree", "(LDavRoom$Bytes;LDavRoom$Locks;I)Z"⟩ ∈ TB := tb3 93 rfl rfl
theorem ml_Dav_255 : Cond.methodLink "DavRoom" 255 ⟨"DavRoom", "wouldBeTooMany", "(LDavRoom$Resource;)Z"⟩ ∈ TB := tb3 97 rfl rfl
theorem ml_Dav_149 : Cond.methodLink "DavRoom" 149 ⟨"DavRoom$Tree", "sizeAt", "(LDavRoom$Bytes;)I"⟩ ∈ TB := tb3 101 rfl rfl
theorem ml_Dav_132 : Cond.methodLink "DavRoom" 132 ⟨"DavRoom$Tree", "besidesRoot", "()I"⟩ ∈ TB := tb3 105 rfl rfl
theorem ml_Dav_261 : Cond.methodLink "DavRoom" 261 ⟨"DavRoom$Tree", "moveAll", "(LDavRoom$Bytes;LDavRoom$Bytes;)V"⟩ ∈ TB := tb3 109 rfl rfl
theorem ml_Dav_267 : Cond.methodLink "DavRoom" 267 ⟨"DavRoom$Tree", "copyAll", "(LDavRoom$Bytes;LDavRoom$Bytes;Z)V"⟩ ∈ TB := tb3 117 rfl rfl
theorem ml_Dav_109 : Cond.methodLink "DavRoom" 109 ⟨"DavRoom", "answerLock", "(LDavRoom$Resource;)I"⟩ ∈ TB := tb3 131 rfl rfl
theorem ml_Dav_280 : Cond.methodLink "DavRoom" 280 ⟨"DavRoom$Locks", "covering", "(LDavRoom$Bytes;I)LDavRoom$Lock;"⟩ ∈ TB := tb3 135 rfl rfl
theorem ml_Dav_284 : Cond.methodLink "DavRoom" 284 ⟨"DavRoom", "tellToken", "(I)V"⟩ ∈ TB := tb3 139 rfl rfl
theorem ml_Dav_296 : Cond.methodLink "DavRoom" 296 ⟨"DavRoom$Bytes", "addNumber", "(I)V"⟩ ∈ TB := tb3 143 rfl rfl
theorem ml_Dav_299 : Cond.methodLink "DavRoom" 299 ⟨"DavRoom$Bytes", "add", "(I)V"⟩ ∈ TB := tb3 148 rfl rfl
theorem ml_Dav_288 : Cond.methodLink "DavRoom" 288 ⟨"DavRoom$Locks", "clash", "(LDavRoom$Bytes;ZZ)Z"⟩ ∈ TB := tb3 149 rfl rfl
theorem ml_Dav_292 : Cond.methodLink "DavRoom" 292 ⟨"DavRoom$Locks", "isFull", "()Z"⟩ ∈ TB := tb3 153 rfl rfl
theorem ml_Dav_293 : Cond.methodLink "DavRoom" 293 ⟨"DavRoom$Locks", "add", "(LDavRoom$Bytes;ZZI)I"⟩ ∈ TB := tb3 157 rfl rfl
theorem ml_Dav_112 : Cond.methodLink "DavRoom" 112 ⟨"DavRoom", "answerUnlock", "(LDavRoom$Resource;)I"⟩ ∈ TB := tb3 163 rfl rfl
theorem ml_Dav_301 : Cond.methodLink "DavRoom" 301 ⟨"DavRoom$Locks", "drop", "(I)V"⟩ ∈ TB := tb3 167 rfl rfl
theorem ml_Dav_115 : Cond.methodLink "DavRoom" 115 ⟨"DavRoom", "answerList", "(LDavRoom$Resource;)I"⟩ ∈ TB := tb3 171 rfl rfl
theorem ml_Dav_304 : Cond.methodLink "DavRoom" 304 ⟨"DavRoom$Tree", "tellPaths", "(LDavRoom$Bytes;ILDavRoom$Bytes;)V"⟩ ∈ TB := tb3 175 rfl rfl
theorem ml_Dav_118 : Cond.methodLink "DavRoom" 118 ⟨"DavRoom$Bytes", "at", "(I)I"⟩ ∈ TB := tb3 187 rfl rfl
theorem ml_Dav_122 : Cond.methodLink "DavRoom" 122 ⟨"DavRoom$Locks", "dropEnded", "(I)I"⟩ ∈ TB := tb3 192 rfl rfl
theorem ml_Dav_125 : Cond.methodLink "DavRoom" 125 ⟨"DavRoom$Tree", "become", "(LDavRoom$Tree;)V"⟩ ∈ TB := tb3 200 rfl rfl
theorem ml_Dav_129 : Cond.methodLink "DavRoom" 129 ⟨"DavRoom$Locks", "become", "(LDavRoom$Locks;)V"⟩ ∈ TB := tb3 204 rfl rfl
theorem ml_Dav_153 : Cond.methodLink "DavRoom" 153 ⟨"DavRoom$Locks", "howManyCover", "(LDavRoom$Bytes;)I"⟩ ∈ TB := tb3 221 rfl rfl
theorem ml_Dav_156 : Cond.methodLink "DavRoom" 156 ⟨"DavRoom$Locks", "get", "(I)LDavRoom$Lock;"⟩ ∈ TB := tb3 229 rfl rfl
theorem ml_Dav_175 : Cond.methodLink "DavRoom" 175 ⟨"DavRoom$Tree", "files", "()I"⟩ ∈ TB := tb3 237 rfl rfl
theorem ml_Dav_178 : Cond.methodLink "DavRoom" 178 ⟨"DavRoom$Locks", "size", "()I"⟩ ∈ TB := tb4 1 rfl rfl
theorem ml_Dav_181 : Cond.methodLink "DavRoom" 181 ⟨"DavRoom$Tree", "bytes", "()I"⟩ ∈ TB := tb4 5 rfl rfl
theorem cl_Dav_7 : Cond.classLink "DavRoom" 7 "DavRoom$Bytes" ∈ TB := tb1 26 rfl rfl
theorem cl_Dav_21 : Cond.classLink "DavRoom" 21 "DavRoom$Request" ∈ TB := tb1 47 rfl rfl
theorem cl_Dav_28 : Cond.classLink "DavRoom" 28 "DavRoom$Tree" ∈ TB := tb1 106 rfl rfl
theorem cl_Dav_38 : Cond.classLink "DavRoom" 38 "DavRoom$Locks" ∈ TB := tb1 156 rfl rfl
theorem mn_Dav_23 : Cond.methodLinkNest "DavRoom" 23 ⟨"DavRoom$Request", "<init>", "()V"⟩ "DavRoom" ∈ NST := List.mem_of_getElem? (i := 0) rfl
theorem fw_Dav_tape : gFW 6 0 (.object "DavRoom$Bytes") true := ⟨_, _, _, t_Dav, rfl, t_Dav_ok, n_Dav, by decide, rfl, rfl⟩
theorem fw_Dav_out : gFW 6 1 (.object "DavRoom$Bytes") true := ⟨_, _, _, t_Dav, rfl, t_Dav_ok, n_Dav, by decide, rfl, rfl⟩
theorem fw_Dav_asked : gFW 6 2 (.object "DavRoom$Request") true := ⟨_, _, _, t_Dav, rfl, t_Dav_ok, n_Dav, by decide, rfl, rfl⟩
theorem fw_Dav_tree : gFW 6 3 (.object "DavRoom$Tree") true := ⟨_, _, _, t_Dav, rfl, t_Dav_ok, n_Dav, by decide, rfl, rfl⟩
theorem fw_Dav_keptTree : gFW 6 4 (.object "DavRoom$Tree") true := ⟨_, _, _, t_Dav, rfl, t_Dav_ok, n_Dav, by decide, rfl, rfl⟩
theorem fw_Dav_locks : gFW 6 5 (.object "DavRoom$Locks") true := ⟨_, _, _, t_Dav, rfl, t_Dav_ok, n_Dav, by decide, rfl, rfl⟩
theorem fw_Dav_keptLocks : gFW 6 6 (.object "DavRoom$Locks") true := ⟨_, _, _, t_Dav, rfl, t_Dav_ok, n_Dav, by decide, rfl, rfl⟩
theorem fw_Dav_clock : gFW 6 7 (.int) false := ⟨_, _, _, t_Dav, rfl, t_Dav_ok, n_Dav, by decide, rfl, rfl⟩
theorem mw_Dav_init : gMW y_Dav_init b_Dav_init 1 none 0 := ⟨⟨tb1 1 rfl rfl, tb1 22 rfl rfl⟩, by decide +kernel⟩
theorem mw_Dav_feed : gMW y_Dav_feed b_Dav_feed 6 (some .int) 5 := ⟨⟨tb1 1 rfl rfl, tb1 235 rfl rfl⟩, by decide +kernel⟩
theorem mo_Dav_feed : gMO y_Dav_feed := ⟨tb1 233 rfl rfl, tb1 234 rfl rfl⟩
theorem mw_Dav_end : gMW y_Dav_end b_Dav_end 2 (some .int) 1 := ⟨⟨tb1 1 rfl rfl, tb2 8 rfl rfl⟩, by decide +kernel⟩
theorem mo_Dav_end : gMO y_Dav_end := ⟨tb2 6 rfl rfl, tb2 7 rfl rfl⟩
theorem mw_Dav_request : gMW y_Dav_request b_Dav_request 3 (some .int) 0 := ⟨⟨tb1 1 rfl rfl, tb2 16 rfl rfl⟩, by decide +kernel⟩
theorem mo_Dav_request : gMO y_Dav_request := ⟨tb2 14 rfl rfl, tb2 15 rfl rfl⟩
theorem mw_Dav_octet : gMW y_Dav_octet b_Dav_octet 3 (some .int) 1 := ⟨⟨tb1 1 rfl rfl, tb3 186 rfl rfl⟩, by decide +kernel⟩
theorem mo_Dav_octet : gMO y_Dav_octet := ⟨tb3 184 rfl rfl, tb3 185 rfl rfl⟩
theorem mw_Dav_tick : gMW y_Dav_tick b_Dav_tick 2 (some .int) 1 := ⟨⟨tb1 1 rfl rfl, tb3 191 rfl rfl⟩, by decide +kernel⟩
theorem mo_Dav_tick : gMO y_Dav_tick := ⟨tb3 189 rfl rfl, tb3 190 rfl rfl⟩
theorem mw_Dav_keep : gMW y_Dav_keep b_Dav_keep 1 (some .int) 0 := ⟨⟨tb1 1 rfl rfl, tb3 199 rfl rfl⟩, by decide +kernel⟩
theorem mo_Dav_keep : gMO y_Dav_keep := ⟨tb3 197 rfl rfl, tb3 198 rfl rfl⟩
theorem mw_Dav_crash : gMW y_Dav_crash b_Dav_crash 1 (some .int) 0 := ⟨⟨tb1 1 rfl rfl, tb3 216 rfl rfl⟩, by decide +kernel⟩
theorem mo_Dav_crash : gMO y_Dav_crash := ⟨tb3 214 rfl rfl, tb3 215 rfl rfl⟩
theorem mw_Dav_look : gMW y_Dav_look b_Dav_look 3 (some .int) 1 := ⟨⟨tb1 1 rfl rfl, tb3 220 rfl rfl⟩, by decide +kernel⟩
theorem mo_Dav_look : gMO y_Dav_look := ⟨tb3 218 rfl rfl, tb3 219 rfl rfl⟩
theorem mw_Dav_lock : gMW y_Dav_lock b_Dav_lock 4 (some .int) 2 := ⟨⟨tb1 1 rfl rfl, tb3 228 rfl rfl⟩, by decide +kernel⟩
theorem mo_Dav_lock : gMO y_Dav_lock := ⟨tb3 226 rfl rfl, tb3 227 rfl rfl⟩
theorem mw_Dav_count : gMW y_Dav_count b_Dav_count 2 (some .int) 1 := ⟨⟨tb1 1 rfl rfl, tb3 236 rfl rfl⟩, by decide +kernel⟩
theorem mo_Dav_count : gMO y_Dav_count := ⟨tb3 234 rfl rfl, tb3 235 rfl rfl⟩
theorem mw_Dav_conditionsHold : gMW y_Dav_conditionsHold b_Dav_conditionsHold 2 (some .boolean) 1 := ⟨⟨tb1 1 rfl rfl, tb2 199 rfl rfl⟩, by decide +kernel⟩
theorem mo_Dav_conditionsHold : gMO y_Dav_conditionsHold := ⟨tb2 198 rfl rfl, tbp 6 rfl⟩
theorem mw_Dav_answerGet : gMW y_Dav_answerGet b_Dav_answerGet 2 (some .int) 1 := ⟨⟨tb1 1 rfl rfl, tb2 204 rfl rfl⟩, by decide +kernel⟩
theorem mo_Dav_answerGet : gMO y_Dav_answerGet := ⟨tb2 203 rfl rfl, tbp 7 rfl⟩
theorem mw_Dav_answerPut : gMW y_Dav_answerPut b_Dav_answerPut 3 (some .int) 1 := ⟨⟨tb1 1 rfl rfl, tb2 225 rfl rfl⟩, by decide +kernel⟩
theorem mo_Dav_answerPut : gMO y_Dav_answerPut := ⟨tb2 224 rfl rfl, tbp 8 rfl⟩
theorem mw_Dav_answerMkcol : gMW y_Dav_answerMkcol b_Dav_answerMkcol 3 (some .int) 1 := ⟨⟨tb1 1 rfl rfl, tb3 73 rfl rfl⟩, by decide +kernel⟩
theorem mo_Dav_answerMkcol : gMO y_Dav_answerMkcol := ⟨tb3 72 rfl rfl, tbp 15 rfl⟩
theorem mw_Dav_refusalOfNew : gMW y_Dav_refusalOfNew b_Dav_refusalOfNew 2 (some .int) 0 := ⟨⟨tb1 1 rfl rfl, tb2 229 rfl rfl⟩, by decide +kernel⟩
theorem mo_Dav_refusalOfNew : gMO y_Dav_refusalOfNew := ⟨tb2 228 rfl rfl, tbp 9 rfl⟩
theorem mw_Dav_answerDelete : gMW y_Dav_answerDelete b_Dav_answerDelete 2 (some .int) 1 := ⟨⟨tb1 1 rfl rfl, tb3 45 rfl rfl⟩, by decide +kernel⟩
theorem mo_Dav_answerDelete : gMO y_Dav_answerDelete := ⟨tb3 44 rfl rfl, tbp 12 rfl⟩
theorem mw_Dav_answerTransfer : gMW y_Dav_answerTransfer b_Dav_answerTransfer 6 (some .int) 2 := ⟨⟨tb1 1 rfl rfl, tb3 77 rfl rfl⟩, by decide +kernel⟩
theorem mo_Dav_answerTransfer : gMO y_Dav_answerTransfer := ⟨tb3 76 rfl rfl, tbp 16 rfl⟩
theorem mw_Dav_wouldBeTooDeep : gMW y_Dav_wouldBeTooDeep b_Dav_wouldBeTooDeep 3 (some .boolean) 1 := ⟨⟨tb1 1 rfl rfl, tb3 82 rfl rfl⟩, by decide +kernel⟩
theorem mo_Dav_wouldBeTooDeep : gMO y_Dav_wouldBeTooDeep := ⟨tb3 81 rfl rfl, tbp 17 rfl⟩
theorem mw_Dav_wouldBeTooMany : gMW y_Dav_wouldBeTooMany b_Dav_wouldBeTooMany 3 (some .boolean) 1 := ⟨⟨tb1 1 rfl rfl, tb3 100 rfl rfl⟩, by decide +kernel⟩
theorem mo_Dav_wouldBeTooMany : gMO y_Dav_wouldBeTooMany := ⟨tb3 99 rfl rfl, tbp 18 rfl⟩
theorem mw_Dav_answerLock : gMW y_Dav_answerLock b_Dav_answerLock 4 (some .int) 1 := ⟨⟨tb1 1 rfl rfl, tb3 134 rfl rfl⟩, by decide +kernel⟩
theorem mo_Dav_answerLock : gMO y_Dav_answerLock := ⟨tb3 133 rfl rfl, tbp 20 rfl⟩
theorem mw_Dav_tellToken : gMW y_Dav_tellToken b_Dav_tellToken 2 none 1 := ⟨⟨tb1 1 rfl rfl, tb3 142 rfl rfl⟩, by decide +kernel⟩
theorem mo_Dav_tellToken : gMO y_Dav_tellToken := ⟨tb3 141 rfl rfl, tbp 21 rfl⟩
theorem mw_Dav_answerUnlock : gMW y_Dav_answerUnlock b_Dav_answerUnlock 3 (some .int) 1 := ⟨⟨tb1 1 rfl rfl, tb3 166 rfl rfl⟩, by decide +kernel⟩
theorem mo_Dav_answerUnlock : gMO y_Dav_answerUnlock := ⟨tb3 165 rfl rfl, tbp 22 rfl⟩
theorem mw_Dav_answerList : gMW y_Dav_answerList b_Dav_answerList 2 (some .int) 1 := ⟨⟨tb1 1 rfl rfl, tb3 174 rfl rfl⟩, by decide +kernel⟩
theorem mo_Dav_answerList : gMO y_Dav_answerList := ⟨tb3 173 rfl rfl, tbp 23 rfl⟩
theorem mw_Dav_takeAway : gMW y_Dav_takeAway b_Dav_takeAway 2 none 1 := ⟨⟨tb1 1 rfl rfl, tb3 56 rfl rfl⟩, by decide +kernel⟩
theorem mo_Dav_takeAway : gMO y_Dav_takeAway := ⟨tb3 55 rfl rfl, tbp 13 rfl⟩
theorem d_Dav_feed_0 : decode b_Dav_feed 0 = .ok (.aload_n 0, 1) := by decide +kernel
theorem d_Dav_feed_1 : decode b_Dav_feed 1 = .ok (.getfield 14, 3) := by decide +kernel
theorem d_Dav_feed_4 : decode b_Dav_feed 4 = .ok (.bipush 20, 2) := by decide +kernel
theorem d_Dav_feed_6 : decode b_Dav_feed 6 = .ok (.invokevirtual 52, 3) := by decide +kernel
theorem d_Dav_feed_9 : decode b_Dav_feed 9 = .ok (.ifCond .ne 6, 3) := by decide +kernel
theorem d_Dav_feed_12 : decode b_Dav_feed 12 = .ok (.bipush (-3), 2) := by decide +kernel
theorem d_Dav_feed_14 : decode b_Dav_feed 14 = .ok (.ireturn, 1) := by decide +kernel
theorem d_Dav_feed_15 : decode b_Dav_feed 15 = .ok (.aload_n 0, 1) := by decide +kernel
theorem d_Dav_feed_16 : decode b_Dav_feed 16 = .ok (.getfield 14, 3) := by decide +kernel
theorem d_Dav_feed_19 : decode b_Dav_feed 19 = .ok (.iload_n 1, 1) := by decide +kernel
theorem d_Dav_feed_20 : decode b_Dav_feed 20 = .ok (.invokevirtual 56, 3) := by decide +kernel
theorem d_Dav_feed_23 : decode b_Dav_feed 23 = .ok (.aload_n 0, 1) := by decide +kernel
theorem d_Dav_feed_24 : decode b_Dav_feed 24 = .ok (.getfield 14, 3) := by decide +kernel
theorem d_Dav_feed_27 : decode b_Dav_feed 27 = .ok (.iload_n 2, 1) := by decide +kernel
theorem d_Dav_feed_28 : decode b_Dav_feed 28 = .ok (.invokevirtual 56, 3) := by decide +kernel
theorem d_Dav_feed_31 : decode b_Dav_feed 31 = .ok (.aload_n 0, 1) := by decide +kernel
theorem d_Dav_feed_32 : decode b_Dav_feed 32 = .ok (.getfield 14, 3) := by decide +kernel
theorem d_Dav_feed_35 : decode b_Dav_feed 35 = .ok (.iload_n 3, 1) := by decide +kernel
theorem d_Dav_feed_36 : decode b_Dav_feed 36 = .ok (.invokevirtual 56, 3) := by decide +kernel
theorem d_Dav_feed_39 : decode b_Dav_feed 39 = .ok (.aload_n 0, 1) := by decide +kernel
theorem d_Dav_feed_40 : decode b_Dav_feed 40 = .ok (.getfield 14, 3) := by decide +kernel
theorem d_Dav_feed_43 : decode b_Dav_feed 43 = .ok (.iload 4, 2) := by decide +kernel
theorem d_Dav_feed_45 : decode b_Dav_feed 45 = .ok (.invokevirtual 56, 3) := by decide +kernel
theorem d_Dav_feed_48 : decode b_Dav_feed 48 = .ok (.aload_n 0, 1) := by decide +kernel
theorem d_Dav_feed_49 : decode b_Dav_feed 49 = .ok (.getfield 14, 3) := by decide +kernel
theorem d_Dav_feed_52 : decode b_Dav_feed 52 = .ok (.iload 5, 2) := by decide +kernel
theorem d_Dav_feed_54 : decode b_Dav_feed 54 = .ok (.invokevirtual 56, 3) := by decide +kernel
theorem d_Dav_feed_57 : decode b_Dav_feed 57 = .ok (.aload_n 0, 1) := by decide +kernel
theorem d_Dav_feed_58 : decode b_Dav_feed 58 = .ok (.getfield 14, 3) := by decide +kernel
theorem d_Dav_feed_61 : decode b_Dav_feed 61 = .ok (.getfield 59, 3) := by decide +kernel
theorem d_Dav_feed_64 : decode b_Dav_feed 64 = .ok (.ireturn, 1) := by decide +kernel
theorem d_Dav_end_0 : decode b_Dav_end 0 = .ok (.iload_n 1, 1) := by decide +kernel
theorem d_Dav_end_1 : decode b_Dav_end 1 = .ok (.ifCond .lt 14, 3) := by decide +kernel
theorem d_Dav_end_4 : decode b_Dav_end 4 = .ok (.iload_n 1, 1) := by decide +kernel
theorem d_Dav_end_5 : decode b_Dav_end 5 = .ok (.aload_n 0, 1) := by decide +kernel
theorem d_Dav_end_6 : decode b_Dav_end 6 = .ok (.getfield 14, 3) := by decide +kernel
theorem d_Dav_end_9 : decode b_Dav_end 9 = .ok (.getfield 59, 3) := by decide +kernel
theorem d_Dav_end_12 : decode b_Dav_end 12 = .ok (.if_icmp .le 5, 3) := by decide +kernel
theorem d_Dav_end_15 : decode b_Dav_end 15 = .ok (.iconst (-1), 1) := by decide +kernel
theorem d_Dav_end_16 : decode b_Dav_end 16 = .ok (.ireturn, 1) := by decide +kernel
theorem d_Dav_end_17 : decode b_Dav_end 17 = .ok (.aload_n 0, 1) := by decide +kernel
theorem d_Dav_end_18 : decode b_Dav_end 18 = .ok (.getfield 14, 3) := by decide +kernel
theorem d_Dav_end_21 : decode b_Dav_end 21 = .ok (.iload_n 1, 1) := by decide +kernel
theorem d_Dav_end_22 : decode b_Dav_end 22 = .ok (.invokevirtual 62, 3) := by decide +kernel
theorem d_Dav_end_25 : decode b_Dav_end 25 = .ok (.iload_n 1, 1) := by decide +kernel
theorem d_Dav_end_26 : decode b_Dav_end 26 = .ok (.ireturn, 1) := by decide +kernel
theorem d_Dav_request_0 : decode b_Dav_request 0 = .ok (.aload_n 0, 1) := by decide +kernel
theorem d_Dav_request_1 : decode b_Dav_request 1 = .ok (.getfield 18, 3) := by decide +kernel
theorem d_Dav_request_4 : decode b_Dav_request 4 = .ok (.invokevirtual 65, 3) := by decide +kernel
theorem d_Dav_request_7 : decode b_Dav_request 7 = .ok (.aload_n 0, 1) := by decide +kernel
theorem d_Dav_request_8 : decode b_Dav_request 8 = .ok (.getfield 24, 3) := by decide +kernel
theorem d_Dav_request_11 : decode b_Dav_request 11 = .ok (.aload_n 0, 1) := by decide +kernel
theorem d_Dav_request_12 : decode b_Dav_request 12 = .ok (.getfield 14, 3) := by decide +kernel
theorem d_Dav_request_15 : decode b_Dav_request 15 = .ok (.invokevirtual 68, 3) := by decide +kernel
theorem d_Dav_request_18 : decode b_Dav_request 18 = .ok (.ifCond .eq 35, 3) := by decide +kernel
theorem d_Dav_request_21 : decode b_Dav_request 21 = .ok (.aload_n 0, 1) := by decide +kernel
theorem d_Dav_request_22 : decode b_Dav_request 22 = .ok (.getfield 24, 3) := by decide +kernel
theorem d_Dav_request_25 : decode b_Dav_request 25 = .ok (.aload_n 0, 1) := by decide +kernel
theorem d_Dav_request_26 : decode b_Dav_request 26 = .ok (.getfield 14, 3) := by decide +kernel
theorem d_Dav_request_29 : decode b_Dav_request 29 = .ok (.invokevirtual 72, 3) := by decide +kernel
theorem d_Dav_request_32 : decode b_Dav_request 32 = .ok (.ifCond .eq 21, 3) := by decide +kernel
theorem d_Dav_request_35 : decode b_Dav_request 35 = .ok (.aload_n 0, 1) := by decide +kernel
theorem d_Dav_request_36 : decode b_Dav_request 36 = .ok (.getfield 24, 3) := by decide +kernel
theorem d_Dav_request_39 : decode b_Dav_request 39 = .ok (.aload_n 0, 1) := by decide +kernel
theorem d_Dav_request_40 : decode b_Dav_request 40 = .ok (.getfield 14, 3) := by decide +kernel
theorem d_Dav_request_43 : decode b_Dav_request 43 = .ok (.invokevirtual 75, 3) := by decide +kernel
theorem d_Dav_request_46 : decode b_Dav_request 46 = .ok (.ifCond .eq 7, 3) := by decide +kernel
theorem d_Dav_request_49 : decode b_Dav_request 49 = .ok (.iconst 1, 1) := by decide +kernel
theorem d_Dav_request_50 : decode b_Dav_request 50 = .ok (.goto 4, 3) := by decide +kernel
theorem d_Dav_request_53 : decode b_Dav_request 53 = .ok (.iconst 0, 1) := by decide +kernel
theorem d_Dav_request_54 : decode b_Dav_request 54 = .ok (.istore_n 1, 1) := by decide +kernel
theorem d_Dav_request_55 : decode b_Dav_request 55 = .ok (.aload_n 0, 1) := by decide +kernel
theorem d_Dav_request_56 : decode b_Dav_request 56 = .ok (.getfield 14, 3) := by decide +kernel
theorem d_Dav_request_59 : decode b_Dav_request 59 = .ok (.invokevirtual 65, 3) := by decide +kernel
theorem d_Dav_request_62 : decode b_Dav_request 62 = .ok (.iload_n 1, 1) := by decide +kernel
theorem d_Dav_request_63 : decode b_Dav_request 63 = .ok (.ifCond .ne 7, 3) := by decide +kernel
theorem d_Dav_request_66 : decode b_Dav_request 66 = .ok (.sipush 400, 3) := by decide +kernel
theorem d_Dav_request_69 : decode b_Dav_request 69 = .ok (.ireturn, 1) := by decide +kernel
theorem d_Dav_request_70 : decode b_Dav_request 70 = .ok (.aload_n 0, 1) := by decide +kernel
theorem d_Dav_request_71 : decode b_Dav_request 71 = .ok (.getfield 31, 3) := by decide +kernel
theorem d_Dav_request_74 : decode b_Dav_request 74 = .ok (.aload_n 0, 1) := by decide +kernel
theorem d_Dav_request_75 : decode b_Dav_request 75 = .ok (.getfield 24, 3) := by decide +kernel
theorem d_Dav_request_78 : decode b_Dav_request 78 = .ok (.getfield 78, 3) := by decide +kernel
theorem d_Dav_request_81 : decode b_Dav_request 81 = .ok (.aload_n 0, 1) := by decide +kernel
theorem d_Dav_request_82 : decode b_Dav_request 82 = .ok (.getfield 24, 3) := by decide +kernel
theorem d_Dav_request_85 : decode b_Dav_request 85 = .ok (.getfield 78, 3) := by decide +kernel
theorem d_Dav_request_88 : decode b_Dav_request 88 = .ok (.getfield 59, 3) := by decide +kernel
theorem d_Dav_request_91 : decode b_Dav_request 91 = .ok (.invokevirtual 81, 3) := by decide +kernel
theorem d_Dav_request_94 : decode b_Dav_request 94 = .ok (.astore_n 2, 1) := by decide +kernel
theorem d_Dav_request_95 : decode b_Dav_request 95 = .ok (.aload_n 0, 1) := by decide +kernel
theorem d_Dav_request_96 : decode b_Dav_request 96 = .ok (.aload_n 2, 1) := by decide +kernel
theorem d_Dav_request_97 : decode b_Dav_request 97 = .ok (.invokevirtual 85, 3) := by decide +kernel
theorem d_Dav_request_100 : decode b_Dav_request 100 = .ok (.ifCond .ne 7, 3) := by decide +kernel
theorem d_Dav_request_103 : decode b_Dav_request 103 = .ok (.sipush 412, 3) := by decide +kernel
theorem d_Dav_request_106 : decode b_Dav_request 106 = .ok (.ireturn, 1) := by decide +kernel
theorem d_Dav_request_107 : decode b_Dav_request 107 = .ok (.aload_n 0, 1) := by decide +kernel
theorem d_Dav_request_108 : decode b_Dav_request 108 = .ok (.getfield 24, 3) := by decide +kernel
theorem d_Dav_request_111 : decode b_Dav_request 111 = .ok (.getfield 89, 3) := by decide +kernel
theorem d_Dav_request_114 : decode b_Dav_request 114 = .ok (.tableswitch 96 0 7 #[46, 52, 58, 64, 70, 77, 84, 90], 46) := by decide +kernel
theorem d_Dav_request_160 : decode b_Dav_request 160 = .ok (.aload_n 0, 1) := by decide +kernel
theorem d_Dav_request_161 : decode b_Dav_request 161 = .ok (.aload_n 2, 1) := by decide +kernel
theorem d_Dav_request_162 : decode b_Dav_request 162 = .ok (.invokevirtual 92, 3) := by decide +kernel
theorem d_Dav_request_165 : decode b_Dav_request 165 = .ok (.ireturn, 1) := by decide +kernel
theorem d_Dav_request_166 : decode b_Dav_request 166 = .ok (.aload_n 0, 1) := by decide +kernel
theorem d_Dav_request_167 : decode b_Dav_request 167 = .ok (.aload_n 2, 1) := by decide +kernel
theorem d_Dav_request_168 : decode b_Dav_request 168 = .ok (.invokevirtual 96, 3) := by decide +kernel
theorem d_Dav_request_171 : decode b_Dav_request 171 = .ok (.ireturn, 1) := by decide +kernel
theorem d_Dav_request_172 : decode b_Dav_request 172 = .ok (.aload_n 0, 1) := by decide +kernel
theorem d_Dav_request_173 : decode b_Dav_request 173 = .ok (.aload_n 2, 1) := by decide +kernel
theorem d_Dav_request_174 : decode b_Dav_request 174 = .ok (.invokevirtual 99, 3) := by decide +kernel
theorem d_Dav_request_177 : decode b_Dav_request 177 = .ok (.ireturn, 1) := by decide +kernel
theorem d_Dav_request_178 : decode b_Dav_request 178 = .ok (.aload_n 0, 1) := by decide +kernel
theorem d_Dav_request_179 : decode b_Dav_request 179 = .ok (.aload_n 2, 1) := by decide +kernel
theorem d_Dav_request_180 : decode b_Dav_request 180 = .ok (.invokevirtual 102, 3) := by decide +kernel
theorem d_Dav_request_183 : decode b_Dav_request 183 = .ok (.ireturn, 1) := by decide +kernel
theorem d_Dav_request_184 : decode b_Dav_request 184 = .ok (.aload_n 0, 1) := by decide +kernel
theorem d_Dav_request_185 : decode b_Dav_request 185 = .ok (.aload_n 2, 1) := by decide +kernel
theorem d_Dav_request_186 : decode b_Dav_request 186 = .ok (.iconst 0, 1) := by decide +kernel
theorem d_Dav_request_187 : decode b_Dav_request 187 = .ok (.invokevirtual 105, 3) := by decide +kernel
theorem d_Dav_request_190 : decode b_Dav_request 190 = .ok (.ireturn, 1) := by decide +kernel
theorem d_Dav_request_191 : decode b_Dav_request 191 = .ok (.aload_n 0, 1) := by decide +kernel
theorem d_Dav_request_192 : decode b_Dav_request 192 = .ok (.aload_n 2, 1) := by decide +kernel
theorem d_Dav_request_193 : decode b_Dav_request 193 = .ok (.iconst 1, 1) := by decide +kernel
theorem d_Dav_request_194 : decode b_Dav_request 194 = .ok (.invokevirtual 105, 3) := by decide +kernel
theorem d_Dav_request_197 : decode b_Dav_request 197 = .ok (.ireturn, 1) := by decide +kernel
theorem d_Dav_request_198 : decode b_Dav_request 198 = .ok (.aload_n 0, 1) := by decide +kernel
theorem d_Dav_request_199 : decode b_Dav_request 199 = .ok (.aload_n 2, 1) := by decide +kernel
theorem d_Dav_request_200 : decode b_Dav_request 200 = .ok (.invokevirtual 109, 3) := by decide +kernel
theorem d_Dav_request_203 : decode b_Dav_request 203 = .ok (.ireturn, 1) := by decide +kernel
theorem d_Dav_request_204 : decode b_Dav_request 204 = .ok (.aload_n 0, 1) := by decide +kernel
theorem d_Dav_request_205 : decode b_Dav_request 205 = .ok (.aload_n 2, 1) := by decide +kernel
theorem d_Dav_request_206 : decode b_Dav_request 206 = .ok (.invokevirtual 112, 3) := by decide +kernel
theorem d_Dav_request_209 : decode b_Dav_request 209 = .ok (.ireturn, 1) := by decide +kernel
theorem d_Dav_request_210 : decode b_Dav_request 210 = .ok (.aload_n 0, 1) := by decide +kernel
theorem d_Dav_request_211 : decode b_Dav_request 211 = .ok (.aload_n 2, 1) := by decide +kernel
theorem d_Dav_request_212 : decode b_Dav_request 212 = .ok (.invokevirtual 115, 3) := by decide +kernel
theorem d_Dav_request_215 : decode b_Dav_request 215 = .ok (.ireturn, 1) := by decide +kernel
theorem d_Dav_octet_0 : decode b_Dav_octet 0 = .ok (.iload_n 1, 1) := by decide +kernel
theorem d_Dav_octet_1 : decode b_Dav_octet 1 = .ok (.iconst (-1), 1) := by decide +kernel
theorem d_Dav_octet_2 : decode b_Dav_octet 2 = .ok (.if_icmp .ne 11, 3) := by decide +kernel
theorem d_Dav_octet_5 : decode b_Dav_octet 5 = .ok (.aload_n 0, 1) := by decide +kernel
theorem d_Dav_octet_6 : decode b_Dav_octet 6 = .ok (.getfield 18, 3) := by decide +kernel
theorem d_Dav_octet_9 : decode b_Dav_octet 9 = .ok (.getfield 59, 3) := by decide +kernel
theorem d_Dav_octet_12 : decode b_Dav_octet 12 = .ok (.ireturn, 1) := by decide +kernel
theorem d_Dav_octet_13 : decode b_Dav_octet 13 = .ok (.aload_n 0, 1) := by decide +kernel
theorem d_Dav_octet_14 : decode b_Dav_octet 14 = .ok (.getfield 18, 3) := by decide +kernel
theorem d_Dav_octet_17 : decode b_Dav_octet 17 = .ok (.iload_n 1, 1) := by decide +kernel
theorem d_Dav_octet_18 : decode b_Dav_octet 18 = .ok (.invokevirtual 118, 3) := by decide +kernel
theorem d_Dav_octet_21 : decode b_Dav_octet 21 = .ok (.istore_n 2, 1) := by decide +kernel
theorem d_Dav_octet_22 : decode b_Dav_octet 22 = .ok (.iload_n 2, 1) := by decide +kernel
theorem d_Dav_octet_23 : decode b_Dav_octet 23 = .ok (.iconst (-1), 1) := by decide +kernel
theorem d_Dav_octet_24 : decode b_Dav_octet 24 = .ok (.if_icmp .ne 8, 3) := by decide +kernel
theorem d_Dav_octet_27 : decode b_Dav_octet 27 = .ok (.bipush (-2), 2) := by decide +kernel
theorem d_Dav_octet_29 : decode b_Dav_octet 29 = .ok (.goto 4, 3) := by decide +kernel
theorem d_Dav_octet_32 : decode b_Dav_octet 32 = .ok (.iload_n 2, 1) := by decide +kernel
theorem d_Dav_octet_33 : decode b_Dav_octet 33 = .ok (.ireturn, 1) := by decide +kernel
theorem d_Dav_tick_0 : decode b_Dav_tick 0 = .ok (.iload_n 1, 1) := by decide +kernel
theorem d_Dav_tick_1 : decode b_Dav_tick 1 = .ok (.ifCond .lt 10, 3) := by decide +kernel
theorem d_Dav_tick_4 : decode b_Dav_tick 4 = .ok (.iload_n 1, 1) := by decide +kernel
theorem d_Dav_tick_5 : decode b_Dav_tick 5 = .ok (.sipush 1000, 3) := by decide +kernel
theorem d_Dav_tick_8 : decode b_Dav_tick 8 = .ok (.if_icmp .le 5, 3) := by decide +kernel
theorem d_Dav_tick_11 : decode b_Dav_tick 11 = .ok (.iconst (-1), 1) := by decide +kernel
theorem d_Dav_tick_12 : decode b_Dav_tick 12 = .ok (.ireturn, 1) := by decide +kernel
theorem d_Dav_tick_13 : decode b_Dav_tick 13 = .ok (.aload_n 0, 1) := by decide +kernel
theorem d_Dav_tick_14 : decode b_Dav_tick 14 = .ok (.dup, 1) := by decide +kernel
theorem d_Dav_tick_15 : decode b_Dav_tick 15 = .ok (.getfield 48, 3) := by decide +kernel
theorem d_Dav_tick_18 : decode b_Dav_tick 18 = .ok (.iload_n 1, 1) := by decide +kernel
theorem d_Dav_tick_19 : decode b_Dav_tick 19 = .ok (.iadd, 1) := by decide +kernel
theorem d_Dav_tick_20 : decode b_Dav_tick 20 = .ok (.putfield 48, 3) := by decide +kernel
theorem d_Dav_tick_23 : decode b_Dav_tick 23 = .ok (.aload_n 0, 1) := by decide +kernel
theorem d_Dav_tick_24 : decode b_Dav_tick 24 = .ok (.getfield 41, 3) := by decide +kernel
theorem d_Dav_tick_27 : decode b_Dav_tick 27 = .ok (.aload_n 0, 1) := by decide +kernel
theorem d_Dav_tick_28 : decode b_Dav_tick 28 = .ok (.getfield 48, 3) := by decide +kernel
theorem d_Dav_tick_31 : decode b_Dav_tick 31 = .ok (.invokevirtual 122, 3) := by decide +kernel
theorem d_Dav_tick_34 : decode b_Dav_tick 34 = .ok (.ireturn, 1) := by decide +kernel
theorem d_Dav_keep_0 : decode b_Dav_keep 0 = .ok (.aload_n 0, 1) := by decide +kernel
theorem d_Dav_keep_1 : decode b_Dav_keep 1 = .ok (.getfield 35, 3) := by decide +kernel
theorem d_Dav_keep_4 : decode b_Dav_keep 4 = .ok (.aload_n 0, 1) := by decide +kernel
theorem d_Dav_keep_5 : decode b_Dav_keep 5 = .ok (.getfield 31, 3) := by decide +kernel
theorem d_Dav_keep_8 : decode b_Dav_keep 8 = .ok (.invokevirtual 125, 3) := by decide +kernel
theorem d_Dav_keep_11 : decode b_Dav_keep 11 = .ok (.aload_n 0, 1) := by decide +kernel
theorem d_Dav_keep_12 : decode b_Dav_keep 12 = .ok (.getfield 45, 3) := by decide +kernel
theorem d_Dav_keep_15 : decode b_Dav_keep 15 = .ok (.aload_n 0, 1) := by decide +kernel
theorem d_Dav_keep_16 : decode b_Dav_keep 16 = .ok (.getfield 41, 3) := by decide +kernel
theorem d_Dav_keep_19 : decode b_Dav_keep 19 = .ok (.invokevirtual 129, 3) := by decide +kernel
theorem d_Dav_keep_22 : decode b_Dav_keep 22 = .ok (.aload_n 0, 1) := by decide +kernel
theorem d_Dav_keep_23 : decode b_Dav_keep 23 = .ok (.getfield 31, 3) := by decide +kernel
theorem d_Dav_keep_26 : decode b_Dav_keep 26 = .ok (.invokevirtual 132, 3) := by decide +kernel
theorem d_Dav_keep_29 : decode b_Dav_keep 29 = .ok (.ireturn, 1) := by decide +kernel
theorem d_Dav_crash_0 : decode b_Dav_crash 0 = .ok (.aload_n 0, 1) := by decide +kernel
theorem d_Dav_crash_1 : decode b_Dav_crash 1 = .ok (.getfield 31, 3) := by decide +kernel
theorem d_Dav_crash_4 : decode b_Dav_crash 4 = .ok (.aload_n 0, 1) := by decide +kernel
theorem d_Dav_crash_5 : decode b_Dav_crash 5 = .ok (.getfield 35, 3) := by decide +kernel
theorem d_Dav_crash_8 : decode b_Dav_crash 8 = .ok (.invokevirtual 125, 3) := by decide +kernel
theorem d_Dav_crash_11 : decode b_Dav_crash 11 = .ok (.aload_n 0, 1) := by decide +kernel
theorem d_Dav_crash_12 : decode b_Dav_crash 12 = .ok (.getfield 41, 3) := by decide +kernel
theorem d_Dav_crash_15 : decode b_Dav_crash 15 = .ok (.aload_n 0, 1) := by decide +kernel
theorem d_Dav_crash_16 : decode b_Dav_crash 16 = .ok (.getfield 45, 3) := by decide +kernel
theorem d_Dav_crash_19 : decode b_Dav_crash 19 = .ok (.invokevirtual 129, 3) := by decide +kernel
theorem d_Dav_crash_22 : decode b_Dav_crash 22 = .ok (.aload_n 0, 1) := by decide +kernel
theorem d_Dav_crash_23 : decode b_Dav_crash 23 = .ok (.getfield 41, 3) := by decide +kernel
theorem d_Dav_crash_26 : decode b_Dav_crash 26 = .ok (.aload_n 0, 1) := by decide +kernel
theorem d_Dav_crash_27 : decode b_Dav_crash 27 = .ok (.getfield 48, 3) := by decide +kernel
theorem d_Dav_crash_30 : decode b_Dav_crash 30 = .ok (.invokevirtual 122, 3) := by decide +kernel
theorem d_Dav_crash_33 : decode b_Dav_crash 33 = .ok (.pop, 1) := by decide +kernel
theorem d_Dav_crash_34 : decode b_Dav_crash 34 = .ok (.aload_n 0, 1) := by decide +kernel
theorem d_Dav_crash_35 : decode b_Dav_crash 35 = .ok (.getfield 31, 3) := by decide +kernel
theorem d_Dav_crash_38 : decode b_Dav_crash 38 = .ok (.invokevirtual 132, 3) := by decide +kernel
theorem d_Dav_crash_41 : decode b_Dav_crash 41 = .ok (.ireturn, 1) := by decide +kernel
theorem d_Dav_look_0 : decode b_Dav_look 0 = .ok (.iload_n 1, 1) := by decide +kernel
theorem d_Dav_look_1 : decode b_Dav_look 1 = .ok (.ifCond .lt 8, 3) := by decide +kernel
theorem d_Dav_look_4 : decode b_Dav_look 4 = .ok (.iload_n 1, 1) := by decide +kernel
theorem d_Dav_look_5 : decode b_Dav_look 5 = .ok (.iconst 3, 1) := by decide +kernel
theorem d_Dav_look_6 : decode b_Dav_look 6 = .ok (.if_icmp .le 5, 3) := by decide +kernel
theorem d_Dav_look_9 : decode b_Dav_look 9 = .ok (.iconst (-1), 1) := by decide +kernel
theorem d_Dav_look_10 : decode b_Dav_look 10 = .ok (.ireturn, 1) := by decide +kernel
theorem d_Dav_look_11 : decode b_Dav_look 11 = .ok (.aload_n 0, 1) := by decide +kernel
theorem d_Dav_look_12 : decode b_Dav_look 12 = .ok (.getfield 31, 3) := by decide +kernel
theorem d_Dav_look_15 : decode b_Dav_look 15 = .ok (.aload_n 0, 1) := by decide +kernel
theorem d_Dav_look_16 : decode b_Dav_look 16 = .ok (.getfield 14, 3) := by decide +kernel
theorem d_Dav_look_19 : decode b_Dav_look 19 = .ok (.aload_n 0, 1) := by decide +kernel
theorem d_Dav_look_20 : decode b_Dav_look 20 = .ok (.getfield 14, 3) := by decide +kernel
theorem d_Dav_look_23 : decode b_Dav_look 23 = .ok (.getfield 59, 3) := by decide +kernel
theorem d_Dav_look_26 : decode b_Dav_look 26 = .ok (.invokevirtual 81, 3) := by decide +kernel
theorem d_Dav_look_29 : decode b_Dav_look 29 = .ok (.astore_n 2, 1) := by decide +kernel
theorem d_Dav_look_30 : decode b_Dav_look 30 = .ok (.aload_n 0, 1) := by decide +kernel
theorem d_Dav_look_31 : decode b_Dav_look 31 = .ok (.getfield 14, 3) := by decide +kernel
theorem d_Dav_look_34 : decode b_Dav_look 34 = .ok (.invokevirtual 65, 3) := by decide +kernel
theorem d_Dav_look_37 : decode b_Dav_look 37 = .ok (.aload_n 2, 1) := by decide +kernel
theorem d_Dav_look_38 : decode b_Dav_look 38 = .ok (.ifnonnull 6, 3) := by decide +kernel
theorem d_Dav_look_41 : decode b_Dav_look 41 = .ok (.bipush (-2), 2) := by decide +kernel
theorem d_Dav_look_43 : decode b_Dav_look 43 = .ok (.ireturn, 1) := by decide +kernel
theorem d_Dav_look_44 : decode b_Dav_look 44 = .ok (.iload_n 1, 1) := by decide +kernel
theorem d_Dav_look_45 : decode b_Dav_look 45 = .ok (.tableswitch 76 0 2 #[27, 40, 45], 27) := by decide +kernel
theorem d_Dav_look_72 : decode b_Dav_look 72 = .ok (.aload_n 2, 1) := by decide +kernel
theorem d_Dav_look_73 : decode b_Dav_look 73 = .ok (.getfield 136, 3) := by decide +kernel
theorem d_Dav_look_76 : decode b_Dav_look 76 = .ok (.ifCond .eq 7, 3) := by decide +kernel
theorem d_Dav_look_79 : decode b_Dav_look 79 = .ok (.iconst 1, 1) := by decide +kernel
theorem d_Dav_look_80 : decode b_Dav_look 80 = .ok (.goto 4, 3) := by decide +kernel
theorem d_Dav_look_83 : decode b_Dav_look 83 = .ok (.iconst 2, 1) := by decide +kernel
theorem d_Dav_look_84 : decode b_Dav_look 84 = .ok (.ireturn, 1) := by decide +kernel
theorem d_Dav_look_85 : decode b_Dav_look 85 = .ok (.aload_n 2, 1) := by decide +kernel
theorem d_Dav_look_86 : decode b_Dav_look 86 = .ok (.getfield 142, 3) := by decide +kernel
theorem d_Dav_look_89 : decode b_Dav_look 89 = .ok (.ireturn, 1) := by decide +kernel
theorem d_Dav_look_90 : decode b_Dav_look 90 = .ok (.aload_n 2, 1) := by decide +kernel
theorem d_Dav_look_91 : decode b_Dav_look 91 = .ok (.getfield 136, 3) := by decide +kernel
theorem d_Dav_look_94 : decode b_Dav_look 94 = .ok (.ifCond .eq 13, 3) := by decide +kernel
theorem d_Dav_look_97 : decode b_Dav_look 97 = .ok (.aload_n 2, 1) := by decide +kernel
theorem d_Dav_look_98 : decode b_Dav_look 98 = .ok (.getfield 145, 3) := by decide +kernel
theorem d_Dav_look_101 : decode b_Dav_look 101 = .ok (.getfield 59, 3) := by decide +kernel
theorem d_Dav_look_104 : decode b_Dav_look 104 = .ok (.goto 16, 3) := by decide +kernel
theorem d_Dav_look_107 : decode b_Dav_look 107 = .ok (.aload_n 0, 1) := by decide +kernel
theorem d_Dav_look_108 : decode b_Dav_look 108 = .ok (.getfield 31, 3) := by decide +kernel
theorem d_Dav_look_111 : decode b_Dav_look 111 = .ok (.aload_n 2, 1) := by decide +kernel
theorem d_Dav_look_112 : decode b_Dav_look 112 = .ok (.getfield 148, 3) := by decide +kernel
theorem d_Dav_look_115 : decode b_Dav_look 115 = .ok (.invokevirtual 149, 3) := by decide +kernel
theorem d_Dav_look_118 : decode b_Dav_look 118 = .ok (.iconst 1, 1) := by decide +kernel
theorem d_Dav_look_119 : decode b_Dav_look 119 = .ok (.isub, 1) := by decide +kernel
theorem d_Dav_look_120 : decode b_Dav_look 120 = .ok (.ireturn, 1) := by decide +kernel
theorem d_Dav_look_121 : decode b_Dav_look 121 = .ok (.aload_n 0, 1) := by decide +kernel
theorem d_Dav_look_122 : decode b_Dav_look 122 = .ok (.getfield 41, 3) := by decide +kernel
theorem d_Dav_look_125 : decode b_Dav_look 125 = .ok (.aload_n 2, 1) := by decide +kernel
theorem d_Dav_look_126 : decode b_Dav_look 126 = .ok (.getfield 148, 3) := by decide +kernel
theorem d_Dav_look_129 : decode b_Dav_look 129 = .ok (.invokevirtual 153, 3) := by decide +kernel
theorem d_Dav_look_132 : decode b_Dav_look 132 = .ok (.ireturn, 1) := by decide +kernel
theorem d_Dav_lock_0 : decode b_Dav_lock 0 = .ok (.iload_n 2, 1) := by decide +kernel
theorem d_Dav_lock_1 : decode b_Dav_lock 1 = .ok (.ifCond .lt 8, 3) := by decide +kernel
theorem d_Dav_lock_4 : decode b_Dav_lock 4 = .ok (.iload_n 2, 1) := by decide +kernel
theorem d_Dav_lock_5 : decode b_Dav_lock 5 = .ok (.iconst 4, 1) := by decide +kernel
theorem d_Dav_lock_6 : decode b_Dav_lock 6 = .ok (.if_icmp .le 5, 3) := by decide +kernel
theorem d_Dav_lock_9 : decode b_Dav_lock 9 = .ok (.iconst (-1), 1) := by decide +kernel
theorem d_Dav_lock_10 : decode b_Dav_lock 10 = .ok (.ireturn, 1) := by decide +kernel
theorem d_Dav_lock_11 : decode b_Dav_lock 11 = .ok (.aload_n 0, 1) := by decide +kernel
theorem d_Dav_lock_12 : decode b_Dav_lock 12 = .ok (.getfield 41, 3) := by decide +kernel
theorem d_Dav_lock_15 : decode b_Dav_lock 15 = .ok (.iload_n 1, 1) := by decide +kernel
theorem d_Dav_lock_16 : decode b_Dav_lock 16 = .ok (.invokevirtual 156, 3) := by decide +kernel
theorem d_Dav_lock_19 : decode b_Dav_lock 19 = .ok (.astore_n 3, 1) := by decide +kernel
theorem d_Dav_lock_20 : decode b_Dav_lock 20 = .ok (.aload_n 3, 1) := by decide +kernel
theorem d_Dav_lock_21 : decode b_Dav_lock 21 = .ok (.ifnonnull 6, 3) := by decide +kernel
theorem d_Dav_lock_24 : decode b_Dav_lock 24 = .ok (.bipush (-2), 2) := by decide +kernel
theorem d_Dav_lock_26 : decode b_Dav_lock 26 = .ok (.ireturn, 1) := by decide +kernel
theorem d_Dav_lock_27 : decode b_Dav_lock 27 = .ok (.iload_n 2, 1) := by decide +kernel
theorem d_Dav_lock_28 : decode b_Dav_lock 28 = .ok (.tableswitch 68 0 3 #[32, 37, 42, 55], 32) := by decide +kernel
theorem d_Dav_lock_60 : decode b_Dav_lock 60 = .ok (.aload_n 3, 1) := by decide +kernel
theorem d_Dav_lock_61 : decode b_Dav_lock 61 = .ok (.getfield 160, 3) := by decide +kernel
theorem d_Dav_lock_64 : decode b_Dav_lock 64 = .ok (.ireturn, 1) := by decide +kernel
theorem d_Dav_lock_65 : decode b_Dav_lock 65 = .ok (.aload_n 3, 1) := by decide +kernel
theorem d_Dav_lock_66 : decode b_Dav_lock 66 = .ok (.getfield 165, 3) := by decide +kernel
theorem d_Dav_lock_69 : decode b_Dav_lock 69 = .ok (.ireturn, 1) := by decide +kernel
theorem d_Dav_lock_70 : decode b_Dav_lock 70 = .ok (.aload_n 3, 1) := by decide +kernel
theorem d_Dav_lock_71 : decode b_Dav_lock 71 = .ok (.getfield 168, 3) := by decide +kernel
theorem d_Dav_lock_74 : decode b_Dav_lock 74 = .ok (.ifCond .eq 7, 3) := by decide +kernel
theorem d_Dav_lock_77 : decode b_Dav_lock 77 = .ok (.iconst 1, 1) := by decide +kernel
theorem d_Dav_lock_78 : decode b_Dav_lock 78 = .ok (.goto 4, 3) := by decide +kernel
theorem d_Dav_lock_81 : decode b_Dav_lock 81 = .ok (.iconst 0, 1) := by decide +kernel
theorem d_Dav_lock_82 : decode b_Dav_lock 82 = .ok (.ireturn, 1) := by decide +kernel
theorem d_Dav_lock_83 : decode b_Dav_lock 83 = .ok (.aload_n 3, 1) := by decide +kernel
theorem d_Dav_lock_84 : decode b_Dav_lock 84 = .ok (.getfield 171, 3) := by decide +kernel
theorem d_Dav_lock_87 : decode b_Dav_lock 87 = .ok (.ifCond .eq 7, 3) := by decide +kernel
theorem d_Dav_lock_90 : decode b_Dav_lock 90 = .ok (.iconst 1, 1) := by decide +kernel
theorem d_Dav_lock_91 : decode b_Dav_lock 91 = .ok (.goto 4, 3) := by decide +kernel
theorem d_Dav_lock_94 : decode b_Dav_lock 94 = .ok (.iconst 0, 1) := by decide +kernel
theorem d_Dav_lock_95 : decode b_Dav_lock 95 = .ok (.ireturn, 1) := by decide +kernel
theorem d_Dav_lock_96 : decode b_Dav_lock 96 = .ok (.aload_n 3, 1) := by decide +kernel
theorem d_Dav_lock_97 : decode b_Dav_lock 97 = .ok (.getfield 168, 3) := by decide +kernel
theorem d_Dav_lock_100 : decode b_Dav_lock 100 = .ok (.ifCond .eq 17, 3) := by decide +kernel
theorem d_Dav_lock_103 : decode b_Dav_lock 103 = .ok (.aload_n 0, 1) := by decide +kernel
theorem d_Dav_lock_104 : decode b_Dav_lock 104 = .ok (.getfield 31, 3) := by decide +kernel
theorem d_Dav_lock_107 : decode b_Dav_lock 107 = .ok (.aload_n 3, 1) := by decide +kernel
theorem d_Dav_lock_108 : decode b_Dav_lock 108 = .ok (.getfield 174, 3) := by decide +kernel
theorem d_Dav_lock_111 : decode b_Dav_lock 111 = .ok (.invokevirtual 149, 3) := by decide +kernel
theorem d_Dav_lock_114 : decode b_Dav_lock 114 = .ok (.goto 4, 3) := by decide +kernel
theorem d_Dav_lock_117 : decode b_Dav_lock 117 = .ok (.iconst 1, 1) := by decide +kernel
theorem d_Dav_lock_118 : decode b_Dav_lock 118 = .ok (.ireturn, 1) := by decide +kernel
theorem d_Dav_count_0 : decode b_Dav_count 0 = .ok (.iload_n 1, 1) := by decide +kernel
theorem d_Dav_count_1 : decode b_Dav_count 1 = .ok (.tableswitch 72 0 4 #[35, 40, 48, 56, 64], 35) := by decide +kernel
theorem d_Dav_count_36 : decode b_Dav_count 36 = .ok (.aload_n 0, 1) := by decide +kernel
theorem d_Dav_count_37 : decode b_Dav_count 37 = .ok (.getfield 48, 3) := by decide +kernel
theorem d_Dav_count_40 : decode b_Dav_count 40 = .ok (.ireturn, 1) := by decide +kernel
theorem d_Dav_count_41 : decode b_Dav_count 41 = .ok (.aload_n 0, 1) := by decide +kernel
theorem d_Dav_count_42 : decode b_Dav_count 42 = .ok (.getfield 31, 3) := by decide +kernel
theorem d_Dav_count_45 : decode b_Dav_count 45 = .ok (.invokevirtual 132, 3) := by decide +kernel
theorem d_Dav_count_48 : decode b_Dav_count 48 = .ok (.ireturn, 1) := by decide +kernel
theorem d_Dav_count_49 : decode b_Dav_count 49 = .ok (.aload_n 0, 1) := by decide +kernel
theorem d_Dav_count_50 : decode b_Dav_count 50 = .ok (.getfield 31, 3) := by decide +kernel
theorem d_Dav_count_53 : decode b_Dav_count 53 = .ok (.invokevirtual 175, 3) := by decide +kernel
theorem d_Dav_count_56 : decode b_Dav_count 56 = .ok (.ireturn, 1) := by decide +kernel
theorem d_Dav_count_57 : decode b_Dav_count 57 = .ok (.aload_n 0, 1) := by decide +kernel
theorem d_Dav_count_58 : decode b_Dav_count 58 = .ok (.getfield 41, 3) := by decide +kernel
theorem d_Dav_count_61 : decode b_Dav_count 61 = .ok (.invokevirtual 178, 3) := by decide +kernel
theorem d_Dav_count_64 : decode b_Dav_count 64 = .ok (.ireturn, 1) := by decide +kernel
theorem d_Dav_count_65 : decode b_Dav_count 65 = .ok (.aload_n 0, 1) := by decide +kernel
theorem d_Dav_count_66 : decode b_Dav_count 66 = .ok (.getfield 31, 3) := by decide +kernel
theorem d_Dav_count_69 : decode b_Dav_count 69 = .ok (.invokevirtual 181, 3) := by decide +kernel
theorem d_Dav_count_72 : decode b_Dav_count 72 = .ok (.ireturn, 1) := by decide +kernel
theorem d_Dav_count_73 : decode b_Dav_count 73 = .ok (.iconst (-1), 1) := by decide +kernel
theorem d_Dav_count_74 : decode b_Dav_count 74 = .ok (.ireturn, 1) := by decide +kernel
theorem d_Dav_conditionsHold_0 : decode b_Dav_conditionsHold 0 = .ok (.aload_n 0, 1) := by decide +kernel
theorem d_Dav_conditionsHold_1 : decode b_Dav_conditionsHold 1 = .ok (.getfield 24, 3) := by decide +kernel
theorem d_Dav_conditionsHold_4 : decode b_Dav_conditionsHold 4 = .ok (.bipush 16, 2) := by decide +kernel
theorem d_Dav_conditionsHold_6 : decode b_Dav_conditionsHold 6 = .ok (.invokevirtual 184, 3) := by decide +kernel
theorem d_Dav_conditionsHold_9 : decode b_Dav_conditionsHold 9 = .ok (.ifCond .eq 9, 3) := by decide +kernel
theorem d_Dav_conditionsHold_12 : decode b_Dav_conditionsHold 12 = .ok (.aload_n 1, 1) := by decide +kernel
theorem d_Dav_conditionsHold_13 : decode b_Dav_conditionsHold 13 = .ok (.ifnull 5, 3) := by decide +kernel
theorem d_Dav_conditionsHold_16 : decode b_Dav_conditionsHold 16 = .ok (.iconst 0, 1) := by decide +kernel
theorem d_Dav_conditionsHold_17 : decode b_Dav_conditionsHold 17 = .ok (.ireturn, 1) := by decide +kernel
theorem d_Dav_conditionsHold_18 : decode b_Dav_conditionsHold 18 = .ok (.aload_n 0, 1) := by decide +kernel
theorem d_Dav_conditionsHold_19 : decode b_Dav_conditionsHold 19 = .ok (.getfield 24, 3) := by decide +kernel
theorem d_Dav_conditionsHold_22 : decode b_Dav_conditionsHold 22 = .ok (.bipush 8, 2) := by decide +kernel
theorem d_Dav_conditionsHold_24 : decode b_Dav_conditionsHold 24 = .ok (.invokevirtual 184, 3) := by decide +kernel
theorem d_Dav_conditionsHold_27 : decode b_Dav_conditionsHold 27 = .ok (.ifCond .ne 5, 3) := by decide +kernel
theorem d_Dav_conditionsHold_30 : decode b_Dav_conditionsHold 30 = .ok (.iconst 1, 1) := by decide +kernel
theorem d_Dav_conditionsHold_31 : decode b_Dav_conditionsHold 31 = .ok (.ireturn, 1) := by decide +kernel
theorem d_Dav_conditionsHold_32 : decode b_Dav_conditionsHold 32 = .ok (.aload_n 1, 1) := by decide +kernel
theorem d_Dav_conditionsHold_33 : decode b_Dav_conditionsHold 33 = .ok (.ifnonnull 5, 3) := by decide +kernel
theorem d_Dav_conditionsHold_36 : decode b_Dav_conditionsHold 36 = .ok (.iconst 0, 1) := by decide +kernel
theorem d_Dav_conditionsHold_37 : decode b_Dav_conditionsHold 37 = .ok (.ireturn, 1) := by decide +kernel
theorem d_Dav_conditionsHold_38 : decode b_Dav_conditionsHold 38 = .ok (.aload_n 0, 1) := by decide +kernel
theorem d_Dav_conditionsHold_39 : decode b_Dav_conditionsHold 39 = .ok (.getfield 24, 3) := by decide +kernel
theorem d_Dav_conditionsHold_42 : decode b_Dav_conditionsHold 42 = .ok (.getfield 187, 3) := by decide +kernel
theorem d_Dav_conditionsHold_45 : decode b_Dav_conditionsHold 45 = .ok (.ifCond .ne 24, 3) := by decide +kernel
theorem d_Dav_conditionsHold_48 : decode b_Dav_conditionsHold 48 = .ok (.aload_n 1, 1) := by decide +kernel
theorem d_Dav_conditionsHold_49 : decode b_Dav_conditionsHold 49 = .ok (.getfield 136, 3) := by decide +kernel
theorem d_Dav_conditionsHold_52 : decode b_Dav_conditionsHold 52 = .ok (.ifCond .eq 21, 3) := by decide +kernel
theorem d_Dav_conditionsHold_55 : decode b_Dav_conditionsHold 55 = .ok (.aload_n 1, 1) := by decide +kernel
theorem d_Dav_conditionsHold_56 : decode b_Dav_conditionsHold 56 = .ok (.getfield 142, 3) := by decide +kernel
theorem d_Dav_conditionsHold_59 : decode b_Dav_conditionsHold 59 = .ok (.aload_n 0, 1) := by decide +kernel
theorem d_Dav_conditionsHold_60 : decode b_Dav_conditionsHold 60 = .ok (.getfield 24, 3) := by decide +kernel
theorem d_Dav_conditionsHold_63 : decode b_Dav_conditionsHold 63 = .ok (.getfield 190, 3) := by decide +kernel
theorem d_Dav_conditionsHold_66 : decode b_Dav_conditionsHold 66 = .ok (.if_icmp .ne 7, 3) := by decide +kernel
theorem d_Dav_conditionsHold_69 : decode b_Dav_conditionsHold 69 = .ok (.iconst 1, 1) := by decide +kernel
theorem d_Dav_conditionsHold_70 : decode b_Dav_conditionsHold 70 = .ok (.goto 4, 3) := by decide +kernel
theorem d_Dav_conditionsHold_73 : decode b_Dav_conditionsHold 73 = .ok (.iconst 0, 1) := by decide +kernel
theorem d_Dav_conditionsHold_74 : decode b_Dav_conditionsHold 74 = .ok (.ireturn, 1) := by decide +kernel
theorem d_Dav_answerGet_0 : decode b_Dav_answerGet 0 = .ok (.aload_n 1, 1) := by decide +kernel
theorem d_Dav_answerGet_1 : decode b_Dav_answerGet 1 = .ok (.ifnonnull 7, 3) := by decide +kernel
theorem d_Dav_answerGet_4 : decode b_Dav_answerGet 4 = .ok (.sipush 404, 3) := by decide +kernel
theorem d_Dav_answerGet_7 : decode b_Dav_answerGet 7 = .ok (.ireturn, 1) := by decide +kernel
theorem d_Dav_answerGet_8 : decode b_Dav_answerGet 8 = .ok (.aload_n 1, 1) := by decide +kernel
theorem d_Dav_answerGet_9 : decode b_Dav_answerGet 9 = .ok (.getfield 136, 3) := by decide +kernel
theorem d_Dav_answerGet_12 : decode b_Dav_answerGet 12 = .ok (.ifCond .eq 25, 3) := by decide +kernel
theorem d_Dav_answerGet_15 : decode b_Dav_answerGet 15 = .ok (.aload_n 0, 1) := by decide +kernel
theorem d_Dav_answerGet_16 : decode b_Dav_answerGet 16 = .ok (.getfield 18, 3) := by decide +kernel
theorem d_Dav_answerGet_19 : decode b_Dav_answerGet 19 = .ok (.aload_n 1, 1) := by decide +kernel
theorem d_Dav_answerGet_20 : decode b_Dav_answerGet 20 = .ok (.getfield 145, 3) := by decide +kernel
theorem d_Dav_answerGet_23 : decode b_Dav_answerGet 23 = .ok (.iconst 0, 1) := by decide +kernel
theorem d_Dav_answerGet_24 : decode b_Dav_answerGet 24 = .ok (.aload_n 1, 1) := by decide +kernel
theorem d_Dav_answerGet_25 : decode b_Dav_answerGet 25 = .ok (.getfield 145, 3) := by decide +kernel
theorem d_Dav_answerGet_28 : decode b_Dav_answerGet 28 = .ok (.getfield 59, 3) := by decide +kernel
theorem d_Dav_answerGet_31 : decode b_Dav_answerGet 31 = .ok (.invokevirtual 193, 3) := by decide +kernel
theorem d_Dav_answerGet_34 : decode b_Dav_answerGet 34 = .ok (.goto 18, 3) := by decide +kernel
theorem d_Dav_answerGet_37 : decode b_Dav_answerGet 37 = .ok (.aload_n 0, 1) := by decide +kernel
theorem d_Dav_answerGet_38 : decode b_Dav_answerGet 38 = .ok (.getfield 31, 3) := by decide +kernel
theorem d_Dav_answerGet_41 : decode b_Dav_answerGet 41 = .ok (.aload_n 1, 1) := by decide +kernel
theorem d_Dav_answerGet_42 : decode b_Dav_answerGet 42 = .ok (.getfield 148, 3) := by decide +kernel
theorem d_Dav_answerGet_45 : decode b_Dav_answerGet 45 = .ok (.aload_n 0, 1) := by decide +kernel
theorem d_Dav_answerGet_46 : decode b_Dav_answerGet 46 = .ok (.getfield 18, 3) := by decide +kernel
theorem d_Dav_answerGet_49 : decode b_Dav_answerGet 49 = .ok (.invokevirtual 197, 3) := by decide +kernel
theorem d_Dav_answerGet_52 : decode b_Dav_answerGet 52 = .ok (.sipush 200, 3) := by decide +kernel
theorem d_Dav_answerGet_55 : decode b_Dav_answerGet 55 = .ok (.ireturn, 1) := by decide +kernel
theorem d_Dav_answerPut_0 : decode b_Dav_answerPut 0 = .ok (.aload_n 1, 1) := by decide +kernel
theorem d_Dav_answerPut_1 : decode b_Dav_answerPut 1 = .ok (.ifnonnull 52, 3) := by decide +kernel
theorem d_Dav_answerPut_4 : decode b_Dav_answerPut 4 = .ok (.aload_n 0, 1) := by decide +kernel
theorem d_Dav_answerPut_5 : decode b_Dav_answerPut 5 = .ok (.invokevirtual 201, 3) := by decide +kernel
theorem d_Dav_answerPut_8 : decode b_Dav_answerPut 8 = .ok (.istore_n 2, 1) := by decide +kernel
theorem d_Dav_answerPut_9 : decode b_Dav_answerPut 9 = .ok (.iload_n 2, 1) := by decide +kernel
theorem d_Dav_answerPut_10 : decode b_Dav_answerPut 10 = .ok (.ifCond .ne 31, 3) := by decide +kernel
theorem d_Dav_answerPut_13 : decode b_Dav_answerPut 13 = .ok (.aload_n 0, 1) := by decide +kernel
theorem d_Dav_answerPut_14 : decode b_Dav_answerPut 14 = .ok (.getfield 31, 3) := by decide +kernel
theorem d_Dav_answerPut_17 : decode b_Dav_answerPut 17 = .ok (.aload_n 0, 1) := by decide +kernel
theorem d_Dav_answerPut_18 : decode b_Dav_answerPut 18 = .ok (.getfield 31, 3) := by decide +kernel
theorem d_Dav_answerPut_21 : decode b_Dav_answerPut 21 = .ok (.aload_n 0, 1) := by decide +kernel
theorem d_Dav_answerPut_22 : decode b_Dav_answerPut 22 = .ok (.getfield 24, 3) := by decide +kernel
theorem d_Dav_answerPut_25 : decode b_Dav_answerPut 25 = .ok (.getfield 78, 3) := by decide +kernel
theorem d_Dav_answerPut_28 : decode b_Dav_answerPut 28 = .ok (.invokevirtual 204, 3) := by decide +kernel
theorem d_Dav_answerPut_31 : decode b_Dav_answerPut 31 = .ok (.aload_n 0, 1) := by decide +kernel
theorem d_Dav_answerPut_32 : decode b_Dav_answerPut 32 = .ok (.getfield 24, 3) := by decide +kernel
theorem d_Dav_answerPut_35 : decode b_Dav_answerPut 35 = .ok (.getfield 208, 3) := by decide +kernel
theorem d_Dav_answerPut_38 : decode b_Dav_answerPut 38 = .ok (.invokevirtual 209, 3) := by decide +kernel
theorem d_Dav_answerPut_41 : decode b_Dav_answerPut 41 = .ok (.iload_n 2, 1) := by decide +kernel
theorem d_Dav_answerPut_42 : decode b_Dav_answerPut 42 = .ok (.ifCond .ne 9, 3) := by decide +kernel
theorem d_Dav_answerPut_45 : decode b_Dav_answerPut 45 = .ok (.sipush 201, 3) := by decide +kernel
theorem d_Dav_answerPut_48 : decode b_Dav_answerPut 48 = .ok (.goto 4, 3) := by decide +kernel
theorem d_Dav_answerPut_51 : decode b_Dav_answerPut 51 = .ok (.iload_n 2, 1) := by decide +kernel
theorem d_Dav_answerPut_52 : decode b_Dav_answerPut 52 = .ok (.ireturn, 1) := by decide +kernel
theorem d_Dav_answerPut_53 : decode b_Dav_answerPut 53 = .ok (.aload_n 1, 1) := by decide +kernel
theorem d_Dav_answerPut_54 : decode b_Dav_answerPut 54 = .ok (.getfield 136, 3) := by decide +kernel
theorem d_Dav_answerPut_57 : decode b_Dav_answerPut 57 = .ok (.ifCond .ne 7, 3) := by decide +kernel
theorem d_Dav_answerPut_60 : decode b_Dav_answerPut 60 = .ok (.sipush 405, 3) := by decide +kernel
theorem d_Dav_answerPut_63 : decode b_Dav_answerPut 63 = .ok (.ireturn, 1) := by decide +kernel
theorem d_Dav_answerPut_64 : decode b_Dav_answerPut 64 = .ok (.aload_n 0, 1) := by decide +kernel
theorem d_Dav_answerPut_65 : decode b_Dav_answerPut 65 = .ok (.getfield 41, 3) := by decide +kernel
theorem d_Dav_answerPut_68 : decode b_Dav_answerPut 68 = .ok (.aload_n 1, 1) := by decide +kernel
theorem d_Dav_answerPut_69 : decode b_Dav_answerPut 69 = .ok (.getfield 148, 3) := by decide +kernel
theorem d_Dav_answerPut_72 : decode b_Dav_answerPut 72 = .ok (.aload_n 0, 1) := by decide +kernel
theorem d_Dav_answerPut_73 : decode b_Dav_answerPut 73 = .ok (.getfield 24, 3) := by decide +kernel
theorem d_Dav_answerPut_76 : decode b_Dav_answerPut 76 = .ok (.getfield 213, 3) := by decide +kernel
theorem d_Dav_answerPut_79 : decode b_Dav_answerPut 79 = .ok (.invokevirtual 214, 3) := by decide +kernel
theorem d_Dav_answerPut_82 : decode b_Dav_answerPut 82 = .ok (.ifCond .ne 7, 3) := by decide +kernel
theorem d_Dav_answerPut_85 : decode b_Dav_answerPut 85 = .ok (.sipush 423, 3) := by decide +kernel
theorem d_Dav_answerPut_88 : decode b_Dav_answerPut 88 = .ok (.ireturn, 1) := by decide +kernel
theorem d_Dav_answerPut_89 : decode b_Dav_answerPut 89 = .ok (.aload_n 0, 1) := by decide +kernel
theorem d_Dav_answerPut_90 : decode b_Dav_answerPut 90 = .ok (.getfield 31, 3) := by decide +kernel
theorem d_Dav_answerPut_93 : decode b_Dav_answerPut 93 = .ok (.aload_n 1, 1) := by decide +kernel
theorem d_Dav_answerPut_94 : decode b_Dav_answerPut 94 = .ok (.aload_n 0, 1) := by decide +kernel
theorem d_Dav_answerPut_95 : decode b_Dav_answerPut 95 = .ok (.getfield 24, 3) := by decide +kernel
theorem d_Dav_answerPut_98 : decode b_Dav_answerPut 98 = .ok (.getfield 208, 3) := by decide +kernel
theorem d_Dav_answerPut_101 : decode b_Dav_answerPut 101 = .ok (.invokevirtual 209, 3) := by decide +kernel
theorem d_Dav_answerPut_104 : decode b_Dav_answerPut 104 = .ok (.sipush 204, 3) := by decide +kernel
theorem d_Dav_answerPut_107 : decode b_Dav_answerPut 107 = .ok (.ireturn, 1) := by decide +kernel
theorem d_Dav_answerMkcol_0 : decode b_Dav_answerMkcol 0 = .ok (.aload_n 1, 1) := by decide +kernel
theorem d_Dav_answerMkcol_1 : decode b_Dav_answerMkcol 1 = .ok (.ifnull 7, 3) := by decide +kernel
theorem d_Dav_answerMkcol_4 : decode b_Dav_answerMkcol 4 = .ok (.sipush 405, 3) := by decide +kernel
theorem d_Dav_answerMkcol_7 : decode b_Dav_answerMkcol 7 = .ok (.ireturn, 1) := by decide +kernel
theorem d_Dav_answerMkcol_8 : decode b_Dav_answerMkcol 8 = .ok (.aload_n 0, 1) := by decide +kernel
theorem d_Dav_answerMkcol_9 : decode b_Dav_answerMkcol 9 = .ok (.invokevirtual 201, 3) := by decide +kernel
theorem d_Dav_answerMkcol_12 : decode b_Dav_answerMkcol 12 = .ok (.istore_n 2, 1) := by decide +kernel
theorem d_Dav_answerMkcol_13 : decode b_Dav_answerMkcol 13 = .ok (.iload_n 2, 1) := by decide +kernel
theorem d_Dav_answerMkcol_14 : decode b_Dav_answerMkcol 14 = .ok (.ifCond .ne 18, 3) := by decide +kernel
theorem d_Dav_answerMkcol_17 : decode b_Dav_answerMkcol 17 = .ok (.aload_n 0, 1) := by decide +kernel
theorem d_Dav_answerMkcol_18 : decode b_Dav_answerMkcol 18 = .ok (.getfield 31, 3) := by decide +kernel
theorem d_Dav_answerMkcol_21 : decode b_Dav_answerMkcol 21 = .ok (.aload_n 0, 1) := by decide +kernel
theorem d_Dav_answerMkcol_22 : decode b_Dav_answerMkcol 22 = .ok (.getfield 24, 3) := by decide +kernel
theorem d_Dav_answerMkcol_25 : decode b_Dav_answerMkcol 25 = .ok (.getfield 78, 3) := by decide +kernel
theorem d_Dav_answerMkcol_28 : decode b_Dav_answerMkcol 28 = .ok (.invokevirtual 204, 3) := by decide +kernel
theorem d_Dav_answerMkcol_31 : decode b_Dav_answerMkcol 31 = .ok (.pop, 1) := by decide +kernel
theorem d_Dav_answerMkcol_32 : decode b_Dav_answerMkcol 32 = .ok (.iload_n 2, 1) := by decide +kernel
theorem d_Dav_answerMkcol_33 : decode b_Dav_answerMkcol 33 = .ok (.ifCond .ne 9, 3) := by decide +kernel
theorem d_Dav_answerMkcol_36 : decode b_Dav_answerMkcol 36 = .ok (.sipush 201, 3) := by decide +kernel
theorem d_Dav_answerMkcol_39 : decode b_Dav_answerMkcol 39 = .ok (.goto 4, 3) := by decide +kernel
theorem d_Dav_answerMkcol_42 : decode b_Dav_answerMkcol 42 = .ok (.iload_n 2, 1) := by decide +kernel
theorem d_Dav_answerMkcol_43 : decode b_Dav_answerMkcol 43 = .ok (.ireturn, 1) := by decide +kernel
theorem d_Dav_refusalOfNew_0 : decode b_Dav_refusalOfNew 0 = .ok (.aload_n 0, 1) := by decide +kernel
theorem d_Dav_refusalOfNew_1 : decode b_Dav_refusalOfNew 1 = .ok (.getfield 31, 3) := by decide +kernel
theorem d_Dav_refusalOfNew_4 : decode b_Dav_refusalOfNew 4 = .ok (.aload_n 0, 1) := by decide +kernel
theorem d_Dav_refusalOfNew_5 : decode b_Dav_refusalOfNew 5 = .ok (.getfield 24, 3) := by decide +kernel
theorem d_Dav_refusalOfNew_8 : decode b_Dav_refusalOfNew 8 = .ok (.getfield 78, 3) := by decide +kernel
theorem d_Dav_refusalOfNew_11 : decode b_Dav_refusalOfNew 11 = .ok (.invokevirtual 218, 3) := by decide +kernel
theorem d_Dav_refusalOfNew_14 : decode b_Dav_refusalOfNew 14 = .ok (.astore_n 1, 1) := by decide +kernel
theorem d_Dav_refusalOfNew_15 : decode b_Dav_refusalOfNew 15 = .ok (.aload_n 1, 1) := by decide +kernel
theorem d_Dav_refusalOfNew_16 : decode b_Dav_refusalOfNew 16 = .ok (.ifnonnull 7, 3) := by decide +kernel
theorem d_Dav_refusalOfNew_19 : decode b_Dav_refusalOfNew 19 = .ok (.sipush 409, 3) := by decide +kernel
theorem d_Dav_refusalOfNew_22 : decode b_Dav_refusalOfNew 22 = .ok (.ireturn, 1) := by decide +kernel
theorem d_Dav_refusalOfNew_23 : decode b_Dav_refusalOfNew 23 = .ok (.aload_n 0, 1) := by decide +kernel
theorem d_Dav_refusalOfNew_24 : decode b_Dav_refusalOfNew 24 = .ok (.getfield 41, 3) := by decide +kernel
theorem d_Dav_refusalOfNew_27 : decode b_Dav_refusalOfNew 27 = .ok (.aload_n 1, 1) := by decide +kernel
theorem d_Dav_refusalOfNew_28 : decode b_Dav_refusalOfNew 28 = .ok (.getfield 148, 3) := by decide +kernel
theorem d_Dav_refusalOfNew_31 : decode b_Dav_refusalOfNew 31 = .ok (.aload_n 0, 1) := by decide +kernel
theorem d_Dav_refusalOfNew_32 : decode b_Dav_refusalOfNew 32 = .ok (.getfield 24, 3) := by decide +kernel
theorem d_Dav_refusalOfNew_35 : decode b_Dav_refusalOfNew 35 = .ok (.getfield 213, 3) := by decide +kernel
theorem d_Dav_refusalOfNew_38 : decode b_Dav_refusalOfNew 38 = .ok (.invokevirtual 214, 3) := by decide +kernel
theorem d_Dav_refusalOfNew_41 : decode b_Dav_refusalOfNew 41 = .ok (.ifCond .ne 7, 3) := by decide +kernel
theorem d_Dav_refusalOfNew_44 : decode b_Dav_refusalOfNew 44 = .ok (.sipush 423, 3) := by decide +kernel
theorem d_Dav_refusalOfNew_47 : decode b_Dav_refusalOfNew 47 = .ok (.ireturn, 1) := by decide +kernel
theorem d_Dav_refusalOfNew_48 : decode b_Dav_refusalOfNew 48 = .ok (.aload_n 0, 1) := by decide +kernel
theorem d_Dav_refusalOfNew_49 : decode b_Dav_refusalOfNew 49 = .ok (.getfield 31, 3) := by decide +kernel
theorem d_Dav_refusalOfNew_52 : decode b_Dav_refusalOfNew 52 = .ok (.invokevirtual 221, 3) := by decide +kernel
theorem d_Dav_refusalOfNew_55 : decode b_Dav_refusalOfNew 55 = .ok (.ifCond .eq 9, 3) := by decide +kernel
theorem d_Dav_refusalOfNew_58 : decode b_Dav_refusalOfNew 58 = .ok (.sipush 507, 3) := by decide +kernel
theorem d_Dav_refusalOfNew_61 : decode b_Dav_refusalOfNew 61 = .ok (.goto 4, 3) := by decide +kernel
theorem d_Dav_refusalOfNew_64 : decode b_Dav_refusalOfNew 64 = .ok (.iconst 0, 1) := by decide +kernel
theorem d_Dav_refusalOfNew_65 : decode b_Dav_refusalOfNew 65 = .ok (.ireturn, 1) := by decide +kernel
theorem d_Dav_answerDelete_0 : decode b_Dav_answerDelete 0 = .ok (.aload_n 1, 1) := by decide +kernel
theorem d_Dav_answerDelete_1 : decode b_Dav_answerDelete 1 = .ok (.ifnonnull 7, 3) := by decide +kernel
theorem d_Dav_answerDelete_4 : decode b_Dav_answerDelete 4 = .ok (.sipush 404, 3) := by decide +kernel
theorem d_Dav_answerDelete_7 : decode b_Dav_answerDelete 7 = .ok (.ireturn, 1) := by decide +kernel
theorem d_Dav_answerDelete_8 : decode b_Dav_answerDelete 8 = .ok (.aload_n 1, 1) := by decide +kernel
theorem d_Dav_answerDelete_9 : decode b_Dav_answerDelete 9 = .ok (.getfield 148, 3) := by decide +kernel
theorem d_Dav_answerDelete_12 : decode b_Dav_answerDelete 12 = .ok (.invokestatic 225, 3) := by decide +kernel
theorem d_Dav_answerDelete_15 : decode b_Dav_answerDelete 15 = .ok (.ifCond .eq 7, 3) := by decide +kernel
theorem d_Dav_answerDelete_18 : decode b_Dav_answerDelete 18 = .ok (.sipush 403, 3) := by decide +kernel
theorem d_Dav_answerDelete_21 : decode b_Dav_answerDelete 21 = .ok (.ireturn, 1) := by decide +kernel
theorem d_Dav_answerDelete_22 : decode b_Dav_answerDelete 22 = .ok (.aload_n 0, 1) := by decide +kernel
theorem d_Dav_answerDelete_23 : decode b_Dav_answerDelete 23 = .ok (.getfield 31, 3) := by decide +kernel
theorem d_Dav_answerDelete_26 : decode b_Dav_answerDelete 26 = .ok (.aload_n 1, 1) := by decide +kernel
theorem d_Dav_answerDelete_27 : decode b_Dav_answerDelete 27 = .ok (.aload_n 0, 1) := by decide +kernel
theorem d_Dav_answerDelete_28 : decode b_Dav_answerDelete 28 = .ok (.getfield 41, 3) := by decide +kernel
theorem d_Dav_answerDelete_31 : decode b_Dav_answerDelete 31 = .ok (.aload_n 0, 1) := by decide +kernel
theorem d_Dav_answerDelete_32 : decode b_Dav_answerDelete 32 = .ok (.getfield 24, 3) := by decide +kernel
theorem d_Dav_answerDelete_35 : decode b_Dav_answerDelete 35 = .ok (.getfield 213, 3) := by decide +kernel
theorem d_Dav_answerDelete_38 : decode b_Dav_answerDelete 38 = .ok (.invokevirtual 230, 3) := by decide +kernel
theorem d_Dav_answerDelete_41 : decode b_Dav_answerDelete 41 = .ok (.ifCond .ne 7, 3) := by decide +kernel
theorem d_Dav_answerDelete_44 : decode b_Dav_answerDelete 44 = .ok (.sipush 423, 3) := by decide +kernel
theorem d_Dav_answerDelete_47 : decode b_Dav_answerDelete 47 = .ok (.ireturn, 1) := by decide +kernel
theorem d_Dav_answerDelete_48 : decode b_Dav_answerDelete 48 = .ok (.aload_n 0, 1) := by decide +kernel
theorem d_Dav_answerDelete_49 : decode b_Dav_answerDelete 49 = .ok (.aload_n 0, 1) := by decide +kernel
theorem d_Dav_answerDelete_50 : decode b_Dav_answerDelete 50 = .ok (.getfield 24, 3) := by decide +kernel
theorem d_Dav_answerDelete_53 : decode b_Dav_answerDelete 53 = .ok (.getfield 78, 3) := by decide +kernel
theorem d_Dav_answerDelete_56 : decode b_Dav_answerDelete 56 = .ok (.invokevirtual 234, 3) := by decide +kernel
theorem d_Dav_answerDelete_59 : decode b_Dav_answerDelete 59 = .ok (.sipush 204, 3) := by decide +kernel
theorem d_Dav_answerDelete_62 : decode b_Dav_answerDelete 62 = .ok (.ireturn, 1) := by decide +kernel
theorem d_Dav_answerTransfer_0 : decode b_Dav_answerTransfer 0 = .ok (.aload_n 1, 1) := by decide +kernel
theorem d_Dav_answerTransfer_1 : decode b_Dav_answerTransfer 1 = .ok (.ifnonnull 7, 3) := by decide +kernel
theorem d_Dav_answerTransfer_4 : decode b_Dav_answerTransfer 4 = .ok (.sipush 404, 3) := by decide +kernel
theorem d_Dav_answerTransfer_7 : decode b_Dav_answerTransfer 7 = .ok (.ireturn, 1) := by decide +kernel
theorem d_Dav_answerTransfer_8 : decode b_Dav_answerTransfer 8 = .ok (.aload_n 0, 1) := by decide +kernel
theorem d_Dav_answerTransfer_9 : decode b_Dav_answerTransfer 9 = .ok (.getfield 24, 3) := by decide +kernel
theorem d_Dav_answerTransfer_12 : decode b_Dav_answerTransfer 12 = .ok (.getfield 238, 3) := by decide +kernel
theorem d_Dav_answerTransfer_15 : decode b_Dav_answerTransfer 15 = .ok (.aload_n 1, 1) := by decide +kernel
theorem d_Dav_answerTransfer_16 : decode b_Dav_answerTransfer 16 = .ok (.getfield 148, 3) := by decide +kernel
theorem d_Dav_answerTransfer_19 : decode b_Dav_answerTransfer 19 = .ok (.invokestatic 241, 3) := by decide +kernel
theorem d_Dav_answerTransfer_22 : decode b_Dav_answerTransfer 22 = .ok (.ifCond .ne 20, 3) := by decide +kernel
theorem d_Dav_answerTransfer_25 : decode b_Dav_answerTransfer 25 = .ok (.aload_n 1, 1) := by decide +kernel
theorem d_Dav_answerTransfer_26 : decode b_Dav_answerTransfer 26 = .ok (.getfield 148, 3) := by decide +kernel
theorem d_Dav_answerTransfer_29 : decode b_Dav_answerTransfer 29 = .ok (.aload_n 0, 1) := by decide +kernel
theorem d_Dav_answerTransfer_30 : decode b_Dav_answerTransfer 30 = .ok (.getfield 24, 3) := by decide +kernel
theorem d_Dav_answerTransfer_33 : decode b_Dav_answerTransfer 33 = .ok (.getfield 238, 3) := by decide +kernel
theorem d_Dav_answerTransfer_36 : decode b_Dav_answerTransfer 36 = .ok (.invokestatic 241, 3) := by decide +kernel
theorem d_Dav_answerTransfer_39 : decode b_Dav_answerTransfer 39 = .ok (.ifCond .eq 7, 3) := by decide +kernel
theorem d_Dav_answerTransfer_42 : decode b_Dav_answerTransfer 42 = .ok (.sipush 403, 3) := by decide +kernel
theorem d_Dav_answerTransfer_45 : decode b_Dav_answerTransfer 45 = .ok (.ireturn, 1) := by decide +kernel
theorem d_Dav_answerTransfer_46 : decode b_Dav_answerTransfer 46 = .ok (.aload_n 0, 1) := by decide +kernel
theorem d_Dav_answerTransfer_47 : decode b_Dav_answerTransfer 47 = .ok (.getfield 31, 3) := by decide +kernel
theorem d_Dav_answerTransfer_50 : decode b_Dav_answerTransfer 50 = .ok (.aload_n 0, 1) := by decide +kernel
theorem d_Dav_answerTransfer_51 : decode b_Dav_answerTransfer 51 = .ok (.getfield 24, 3) := by decide +kernel
theorem d_Dav_answerTransfer_54 : decode b_Dav_answerTransfer 54 = .ok (.getfield 238, 3) := by decide +kernel
theorem d_Dav_answerTransfer_57 : decode b_Dav_answerTransfer 57 = .ok (.invokevirtual 218, 3) := by decide +kernel
theorem d_Dav_answerTransfer_60 : decode b_Dav_answerTransfer 60 = .ok (.astore_n 3, 1) := by decide +kernel
theorem d_Dav_answerTransfer_61 : decode b_Dav_answerTransfer 61 = .ok (.aload_n 3, 1) := by decide +kernel
theorem d_Dav_answerTransfer_62 : decode b_Dav_answerTransfer 62 = .ok (.ifnull 11, 3) := by decide +kernel
theorem d_Dav_answerTransfer_65 : decode b_Dav_answerTransfer 65 = .ok (.aload_n 0, 1) := by decide +kernel
theorem d_Dav_answerTransfer_66 : decode b_Dav_answerTransfer 66 = .ok (.aload_n 1, 1) := by decide +kernel
theorem d_Dav_answerTransfer_67 : decode b_Dav_answerTransfer 67 = .ok (.invokevirtual 245, 3) := by decide +kernel
theorem d_Dav_answerTransfer_70 : decode b_Dav_answerTransfer 70 = .ok (.ifCond .eq 7, 3) := by decide +kernel
theorem d_Dav_answerTransfer_73 : decode b_Dav_answerTransfer 73 = .ok (.sipush 409, 3) := by decide +kernel
theorem d_Dav_answerTransfer_76 : decode b_Dav_answerTransfer 76 = .ok (.ireturn, 1) := by decide +kernel
theorem d_Dav_answerTransfer_77 : decode b_Dav_answerTransfer 77 = .ok (.aload_n 0, 1) := by decide +kernel
theorem d_Dav_answerTransfer_78 : decode b_Dav_answerTransfer 78 = .ok (.getfield 31, 3) := by decide +kernel
theorem d_Dav_answerTransfer_81 : decode b_Dav_answerTransfer 81 = .ok (.aload_n 0, 1) := by decide +kernel
theorem d_Dav_answerTransfer_82 : decode b_Dav_answerTransfer 82 = .ok (.getfield 24, 3) := by decide +kernel
theorem d_Dav_answerTransfer_85 : decode b_Dav_answerTransfer 85 = .ok (.getfield 238, 3) := by decide +kernel
theorem d_Dav_answerTransfer_88 : decode b_Dav_answerTransfer 88 = .ok (.aload_n 0, 1) := by decide +kernel
theorem d_Dav_answerTransfer_89 : decode b_Dav_answerTransfer 89 = .ok (.getfield 24, 3) := by decide +kernel
theorem d_Dav_answerTransfer_92 : decode b_Dav_answerTransfer 92 = .ok (.getfield 238, 3) := by decide +kernel
theorem d_Dav_answerTransfer_95 : decode b_Dav_answerTransfer 95 = .ok (.getfield 59, 3) := by decide +kernel
theorem d_Dav_answerTransfer_98 : decode b_Dav_answerTransfer 98 = .ok (.invokevirtual 81, 3) := by decide +kernel
theorem d_Dav_answerTransfer_101 : decode b_Dav_answerTransfer 101 = .ok (.ifnonnull 7, 3) := by decide +kernel
theorem d_Dav_answerTransfer_104 : decode b_Dav_answerTransfer 104 = .ok (.iconst 1, 1) := by decide +kernel
theorem d_Dav_answerTransfer_105 : decode b_Dav_answerTransfer 105 = .ok (.goto 4, 3) := by decide +kernel
theorem d_Dav_answerTransfer_108 : decode b_Dav_answerTransfer 108 = .ok (.iconst 0, 1) := by decide +kernel
theorem d_Dav_answerTransfer_109 : decode b_Dav_answerTransfer 109 = .ok (.istore 4, 2) := by decide +kernel
theorem d_Dav_answerTransfer_111 : decode b_Dav_answerTransfer 111 = .ok (.iload 4, 2) := by decide +kernel
theorem d_Dav_answerTransfer_113 : decode b_Dav_answerTransfer 113 = .ok (.ifCond .ne 17, 3) := by decide +kernel
theorem d_Dav_answerTransfer_116 : decode b_Dav_answerTransfer 116 = .ok (.aload_n 0, 1) := by decide +kernel
theorem d_Dav_answerTransfer_117 : decode b_Dav_answerTransfer 117 = .ok (.getfield 24, 3) := by decide +kernel
theorem d_Dav_answerTransfer_120 : decode b_Dav_answerTransfer 120 = .ok (.getfield 248, 3) := by decide +kernel
theorem d_Dav_answerTransfer_123 : decode b_Dav_answerTransfer 123 = .ok (.ifCond .eq 7, 3) := by decide +kernel
theorem d_Dav_answerTransfer_126 : decode b_Dav_answerTransfer 126 = .ok (.sipush 412, 3) := by decide +kernel
theorem d_Dav_answerTransfer_129 : decode b_Dav_answerTransfer 129 = .ok (.ireturn, 1) := by decide +kernel
theorem d_Dav_answerTransfer_130 : decode b_Dav_answerTransfer 130 = .ok (.iload 4, 2) := by decide +kernel
theorem d_Dav_answerTransfer_132 : decode b_Dav_answerTransfer 132 = .ok (.ifCond .eq 24, 3) := by decide +kernel
theorem d_Dav_answerTransfer_135 : decode b_Dav_answerTransfer 135 = .ok (.aload_n 0, 1) := by decide +kernel
theorem d_Dav_answerTransfer_136 : decode b_Dav_answerTransfer 136 = .ok (.getfield 41, 3) := by decide +kernel
theorem d_Dav_answerTransfer_139 : decode b_Dav_answerTransfer 139 = .ok (.aload_n 3, 1) := by decide +kernel
theorem d_Dav_answerTransfer_140 : decode b_Dav_answerTransfer 140 = .ok (.getfield 148, 3) := by decide +kernel
theorem d_Dav_answerTransfer_143 : decode b_Dav_answerTransfer 143 = .ok (.aload_n 0, 1) := by decide +kernel
theorem d_Dav_answerTransfer_144 : decode b_Dav_answerTransfer 144 = .ok (.getfield 24, 3) := by decide +kernel
theorem d_Dav_answerTransfer_147 : decode b_Dav_answerTransfer 147 = .ok (.getfield 213, 3) := by decide +kernel
theorem d_Dav_answerTransfer_150 : decode b_Dav_answerTransfer 150 = .ok (.invokevirtual 214, 3) := by decide +kernel
theorem d_Dav_answerTransfer_153 : decode b_Dav_answerTransfer 153 = .ok (.goto 28, 3) := by decide +kernel
theorem d_Dav_answerTransfer_156 : decode b_Dav_answerTransfer 156 = .ok (.aload_n 0, 1) := by decide +kernel
theorem d_Dav_answerTransfer_157 : decode b_Dav_answerTransfer 157 = .ok (.getfield 31, 3) := by decide +kernel
theorem d_Dav_answerTransfer_160 : decode b_Dav_answerTransfer 160 = .ok (.aload_n 0, 1) := by decide +kernel
theorem d_Dav_answerTransfer_161 : decode b_Dav_answerTransfer 161 = .ok (.getfield 24, 3) := by decide +kernel
theorem d_Dav_answerTransfer_164 : decode b_Dav_answerTransfer 164 = .ok (.getfield 238, 3) := by decide +kernel
theorem d_Dav_answerTransfer_167 : decode b_Dav_answerTransfer 167 = .ok (.aload_n 0, 1) := by decide +kernel
theorem d_Dav_answerTransfer_168 : decode b_Dav_answerTransfer 168 = .ok (.getfield 41, 3) := by decide +kernel
theorem d_Dav_answerTransfer_171 : decode b_Dav_answerTransfer 171 = .ok (.aload_n 0, 1) := by decide +kernel
theorem d_Dav_answerTransfer_172 : decode b_Dav_answerTransfer 172 = .ok (.getfield 24, 3) := by decide +kernel
theorem d_Dav_answerTransfer_175 : decode b_Dav_answerTransfer 175 = .ok (.getfield 213, 3) := by decide +kernel
theorem d_Dav_answerTransfer_178 : decode b_Dav_answerTransfer 178 = .ok (.invokevirtual 251, 3) := by decide +kernel
theorem d_Dav_answerTransfer_181 : decode b_Dav_answerTransfer 181 = .ok (.istore 5, 2) := by decide +kernel
theorem d_Dav_answerTransfer_183 : decode b_Dav_answerTransfer 183 = .ok (.iload 5, 2) := by decide +kernel
theorem d_Dav_answerTransfer_185 : decode b_Dav_answerTransfer 185 = .ok (.ifCond .eq 29, 3) := by decide +kernel
theorem d_Dav_answerTransfer_188 : decode b_Dav_answerTransfer 188 = .ok (.iload_n 2, 1) := by decide +kernel
theorem d_Dav_answerTransfer_189 : decode b_Dav_answerTransfer 189 = .ok (.ifCond .eq 29, 3) := by decide +kernel
theorem d_Dav_answerTransfer_192 : decode b_Dav_answerTransfer 192 = .ok (.aload_n 0, 1) := by decide +kernel
theorem d_Dav_answerTransfer_193 : decode b_Dav_answerTransfer 193 = .ok (.getfield 31, 3) := by decide +kernel
theorem d_Dav_answerTransfer_196 : decode b_Dav_answerTransfer 196 = .ok (.aload_n 1, 1) := by decide +kernel
theorem d_Dav_answerTransfer_197 : decode b_Dav_answerTransfer 197 = .ok (.aload_n 0, 1) := by decide +kernel
theorem d_Dav_answerTransfer_198 : decode b_Dav_answerTransfer 198 = .ok (.getfield 41, 3) := by decide +kernel
theorem d_Dav_answerTransfer_201 : decode b_Dav_answerTransfer 201 = .ok (.aload_n 0, 1) := by decide +kernel
theorem d_Dav_answerTransfer_202 : decode b_Dav_answerTransfer 202 = .ok (.getfield 24, 3) := by decide +kernel
theorem d_Dav_answerTransfer_205 : decode b_Dav_answerTransfer 205 = .ok (.getfield 213, 3) := by decide +kernel
theorem d_Dav_answerTransfer_208 : decode b_Dav_answerTransfer 208 = .ok (.invokevirtual 230, 3) := by decide +kernel
theorem d_Dav_answerTransfer_211 : decode b_Dav_answerTransfer 211 = .ok (.ifCond .ne 7, 3) := by decide +kernel
theorem d_Dav_answerTransfer_214 : decode b_Dav_answerTransfer 214 = .ok (.sipush 423, 3) := by decide +kernel
theorem d_Dav_answerTransfer_217 : decode b_Dav_answerTransfer 217 = .ok (.ireturn, 1) := by decide +kernel
theorem d_Dav_answerTransfer_218 : decode b_Dav_answerTransfer 218 = .ok (.iload_n 2, 1) := by decide +kernel
theorem d_Dav_answerTransfer_219 : decode b_Dav_answerTransfer 219 = .ok (.ifCond .ne 15, 3) := by decide +kernel
theorem d_Dav_answerTransfer_222 : decode b_Dav_answerTransfer 222 = .ok (.aload_n 0, 1) := by decide +kernel
theorem d_Dav_answerTransfer_223 : decode b_Dav_answerTransfer 223 = .ok (.aload_n 1, 1) := by decide +kernel
theorem d_Dav_answerTransfer_224 : decode b_Dav_answerTransfer 224 = .ok (.invokevirtual 255, 3) := by decide +kernel
theorem d_Dav_answerTransfer_227 : decode b_Dav_answerTransfer 227 = .ok (.ifCond .eq 7, 3) := by decide +kernel
theorem d_Dav_answerTransfer_230 : decode b_Dav_answerTransfer 230 = .ok (.sipush 507, 3) := by decide +kernel
theorem d_Dav_answerTransfer_233 : decode b_Dav_answerTransfer 233 = .ok (.ireturn, 1) := by decide +kernel
theorem d_Dav_answerTransfer_234 : decode b_Dav_answerTransfer 234 = .ok (.aload_n 0, 1) := by decide +kernel
theorem d_Dav_answerTransfer_235 : decode b_Dav_answerTransfer 235 = .ok (.aload_n 0, 1) := by decide +kernel
theorem d_Dav_answerTransfer_236 : decode b_Dav_answerTransfer 236 = .ok (.getfield 24, 3) := by decide +kernel
theorem d_Dav_answerTransfer_239 : decode b_Dav_answerTransfer 239 = .ok (.getfield 238, 3) := by decide +kernel
theorem d_Dav_answerTransfer_242 : decode b_Dav_answerTransfer 242 = .ok (.invokevirtual 234, 3) := by decide +kernel
theorem d_Dav_answerTransfer_245 : decode b_Dav_answerTransfer 245 = .ok (.iload_n 2, 1) := by decide +kernel
theorem d_Dav_answerTransfer_246 : decode b_Dav_answerTransfer 246 = .ok (.ifCond .eq 41, 3) := by decide +kernel
theorem d_Dav_answerTransfer_249 : decode b_Dav_answerTransfer 249 = .ok (.aload_n 0, 1) := by decide +kernel
theorem d_Dav_answerTransfer_250 : decode b_Dav_answerTransfer 250 = .ok (.getfield 41, 3) := by decide +kernel
theorem d_Dav_answerTransfer_253 : decode b_Dav_answerTransfer 253 = .ok (.aload_n 0, 1) := by decide +kernel
theorem d_Dav_answerTransfer_254 : decode b_Dav_answerTransfer 254 = .ok (.getfield 24, 3) := by decide +kernel
theorem d_Dav_answerTransfer_257 : decode b_Dav_answerTransfer 257 = .ok (.getfield 78, 3) := by decide +kernel
theorem d_Dav_answerTransfer_260 : decode b_Dav_answerTransfer 260 = .ok (.invokevirtual 258, 3) := by decide +kernel
theorem d_Dav_answerTransfer_263 : decode b_Dav_answerTransfer 263 = .ok (.aload_n 0, 1) := by decide +kernel
theorem d_Dav_answerTransfer_264 : decode b_Dav_answerTransfer 264 = .ok (.getfield 31, 3) := by decide +kernel
theorem d_Dav_answerTransfer_267 : decode b_Dav_answerTransfer 267 = .ok (.aload_n 0, 1) := by decide +kernel
theorem d_Dav_answerTransfer_268 : decode b_Dav_answerTransfer 268 = .ok (.getfield 24, 3) := by decide +kernel
theorem d_Dav_answerTransfer_271 : decode b_Dav_answerTransfer 271 = .ok (.getfield 78, 3) := by decide +kernel
theorem d_Dav_answerTransfer_274 : decode b_Dav_answerTransfer 274 = .ok (.aload_n 0, 1) := by decide +kernel
theorem d_Dav_answerTransfer_275 : decode b_Dav_answerTransfer 275 = .ok (.getfield 24, 3) := by decide +kernel
theorem d_Dav_answerTransfer_278 : decode b_Dav_answerTransfer 278 = .ok (.getfield 238, 3) := by decide +kernel
theorem d_Dav_answerTransfer_281 : decode b_Dav_answerTransfer 281 = .ok (.invokevirtual 261, 3) := by decide +kernel
theorem d_Dav_answerTransfer_284 : decode b_Dav_answerTransfer 284 = .ok (.goto 39, 3) := by decide +kernel
theorem d_Dav_answerTransfer_287 : decode b_Dav_answerTransfer 287 = .ok (.aload_n 0, 1) := by decide +kernel
theorem d_Dav_answerTransfer_288 : decode b_Dav_answerTransfer 288 = .ok (.getfield 31, 3) := by decide +kernel
theorem d_Dav_answerTransfer_291 : decode b_Dav_answerTransfer 291 = .ok (.aload_n 0, 1) := by decide +kernel
theorem d_Dav_answerTransfer_292 : decode b_Dav_answerTransfer 292 = .ok (.getfield 24, 3) := by decide +kernel
theorem d_Dav_answerTransfer_295 : decode b_Dav_answerTransfer 295 = .ok (.getfield 78, 3) := by decide +kernel
theorem d_Dav_answerTransfer_298 : decode b_Dav_answerTransfer 298 = .ok (.aload_n 0, 1) := by decide +kernel
theorem d_Dav_answerTransfer_299 : decode b_Dav_answerTransfer 299 = .ok (.getfield 24, 3) := by decide +kernel
theorem d_Dav_answerTransfer_302 : decode b_Dav_answerTransfer 302 = .ok (.getfield 238, 3) := by decide +kernel
theorem d_Dav_answerTransfer_305 : decode b_Dav_answerTransfer 305 = .ok (.aload_n 0, 1) := by decide +kernel
theorem d_Dav_answerTransfer_306 : decode b_Dav_answerTransfer 306 = .ok (.getfield 24, 3) := by decide +kernel
theorem d_Dav_answerTransfer_309 : decode b_Dav_answerTransfer 309 = .ok (.getfield 264, 3) := by decide +kernel
theorem d_Dav_answerTransfer_312 : decode b_Dav_answerTransfer 312 = .ok (.ifCond .eq 7, 3) := by decide +kernel
theorem d_Dav_answerTransfer_315 : decode b_Dav_answerTransfer 315 = .ok (.iconst 1, 1) := by decide +kernel
theorem d_Dav_answerTransfer_316 : decode b_Dav_answerTransfer 316 = .ok (.goto 4, 3) := by decide +kernel
theorem d_Dav_answerTransfer_319 : decode b_Dav_answerTransfer 319 = .ok (.iconst 0, 1) := by decide +kernel
theorem d_Dav_answerTransfer_320 : decode b_Dav_answerTransfer 320 = .ok (.invokevirtual 267, 3) := by decide +kernel
theorem d_Dav_answerTransfer_323 : decode b_Dav_answerTransfer 323 = .ok (.iload 4, 2) := by decide +kernel
theorem d_Dav_answerTransfer_325 : decode b_Dav_answerTransfer 325 = .ok (.ifCond .eq 9, 3) := by decide +kernel
theorem d_Dav_answerTransfer_328 : decode b_Dav_answerTransfer 328 = .ok (.sipush 201, 3) := by decide +kernel
theorem d_Dav_answerTransfer_331 : decode b_Dav_answerTransfer 331 = .ok (.goto 6, 3) := by decide +kernel
theorem d_Dav_answerTransfer_334 : decode b_Dav_answerTransfer 334 = .ok (.sipush 204, 3) := by decide +kernel
theorem d_Dav_answerTransfer_337 : decode b_Dav_answerTransfer 337 = .ok (.ireturn, 1) := by decide +kernel
theorem d_Dav_wouldBeTooDeep_0 : decode b_Dav_wouldBeTooDeep 0 = .ok (.aload_n 0, 1) := by decide +kernel
theorem d_Dav_wouldBeTooDeep_1 : decode b_Dav_wouldBeTooDeep 1 = .ok (.getfield 24, 3) := by decide +kernel
theorem d_Dav_wouldBeTooDeep_4 : decode b_Dav_wouldBeTooDeep 4 = .ok (.getfield 264, 3) := by decide +kernel
theorem d_Dav_wouldBeTooDeep_7 : decode b_Dav_wouldBeTooDeep 7 = .ok (.ifCond .ne 5, 3) := by decide +kernel
theorem d_Dav_wouldBeTooDeep_10 : decode b_Dav_wouldBeTooDeep 10 = .ok (.iconst 0, 1) := by decide +kernel
theorem d_Dav_wouldBeTooDeep_11 : decode b_Dav_wouldBeTooDeep 11 = .ok (.ireturn, 1) := by decide +kernel
theorem d_Dav_wouldBeTooDeep_12 : decode b_Dav_wouldBeTooDeep 12 = .ok (.aload_n 0, 1) := by decide +kernel
theorem d_Dav_wouldBeTooDeep_13 : decode b_Dav_wouldBeTooDeep 13 = .ok (.getfield 31, 3) := by decide +kernel
theorem d_Dav_wouldBeTooDeep_16 : decode b_Dav_wouldBeTooDeep 16 = .ok (.aload_n 1, 1) := by decide +kernel
theorem d_Dav_wouldBeTooDeep_17 : decode b_Dav_wouldBeTooDeep 17 = .ok (.getfield 148, 3) := by decide +kernel
theorem d_Dav_wouldBeTooDeep_20 : decode b_Dav_wouldBeTooDeep 20 = .ok (.invokevirtual 271, 3) := by decide +kernel
theorem d_Dav_wouldBeTooDeep_23 : decode b_Dav_wouldBeTooDeep 23 = .ok (.aload_n 1, 1) := by decide +kernel
theorem d_Dav_wouldBeTooDeep_24 : decode b_Dav_wouldBeTooDeep 24 = .ok (.getfield 148, 3) := by decide +kernel
theorem d_Dav_wouldBeTooDeep_27 : decode b_Dav_wouldBeTooDeep 27 = .ok (.invokestatic 274, 3) := by decide +kernel
theorem d_Dav_wouldBeTooDeep_30 : decode b_Dav_wouldBeTooDeep 30 = .ok (.isub, 1) := by decide +kernel
theorem d_Dav_wouldBeTooDeep_31 : decode b_Dav_wouldBeTooDeep 31 = .ok (.istore_n 2, 1) := by decide +kernel
theorem d_Dav_wouldBeTooDeep_32 : decode b_Dav_wouldBeTooDeep 32 = .ok (.aload_n 0, 1) := by decide +kernel
theorem d_Dav_wouldBeTooDeep_33 : decode b_Dav_wouldBeTooDeep 33 = .ok (.getfield 24, 3) := by decide +kernel
theorem d_Dav_wouldBeTooDeep_36 : decode b_Dav_wouldBeTooDeep 36 = .ok (.getfield 238, 3) := by decide +kernel
theorem d_Dav_wouldBeTooDeep_39 : decode b_Dav_wouldBeTooDeep 39 = .ok (.invokestatic 274, 3) := by decide +kernel
theorem d_Dav_wouldBeTooDeep_42 : decode b_Dav_wouldBeTooDeep 42 = .ok (.iload_n 2, 1) := by decide +kernel
theorem d_Dav_wouldBeTooDeep_43 : decode b_Dav_wouldBeTooDeep 43 = .ok (.iadd, 1) := by decide +kernel
theorem d_Dav_wouldBeTooDeep_44 : decode b_Dav_wouldBeTooDeep 44 = .ok (.iconst 5, 1) := by decide +kernel
theorem d_Dav_wouldBeTooDeep_45 : decode b_Dav_wouldBeTooDeep 45 = .ok (.if_icmp .le 7, 3) := by decide +kernel
theorem d_Dav_wouldBeTooDeep_48 : decode b_Dav_wouldBeTooDeep 48 = .ok (.iconst 1, 1) := by decide +kernel
theorem d_Dav_wouldBeTooDeep_49 : decode b_Dav_wouldBeTooDeep 49 = .ok (.goto 4, 3) := by decide +kernel
theorem d_Dav_wouldBeTooDeep_52 : decode b_Dav_wouldBeTooDeep 52 = .ok (.iconst 0, 1) := by decide +kernel
theorem d_Dav_wouldBeTooDeep_53 : decode b_Dav_wouldBeTooDeep 53 = .ok (.ireturn, 1) := by decide +kernel
theorem d_Dav_wouldBeTooMany_0 : decode b_Dav_wouldBeTooMany 0 = .ok (.aload_n 0, 1) := by decide +kernel
theorem d_Dav_wouldBeTooMany_1 : decode b_Dav_wouldBeTooMany 1 = .ok (.getfield 24, 3) := by decide +kernel
theorem d_Dav_wouldBeTooMany_4 : decode b_Dav_wouldBeTooMany 4 = .ok (.getfield 264, 3) := by decide +kernel
theorem d_Dav_wouldBeTooMany_7 : decode b_Dav_wouldBeTooMany 7 = .ok (.ifCond .ne 7, 3) := by decide +kernel
theorem d_Dav_wouldBeTooMany_10 : decode b_Dav_wouldBeTooMany 10 = .ok (.iconst 1, 1) := by decide +kernel
theorem d_Dav_wouldBeTooMany_11 : decode b_Dav_wouldBeTooMany 11 = .ok (.goto 14, 3) := by decide +kernel
theorem d_Dav_wouldBeTooMany_14 : decode b_Dav_wouldBeTooMany 14 = .ok (.aload_n 0, 1) := by decide +kernel
theorem d_Dav_wouldBeTooMany_15 : decode b_Dav_wouldBeTooMany 15 = .ok (.getfield 31, 3) := by decide +kernel
theorem d_Dav_wouldBeTooMany_18 : decode b_Dav_wouldBeTooMany 18 = .ok (.aload_n 1, 1) := by decide +kernel
theorem d_Dav_wouldBeTooMany_19 : decode b_Dav_wouldBeTooMany 19 = .ok (.getfield 148, 3) := by decide +kernel
theorem d_Dav_wouldBeTooMany_22 : decode b_Dav_wouldBeTooMany 22 = .ok (.invokevirtual 149, 3) := by decide +kernel
theorem d_Dav_wouldBeTooMany_25 : decode b_Dav_wouldBeTooMany 25 = .ok (.istore_n 2, 1) := by decide +kernel
theorem d_Dav_wouldBeTooMany_26 : decode b_Dav_wouldBeTooMany 26 = .ok (.aload_n 0, 1) := by decide +kernel
theorem d_Dav_wouldBeTooMany_27 : decode b_Dav_wouldBeTooMany 27 = .ok (.getfield 31, 3) := by decide +kernel
theorem d_Dav_wouldBeTooMany_30 : decode b_Dav_wouldBeTooMany 30 = .ok (.invokevirtual 132, 3) := by decide +kernel
theorem d_Dav_wouldBeTooMany_33 : decode b_Dav_wouldBeTooMany 33 = .ok (.aload_n 0, 1) := by decide +kernel
theorem d_Dav_wouldBeTooMany_34 : decode b_Dav_wouldBeTooMany 34 = .ok (.getfield 31, 3) := by decide +kernel
theorem d_Dav_wouldBeTooMany_37 : decode b_Dav_wouldBeTooMany 37 = .ok (.aload_n 0, 1) := by decide +kernel
theorem d_Dav_wouldBeTooMany_38 : decode b_Dav_wouldBeTooMany 38 = .ok (.getfield 24, 3) := by decide +kernel
theorem d_Dav_wouldBeTooMany_41 : decode b_Dav_wouldBeTooMany 41 = .ok (.getfield 238, 3) := by decide +kernel
theorem d_Dav_wouldBeTooMany_44 : decode b_Dav_wouldBeTooMany 44 = .ok (.invokevirtual 149, 3) := by decide +kernel
theorem d_Dav_wouldBeTooMany_47 : decode b_Dav_wouldBeTooMany 47 = .ok (.isub, 1) := by decide +kernel
theorem d_Dav_wouldBeTooMany_48 : decode b_Dav_wouldBeTooMany 48 = .ok (.iload_n 2, 1) := by decide +kernel
theorem d_Dav_wouldBeTooMany_49 : decode b_Dav_wouldBeTooMany 49 = .ok (.iadd, 1) := by decide +kernel
theorem d_Dav_wouldBeTooMany_50 : decode b_Dav_wouldBeTooMany 50 = .ok (.bipush 40, 2) := by decide +kernel
theorem d_Dav_wouldBeTooMany_52 : decode b_Dav_wouldBeTooMany 52 = .ok (.if_icmp .le 7, 3) := by decide +kernel
theorem d_Dav_wouldBeTooMany_55 : decode b_Dav_wouldBeTooMany 55 = .ok (.iconst 1, 1) := by decide +kernel
theorem d_Dav_wouldBeTooMany_56 : decode b_Dav_wouldBeTooMany 56 = .ok (.goto 4, 3) := by decide +kernel
theorem d_Dav_wouldBeTooMany_59 : decode b_Dav_wouldBeTooMany 59 = .ok (.iconst 0, 1) := by decide +kernel
theorem d_Dav_wouldBeTooMany_60 : decode b_Dav_wouldBeTooMany 60 = .ok (.ireturn, 1) := by decide +kernel
theorem d_Dav_answerLock_0 : decode b_Dav_answerLock 0 = .ok (.aload_n 1, 1) := by decide +kernel
theorem d_Dav_answerLock_1 : decode b_Dav_answerLock 1 = .ok (.ifnonnull 7, 3) := by decide +kernel
theorem d_Dav_answerLock_4 : decode b_Dav_answerLock 4 = .ok (.sipush 404, 3) := by decide +kernel
theorem d_Dav_answerLock_7 : decode b_Dav_answerLock 7 = .ok (.ireturn, 1) := by decide +kernel
theorem d_Dav_answerLock_8 : decode b_Dav_answerLock 8 = .ok (.aload_n 0, 1) := by decide +kernel
theorem d_Dav_answerLock_9 : decode b_Dav_answerLock 9 = .ok (.getfield 48, 3) := by decide +kernel
theorem d_Dav_answerLock_12 : decode b_Dav_answerLock 12 = .ok (.aload_n 0, 1) := by decide +kernel
theorem d_Dav_answerLock_13 : decode b_Dav_answerLock 13 = .ok (.getfield 24, 3) := by decide +kernel
theorem d_Dav_answerLock_16 : decode b_Dav_answerLock 16 = .ok (.getfield 277, 3) := by decide +kernel
theorem d_Dav_answerLock_19 : decode b_Dav_answerLock 19 = .ok (.iadd, 1) := by decide +kernel
theorem d_Dav_answerLock_20 : decode b_Dav_answerLock 20 = .ok (.istore_n 2, 1) := by decide +kernel
theorem d_Dav_answerLock_21 : decode b_Dav_answerLock 21 = .ok (.aload_n 0, 1) := by decide +kernel
theorem d_Dav_answerLock_22 : decode b_Dav_answerLock 22 = .ok (.getfield 24, 3) := by decide +kernel
theorem d_Dav_answerLock_25 : decode b_Dav_answerLock 25 = .ok (.bipush 32, 2) := by decide +kernel
theorem d_Dav_answerLock_27 : decode b_Dav_answerLock 27 = .ok (.invokevirtual 184, 3) := by decide +kernel
theorem d_Dav_answerLock_30 : decode b_Dav_answerLock 30 = .ok (.ifCond .eq 47, 3) := by decide +kernel
theorem d_Dav_answerLock_33 : decode b_Dav_answerLock 33 = .ok (.aload_n 0, 1) := by decide +kernel
theorem d_Dav_answerLock_34 : decode b_Dav_answerLock 34 = .ok (.getfield 41, 3) := by decide +kernel
theorem d_Dav_answerLock_37 : decode b_Dav_answerLock 37 = .ok (.aload_n 1, 1) := by decide +kernel
theorem d_Dav_answerLock_38 : decode b_Dav_answerLock 38 = .ok (.getfield 148, 3) := by decide +kernel
theorem d_Dav_answerLock_41 : decode b_Dav_answerLock 41 = .ok (.aload_n 0, 1) := by decide +kernel
theorem d_Dav_answerLock_42 : decode b_Dav_answerLock 42 = .ok (.getfield 24, 3) := by decide +kernel
theorem d_Dav_answerLock_45 : decode b_Dav_answerLock 45 = .ok (.getfield 213, 3) := by decide +kernel
theorem d_Dav_answerLock_48 : decode b_Dav_answerLock 48 = .ok (.invokevirtual 280, 3) := by decide +kernel
theorem d_Dav_answerLock_51 : decode b_Dav_answerLock 51 = .ok (.astore_n 3, 1) := by decide +kernel
theorem d_Dav_answerLock_52 : decode b_Dav_answerLock 52 = .ok (.aload_n 3, 1) := by decide +kernel
theorem d_Dav_answerLock_53 : decode b_Dav_answerLock 53 = .ok (.ifnonnull 7, 3) := by decide +kernel
theorem d_Dav_answerLock_56 : decode b_Dav_answerLock 56 = .ok (.sipush 412, 3) := by decide +kernel
theorem d_Dav_answerLock_59 : decode b_Dav_answerLock 59 = .ok (.ireturn, 1) := by decide +kernel
theorem d_Dav_answerLock_60 : decode b_Dav_answerLock 60 = .ok (.aload_n 3, 1) := by decide +kernel
theorem d_Dav_answerLock_61 : decode b_Dav_answerLock 61 = .ok (.iload_n 2, 1) := by decide +kernel
theorem d_Dav_answerLock_62 : decode b_Dav_answerLock 62 = .ok (.putfield 165, 3) := by decide +kernel
theorem d_Dav_answerLock_65 : decode b_Dav_answerLock 65 = .ok (.aload_n 0, 1) := by decide +kernel
theorem d_Dav_answerLock_66 : decode b_Dav_answerLock 66 = .ok (.aload_n 3, 1) := by decide +kernel
theorem d_Dav_answerLock_67 : decode b_Dav_answerLock 67 = .ok (.getfield 160, 3) := by decide +kernel
theorem d_Dav_answerLock_70 : decode b_Dav_answerLock 70 = .ok (.invokevirtual 284, 3) := by decide +kernel
theorem d_Dav_answerLock_73 : decode b_Dav_answerLock 73 = .ok (.sipush 200, 3) := by decide +kernel
theorem d_Dav_answerLock_76 : decode b_Dav_answerLock 76 = .ok (.ireturn, 1) := by decide +kernel
theorem d_Dav_answerLock_77 : decode b_Dav_answerLock 77 = .ok (.aload_n 0, 1) := by decide +kernel
theorem d_Dav_answerLock_78 : decode b_Dav_answerLock 78 = .ok (.getfield 24, 3) := by decide +kernel
theorem d_Dav_answerLock_81 : decode b_Dav_answerLock 81 = .ok (.getfield 264, 3) := by decide +kernel
theorem d_Dav_answerLock_84 : decode b_Dav_answerLock 84 = .ok (.ifCond .eq 7, 3) := by decide +kernel
theorem d_Dav_answerLock_87 : decode b_Dav_answerLock 87 = .ok (.iconst 1, 1) := by decide +kernel
theorem d_Dav_answerLock_88 : decode b_Dav_answerLock 88 = .ok (.goto 4, 3) := by decide +kernel
theorem d_Dav_answerLock_91 : decode b_Dav_answerLock 91 = .ok (.iconst 0, 1) := by decide +kernel
theorem d_Dav_answerLock_92 : decode b_Dav_answerLock 92 = .ok (.istore_n 3, 1) := by decide +kernel
theorem d_Dav_answerLock_93 : decode b_Dav_answerLock 93 = .ok (.aload_n 0, 1) := by decide +kernel
theorem d_Dav_answerLock_94 : decode b_Dav_answerLock 94 = .ok (.getfield 41, 3) := by decide +kernel
theorem d_Dav_answerLock_97 : decode b_Dav_answerLock 97 = .ok (.aload_n 1, 1) := by decide +kernel
theorem d_Dav_answerLock_98 : decode b_Dav_answerLock 98 = .ok (.getfield 148, 3) := by decide +kernel
theorem d_Dav_answerLock_101 : decode b_Dav_answerLock 101 = .ok (.iload_n 3, 1) := by decide +kernel
theorem d_Dav_answerLock_102 : decode b_Dav_answerLock 102 = .ok (.aload_n 0, 1) := by decide +kernel
theorem d_Dav_answerLock_103 : decode b_Dav_answerLock 103 = .ok (.getfield 24, 3) := by decide +kernel
theorem d_Dav_answerLock_106 : decode b_Dav_answerLock 106 = .ok (.getfield 287, 3) := by decide +kernel
theorem d_Dav_answerLock_109 : decode b_Dav_answerLock 109 = .ok (.invokevirtual 288, 3) := by decide +kernel
theorem d_Dav_answerLock_112 : decode b_Dav_answerLock 112 = .ok (.ifCond .eq 7, 3) := by decide +kernel
theorem d_Dav_answerLock_115 : decode b_Dav_answerLock 115 = .ok (.sipush 423, 3) := by decide +kernel
theorem d_Dav_answerLock_118 : decode b_Dav_answerLock 118 = .ok (.ireturn, 1) := by decide +kernel
theorem d_Dav_answerLock_119 : decode b_Dav_answerLock 119 = .ok (.aload_n 0, 1) := by decide +kernel
theorem d_Dav_answerLock_120 : decode b_Dav_answerLock 120 = .ok (.getfield 41, 3) := by decide +kernel
theorem d_Dav_answerLock_123 : decode b_Dav_answerLock 123 = .ok (.invokevirtual 292, 3) := by decide +kernel
theorem d_Dav_answerLock_126 : decode b_Dav_answerLock 126 = .ok (.ifCond .eq 7, 3) := by decide +kernel
theorem d_Dav_answerLock_129 : decode b_Dav_answerLock 129 = .ok (.sipush 507, 3) := by decide +kernel
theorem d_Dav_answerLock_132 : decode b_Dav_answerLock 132 = .ok (.ireturn, 1) := by decide +kernel
theorem d_Dav_answerLock_133 : decode b_Dav_answerLock 133 = .ok (.aload_n 0, 1) := by decide +kernel
theorem d_Dav_answerLock_134 : decode b_Dav_answerLock 134 = .ok (.aload_n 0, 1) := by decide +kernel
theorem d_Dav_answerLock_135 : decode b_Dav_answerLock 135 = .ok (.getfield 41, 3) := by decide +kernel
theorem d_Dav_answerLock_138 : decode b_Dav_answerLock 138 = .ok (.aload_n 1, 1) := by decide +kernel
theorem d_Dav_answerLock_139 : decode b_Dav_answerLock 139 = .ok (.getfield 148, 3) := by decide +kernel
theorem d_Dav_answerLock_142 : decode b_Dav_answerLock 142 = .ok (.iload_n 3, 1) := by decide +kernel
theorem d_Dav_answerLock_143 : decode b_Dav_answerLock 143 = .ok (.aload_n 0, 1) := by decide +kernel
theorem d_Dav_answerLock_144 : decode b_Dav_answerLock 144 = .ok (.getfield 24, 3) := by decide +kernel
theorem d_Dav_answerLock_147 : decode b_Dav_answerLock 147 = .ok (.getfield 287, 3) := by decide +kernel
theorem d_Dav_answerLock_150 : decode b_Dav_answerLock 150 = .ok (.iload_n 2, 1) := by decide +kernel
theorem d_Dav_answerLock_151 : decode b_Dav_answerLock 151 = .ok (.invokevirtual 293, 3) := by decide +kernel
theorem d_Dav_answerLock_154 : decode b_Dav_answerLock 154 = .ok (.invokevirtual 284, 3) := by decide +kernel
theorem d_Dav_answerLock_157 : decode b_Dav_answerLock 157 = .ok (.sipush 201, 3) := by decide +kernel
theorem d_Dav_answerLock_160 : decode b_Dav_answerLock 160 = .ok (.ireturn, 1) := by decide +kernel
theorem d_Dav_tellToken_0 : decode b_Dav_tellToken 0 = .ok (.aload_n 0, 1) := by decide +kernel
theorem d_Dav_tellToken_1 : decode b_Dav_tellToken 1 = .ok (.getfield 18, 3) := by decide +kernel
theorem d_Dav_tellToken_4 : decode b_Dav_tellToken 4 = .ok (.iload_n 1, 1) := by decide +kernel
theorem d_Dav_tellToken_5 : decode b_Dav_tellToken 5 = .ok (.invokevirtual 296, 3) := by decide +kernel
theorem d_Dav_tellToken_8 : decode b_Dav_tellToken 8 = .ok (.aload_n 0, 1) := by decide +kernel
theorem d_Dav_tellToken_9 : decode b_Dav_tellToken 9 = .ok (.getfield 18, 3) := by decide +kernel
theorem d_Dav_tellToken_12 : decode b_Dav_tellToken 12 = .ok (.bipush 10, 2) := by decide +kernel
theorem d_Dav_tellToken_14 : decode b_Dav_tellToken 14 = .ok (.invokevirtual 299, 3) := by decide +kernel
theorem d_Dav_tellToken_17 : decode b_Dav_tellToken 17 = .ok (.return_, 1) := by decide +kernel
theorem d_Dav_answerUnlock_0 : decode b_Dav_answerUnlock 0 = .ok (.aload_n 1, 1) := by decide +kernel
theorem d_Dav_answerUnlock_1 : decode b_Dav_answerUnlock 1 = .ok (.ifnonnull 7, 3) := by decide +kernel
theorem d_Dav_answerUnlock_4 : decode b_Dav_answerUnlock 4 = .ok (.sipush 404, 3) := by decide +kernel
theorem d_Dav_answerUnlock_7 : decode b_Dav_answerUnlock 7 = .ok (.ireturn, 1) := by decide +kernel
theorem d_Dav_answerUnlock_8 : decode b_Dav_answerUnlock 8 = .ok (.aload_n 0, 1) := by decide +kernel
theorem d_Dav_answerUnlock_9 : decode b_Dav_answerUnlock 9 = .ok (.getfield 41, 3) := by decide +kernel
theorem d_Dav_answerUnlock_12 : decode b_Dav_answerUnlock 12 = .ok (.aload_n 1, 1) := by decide +kernel
theorem d_Dav_answerUnlock_13 : decode b_Dav_answerUnlock 13 = .ok (.getfield 148, 3) := by decide +kernel
theorem d_Dav_answerUnlock_16 : decode b_Dav_answerUnlock 16 = .ok (.aload_n 0, 1) := by decide +kernel
theorem d_Dav_answerUnlock_17 : decode b_Dav_answerUnlock 17 = .ok (.getfield 24, 3) := by decide +kernel
theorem d_Dav_answerUnlock_20 : decode b_Dav_answerUnlock 20 = .ok (.getfield 213, 3) := by decide +kernel
theorem d_Dav_answerUnlock_23 : decode b_Dav_answerUnlock 23 = .ok (.invokevirtual 280, 3) := by decide +kernel
theorem d_Dav_answerUnlock_26 : decode b_Dav_answerUnlock 26 = .ok (.astore_n 2, 1) := by decide +kernel
theorem d_Dav_answerUnlock_27 : decode b_Dav_answerUnlock 27 = .ok (.aload_n 2, 1) := by decide +kernel
theorem d_Dav_answerUnlock_28 : decode b_Dav_answerUnlock 28 = .ok (.ifnonnull 7, 3) := by decide +kernel
theorem d_Dav_answerUnlock_31 : decode b_Dav_answerUnlock 31 = .ok (.sipush 412, 3) := by decide +kernel
theorem d_Dav_answerUnlock_34 : decode b_Dav_answerUnlock 34 = .ok (.ireturn, 1) := by decide +kernel
theorem d_Dav_answerUnlock_35 : decode b_Dav_answerUnlock 35 = .ok (.aload_n 0, 1) := by decide +kernel
theorem d_Dav_answerUnlock_36 : decode b_Dav_answerUnlock 36 = .ok (.getfield 41, 3) := by decide +kernel
theorem d_Dav_answerUnlock_39 : decode b_Dav_answerUnlock 39 = .ok (.aload_n 2, 1) := by decide +kernel
theorem d_Dav_answerUnlock_40 : decode b_Dav_answerUnlock 40 = .ok (.getfield 160, 3) := by decide +kernel
theorem d_Dav_answerUnlock_43 : decode b_Dav_answerUnlock 43 = .ok (.invokevirtual 301, 3) := by decide +kernel
theorem d_Dav_answerUnlock_46 : decode b_Dav_answerUnlock 46 = .ok (.sipush 204, 3) := by decide +kernel
theorem d_Dav_answerUnlock_49 : decode b_Dav_answerUnlock 49 = .ok (.ireturn, 1) := by decide +kernel
theorem d_Dav_answerList_0 : decode b_Dav_answerList 0 = .ok (.aload_n 1, 1) := by decide +kernel
theorem d_Dav_answerList_1 : decode b_Dav_answerList 1 = .ok (.ifnonnull 7, 3) := by decide +kernel
theorem d_Dav_answerList_4 : decode b_Dav_answerList 4 = .ok (.sipush 404, 3) := by decide +kernel
theorem d_Dav_answerList_7 : decode b_Dav_answerList 7 = .ok (.ireturn, 1) := by decide +kernel
theorem d_Dav_answerList_8 : decode b_Dav_answerList 8 = .ok (.aload_n 0, 1) := by decide +kernel
theorem d_Dav_answerList_9 : decode b_Dav_answerList 9 = .ok (.getfield 31, 3) := by decide +kernel
theorem d_Dav_answerList_12 : decode b_Dav_answerList 12 = .ok (.aload_n 1, 1) := by decide +kernel
theorem d_Dav_answerList_13 : decode b_Dav_answerList 13 = .ok (.getfield 148, 3) := by decide +kernel
theorem d_Dav_answerList_16 : decode b_Dav_answerList 16 = .ok (.aload_n 0, 1) := by decide +kernel
theorem d_Dav_answerList_17 : decode b_Dav_answerList 17 = .ok (.getfield 24, 3) := by decide +kernel
theorem d_Dav_answerList_20 : decode b_Dav_answerList 20 = .ok (.iconst 1, 1) := by decide +kernel
theorem d_Dav_answerList_21 : decode b_Dav_answerList 21 = .ok (.invokevirtual 184, 3) := by decide +kernel
theorem d_Dav_answerList_24 : decode b_Dav_answerList 24 = .ok (.ifCond .eq 13, 3) := by decide +kernel
theorem d_Dav_answerList_27 : decode b_Dav_answerList 27 = .ok (.aload_n 0, 1) := by decide +kernel
theorem d_Dav_answerList_28 : decode b_Dav_answerList 28 = .ok (.getfield 24, 3) := by decide +kernel
theorem d_Dav_answerList_31 : decode b_Dav_answerList 31 = .ok (.getfield 264, 3) := by decide +kernel
theorem d_Dav_answerList_34 : decode b_Dav_answerList 34 = .ok (.goto 4, 3) := by decide +kernel
theorem d_Dav_answerList_37 : decode b_Dav_answerList 37 = .ok (.iconst 1, 1) := by decide +kernel
theorem d_Dav_answerList_38 : decode b_Dav_answerList 38 = .ok (.aload_n 0, 1) := by decide +kernel
theorem d_Dav_answerList_39 : decode b_Dav_answerList 39 = .ok (.getfield 18, 3) := by decide +kernel
theorem d_Dav_answerList_42 : decode b_Dav_answerList 42 = .ok (.invokevirtual 304, 3) := by decide +kernel
theorem d_Dav_answerList_45 : decode b_Dav_answerList 45 = .ok (.sipush 207, 3) := by decide +kernel
theorem d_Dav_answerList_48 : decode b_Dav_answerList 48 = .ok (.ireturn, 1) := by decide +kernel
theorem d_Dav_takeAway_0 : decode b_Dav_takeAway 0 = .ok (.aload_n 0, 1) := by decide +kernel
theorem d_Dav_takeAway_1 : decode b_Dav_takeAway 1 = .ok (.getfield 41, 3) := by decide +kernel
theorem d_Dav_takeAway_4 : decode b_Dav_takeAway 4 = .ok (.aload_n 1, 1) := by decide +kernel
theorem d_Dav_takeAway_5 : decode b_Dav_takeAway 5 = .ok (.invokevirtual 258, 3) := by decide +kernel
theorem d_Dav_takeAway_8 : decode b_Dav_takeAway 8 = .ok (.aload_n 0, 1) := by decide +kernel
theorem d_Dav_takeAway_9 : decode b_Dav_takeAway 9 = .ok (.getfield 31, 3) := by decide +kernel
theorem d_Dav_takeAway_12 : decode b_Dav_takeAway 12 = .ok (.aload_n 1, 1) := by decide +kernel
theorem d_Dav_takeAway_13 : decode b_Dav_takeAway 13 = .ok (.invokevirtual 308, 3) := by decide +kernel
theorem d_Dav_takeAway_16 : decode b_Dav_takeAway 16 = .ok (.return_, 1) := by decide +kernel
set_option maxHeartbeats 4000000 in
set_option maxRecDepth 100000 in
theorem c_Dav_feed (l : Launch) (K : gK) (E : gE) (x : Nat) (tp os pa ta ba : Bs) (vb dp : Nat) (ma tk tm : Int32) (an sp al : Bool) (se : Int32) (cu : Nat) (vt : Int32) (rs : List Re) (kt : Int32) (krs : List Re) (lt : Int32) (ls : List Lk) (kl : Int32) (kls : List Lk) (ck : Int32) (hD : isD K E x tp os pa ta ba vb dp ma tk tm an sp al se cu vt rs kt krs lt ls kl kls ck) (w1 w2 w3 w4 w5 : Int32) : gMi l y_Dav_feed b_Dav_feed 6 .int 2 128 K E [.ref (ka K x), .int w1, .int w2, .int w3, .int w4, .int w5] (fun r E' => r = (if 20 + tp.length ≤ 400 then nI (tp.length + 20) else -3) ∧ isD K E' x (if 20 + tp.length ≤ 400 then tp ++ wordB w1 ++ wordB w2 ++ wordB w3 ++ wordB w4 ++ wordB w5 else tp) os pa ta ba vb dp ma tk tm an sp al se cu vt rs kt krs lt ls kl kls ck ∧ frN x 490 E E') := by
  have hxN := hD.2.2.2.2.2.2.2.2
  have htl := hD.2.1.2.1
  have hol := hD.2.2.1.2.1
  have hrl := hD.2.2.2.2.1.le
  have hkrl := hD.2.2.2.2.2.1.le
  have hll := hD.2.2.2.2.2.2.1.le
  have hkll := hD.2.2.2.2.2.2.2.1.le
  have hpl := hD.2.2.2.1.2.1.2.1
  have hal := hD.2.2.2.1.2.2.1.2.1
  have hbl := hD.2.2.2.1.2.2.2.2.1
  refine g_meti (by decide +kernel) (Nat.le_of_ble_eq_true rfl) (fun X hl C hR => ?_)
  subst hl
  show gW X K E 0 [(0, .ref (ka K x)), (1, .int w1), (2, .int w2), (3, .int w3), (4, .int w4), (5, .int w5)] []
  refine g_aload_n (pc := 0) C d_Dav_feed_0 0 rfl ?_
  refine g_get (pc := 1) C fl_Dav_14 hD.1 (by omega) rfl d_Dav_feed_1 ?_
  refine g_bipush (pc := 4) (v := nI 20) C d_Dav_feed_4 (by decide) ?_
  refine g_ci (pc := 6) C (g_rV (As := [.int (nI 20)]) (rest := []) C (c_Bytes_hasRoomFor _ K _ (x + 1) 400 tp 20 (by omega) hD.2.1) mw_Bytes_hasRoomFor mo_Bytes_hasRoomFor ml_Dav_52 (by decide) hD.2.1.1 rfl (by omega) rfl rfl (Nat.le_of_ble_eq_true rfl) d_Dav_feed_6) (fun r6 E6 hp6 => ?_)
  rw [hp6.1, hp6.2]
  refine g_if_neB (pc := 9) C 15 d_Dav_feed_9 (by decide) (fun h_9 => ?_) (fun h_9 => ?_)
  · skip
    have hrm := of_decide_eq_true h_9
    refine g_aload_n (pc := 15) C d_Dav_feed_15 0 rfl ?_
    refine g_get (pc := 16) C fl_Dav_14 hD.1 (by omega) rfl d_Dav_feed_16 ?_
    refine g_iload_n (pc := 19) C d_Dav_feed_19 1 rfl ?_
    refine g_cv (pc := 20) C (g_rV (As := [.int w1]) (rest := []) C (c_Bytes_addWord _ K _ (x + 1) 400 tp w1 (by first | omega | (simp only [List.length_append, wordB_len]; omega)) hD.2.1) mw_Bytes_addWord mo_Bytes_addWord ml_Dav_56 (by decide) hD.2.1.1 rfl (by omega) rfl rfl (Nat.le_of_ble_eq_true rfl) d_Dav_feed_20) (fun E20 hp20 => ?_)
    obtain ⟨hB20, hF20⟩ := hp20
    have hD20 := hD.tape hF20.N hB20
    have hf20 : frN x 490 E E20 := frN.refl.trans (hF20.N.wide (by omega) (by omega))
    refine g_aload_n (pc := 23) C d_Dav_feed_23 0 rfl ?_
    refine g_get (pc := 24) C fl_Dav_14 hD20.1 (by omega) rfl d_Dav_feed_24 ?_
    refine g_iload_n (pc := 27) C d_Dav_feed_27 2 rfl ?_
    refine g_cv (pc := 28) C (g_rV (As := [.int w2]) (rest := []) C (c_Bytes_addWord _ K _ (x + 1) 400 (tp ++ wordB w1) w2 (by first | omega | (simp only [List.length_append, wordB_len]; omega)) hD20.2.1) mw_Bytes_addWord mo_Bytes_addWord ml_Dav_56 (by decide) hD20.2.1.1 rfl (by omega) rfl rfl (Nat.le_of_ble_eq_true rfl) d_Dav_feed_28) (fun E28 hp28 => ?_)
    obtain ⟨hB28, hF28⟩ := hp28
    have hD28 := hD20.tape hF28.N hB28
    have hf28 : frN x 490 E E28 := hf20.trans (hF28.N.wide (by omega) (by omega))
    refine g_aload_n (pc := 31) C d_Dav_feed_31 0 rfl ?_
    refine g_get (pc := 32) C fl_Dav_14 hD28.1 (by omega) rfl d_Dav_feed_32 ?_
    refine g_iload_n (pc := 35) C d_Dav_feed_35 3 rfl ?_
    refine g_cv (pc := 36) C (g_rV (As := [.int w3]) (rest := []) C (c_Bytes_addWord _ K _ (x + 1) 400 (tp ++ wordB w1 ++ wordB w2) w3 (by first | omega | (simp only [List.length_append, wordB_len]; omega)) hD28.2.1) mw_Bytes_addWord mo_Bytes_addWord ml_Dav_56 (by decide) hD28.2.1.1 rfl (by omega) rfl rfl (Nat.le_of_ble_eq_true rfl) d_Dav_feed_36) (fun E36 hp36 => ?_)
    obtain ⟨hB36, hF36⟩ := hp36
    have hD36 := hD28.tape hF36.N hB36
    have hf36 : frN x 490 E E36 := hf28.trans (hF36.N.wide (by omega) (by omega))
    refine g_aload_n (pc := 39) C d_Dav_feed_39 0 rfl ?_
    refine g_get (pc := 40) C fl_Dav_14 hD36.1 (by omega) rfl d_Dav_feed_40 ?_
    refine g_iload (pc := 43) C d_Dav_feed_43 4 rfl ?_
    refine g_cv (pc := 45) C (g_rV (As := [.int w4]) (rest := []) C (c_Bytes_addWord _ K _ (x + 1) 400 (tp ++ wordB w1 ++ wordB w2 ++ wordB w3) w4 (by first | omega | (simp only [List.length_append, wordB_len]; omega)) hD36.2.1) mw_Bytes_addWord mo_Bytes_addWord ml_Dav_56 (by decide) hD36.2.1.1 rfl (by omega) rfl rfl (Nat.le_of_ble_eq_true rfl) d_Dav_feed_45) (fun E45 hp45 => ?_)
    obtain ⟨hB45, hF45⟩ := hp45
    have hD45 := hD36.tape hF45.N hB45
    have hf45 : frN x 490 E E45 := hf36.trans (hF45.N.wide (by omega) (by omega))
    refine g_aload_n (pc := 48) C d_Dav_feed_48 0 rfl ?_
    refine g_get (pc := 49) C fl_Dav_14 hD45.1 (by omega) rfl d_Dav_feed_49 ?_
    refine g_iload (pc := 52) C d_Dav_feed_52 5 rfl ?_
    refine g_cv (pc := 54) C (g_rV (As := [.int w5]) (rest := []) C (c_Bytes_addWord _ K _ (x + 1) 400 (tp ++ wordB w1 ++ wordB w2 ++ wordB w3 ++ wordB w4) w5 (by first | omega | (simp only [List.length_append, wordB_len]; omega)) hD45.2.1) mw_Bytes_addWord mo_Bytes_addWord ml_Dav_56 (by decide) hD45.2.1.1 rfl (by omega) rfl rfl (Nat.le_of_ble_eq_true rfl) d_Dav_feed_54) (fun E54 hp54 => ?_)
    obtain ⟨hB54, hF54⟩ := hp54
    have hD54 := hD45.tape hF54.N hB54
    have hf54 : frN x 490 E E54 := hf45.trans (hF54.N.wide (by omega) (by omega))
    refine g_aload_n (pc := 57) C d_Dav_feed_57 0 rfl ?_
    refine g_get (pc := 58) C fl_Dav_14 hD54.1 (by omega) rfl d_Dav_feed_58 ?_
    refine g_get (pc := 61) C fl_Dav_59 hD54.2.1.1 (by omega) rfl d_Dav_feed_61 ?_
    refine g_iret (pc := 64) C hR d_Dav_feed_64 ?_
    rw [if_pos hrm, if_pos hrm]
    exact ⟨by simp only [List.length_append, wordB_len], hD54, hf54⟩
  · skip
    have hrm := of_decide_eq_false h_9
    refine g_bipush (pc := 12) (v := -3) C d_Dav_feed_12 (by decide) ?_
    refine g_iret (pc := 14) C hR d_Dav_feed_14 ?_
    rw [if_neg hrm, if_neg hrm]
    exact ⟨rfl, hD, frN.refl⟩

def endB (tp : Bs) (w : Int32) : Bool := decide (¬ w < 0) && decide (w ≤ nI tp.length)
set_option maxHeartbeats 4000000 in
set_option maxRecDepth 100000 in
theorem c_Dav_end (l : Launch) (K : gK) (E : gE) (x : Nat) (tp os pa ta ba : Bs) (vb dp : Nat) (ma tk tm : Int32) (an sp al : Bool) (se : Int32) (cu : Nat) (vt : Int32) (rs : List Re) (kt : Int32) (krs : List Re) (lt : Int32) (ls : List Lk) (kl : Int32) (kls : List Lk) (ck : Int32) (hD : isD K E x tp os pa ta ba vb dp ma tk tm an sp al se cu vt rs kt krs lt ls kl kls ck) (w : Int32) : gMi l y_Dav_end b_Dav_end 2 .int 1 64 K E [.ref (ka K x), .int w] (fun r E' => r = (if endB tp w = true then w else -1) ∧ isD K E' x (if endB tp w = true then tp.take w.toNatClampNeg else tp) os pa ta ba vb dp ma tk tm an sp al se cu vt rs kt krs lt ls kl kls ck ∧ frN x 490 E E') := by
  have hxN := hD.2.2.2.2.2.2.2.2
  have htl := hD.2.1.2.1
  have hol := hD.2.2.1.2.1
  have hrl := hD.2.2.2.2.1.le
  have hkrl := hD.2.2.2.2.2.1.le
  have hll := hD.2.2.2.2.2.2.1.le
  have hkll := hD.2.2.2.2.2.2.2.1.le
  have hpl := hD.2.2.2.1.2.1.2.1
  have hal := hD.2.2.2.1.2.2.1.2.1
  have hbl := hD.2.2.2.1.2.2.2.2.1
  refine g_meti (by decide +kernel) (Nat.le_of_ble_eq_true rfl) (fun X hl C hR => ?_)
  subst hl
  show gW X K E 0 [(0, .ref (ka K x)), (1, .int w)] []
  refine g_iload_n (pc := 0) C d_Dav_end_0 1 rfl ?_
  refine g_if_lt (pc := 1) C 15 d_Dav_end_1 (by decide) (fun h_1 => ?_) (fun h_1 => ?_)
  · skip
    refine g_iconst (pc := 15) (v := -1) C d_Dav_end_15 (by decide) ?_
    refine g_iret (pc := 16) C hR d_Dav_end_16 ?_
    have hen : ¬ endB tp w = true := by
      rw [endB]
      first
        | exact rng_lo h_1
        | exact rng_hi h_12
    rw [if_neg hen, if_neg hen]
    exact ⟨rfl, hD, frN.refl⟩
  · skip
    refine g_iload_n (pc := 4) C d_Dav_end_4 1 rfl ?_
    refine g_aload_n (pc := 5) C d_Dav_end_5 0 rfl ?_
    refine g_get (pc := 6) C fl_Dav_14 hD.1 (by omega) rfl d_Dav_end_6 ?_
    refine g_get (pc := 9) C fl_Dav_59 hD.2.1.1 (by omega) rfl d_Dav_end_9 ?_
    refine g_icmp_le (pc := 12) C 17 d_Dav_end_12 (by decide) (fun h_12 => ?_) (fun h_12 => ?_)
    · skip
      obtain ⟨j, hj, rfl⟩ := i32_nat (by omega) h_1 h_12
      have hen : endB tp (nI j) = true := by rw [endB, decide_eq_true h_1, decide_eq_true h_12]; rfl
      refine g_aload_n (pc := 17) C d_Dav_end_17 0 rfl ?_
      refine g_get (pc := 18) C fl_Dav_14 hD.1 (by omega) rfl d_Dav_end_18 ?_
      refine g_iload_n (pc := 21) C d_Dav_end_21 1 rfl ?_
      refine g_cv (pc := 22) C (g_rV (As := [.int (nI j)]) (rest := []) C (c_Bytes_cutTo _ K _ (x + 1) 400 tp j hj hD.2.1) mw_Bytes_cutTo mo_Bytes_cutTo ml_Dav_62 (by decide) hD.2.1.1 rfl (by omega) rfl rfl (Nat.le_of_ble_eq_true rfl) d_Dav_end_22) (fun E22 hp22 => ?_)
      obtain ⟨hB22, hF22⟩ := hp22
      have hD22 := hD.tape hF22.N hB22
      have hf22 : frN x 490 E E22 := frN.refl.trans (hF22.N.wide (by omega) (by omega))
      refine g_iload_n (pc := 25) C d_Dav_end_25 1 rfl ?_
      refine g_iret (pc := 26) C hR d_Dav_end_26 ?_
      rw [if_pos hen, if_pos hen, nI_clamp (by omega)]
      exact ⟨rfl, hD22, hf22⟩
    · skip
      refine g_iconst (pc := 15) (v := -1) C d_Dav_end_15 (by decide) ?_
      refine g_iret (pc := 16) C hR d_Dav_end_16 ?_
      have hen : ¬ endB tp w = true := by
        rw [endB]
        first
          | exact rng_lo h_1
          | exact rng_hi h_12
      rw [if_neg hen, if_neg hen]
      exact ⟨rfl, hD, frN.refl⟩

def octV (os : Bs) (w : Int32) : Int32 := if w = -1 then nI os.length else if atI os w = -1 then -2 else atI os w
set_option maxHeartbeats 4000000 in
set_option maxRecDepth 100000 in
theorem c_Dav_octet (l : Launch) (K : gK) (E : gE) (x : Nat) (tp os pa ta ba : Bs) (vb dp : Nat) (ma tk tm : Int32) (an sp al : Bool) (se : Int32) (cu : Nat) (vt : Int32) (rs : List Re) (kt : Int32) (krs : List Re) (lt : Int32) (ls : List Lk) (kl : Int32) (kls : List Lk) (ck : Int32) (hD : isD K E x tp os pa ta ba vb dp ma tk tm an sp al se cu vt rs kt krs lt ls kl kls ck) (w : Int32) : gMi l y_Dav_octet b_Dav_octet 3 .int 1 64 K E [.ref (ka K x), .int w] (fun r E' => r = octV os w ∧ E' = E) := by
  have hxN := hD.2.2.2.2.2.2.2.2
  have htl := hD.2.1.2.1
  have hol := hD.2.2.1.2.1
  have hrl := hD.2.2.2.2.1.le
  have hkrl := hD.2.2.2.2.2.1.le
  have hll := hD.2.2.2.2.2.2.1.le
  have hkll := hD.2.2.2.2.2.2.2.1.le
  have hpl := hD.2.2.2.1.2.1.2.1
  have hal := hD.2.2.2.1.2.2.1.2.1
  have hbl := hD.2.2.2.1.2.2.2.2.1
  refine g_meti (by decide +kernel) (Nat.le_of_ble_eq_true rfl) (fun X hl C hR => ?_)
  subst hl
  show gW X K E 0 [(0, .ref (ka K x)), (1, .int w)] []
  refine g_iload_n (pc := 0) C d_Dav_octet_0 1 rfl ?_
  refine g_iconst (pc := 1) (v := -1) C d_Dav_octet_1 (by decide) ?_
  refine g_icmp_ne (pc := 2) C 13 d_Dav_octet_2 (by decide) (fun h_2 => ?_) (fun h_2 => ?_)
  · skip
    refine g_aload_n (pc := 13) C d_Dav_octet_13 0 rfl ?_
    refine g_get (pc := 14) C fl_Dav_18 hD.1 (by omega) rfl d_Dav_octet_14 ?_
    refine g_iload_n (pc := 17) C d_Dav_octet_17 1 rfl ?_
    refine g_ci (pc := 18) C (g_rV (As := [.int w]) (rest := []) C (c_Bytes_at _ K _ (x + 3) 400 os w hD.2.2.1) mw_Bytes_at mo_Bytes_at ml_Dav_118 (by decide) hD.2.2.1.1 rfl (by omega) rfl rfl (Nat.le_of_ble_eq_true rfl) d_Dav_octet_18) (fun r18 E18 hp18 => ?_)
    rw [hp18.1, hp18.2]
    refine g_istore_n (pc := 21) (lv' := [(2, .int (atI os w)), (0, .ref (ka K x)), (1, .int w)]) C d_Dav_octet_21 rfl (by decide) rfl ?_
    refine g_iload_n (pc := 22) C d_Dav_octet_22 0 rfl ?_
    refine g_iconst (pc := 23) (v := -1) C d_Dav_octet_23 (by decide) ?_
    refine g_icmp_ne (pc := 24) C 32 d_Dav_octet_24 (by decide) (fun h_24 => ?_) (fun h_24 => ?_)
    · skip
      refine g_iload_n (pc := 32) C d_Dav_octet_32 0 rfl ?_
      refine g_iret (pc := 33) C hR d_Dav_octet_33 ?_
      refine ⟨?_, rfl⟩
      rw [octV, if_neg h_2]
      first
        | rw [if_pos h_24]
        | rw [if_neg h_24]
    · skip
      refine g_bipush (pc := 27) (v := -2) C d_Dav_octet_27 (by decide) ?_
      refine g_goto (pc := 29) C 33 d_Dav_octet_29 (by decide) ?_
      refine g_iret (pc := 33) C hR d_Dav_octet_33 ?_
      refine ⟨?_, rfl⟩
      rw [octV, if_neg h_2]
      first
        | rw [if_pos h_24]
        | rw [if_neg h_24]
  · skip
    refine g_aload_n (pc := 5) C d_Dav_octet_5 0 rfl ?_
    refine g_get (pc := 6) C fl_Dav_18 hD.1 (by omega) rfl d_Dav_octet_6 ?_
    refine g_get (pc := 9) C fl_Dav_59 hD.2.2.1.1 (by omega) rfl d_Dav_octet_9 ?_
    refine g_iret (pc := 12) C hR d_Dav_octet_12 ?_
    refine ⟨?_, rfl⟩
    rw [octV]
    first
      | rw [if_pos h_2]
      | rw [if_pos (Classical.not_not.mp h_2)]

def tickB (w : Int32) : Bool := decide (¬ w < 0) && decide (w ≤ nI 1000)
def liveL (ck : Int32) (ls : List Lk) : List Lk := ls.filter (fun v : Lk => !decide (v.2.2.1 ≤ ck))
set_option maxHeartbeats 4000000 in
set_option maxRecDepth 100000 in
theorem c_Dav_tick (l : Launch) (K : gK) (E : gE) (x : Nat) (tp os pa ta ba : Bs) (vb dp : Nat) (ma tk tm : Int32) (an sp al : Bool) (se : Int32) (cu : Nat) (vt : Int32) (rs : List Re) (kt : Int32) (krs : List Re) (lt : Int32) (ls : List Lk) (kl : Int32) (kls : List Lk) (ck : Int32) (hD : isD K E x tp os pa ta ba vb dp ma tk tm an sp al se cu vt rs kt krs lt ls kl kls ck) (w : Int32) : gMi l y_Dav_tick b_Dav_tick 2 .int 2 128 K E [.ref (ka K x), .int w] (fun r E' => r = (if tickB w = true then nI (ls.length - (liveL (ck + w) ls).length) else -1) ∧ isD K E' x tp os pa ta ba vb dp ma tk tm an sp al se cu vt rs kt krs lt (if tickB w = true then liveL (ck + w) ls else ls) kl kls (if tickB w = true then ck + w else ck) ∧ frN x 490 E E') := by
  have hxN := hD.2.2.2.2.2.2.2.2
  have htl := hD.2.1.2.1
  have hol := hD.2.2.1.2.1
  have hrl := hD.2.2.2.2.1.le
  have hkrl := hD.2.2.2.2.2.1.le
  have hll := hD.2.2.2.2.2.2.1.le
  have hkll := hD.2.2.2.2.2.2.2.1.le
  have hpl := hD.2.2.2.1.2.1.2.1
  have hal := hD.2.2.2.1.2.2.1.2.1
  have hbl := hD.2.2.2.1.2.2.2.2.1
  refine g_meti (by decide +kernel) (Nat.le_of_ble_eq_true rfl) (fun X hl C hR => ?_)
  subst hl
  show gW X K E 0 [(0, .ref (ka K x)), (1, .int w)] []
  refine g_iload_n (pc := 0) C d_Dav_tick_0 1 rfl ?_
  refine g_if_lt (pc := 1) C 11 d_Dav_tick_1 (by decide) (fun h_1 => ?_) (fun h_1 => ?_)
  · skip
    refine g_iconst (pc := 11) (v := -1) C d_Dav_tick_11 (by decide) ?_
    refine g_iret (pc := 12) C hR d_Dav_tick_12 ?_
    have hen : ¬ tickB w = true := by
      rw [tickB]
      first
        | exact rng_lo h_1
        | exact rng_hi h_8
    rw [if_neg hen, if_neg hen, if_neg hen]
    exact ⟨rfl, hD, frN.refl⟩
  · skip
    refine g_iload_n (pc := 4) C d_Dav_tick_4 1 rfl ?_
    refine g_sipush (pc := 5) (v := nI 1000) C d_Dav_tick_5 (by decide) ?_
    refine g_icmp_le (pc := 8) C 13 d_Dav_tick_8 (by decide) (fun h_8 => ?_) (fun h_8 => ?_)
    · skip
      refine g_aload_n (pc := 13) C d_Dav_tick_13 0 rfl ?_
      refine g_dup (pc := 14) C d_Dav_tick_14 rfl ?_
      refine g_get (pc := 15) C fl_Dav_48 hD.1 (by omega) rfl d_Dav_tick_15 ?_
      refine g_iload_n (pc := 18) C d_Dav_tick_18 1 rfl ?_
      refine g_iadd (pc := 19) C d_Dav_tick_19 ?_
      refine g_put (pc := 20) C fl_Dav_48 fw_Dav_clock hD.1 (by omega) (Nat.le_of_ble_eq_true rfl) ⟨rfl, rfl⟩ d_Dav_tick_20 (fun E20 hE20 => ?_)
      have fE20_1 : E20 x = .inr (6, [.ref (ka K (x + 1)), .ref (ka K (x + 3)), .ref (ka K (x + 5)), .ref (ka K (x + 12)), .ref (ka K (x + 219)), .ref (ka K (x + 426)), .ref (ka K (x + 458)), .int (ck + w)]) := by rw [hE20]; exact va_up_self _ _ _
      have fE20_2 := (congrFun hE20 (x + 1)).trans ((va_up_ne _ _ (show x + 1 ≠ x from by omega)).trans hD.2.1.1)
      have fE20_3 := (congrFun hE20 (x + 3)).trans ((va_up_ne _ _ (show x + 3 ≠ x from by omega)).trans hD.2.2.1.1)
      have fE20_4 := (congrFun hE20 (x + 5)).trans ((va_up_ne _ _ (show x + 5 ≠ x from by omega)).trans hD.2.2.2.1.1)
      have fE20_5 := (congrFun hE20 (x + 5 + 1)).trans ((va_up_ne _ _ (show x + 5 + 1 ≠ x from by omega)).trans hD.2.2.2.1.2.1.1)
      have fE20_6 := (congrFun hE20 (x + 5 + 3)).trans ((va_up_ne _ _ (show x + 5 + 3 ≠ x from by omega)).trans hD.2.2.2.1.2.2.1.1)
      have fE20_7 := (congrFun hE20 (x + 5 + 5)).trans ((va_up_ne _ _ (show x + 5 + 5 ≠ x from by omega)).trans hD.2.2.2.1.2.2.2.1)
      have fE20_8 := (congrFun hE20 (x + 12)).trans ((va_up_ne _ _ (show x + 12 ≠ x from by omega)).trans hD.2.2.2.2.1.h)
      have fE20_9 := (congrFun hE20 (x + 219)).trans ((va_up_ne _ _ (show x + 219 ≠ x from by omega)).trans hD.2.2.2.2.2.1.h)
      have fE20_10 := (congrFun hE20 (x + 426)).trans ((va_up_ne _ _ (show x + 426 ≠ x from by omega)).trans hD.2.2.2.2.2.2.1.h)
      have fE20_11 := (congrFun hE20 (x + 458)).trans ((va_up_ne _ _ (show x + 458 ≠ x from by omega)).trans hD.2.2.2.2.2.2.2.1.h)
      refine g_aload_n (pc := 23) C d_Dav_tick_23 0 rfl ?_
      refine g_get (pc := 24) C fl_Dav_41 fE20_1 (by omega) rfl d_Dav_tick_24 ?_
      refine g_aload_n (pc := 27) C d_Dav_tick_27 0 rfl ?_
      refine g_get (pc := 28) C fl_Dav_48 fE20_1 (by omega) rfl d_Dav_tick_28 ?_
      have hF20 : frN x 1 E E20 := fun k hk => by rw [hE20, va_up_ne _ _ (by omega)]
      have hD20 := hD.clock hF20 fE20_1
      refine g_ci (pc := 31) C (g_rV (As := [.int (ck + w)]) (rest := []) C (c_Locks_dropEnded _ K _ (x + 426) lt ls (ck + w) hD20.2.2.2.2.2.2.1) mw_Locks_dropEnded mo_Locks_dropEnded ml_Dav_122 (by decide) fE20_10 rfl (by omega) rfl rfl (Nat.le_of_ble_eq_true rfl) d_Dav_tick_31) (fun r31 E31 hp31 => ?_)
      obtain ⟨hr31, hB31, hF31⟩ := hp31
      have hD31 := hD20.lock hF31 hB31
      have hf31 : frN x 490 E E31 := (hF20.wide (Nat.le_refl _) (by omega)).trans (hF31.wide (by omega) (by omega))
      rw [hr31]
      refine g_iret (pc := 34) C hR d_Dav_tick_34 ?_
      have hen : tickB w = true := by rw [tickB, decide_eq_true h_1, decide_eq_true h_8]; rfl
      rw [if_pos hen, if_pos hen, if_pos hen]
      exact ⟨rfl, hD31, hf31⟩
    · skip
      refine g_iconst (pc := 11) (v := -1) C d_Dav_tick_11 (by decide) ?_
      refine g_iret (pc := 12) C hR d_Dav_tick_12 ?_
      have hen : ¬ tickB w = true := by
        rw [tickB]
        first
          | exact rng_lo h_1
          | exact rng_hi h_8
      rw [if_neg hen, if_neg hen, if_neg hen]
      exact ⟨rfl, hD, frN.refl⟩

set_option maxHeartbeats 4000000 in
set_option maxRecDepth 100000 in
theorem c_Dav_keep (l : Launch) (K : gK) (E : gE) (x : Nat) (tp os pa ta ba : Bs) (vb dp : Nat) (ma tk tm : Int32) (an sp al : Bool) (se : Int32) (cu : Nat) (vt : Int32) (rs : List Re) (kt : Int32) (krs : List Re) (lt : Int32) (ls : List Lk) (kl : Int32) (kls : List Lk) (ck : Int32) (hD : isD K E x tp os pa ta ba vb dp ma tk tm an sp al se cu vt rs kt krs lt ls kl kls ck) (hn : 1 ≤ rs.length) : gMi l y_Dav_keep b_Dav_keep 1 .int 4 256 K E [.ref (ka K x)] (fun r E' => r = nI (rs.length - 1) ∧ isD K E' x tp os pa ta ba vb dp ma tk tm an sp al se cu vt rs kt rs lt ls kl ls ck ∧ frN x 490 E E') := by
  have hxN := hD.2.2.2.2.2.2.2.2
  have htl := hD.2.1.2.1
  have hol := hD.2.2.1.2.1
  have hrl := hD.2.2.2.2.1.le
  have hkrl := hD.2.2.2.2.2.1.le
  have hll := hD.2.2.2.2.2.2.1.le
  have hkll := hD.2.2.2.2.2.2.2.1.le
  have hpl := hD.2.2.2.1.2.1.2.1
  have hal := hD.2.2.2.1.2.2.1.2.1
  have hbl := hD.2.2.2.1.2.2.2.2.1
  refine g_meti (by decide +kernel) (Nat.le_of_ble_eq_true rfl) (fun X hl C hR => ?_)
  subst hl
  show gW X K E 0 [(0, .ref (ka K x))] []
  refine g_aload_n (pc := 0) C d_Dav_keep_0 0 rfl ?_
  refine g_get (pc := 1) C fl_Dav_35 hD.1 (by omega) rfl d_Dav_keep_1 ?_
  refine g_aload_n (pc := 4) C d_Dav_keep_4 0 rfl ?_
  refine g_get (pc := 5) C fl_Dav_31 hD.1 (by omega) rfl d_Dav_keep_5 ?_
  refine g_cv (pc := 8) C (g_rV (As := [.ref (ka K (x + 12))]) (rest := []) C (c_Tree_become _ K _ (x + 219) kt krs (x + 12) vt rs (by omega) hD.2.2.2.2.2.1 hD.2.2.2.2.1) mw_Tree_become mo_Tree_become ml_Dav_125 (by decide) hD.2.2.2.2.2.1.h rfl (by omega) rfl rfl (Nat.le_of_ble_eq_true rfl) d_Dav_keep_8) (fun E8 hp8 => ?_)
  obtain ⟨hB8, hF8⟩ := hp8
  have hD8 := hD.ktree hF8 hB8
  have hf8 : frN x 490 E E8 := frN.refl.trans (hF8.wide (by omega) (by omega))
  refine g_aload_n (pc := 11) C d_Dav_keep_11 0 rfl ?_
  refine g_get (pc := 12) C fl_Dav_45 hD8.1 (by omega) rfl d_Dav_keep_12 ?_
  refine g_aload_n (pc := 15) C d_Dav_keep_15 0 rfl ?_
  refine g_get (pc := 16) C fl_Dav_41 hD8.1 (by omega) rfl d_Dav_keep_16 ?_
  refine g_cv (pc := 19) C (g_rV (As := [.ref (ka K (x + 426))]) (rest := []) C (c_Locks_become _ K _ (x + 458) kl kls (x + 426) lt ls (by omega) hD8.2.2.2.2.2.2.2.1 hD8.2.2.2.2.2.2.1) mw_Locks_become mo_Locks_become ml_Dav_129 (by decide) hD8.2.2.2.2.2.2.2.1.h rfl (by omega) rfl rfl (Nat.le_of_ble_eq_true rfl) d_Dav_keep_19) (fun E19 hp19 => ?_)
  obtain ⟨hB19, hF19⟩ := hp19
  have hD19 := hD8.klock hF19 hB19
  have hf19 : frN x 490 E E19 := hf8.trans (hF19.wide (by omega) (by omega))
  refine g_aload_n (pc := 22) C d_Dav_keep_22 0 rfl ?_
  refine g_get (pc := 23) C fl_Dav_31 hD19.1 (by omega) rfl d_Dav_keep_23 ?_
  refine g_ci (pc := 26) C (g_rV (As := []) (rest := []) C (c_Tree_besidesRoot _ K _ (x + 12) vt rs hn hD19.2.2.2.2.1) mw_Tree_besidesRoot mo_Tree_besidesRoot ml_Dav_132 (by decide) hD19.2.2.2.2.1.h rfl (by omega) rfl rfl (Nat.le_of_ble_eq_true rfl) d_Dav_keep_26) (fun r26 E26 hp26 => ?_)
  rw [hp26.1, hp26.2]
  refine g_iret (pc := 29) C hR d_Dav_keep_29 ?_
  exact ⟨rfl, hD19, hf19⟩

set_option maxHeartbeats 4000000 in
set_option maxRecDepth 100000 in
theorem c_Dav_crash (l : Launch) (K : gK) (E : gE) (x : Nat) (tp os pa ta ba : Bs) (vb dp : Nat) (ma tk tm : Int32) (an sp al : Bool) (se : Int32) (cu : Nat) (vt : Int32) (rs : List Re) (kt : Int32) (krs : List Re) (lt : Int32) (ls : List Lk) (kl : Int32) (kls : List Lk) (ck : Int32) (hD : isD K E x tp os pa ta ba vb dp ma tk tm an sp al se cu vt rs kt krs lt ls kl kls ck) (hn : 1 ≤ krs.length) : gMi l y_Dav_crash b_Dav_crash 1 .int 4 256 K E [.ref (ka K x)] (fun r E' => r = nI (krs.length - 1) ∧ isD K E' x tp os pa ta ba vb dp ma tk tm an sp al se cu vt krs kt krs lt (liveL ck kls) kl kls ck ∧ frN x 490 E E') := by
  have hxN := hD.2.2.2.2.2.2.2.2
  have htl := hD.2.1.2.1
  have hol := hD.2.2.1.2.1
  have hrl := hD.2.2.2.2.1.le
  have hkrl := hD.2.2.2.2.2.1.le
  have hll := hD.2.2.2.2.2.2.1.le
  have hkll := hD.2.2.2.2.2.2.2.1.le
  have hpl := hD.2.2.2.1.2.1.2.1
  have hal := hD.2.2.2.1.2.2.1.2.1
  have hbl := hD.2.2.2.1.2.2.2.2.1
  refine g_meti (by decide +kernel) (Nat.le_of_ble_eq_true rfl) (fun X hl C hR => ?_)
  subst hl
  show gW X K E 0 [(0, .ref (ka K x))] []
  refine g_aload_n (pc := 0) C d_Dav_crash_0 0 rfl ?_
  refine g_get (pc := 1) C fl_Dav_31 hD.1 (by omega) rfl d_Dav_crash_1 ?_
  refine g_aload_n (pc := 4) C d_Dav_crash_4 0 rfl ?_
  refine g_get (pc := 5) C fl_Dav_35 hD.1 (by omega) rfl d_Dav_crash_5 ?_
  refine g_cv (pc := 8) C (g_rV (As := [.ref (ka K (x + 219))]) (rest := []) C (c_Tree_become _ K _ (x + 12) vt rs (x + 219) kt krs (by omega) hD.2.2.2.2.1 hD.2.2.2.2.2.1) mw_Tree_become mo_Tree_become ml_Dav_125 (by decide) hD.2.2.2.2.1.h rfl (by omega) rfl rfl (Nat.le_of_ble_eq_true rfl) d_Dav_crash_8) (fun E8 hp8 => ?_)
  obtain ⟨hB8, hF8⟩ := hp8
  have hD8 := hD.tree hF8 hB8
  have hf8 : frN x 490 E E8 := frN.refl.trans (hF8.wide (by omega) (by omega))
  refine g_aload_n (pc := 11) C d_Dav_crash_11 0 rfl ?_
  refine g_get (pc := 12) C fl_Dav_41 hD8.1 (by omega) rfl d_Dav_crash_12 ?_
  refine g_aload_n (pc := 15) C d_Dav_crash_15 0 rfl ?_
  refine g_get (pc := 16) C fl_Dav_45 hD8.1 (by omega) rfl d_Dav_crash_16 ?_
  refine g_cv (pc := 19) C (g_rV (As := [.ref (ka K (x + 458))]) (rest := []) C (c_Locks_become _ K _ (x + 426) lt ls (x + 458) kl kls (by omega) hD8.2.2.2.2.2.2.1 hD8.2.2.2.2.2.2.2.1) mw_Locks_become mo_Locks_become ml_Dav_129 (by decide) hD8.2.2.2.2.2.2.1.h rfl (by omega) rfl rfl (Nat.le_of_ble_eq_true rfl) d_Dav_crash_19) (fun E19 hp19 => ?_)
  obtain ⟨hB19, hF19⟩ := hp19
  have hD19 := hD8.lock hF19 hB19
  have hf19 : frN x 490 E E19 := hf8.trans (hF19.wide (by omega) (by omega))
  refine g_aload_n (pc := 22) C d_Dav_crash_22 0 rfl ?_
  refine g_get (pc := 23) C fl_Dav_41 hD19.1 (by omega) rfl d_Dav_crash_23 ?_
  refine g_aload_n (pc := 26) C d_Dav_crash_26 0 rfl ?_
  refine g_get (pc := 27) C fl_Dav_48 hD19.1 (by omega) rfl d_Dav_crash_27 ?_
  refine g_ci (pc := 30) C (g_rV (As := [.int ck]) (rest := []) C (c_Locks_dropEnded _ K _ (x + 426) lt kls ck hD19.2.2.2.2.2.2.1) mw_Locks_dropEnded mo_Locks_dropEnded ml_Dav_122 (by decide) hD19.2.2.2.2.2.2.1.h rfl (by omega) rfl rfl (Nat.le_of_ble_eq_true rfl) d_Dav_crash_30) (fun r30 E30 hp30 => ?_)
  obtain ⟨hr30, hB30, hF30⟩ := hp30
  have hD30 := hD19.lock hF30 hB30
  have hf30 : frN x 490 E E30 := hf19.trans (hF30.wide (by omega) (by omega))
  rw [hr30]
  refine g_pop (pc := 33) C d_Dav_crash_33 rfl ?_
  refine g_aload_n (pc := 34) C d_Dav_crash_34 0 rfl ?_
  refine g_get (pc := 35) C fl_Dav_31 hD30.1 (by omega) rfl d_Dav_crash_35 ?_
  refine g_ci (pc := 38) C (g_rV (As := []) (rest := []) C (c_Tree_besidesRoot _ K _ (x + 12) vt krs hn hD30.2.2.2.2.1) mw_Tree_besidesRoot mo_Tree_besidesRoot ml_Dav_132 (by decide) hD30.2.2.2.2.1.h rfl (by omega) rfl rfl (Nat.le_of_ble_eq_true rfl) d_Dav_crash_38) (fun r38 E38 hp38 => ?_)
  rw [hp38.1, hp38.2]
  refine g_iret (pc := 41) C hR d_Dav_crash_41 ?_
  exact ⟨rfl, hD30, hf30⟩

def cntV (ck : Int32) (rs : List Re) (ls : List Lk) (w : Int32) : Int32 := if w = nI 0 then ck else if w = nI 1 then nI (rs.length - 1) else if w = nI 2 then nI (rs.countP (fun v => v.2.2.1)) else if w = nI 3 then nI ls.length else if w = nI 4 then nI ((rs.map (fun v => v.2.1.length)).sum) else -1
set_option maxHeartbeats 4000000 in
set_option maxRecDepth 100000 in
theorem c_Dav_count (l : Launch) (K : gK) (E : gE) (x : Nat) (tp os pa ta ba : Bs) (vb dp : Nat) (ma tk tm : Int32) (an sp al : Bool) (se : Int32) (cu : Nat) (vt : Int32) (rs : List Re) (kt : Int32) (krs : List Re) (lt : Int32) (ls : List Lk) (kl : Int32) (kls : List Lk) (ck : Int32) (hD : isD K E x tp os pa ta ba vb dp ma tk tm an sp al se cu vt rs kt krs lt ls kl kls ck) (hn : 1 ≤ rs.length) (w : Int32) : gMi l y_Dav_count b_Dav_count 2 .int 1 64 K E [.ref (ka K x), .int w] (fun r E' => r = cntV ck rs ls w ∧ E' = E) := by
  have hxN := hD.2.2.2.2.2.2.2.2
  have htl := hD.2.1.2.1
  have hol := hD.2.2.1.2.1
  have hrl := hD.2.2.2.2.1.le
  have hkrl := hD.2.2.2.2.2.1.le
  have hll := hD.2.2.2.2.2.2.1.le
  have hkll := hD.2.2.2.2.2.2.2.1.le
  have hpl := hD.2.2.2.1.2.1.2.1
  have hal := hD.2.2.2.1.2.2.1.2.1
  have hbl := hD.2.2.2.1.2.2.2.2.1
  refine g_meti (by decide +kernel) (Nat.le_of_ble_eq_true rfl) (fun X hl C hR => ?_)
  subst hl
  show gW X K E 0 [(0, .ref (ka K x)), (1, .int w)] []
  refine g_iload_n (pc := 0) C d_Dav_count_0 1 rfl ?_
  rcases i32_split 4 (by omega) w with ⟨wk, hwk, rfl⟩ | ⟨hne, hout⟩
  · rcases (show wk = 0 ∨ wk = 1 ∨ wk = 2 ∨ wk = 3 ∨ wk = 4 by omega) with rfl | rfl | rfl | rfl | rfl
    · skip
      refine g_tswI (pc := 1) C 36 d_Dav_count_1 (by decide) (by decide) rfl (by decide) ?_
      refine g_aload_n (pc := 36) C d_Dav_count_36 0 rfl ?_
      refine g_get (pc := 37) C fl_Dav_48 hD.1 (by omega) rfl d_Dav_count_37 ?_
      refine g_iret (pc := 40) C hR d_Dav_count_40 ?_
      exact ⟨rfl, rfl⟩
    · skip
      refine g_tswI (pc := 1) C 41 d_Dav_count_1 (by decide) (by decide) rfl (by decide) ?_
      refine g_aload_n (pc := 41) C d_Dav_count_41 0 rfl ?_
      refine g_get (pc := 42) C fl_Dav_31 hD.1 (by omega) rfl d_Dav_count_42 ?_
      refine g_ci (pc := 45) C (g_rV (As := []) (rest := []) C (c_Tree_besidesRoot _ K _ (x + 12) vt rs hn hD.2.2.2.2.1) mw_Tree_besidesRoot mo_Tree_besidesRoot ml_Dav_132 (by decide) hD.2.2.2.2.1.h rfl (by omega) rfl rfl (Nat.le_of_ble_eq_true rfl) d_Dav_count_45) (fun r45 E45 hp45 => ?_)
      rw [hp45.1, hp45.2]
      refine g_iret (pc := 48) C hR d_Dav_count_48 ?_
      exact ⟨rfl, rfl⟩
    · skip
      refine g_tswI (pc := 1) C 49 d_Dav_count_1 (by decide) (by decide) rfl (by decide) ?_
      refine g_aload_n (pc := 49) C d_Dav_count_49 0 rfl ?_
      refine g_get (pc := 50) C fl_Dav_31 hD.1 (by omega) rfl d_Dav_count_50 ?_
      refine g_ci (pc := 53) C (g_rV (As := []) (rest := []) C (c_Tree_files _ K _ (x + 12) vt rs hD.2.2.2.2.1) mw_Tree_files mo_Tree_files ml_Dav_175 (by decide) hD.2.2.2.2.1.h rfl (by omega) rfl rfl (Nat.le_of_ble_eq_true rfl) d_Dav_count_53) (fun r53 E53 hp53 => ?_)
      rw [hp53.1, hp53.2]
      refine g_iret (pc := 56) C hR d_Dav_count_56 ?_
      exact ⟨rfl, rfl⟩
    · skip
      refine g_tswI (pc := 1) C 57 d_Dav_count_1 (by decide) (by decide) rfl (by decide) ?_
      refine g_aload_n (pc := 57) C d_Dav_count_57 0 rfl ?_
      refine g_get (pc := 58) C fl_Dav_41 hD.1 (by omega) rfl d_Dav_count_58 ?_
      refine g_ci (pc := 61) C (g_rV (As := []) (rest := []) C (c_Locks_size _ K _ (x + 426) lt ls hD.2.2.2.2.2.2.1) mw_Locks_size mo_Locks_size ml_Dav_178 (by decide) hD.2.2.2.2.2.2.1.h rfl (by omega) rfl rfl (Nat.le_of_ble_eq_true rfl) d_Dav_count_61) (fun r61 E61 hp61 => ?_)
      rw [hp61.1, hp61.2]
      refine g_iret (pc := 64) C hR d_Dav_count_64 ?_
      exact ⟨rfl, rfl⟩
    · skip
      refine g_tswI (pc := 1) C 65 d_Dav_count_1 (by decide) (by decide) rfl (by decide) ?_
      refine g_aload_n (pc := 65) C d_Dav_count_65 0 rfl ?_
      refine g_get (pc := 66) C fl_Dav_31 hD.1 (by omega) rfl d_Dav_count_66 ?_
      refine g_ci (pc := 69) C (g_rV (As := []) (rest := []) C (c_Tree_bytes _ K _ (x + 12) vt rs hD.2.2.2.2.1) mw_Tree_bytes mo_Tree_bytes ml_Dav_181 (by decide) hD.2.2.2.2.1.h rfl (by omega) rfl rfl (Nat.le_of_ble_eq_true rfl) d_Dav_count_69) (fun r69 E69 hp69 => ?_)
      rw [hp69.1, hp69.2]
      refine g_iret (pc := 72) C hR d_Dav_count_72 ?_
      exact ⟨rfl, rfl⟩
  · refine g_tswO (pc := 1) C 73 d_Dav_count_1 hout (by decide) ?_
    refine g_iconst (pc := 73) (v := -1) C d_Dav_count_73 (by decide) ?_
    refine g_iret (pc := 74) C hR d_Dav_count_74 ?_
    exact ⟨by rw [cntV, if_neg (fun e => hne ⟨0, by omega, e⟩), if_neg (fun e => hne ⟨1, by omega, e⟩), if_neg (fun e => hne ⟨2, by omega, e⟩), if_neg (fun e => hne ⟨3, by omega, e⟩), if_neg (fun e => hne ⟨4, by omega, e⟩)], rfl⟩

def lookV (rs : List Re) (ls : List Lk) (tp : Bs) (w : Int32) : Int32 := if (decide (¬ w < 0) && decide (w ≤ nI 3)) = true then (match rs.findIdx? (FP tp tp.length) with
  | none => -2
  | some i => match rs[i]? with
    | none => -2
    | some v => if w = nI 0 then (if v.2.2.1 = true then nI 1 else nI 2) else if w = nI 1 then v.2.2.2 else if w = nI 2 then (if v.2.2.1 = true then nI v.2.1.length else nI (rs.countP (fun u => atIn u.1 v.1)) - nI 1) else nI (ls.countP (cov v.1))) else -1
set_option maxHeartbeats 4000000 in
set_option maxRecDepth 100000 in
theorem c_Dav_look (l : Launch) (K : gK) (E : gE) (x : Nat) (tp os pa ta ba : Bs) (vb dp : Nat) (ma tk tm : Int32) (an sp al : Bool) (se : Int32) (cu : Nat) (vt : Int32) (rs : List Re) (kt : Int32) (krs : List Re) (lt : Int32) (ls : List Lk) (kl : Int32) (kls : List Lk) (ck : Int32) (hD : isD K E x tp os pa ta ba vb dp ma tk tm an sp al se cu vt rs kt krs lt ls kl kls ck) (w : Int32) : gMi l y_Dav_look b_Dav_look 3 .int 4 256 K E [.ref (ka K x), .int w] (fun r E' => r = lookV rs ls tp w ∧ isD K E' x (if (decide (¬ w < 0) && decide (w ≤ nI 3)) = true then [] else tp) os pa ta ba vb dp ma tk tm an sp al se cu vt rs kt krs lt ls kl kls ck ∧ frN x 490 E E') := by
  have hxN := hD.2.2.2.2.2.2.2.2
  have htl := hD.2.1.2.1
  have hol := hD.2.2.1.2.1
  have hrl := hD.2.2.2.2.1.le
  have hkrl := hD.2.2.2.2.2.1.le
  have hll := hD.2.2.2.2.2.2.1.le
  have hkll := hD.2.2.2.2.2.2.2.1.le
  have hpl := hD.2.2.2.1.2.1.2.1
  have hal := hD.2.2.2.1.2.2.1.2.1
  have hbl := hD.2.2.2.1.2.2.2.2.1
  refine g_meti (by decide +kernel) (Nat.le_of_ble_eq_true rfl) (fun X hl C hR => ?_)
  subst hl
  show gW X K E 0 [(0, .ref (ka K x)), (1, .int w)] []
  refine g_iload_n (pc := 0) C d_Dav_look_0 1 rfl ?_
  refine g_if_lt (pc := 1) C 9 d_Dav_look_1 (by decide) (fun h_1 => ?_) (fun h_1 => ?_)
  · skip
    refine g_iconst (pc := 9) (v := -1) C d_Dav_look_9 (by decide) ?_
    refine g_iret (pc := 10) C hR d_Dav_look_10 ?_
    have hen : ¬ (decide (¬ w < 0) && decide (w ≤ nI 3)) = true := by
      first
        | exact rng_lo h_1
        | exact rng_hi h_6
    exact ⟨by rw [lookV, if_neg hen], by rw [if_neg hen]; exact hD, frN.refl⟩
  · skip
    refine g_iload_n (pc := 4) C d_Dav_look_4 1 rfl ?_
    refine g_iconst (pc := 5) (v := nI 3) C d_Dav_look_5 (by decide) ?_
    refine g_icmp_le (pc := 6) C 11 d_Dav_look_6 (by decide) (fun h_6 => ?_) (fun h_6 => ?_)
    · skip
      have hok : (decide (¬ w < 0) && decide (w ≤ nI 3)) = true := by rw [decide_eq_true h_1, decide_eq_true h_6]; rfl
      obtain ⟨wk, hwk, rfl⟩ := i32_nat (by decide) h_1 h_6
      rcases (show wk = 0 ∨ wk = 1 ∨ wk = 2 ∨ wk = 3 by omega) with rfl | rfl | rfl | rfl
      · skip
        refine g_aload_n (pc := 11) C d_Dav_look_11 0 rfl ?_
        refine g_get (pc := 12) C fl_Dav_31 hD.1 (by omega) rfl d_Dav_look_12 ?_
        refine g_aload_n (pc := 15) C d_Dav_look_15 0 rfl ?_
        refine g_get (pc := 16) C fl_Dav_14 hD.1 (by omega) rfl d_Dav_look_16 ?_
        refine g_aload_n (pc := 19) C d_Dav_look_19 0 rfl ?_
        refine g_get (pc := 20) C fl_Dav_14 hD.1 (by omega) rfl d_Dav_look_20 ?_
        refine g_get (pc := 23) C fl_Dav_59 hD.2.1.1 (by omega) rfl d_Dav_look_23 ?_
        refine g_cq (pc := 26) C (g_rV (As := [.ref (ka K (x + 1)), .int (nI tp.length)]) (rest := []) C (c_Tree_find _ K _ (x + 12) vt rs (x + 1) 400 tp hD.2.1 tp.length (by omega) hD.2.2.2.2.1) mw_Tree_find mo_Tree_find ml_Dav_81 (by decide) hD.2.2.2.2.1.h rfl (by omega) rfl rfl (Nat.le_of_ble_eq_true rfl) d_Dav_look_26) (fun E26 hp26 => ?_) (fun q26 E26 hp26 => ?_)
        · skip
          obtain ⟨hE26, ho⟩ := hp26
          rw [hE26]
          have hno : rs.findIdx? (FP tp tp.length) = none := by
            rcases ho with z | ⟨i, c, _, z, _⟩
            · exact z.1
            · cases z
          refine g_astore_nN (pc := 29) (lv' := [(2, .null), (0, .ref (ka K x)), (1, .int (nI 0))]) C d_Dav_look_29 rfl (by decide) rfl ?_
          refine g_aload_n (pc := 30) C d_Dav_look_30 1 rfl ?_
          refine g_get (pc := 31) C fl_Dav_14 hD.1 (by omega) rfl d_Dav_look_31 ?_
          refine g_cv (pc := 34) C (g_rV (As := []) (rest := []) C (c_Bytes_clear _ K _ (x + 1) 400 tp hD.2.1) mw_Bytes_clear mo_Bytes_clear ml_Dav_65 (by decide) hD.2.1.1 rfl (by omega) rfl rfl (Nat.le_of_ble_eq_true rfl) d_Dav_look_34) (fun E34 hp34 => ?_)
          obtain ⟨hB34, hF34⟩ := hp34
          have hD34 := hD.tape hF34.N hB34
          have hf34 : frN x 490 E E34 := frN.refl.trans (hF34.N.wide (by omega) (by omega))
          refine g_aload_nN (pc := 37) C d_Dav_look_37 0 rfl ?_
          refine g_ifnonnullN (pc := 38) C d_Dav_look_38 ?_
          refine g_bipush (pc := 41) (v := -2) C d_Dav_look_41 (by decide) ?_
          refine g_iret (pc := 43) C hR d_Dav_look_43 ?_
          exact ⟨by rw [lookV, if_pos hok, hno], by rw [if_pos hok]; exact hD34, hf34⟩
        · skip
          obtain ⟨hE26, ho⟩ := hp26
          rw [hE26]
          obtain ⟨i, hfi, hsl⟩ : ∃ i9, rs.findIdx? (FP tp tp.length) = some i9 ∧ slotR K E (x + 12) q26 i9 vt rs := by
            rcases ho with z | ⟨i, c, z1, z2, z3⟩
            · cases z.2
            · cases z2
              exact ⟨i, z1, z3⟩
          obtain ⟨hs1, hs2, hs3, hi, hcR⟩ := hsl.facts
          have hc1 := hcR.1
          have hcp := hcR.2.1.1
          have hcb := hcR.2.2.1
          refine g_astore_n (pc := 29) (lv' := [(2, .ref (ka K q26)), (0, .ref (ka K x)), (1, .int (nI 0))]) C d_Dav_look_29 rfl (by decide) rfl ?_
          refine g_aload_n (pc := 30) C d_Dav_look_30 1 rfl ?_
          refine g_get (pc := 31) C fl_Dav_14 hD.1 (by omega) rfl d_Dav_look_31 ?_
          refine g_cv (pc := 34) C (g_rV (As := []) (rest := []) C (c_Bytes_clear _ K _ (x + 1) 400 tp hD.2.1) mw_Bytes_clear mo_Bytes_clear ml_Dav_65 (by decide) hD.2.1.1 rfl (by omega) rfl rfl (Nat.le_of_ble_eq_true rfl) d_Dav_look_34) (fun E34 hp34 => ?_)
          obtain ⟨hB34, hF34⟩ := hp34
          have hD34 := hD.tape hF34.N hB34
          have hf34 : frN x 490 E E34 := frN.refl.trans (hF34.N.wide (by omega) (by omega))
          have hdR := hcR.out hF34.N (by omega)
          have hd1 := hdR.1
          have hdp := hdR.2.1.1
          have hdb := hdR.2.2.1
          refine g_aload_n (pc := 37) C d_Dav_look_37 0 rfl ?_
          refine g_ifnonnull (pc := 38) C 44 d_Dav_look_38 (by decide) ?_
          refine g_iload_n (pc := 44) C d_Dav_look_44 2 rfl ?_
          refine g_tswI (pc := 45) C 72 d_Dav_look_45 (by decide) (by decide) rfl (by decide) ?_
          refine g_aload_n (pc := 72) C d_Dav_look_72 0 rfl ?_
          refine g_get (pc := 73) C fl_Dav_136 hd1 (by omega) rfl d_Dav_look_73 ?_
          refine g_if_eqB (pc := 76) C 83 d_Dav_look_76 (by decide) (fun h_76 => ?_) (fun h_76 => ?_)
          · skip
            refine g_iconst (pc := 83) (v := nI 2) C d_Dav_look_83 (by decide) ?_
            refine g_iret (pc := 84) C hR d_Dav_look_84 ?_
            refine ⟨?_, ?_, hf34⟩
            · rw [lookV, if_pos hok, hfi]
              simp only [List.getElem?_eq_getElem hi]
              first
                | (rw [if_pos True.intro, if_pos h_76])
                | (rw [if_pos True.intro, if_neg (by rw [h_76]; decide)])
            · rw [if_pos hok]
              exact hD34
          · skip
            refine g_iconst (pc := 79) (v := nI 1) C d_Dav_look_79 (by decide) ?_
            refine g_goto (pc := 80) C 84 d_Dav_look_80 (by decide) ?_
            refine g_iret (pc := 84) C hR d_Dav_look_84 ?_
            refine ⟨?_, ?_, hf34⟩
            · rw [lookV, if_pos hok, hfi]
              simp only [List.getElem?_eq_getElem hi]
              first
                | (rw [if_pos True.intro, if_pos h_76])
                | (rw [if_pos True.intro, if_neg (by rw [h_76]; decide)])
            · rw [if_pos hok]
              exact hD34
      · skip
        refine g_aload_n (pc := 11) C d_Dav_look_11 0 rfl ?_
        refine g_get (pc := 12) C fl_Dav_31 hD.1 (by omega) rfl d_Dav_look_12 ?_
        refine g_aload_n (pc := 15) C d_Dav_look_15 0 rfl ?_
        refine g_get (pc := 16) C fl_Dav_14 hD.1 (by omega) rfl d_Dav_look_16 ?_
        refine g_aload_n (pc := 19) C d_Dav_look_19 0 rfl ?_
        refine g_get (pc := 20) C fl_Dav_14 hD.1 (by omega) rfl d_Dav_look_20 ?_
        refine g_get (pc := 23) C fl_Dav_59 hD.2.1.1 (by omega) rfl d_Dav_look_23 ?_
        refine g_cq (pc := 26) C (g_rV (As := [.ref (ka K (x + 1)), .int (nI tp.length)]) (rest := []) C (c_Tree_find _ K _ (x + 12) vt rs (x + 1) 400 tp hD.2.1 tp.length (by omega) hD.2.2.2.2.1) mw_Tree_find mo_Tree_find ml_Dav_81 (by decide) hD.2.2.2.2.1.h rfl (by omega) rfl rfl (Nat.le_of_ble_eq_true rfl) d_Dav_look_26) (fun E26 hp26 => ?_) (fun q26 E26 hp26 => ?_)
        · skip
          obtain ⟨hE26, ho⟩ := hp26
          rw [hE26]
          have hno : rs.findIdx? (FP tp tp.length) = none := by
            rcases ho with z | ⟨i, c, _, z, _⟩
            · exact z.1
            · cases z
          refine g_astore_nN (pc := 29) (lv' := [(2, .null), (0, .ref (ka K x)), (1, .int (nI 1))]) C d_Dav_look_29 rfl (by decide) rfl ?_
          refine g_aload_n (pc := 30) C d_Dav_look_30 1 rfl ?_
          refine g_get (pc := 31) C fl_Dav_14 hD.1 (by omega) rfl d_Dav_look_31 ?_
          refine g_cv (pc := 34) C (g_rV (As := []) (rest := []) C (c_Bytes_clear _ K _ (x + 1) 400 tp hD.2.1) mw_Bytes_clear mo_Bytes_clear ml_Dav_65 (by decide) hD.2.1.1 rfl (by omega) rfl rfl (Nat.le_of_ble_eq_true rfl) d_Dav_look_34) (fun E34 hp34 => ?_)
          obtain ⟨hB34, hF34⟩ := hp34
          have hD34 := hD.tape hF34.N hB34
          have hf34 : frN x 490 E E34 := frN.refl.trans (hF34.N.wide (by omega) (by omega))
          refine g_aload_nN (pc := 37) C d_Dav_look_37 0 rfl ?_
          refine g_ifnonnullN (pc := 38) C d_Dav_look_38 ?_
          refine g_bipush (pc := 41) (v := -2) C d_Dav_look_41 (by decide) ?_
          refine g_iret (pc := 43) C hR d_Dav_look_43 ?_
          exact ⟨by rw [lookV, if_pos hok, hno], by rw [if_pos hok]; exact hD34, hf34⟩
        · skip
          obtain ⟨hE26, ho⟩ := hp26
          rw [hE26]
          obtain ⟨i, hfi, hsl⟩ : ∃ i9, rs.findIdx? (FP tp tp.length) = some i9 ∧ slotR K E (x + 12) q26 i9 vt rs := by
            rcases ho with z | ⟨i, c, z1, z2, z3⟩
            · cases z.2
            · cases z2
              exact ⟨i, z1, z3⟩
          obtain ⟨hs1, hs2, hs3, hi, hcR⟩ := hsl.facts
          have hc1 := hcR.1
          have hcp := hcR.2.1.1
          have hcb := hcR.2.2.1
          refine g_astore_n (pc := 29) (lv' := [(2, .ref (ka K q26)), (0, .ref (ka K x)), (1, .int (nI 1))]) C d_Dav_look_29 rfl (by decide) rfl ?_
          refine g_aload_n (pc := 30) C d_Dav_look_30 1 rfl ?_
          refine g_get (pc := 31) C fl_Dav_14 hD.1 (by omega) rfl d_Dav_look_31 ?_
          refine g_cv (pc := 34) C (g_rV (As := []) (rest := []) C (c_Bytes_clear _ K _ (x + 1) 400 tp hD.2.1) mw_Bytes_clear mo_Bytes_clear ml_Dav_65 (by decide) hD.2.1.1 rfl (by omega) rfl rfl (Nat.le_of_ble_eq_true rfl) d_Dav_look_34) (fun E34 hp34 => ?_)
          obtain ⟨hB34, hF34⟩ := hp34
          have hD34 := hD.tape hF34.N hB34
          have hf34 : frN x 490 E E34 := frN.refl.trans (hF34.N.wide (by omega) (by omega))
          have hdR := hcR.out hF34.N (by omega)
          have hd1 := hdR.1
          have hdp := hdR.2.1.1
          have hdb := hdR.2.2.1
          refine g_aload_n (pc := 37) C d_Dav_look_37 0 rfl ?_
          refine g_ifnonnull (pc := 38) C 44 d_Dav_look_38 (by decide) ?_
          refine g_iload_n (pc := 44) C d_Dav_look_44 2 rfl ?_
          refine g_tswI (pc := 45) C 85 d_Dav_look_45 (by decide) (by decide) rfl (by decide) ?_
          refine g_aload_n (pc := 85) C d_Dav_look_85 0 rfl ?_
          refine g_get (pc := 86) C fl_Dav_142 hd1 (by omega) rfl d_Dav_look_86 ?_
          refine g_iret (pc := 89) C hR d_Dav_look_89 ?_
          refine ⟨?_, ?_, hf34⟩
          · rw [lookV, if_pos hok, hfi]
            simp only [List.getElem?_eq_getElem hi]
            rw [if_neg (by decide), if_pos True.intro]
          · rw [if_pos hok]
            exact hD34
      · skip
        refine g_aload_n (pc := 11) C d_Dav_look_11 0 rfl ?_
        refine g_get (pc := 12) C fl_Dav_31 hD.1 (by omega) rfl d_Dav_look_12 ?_
        refine g_aload_n (pc := 15) C d_Dav_look_15 0 rfl ?_
        refine g_get (pc := 16) C fl_Dav_14 hD.1 (by omega) rfl d_Dav_look_16 ?_
        refine g_aload_n (pc := 19) C d_Dav_look_19 0 rfl ?_
        refine g_get (pc := 20) C fl_Dav_14 hD.1 (by omega) rfl d_Dav_look_20 ?_
        refine g_get (pc := 23) C fl_Dav_59 hD.2.1.1 (by omega) rfl d_Dav_look_23 ?_
        refine g_cq (pc := 26) C (g_rV (As := [.ref (ka K (x + 1)), .int (nI tp.length)]) (rest := []) C (c_Tree_find _ K _ (x + 12) vt rs (x + 1) 400 tp hD.2.1 tp.length (by omega) hD.2.2.2.2.1) mw_Tree_find mo_Tree_find ml_Dav_81 (by decide) hD.2.2.2.2.1.h rfl (by omega) rfl rfl (Nat.le_of_ble_eq_true rfl) d_Dav_look_26) (fun E26 hp26 => ?_) (fun q26 E26 hp26 => ?_)
        · skip
          obtain ⟨hE26, ho⟩ := hp26
          rw [hE26]
          have hno : rs.findIdx? (FP tp tp.length) = none := by
            rcases ho with z | ⟨i, c, _, z, _⟩
            · exact z.1
            · cases z
          refine g_astore_nN (pc := 29) (lv' := [(2, .null), (0, .ref (ka K x)), (1, .int (nI 2))]) C d_Dav_look_29 rfl (by decide) rfl ?_
          refine g_aload_n (pc := 30) C d_Dav_look_30 1 rfl ?_
          refine g_get (pc := 31) C fl_Dav_14 hD.1 (by omega) rfl d_Dav_look_31 ?_
          refine g_cv (pc := 34) C (g_rV (As := []) (rest := []) C (c_Bytes_clear _ K _ (x + 1) 400 tp hD.2.1) mw_Bytes_clear mo_Bytes_clear ml_Dav_65 (by decide) hD.2.1.1 rfl (by omega) rfl rfl (Nat.le_of_ble_eq_true rfl) d_Dav_look_34) (fun E34 hp34 => ?_)
          obtain ⟨hB34, hF34⟩ := hp34
          have hD34 := hD.tape hF34.N hB34
          have hf34 : frN x 490 E E34 := frN.refl.trans (hF34.N.wide (by omega) (by omega))
          refine g_aload_nN (pc := 37) C d_Dav_look_37 0 rfl ?_
          refine g_ifnonnullN (pc := 38) C d_Dav_look_38 ?_
          refine g_bipush (pc := 41) (v := -2) C d_Dav_look_41 (by decide) ?_
          refine g_iret (pc := 43) C hR d_Dav_look_43 ?_
          exact ⟨by rw [lookV, if_pos hok, hno], by rw [if_pos hok]; exact hD34, hf34⟩
        · skip
          obtain ⟨hE26, ho⟩ := hp26
          rw [hE26]
          obtain ⟨i, hfi, hsl⟩ : ∃ i9, rs.findIdx? (FP tp tp.length) = some i9 ∧ slotR K E (x + 12) q26 i9 vt rs := by
            rcases ho with z | ⟨i, c, z1, z2, z3⟩
            · cases z.2
            · cases z2
              exact ⟨i, z1, z3⟩
          obtain ⟨hs1, hs2, hs3, hi, hcR⟩ := hsl.facts
          have hc1 := hcR.1
          have hcp := hcR.2.1.1
          have hcb := hcR.2.2.1
          refine g_astore_n (pc := 29) (lv' := [(2, .ref (ka K q26)), (0, .ref (ka K x)), (1, .int (nI 2))]) C d_Dav_look_29 rfl (by decide) rfl ?_
          refine g_aload_n (pc := 30) C d_Dav_look_30 1 rfl ?_
          refine g_get (pc := 31) C fl_Dav_14 hD.1 (by omega) rfl d_Dav_look_31 ?_
          refine g_cv (pc := 34) C (g_rV (As := []) (rest := []) C (c_Bytes_clear _ K _ (x + 1) 400 tp hD.2.1) mw_Bytes_clear mo_Bytes_clear ml_Dav_65 (by decide) hD.2.1.1 rfl (by omega) rfl rfl (Nat.le_of_ble_eq_true rfl) d_Dav_look_34) (fun E34 hp34 => ?_)
          obtain ⟨hB34, hF34⟩ := hp34
          have hD34 := hD.tape hF34.N hB34
          have hf34 : frN x 490 E E34 := frN.refl.trans (hF34.N.wide (by omega) (by omega))
          have hdR := hcR.out hF34.N (by omega)
          have hd1 := hdR.1
          have hdp := hdR.2.1.1
          have hdb := hdR.2.2.1
          refine g_aload_n (pc := 37) C d_Dav_look_37 0 rfl ?_
          refine g_ifnonnull (pc := 38) C 44 d_Dav_look_38 (by decide) ?_
          refine g_iload_n (pc := 44) C d_Dav_look_44 2 rfl ?_
          refine g_tswI (pc := 45) C 90 d_Dav_look_45 (by decide) (by decide) rfl (by decide) ?_
          refine g_aload_n (pc := 90) C d_Dav_look_90 0 rfl ?_
          refine g_get (pc := 91) C fl_Dav_136 hd1 (by omega) rfl d_Dav_look_91 ?_
          refine g_if_eqB (pc := 94) C 107 d_Dav_look_94 (by decide) (fun h_94 => ?_) (fun h_94 => ?_)
          · skip
            refine g_aload_n (pc := 107) C d_Dav_look_107 1 rfl ?_
            refine g_get (pc := 108) C fl_Dav_31 hD34.1 (by omega) rfl d_Dav_look_108 ?_
            refine g_aload_n (pc := 111) C d_Dav_look_111 0 rfl ?_
            refine g_get (pc := 112) C fl_Dav_148 hd1 (by omega) rfl d_Dav_look_112 ?_
            refine g_ci (pc := 115) C (g_rV (As := [.ref (ka K (q26 + 1))]) (rest := []) C (c_Tree_sizeAt _ K _ (x + 12) vt rs (q26 + 1) 45 rs[i].1 hdR.2.1 hD34.2.2.2.2.1) mw_Tree_sizeAt mo_Tree_sizeAt ml_Dav_149 (by decide) hD34.2.2.2.2.1.h rfl (by omega) rfl rfl (Nat.le_of_ble_eq_true rfl) d_Dav_look_115) (fun r115 E115 hp115 => ?_)
            rw [hp115.1, hp115.2]
            refine g_iconst (pc := 118) (v := nI 1) C d_Dav_look_118 (by decide) ?_
            refine g_isub (pc := 119) C d_Dav_look_119 ?_
            refine g_iret (pc := 120) C hR d_Dav_look_120 ?_
            refine ⟨?_, ?_, hf34⟩
            · rw [lookV, if_pos hok, hfi]
              simp only [List.getElem?_eq_getElem hi]
              rw [if_neg (by decide), if_neg (by decide), if_pos True.intro]
              first
                | (rw [if_pos h_94])
                | (rw [if_neg (by rw [h_94]; decide)])
            · rw [if_pos hok]
              exact hD34
          · skip
            refine g_aload_n (pc := 97) C d_Dav_look_97 0 rfl ?_
            refine g_get (pc := 98) C fl_Dav_145 hd1 (by omega) rfl d_Dav_look_98 ?_
            refine g_get (pc := 101) C fl_Dav_59 hdb (by omega) rfl d_Dav_look_101 ?_
            refine g_goto (pc := 104) C 120 d_Dav_look_104 (by decide) ?_
            refine g_iret (pc := 120) C hR d_Dav_look_120 ?_
            refine ⟨?_, ?_, hf34⟩
            · rw [lookV, if_pos hok, hfi]
              simp only [List.getElem?_eq_getElem hi]
              rw [if_neg (by decide), if_neg (by decide), if_pos True.intro]
              first
                | (rw [if_pos h_94])
                | (rw [if_neg (by rw [h_94]; decide)])
            · rw [if_pos hok]
              exact hD34
      · skip
        refine g_aload_n (pc := 11) C d_Dav_look_11 0 rfl ?_
        refine g_get (pc := 12) C fl_Dav_31 hD.1 (by omega) rfl d_Dav_look_12 ?_
        refine g_aload_n (pc := 15) C d_Dav_look_15 0 rfl ?_
        refine g_get (pc := 16) C fl_Dav_14 hD.1 (by omega) rfl d_Dav_look_16 ?_
        refine g_aload_n (pc := 19) C d_Dav_look_19 0 rfl ?_
        refine g_get (pc := 20) C fl_Dav_14 hD.1 (by omega) rfl d_Dav_look_20 ?_
        refine g_get (pc := 23) C fl_Dav_59 hD.2.1.1 (by omega) rfl d_Dav_look_23 ?_
        refine g_cq (pc := 26) C (g_rV (As := [.ref (ka K (x + 1)), .int (nI tp.length)]) (rest := []) C (c_Tree_find _ K _ (x + 12) vt rs (x + 1) 400 tp hD.2.1 tp.length (by omega) hD.2.2.2.2.1) mw_Tree_find mo_Tree_find ml_Dav_81 (by decide) hD.2.2.2.2.1.h rfl (by omega) rfl rfl (Nat.le_of_ble_eq_true rfl) d_Dav_look_26) (fun E26 hp26 => ?_) (fun q26 E26 hp26 => ?_)
        · skip
          obtain ⟨hE26, ho⟩ := hp26
          rw [hE26]
          have hno : rs.findIdx? (FP tp tp.length) = none := by
            rcases ho with z | ⟨i, c, _, z, _⟩
            · exact z.1
            · cases z
          refine g_astore_nN (pc := 29) (lv' := [(2, .null), (0, .ref (ka K x)), (1, .int (nI 3))]) C d_Dav_look_29 rfl (by decide) rfl ?_
          refine g_aload_n (pc := 30) C d_Dav_look_30 1 rfl ?_
          refine g_get (pc := 31) C fl_Dav_14 hD.1 (by omega) rfl d_Dav_look_31 ?_
          refine g_cv (pc := 34) C (g_rV (As := []) (rest := []) C (c_Bytes_clear _ K _ (x + 1) 400 tp hD.2.1) mw_Bytes_clear mo_Bytes_clear ml_Dav_65 (by decide) hD.2.1.1 rfl (by omega) rfl rfl (Nat.le_of_ble_eq_true rfl) d_Dav_look_34) (fun E34 hp34 => ?_)
          obtain ⟨hB34, hF34⟩ := hp34
          have hD34 := hD.tape hF34.N hB34
          have hf34 : frN x 490 E E34 := frN.refl.trans (hF34.N.wide (by omega) (by omega))
          refine g_aload_nN (pc := 37) C d_Dav_look_37 0 rfl ?_
          refine g_ifnonnullN (pc := 38) C d_Dav_look_38 ?_
          refine g_bipush (pc := 41) (v := -2) C d_Dav_look_41 (by decide) ?_
          refine g_iret (pc := 43) C hR d_Dav_look_43 ?_
          exact ⟨by rw [lookV, if_pos hok, hno], by rw [if_pos hok]; exact hD34, hf34⟩
        · skip
          obtain ⟨hE26, ho⟩ := hp26
          rw [hE26]
          obtain ⟨i, hfi, hsl⟩ : ∃ i9, rs.findIdx? (FP tp tp.length) = some i9 ∧ slotR K E (x + 12) q26 i9 vt rs := by
            rcases ho with z | ⟨i, c, z1, z2, z3⟩
            · cases z.2
            · cases z2
              exact ⟨i, z1, z3⟩
          obtain ⟨hs1, hs2, hs3, hi, hcR⟩ := hsl.facts
          have hc1 := hcR.1
          have hcp := hcR.2.1.1
          have hcb := hcR.2.2.1
          refine g_astore_n (pc := 29) (lv' := [(2, .ref (ka K q26)), (0, .ref (ka K x)), (1, .int (nI 3))]) C d_Dav_look_29 rfl (by decide) rfl ?_
          refine g_aload_n (pc := 30) C d_Dav_look_30 1 rfl ?_
          refine g_get (pc := 31) C fl_Dav_14 hD.1 (by omega) rfl d_Dav_look_31 ?_
          refine g_cv (pc := 34) C (g_rV (As := []) (rest := []) C (c_Bytes_clear _ K _ (x + 1) 400 tp hD.2.1) mw_Bytes_clear mo_Bytes_clear ml_Dav_65 (by decide) hD.2.1.1 rfl (by omega) rfl rfl (Nat.le_of_ble_eq_true rfl) d_Dav_look_34) (fun E34 hp34 => ?_)
          obtain ⟨hB34, hF34⟩ := hp34
          have hD34 := hD.tape hF34.N hB34
          have hf34 : frN x 490 E E34 := frN.refl.trans (hF34.N.wide (by omega) (by omega))
          have hdR := hcR.out hF34.N (by omega)
          have hd1 := hdR.1
          have hdp := hdR.2.1.1
          have hdb := hdR.2.2.1
          refine g_aload_n (pc := 37) C d_Dav_look_37 0 rfl ?_
          refine g_ifnonnull (pc := 38) C 44 d_Dav_look_38 (by decide) ?_
          refine g_iload_n (pc := 44) C d_Dav_look_44 2 rfl ?_
          refine g_tswO (pc := 45) C 121 d_Dav_look_45 (by decide) (by decide) ?_
          refine g_aload_n (pc := 121) C d_Dav_look_121 1 rfl ?_
          refine g_get (pc := 122) C fl_Dav_41 hD34.1 (by omega) rfl d_Dav_look_122 ?_
          refine g_aload_n (pc := 125) C d_Dav_look_125 0 rfl ?_
          refine g_get (pc := 126) C fl_Dav_148 hd1 (by omega) rfl d_Dav_look_126 ?_
          refine g_ci (pc := 129) C (g_rV (As := [.ref (ka K (q26 + 1))]) (rest := []) C (c_Locks_howManyCover _ K _ (x + 426) lt ls (q26 + 1) 45 rs[i].1 hdR.2.1 hD34.2.2.2.2.2.2.1) mw_Locks_howManyCover mo_Locks_howManyCover ml_Dav_153 (by decide) hD34.2.2.2.2.2.2.1.h rfl (by omega) rfl rfl (Nat.le_of_ble_eq_true rfl) d_Dav_look_129) (fun r129 E129 hp129 => ?_)
          rw [hp129.1, hp129.2]
          refine g_iret (pc := 132) C hR d_Dav_look_132 ?_
          refine ⟨?_, ?_, hf34⟩
          · rw [lookV, if_pos hok, hfi]
            simp only [List.getElem?_eq_getElem hi]
            rw [if_neg (by decide), if_neg (by decide), if_neg (by decide)]
          · rw [if_pos hok]
            exact hD34
    · skip
      refine g_iconst (pc := 9) (v := -1) C d_Dav_look_9 (by decide) ?_
      refine g_iret (pc := 10) C hR d_Dav_look_10 ?_
      have hen : ¬ (decide (¬ w < 0) && decide (w ≤ nI 3)) = true := by
        first
          | exact rng_lo h_1
          | exact rng_hi h_6
      exact ⟨by rw [lookV, if_neg hen], by rw [if_neg hen]; exact hD, frN.refl⟩

def lockV (rs : List Re) (ls : List Lk) (k w : Int32) : Int32 := if (decide (¬ w < 0) && decide (w ≤ nI 4)) = true then (match idxI k ls.length with
  | none => -2
  | some i => match ls[i]? with
    | none => -2
    | some v => if w = nI 0 then v.2.1 else if w = nI 1 then v.2.2.1 else if w = nI 2 then (if v.2.2.2.1 = true then nI 1 else nI 0) else if w = nI 3 then (if v.2.2.2.2 = true then nI 1 else nI 0) else (if v.2.2.2.1 = true then nI (rs.countP (fun u => atIn u.1 v.1)) else nI 1)) else -1
set_option maxHeartbeats 4000000 in
set_option maxRecDepth 100000 in
theorem c_Dav_lock (l : Launch) (K : gK) (E : gE) (x : Nat) (tp os pa ta ba : Bs) (vb dp : Nat) (ma tk tm : Int32) (an sp al : Bool) (se : Int32) (cu : Nat) (vt : Int32) (rs : List Re) (kt : Int32) (krs : List Re) (lt : Int32) (ls : List Lk) (kl : Int32) (kls : List Lk) (ck : Int32) (hD : isD K E x tp os pa ta ba vb dp ma tk tm an sp al se cu vt rs kt krs lt ls kl kls ck) (k w : Int32) : gMi l y_Dav_lock b_Dav_lock 4 .int 3 192 K E [.ref (ka K x), .int k, .int w] (fun r E' => r = lockV rs ls k w ∧ E' = E) := by
  have hxN := hD.2.2.2.2.2.2.2.2
  have htl := hD.2.1.2.1
  have hol := hD.2.2.1.2.1
  have hrl := hD.2.2.2.2.1.le
  have hkrl := hD.2.2.2.2.2.1.le
  have hll := hD.2.2.2.2.2.2.1.le
  have hkll := hD.2.2.2.2.2.2.2.1.le
  have hpl := hD.2.2.2.1.2.1.2.1
  have hal := hD.2.2.2.1.2.2.1.2.1
  have hbl := hD.2.2.2.1.2.2.2.2.1
  refine g_meti (by decide +kernel) (Nat.le_of_ble_eq_true rfl) (fun X hl C hR => ?_)
  subst hl
  show gW X K E 0 [(0, .ref (ka K x)), (1, .int k), (2, .int w)] []
  refine g_iload_n (pc := 0) C d_Dav_lock_0 2 rfl ?_
  refine g_if_lt (pc := 1) C 9 d_Dav_lock_1 (by decide) (fun h_1 => ?_) (fun h_1 => ?_)
  · skip
    refine g_iconst (pc := 9) (v := -1) C d_Dav_lock_9 (by decide) ?_
    refine g_iret (pc := 10) C hR d_Dav_lock_10 ?_
    have hen : ¬ (decide (¬ w < 0) && decide (w ≤ nI 4)) = true := by
      first
        | exact rng_lo h_1
        | exact rng_hi h_6
    exact ⟨by rw [lockV, if_neg hen], rfl⟩
  · skip
    refine g_iload_n (pc := 4) C d_Dav_lock_4 2 rfl ?_
    refine g_iconst (pc := 5) (v := nI 4) C d_Dav_lock_5 (by decide) ?_
    refine g_icmp_le (pc := 6) C 11 d_Dav_lock_6 (by decide) (fun h_6 => ?_) (fun h_6 => ?_)
    · skip
      have hok : (decide (¬ w < 0) && decide (w ≤ nI 4)) = true := by rw [decide_eq_true h_1, decide_eq_true h_6]; rfl
      obtain ⟨wk, hwk, rfl⟩ := i32_nat (by decide) h_1 h_6
      rcases (show wk = 0 ∨ wk = 1 ∨ wk = 2 ∨ wk = 3 ∨ wk = 4 by omega) with rfl | rfl | rfl | rfl | rfl
      · skip
        refine g_aload_n (pc := 11) C d_Dav_lock_11 0 rfl ?_
        refine g_get (pc := 12) C fl_Dav_41 hD.1 (by omega) rfl d_Dav_lock_12 ?_
        refine g_iload_n (pc := 15) C d_Dav_lock_15 1 rfl ?_
        refine g_cq (pc := 16) C (g_rV (As := [.int k]) (rest := []) C (c_Locks_get _ K _ (x + 426) lt ls k hD.2.2.2.2.2.2.1) mw_Locks_get mo_Locks_get ml_Dav_156 (by decide) hD.2.2.2.2.2.2.1.h rfl (by omega) rfl rfl (Nat.le_of_ble_eq_true rfl) d_Dav_lock_16) (fun E16 hp16 => ?_) (fun q16 E16 hp16 => ?_)
        · skip
          obtain ⟨hE16, ho⟩ := hp16
          rw [hE16]
          have hno : idxI k ls.length = none := by
            rcases ho with z | ⟨i, c, _, z, _⟩
            · exact z.1
            · cases z
          refine g_astore_nN (pc := 19) (lv' := [(3, .null), (0, .ref (ka K x)), (1, .int k), (2, .int (nI 0))]) C d_Dav_lock_19 rfl (by decide) rfl ?_
          refine g_aload_nN (pc := 20) C d_Dav_lock_20 0 rfl ?_
          refine g_ifnonnullN (pc := 21) C d_Dav_lock_21 ?_
          refine g_bipush (pc := 24) (v := -2) C d_Dav_lock_24 (by decide) ?_
          refine g_iret (pc := 26) C hR d_Dav_lock_26 ?_
          exact ⟨by rw [lockV, if_pos hok, hno], rfl⟩
        · skip
          obtain ⟨hE16, ho⟩ := hp16
          rw [hE16]
          obtain ⟨i, hfi, hsl⟩ : ∃ i9, idxI k ls.length = some i9 ∧ slotL K E (x + 426) q16 i9 lt ls := by
            rcases ho with z | ⟨i, c, z1, z2, z3⟩
            · cases z.2
            · cases z2
              exact ⟨i, z1, z3⟩
          obtain ⟨hs1, hs2, hs3, hi, hcR⟩ := hsl.facts
          have hc1 := hcR.1
          have hcp := hcR.2.1
          refine g_astore_n (pc := 19) (lv' := [(3, .ref (ka K q16)), (0, .ref (ka K x)), (1, .int k), (2, .int (nI 0))]) C d_Dav_lock_19 rfl (by decide) rfl ?_
          refine g_aload_n (pc := 20) C d_Dav_lock_20 0 rfl ?_
          refine g_ifnonnull (pc := 21) C 27 d_Dav_lock_21 (by decide) ?_
          refine g_iload_n (pc := 27) C d_Dav_lock_27 3 rfl ?_
          refine g_tswI (pc := 28) C 60 d_Dav_lock_28 (by decide) (by decide) rfl (by decide) ?_
          refine g_aload_n (pc := 60) C d_Dav_lock_60 0 rfl ?_
          refine g_get (pc := 61) C fl_Dav_160 hc1 (by omega) rfl d_Dav_lock_61 ?_
          refine g_iret (pc := 64) C hR d_Dav_lock_64 ?_
          refine ⟨?_, rfl⟩
          rw [lockV, if_pos hok, hfi]
          simp only [List.getElem?_eq_getElem hi]
          rw [if_pos True.intro]
      · skip
        refine g_aload_n (pc := 11) C d_Dav_lock_11 0 rfl ?_
        refine g_get (pc := 12) C fl_Dav_41 hD.1 (by omega) rfl d_Dav_lock_12 ?_
        refine g_iload_n (pc := 15) C d_Dav_lock_15 1 rfl ?_
        refine g_cq (pc := 16) C (g_rV (As := [.int k]) (rest := []) C (c_Locks_get _ K _ (x + 426) lt ls k hD.2.2.2.2.2.2.1) mw_Locks_get mo_Locks_get ml_Dav_156 (by decide) hD.2.2.2.2.2.2.1.h rfl (by omega) rfl rfl (Nat.le_of_ble_eq_true rfl) d_Dav_lock_16) (fun E16 hp16 => ?_) (fun q16 E16 hp16 => ?_)
        · skip
          obtain ⟨hE16, ho⟩ := hp16
          rw [hE16]
          have hno : idxI k ls.length = none := by
            rcases ho with z | ⟨i, c, _, z, _⟩
            · exact z.1
            · cases z
          refine g_astore_nN (pc := 19) (lv' := [(3, .null), (0, .ref (ka K x)), (1, .int k), (2, .int (nI 1))]) C d_Dav_lock_19 rfl (by decide) rfl ?_
          refine g_aload_nN (pc := 20) C d_Dav_lock_20 0 rfl ?_
          refine g_ifnonnullN (pc := 21) C d_Dav_lock_21 ?_
          refine g_bipush (pc := 24) (v := -2) C d_Dav_lock_24 (by decide) ?_
          refine g_iret (pc := 26) C hR d_Dav_lock_26 ?_
          exact ⟨by rw [lockV, if_pos hok, hno], rfl⟩
        · skip
          obtain ⟨hE16, ho⟩ := hp16
          rw [hE16]
          obtain ⟨i, hfi, hsl⟩ : ∃ i9, idxI k ls.length = some i9 ∧ slotL K E (x + 426) q16 i9 lt ls := by
            rcases ho with z | ⟨i, c, z1, z2, z3⟩
            · cases z.2
            · cases z2
              exact ⟨i, z1, z3⟩
          obtain ⟨hs1, hs2, hs3, hi, hcR⟩ := hsl.facts
          have hc1 := hcR.1
          have hcp := hcR.2.1
          refine g_astore_n (pc := 19) (lv' := [(3, .ref (ka K q16)), (0, .ref (ka K x)), (1, .int k), (2, .int (nI 1))]) C d_Dav_lock_19 rfl (by decide) rfl ?_
          refine g_aload_n (pc := 20) C d_Dav_lock_20 0 rfl ?_
          refine g_ifnonnull (pc := 21) C 27 d_Dav_lock_21 (by decide) ?_
          refine g_iload_n (pc := 27) C d_Dav_lock_27 3 rfl ?_
          refine g_tswI (pc := 28) C 65 d_Dav_lock_28 (by decide) (by decide) rfl (by decide) ?_
          refine g_aload_n (pc := 65) C d_Dav_lock_65 0 rfl ?_
          refine g_get (pc := 66) C fl_Dav_165 hc1 (by omega) rfl d_Dav_lock_66 ?_
          refine g_iret (pc := 69) C hR d_Dav_lock_69 ?_
          refine ⟨?_, rfl⟩
          rw [lockV, if_pos hok, hfi]
          simp only [List.getElem?_eq_getElem hi]
          rw [if_neg (by decide), if_pos True.intro]
      · skip
        refine g_aload_n (pc := 11) C d_Dav_lock_11 0 rfl ?_
        refine g_get (pc := 12) C fl_Dav_41 hD.1 (by omega) rfl d_Dav_lock_12 ?_
        refine g_iload_n (pc := 15) C d_Dav_lock_15 1 rfl ?_
        refine g_cq (pc := 16) C (g_rV (As := [.int k]) (rest := []) C (c_Locks_get _ K _ (x + 426) lt ls k hD.2.2.2.2.2.2.1) mw_Locks_get mo_Locks_get ml_Dav_156 (by decide) hD.2.2.2.2.2.2.1.h rfl (by omega) rfl rfl (Nat.le_of_ble_eq_true rfl) d_Dav_lock_16) (fun E16 hp16 => ?_) (fun q16 E16 hp16 => ?_)
        · skip
          obtain ⟨hE16, ho⟩ := hp16
          rw [hE16]
          have hno : idxI k ls.length = none := by
            rcases ho with z | ⟨i, c, _, z, _⟩
            · exact z.1
            · cases z
          refine g_astore_nN (pc := 19) (lv' := [(3, .null), (0, .ref (ka K x)), (1, .int k), (2, .int (nI 2))]) C d_Dav_lock_19 rfl (by decide) rfl ?_
          refine g_aload_nN (pc := 20) C d_Dav_lock_20 0 rfl ?_
          refine g_ifnonnullN (pc := 21) C d_Dav_lock_21 ?_
          refine g_bipush (pc := 24) (v := -2) C d_Dav_lock_24 (by decide) ?_
          refine g_iret (pc := 26) C hR d_Dav_lock_26 ?_
          exact ⟨by rw [lockV, if_pos hok, hno], rfl⟩
        · skip
          obtain ⟨hE16, ho⟩ := hp16
          rw [hE16]
          obtain ⟨i, hfi, hsl⟩ : ∃ i9, idxI k ls.length = some i9 ∧ slotL K E (x + 426) q16 i9 lt ls := by
            rcases ho with z | ⟨i, c, z1, z2, z3⟩
            · cases z.2
            · cases z2
              exact ⟨i, z1, z3⟩
          obtain ⟨hs1, hs2, hs3, hi, hcR⟩ := hsl.facts
          have hc1 := hcR.1
          have hcp := hcR.2.1
          refine g_astore_n (pc := 19) (lv' := [(3, .ref (ka K q16)), (0, .ref (ka K x)), (1, .int k), (2, .int (nI 2))]) C d_Dav_lock_19 rfl (by decide) rfl ?_
          refine g_aload_n (pc := 20) C d_Dav_lock_20 0 rfl ?_
          refine g_ifnonnull (pc := 21) C 27 d_Dav_lock_21 (by decide) ?_
          refine g_iload_n (pc := 27) C d_Dav_lock_27 3 rfl ?_
          refine g_tswI (pc := 28) C 70 d_Dav_lock_28 (by decide) (by decide) rfl (by decide) ?_
          refine g_aload_n (pc := 70) C d_Dav_lock_70 0 rfl ?_
          refine g_get (pc := 71) C fl_Dav_168 hc1 (by omega) rfl d_Dav_lock_71 ?_
          refine g_if_eqB (pc := 74) C 81 d_Dav_lock_74 (by decide) (fun h_74 => ?_) (fun h_74 => ?_)
          · skip
            refine g_iconst (pc := 81) (v := nI 0) C d_Dav_lock_81 (by decide) ?_
            refine g_iret (pc := 82) C hR d_Dav_lock_82 ?_
            refine ⟨?_, rfl⟩
            rw [lockV, if_pos hok, hfi]
            simp only [List.getElem?_eq_getElem hi]
            first
              | (rw [if_neg (by decide), if_neg (by decide), if_pos True.intro, if_pos h_74])
              | (rw [if_neg (by decide), if_neg (by decide), if_pos True.intro, if_neg (by rw [h_74]; decide)])
          · skip
            refine g_iconst (pc := 77) (v := nI 1) C d_Dav_lock_77 (by decide) ?_
            refine g_goto (pc := 78) C 82 d_Dav_lock_78 (by decide) ?_
            refine g_iret (pc := 82) C hR d_Dav_lock_82 ?_
            refine ⟨?_, rfl⟩
            rw [lockV, if_pos hok, hfi]
            simp only [List.getElem?_eq_getElem hi]
            first
              | (rw [if_neg (by decide), if_neg (by decide), if_pos True.intro, if_pos h_74])
              | (rw [if_neg (by decide), if_neg (by decide), if_pos True.intro, if_neg (by rw [h_74]; decide)])
      · skip
        refine g_aload_n (pc := 11) C d_Dav_lock_11 0 rfl ?_
        refine g_get (pc := 12) C fl_Dav_41 hD.1 (by omega) rfl d_Dav_lock_12 ?_
        refine g_iload_n (pc := 15) C d_Dav_lock_15 1 rfl ?_
        refine g_cq (pc := 16) C (g_rV (As := [.int k]) (rest := []) C (c_Locks_get _ K _ (x + 426) lt ls k hD.2.2.2.2.2.2.1) mw_Locks_get mo_Locks_get ml_Dav_156 (by decide) hD.2.2.2.2.2.2.1.h rfl (by omega) rfl rfl (Nat.le_of_ble_eq_true rfl) d_Dav_lock_16) (fun E16 hp16 => ?_) (fun q16 E16 hp16 => ?_)
        · skip
          obtain ⟨hE16, ho⟩ := hp16
          rw [hE16]
          have hno : idxI k ls.length = none := by
            rcases ho with z | ⟨i, c, _, z, _⟩
            · exact z.1
            · cases z
          refine g_astore_nN (pc := 19) (lv' := [(3, .null), (0, .ref (ka K x)), (1, .int k), (2, .int (nI 3))]) C d_Dav_lock_19 rfl (by decide) rfl ?_
          refine g_aload_nN (pc := 20) C d_Dav_lock_20 0 rfl ?_
          refine g_ifnonnullN (pc := 21) C d_Dav_lock_21 ?_
          refine g_bipush (pc := 24) (v := -2) C d_Dav_lock_24 (by decide) ?_
          refine g_iret (pc := 26) C hR d_Dav_lock_26 ?_
          exact ⟨by rw [lockV, if_pos hok, hno], rfl⟩
        · skip
          obtain ⟨hE16, ho⟩ := hp16
          rw [hE16]
          obtain ⟨i, hfi, hsl⟩ : ∃ i9, idxI k ls.length = some i9 ∧ slotL K E (x + 426) q16 i9 lt ls := by
            rcases ho with z | ⟨i, c, z1, z2, z3⟩
            · cases z.2
            · cases z2
              exact ⟨i, z1, z3⟩
          obtain ⟨hs1, hs2, hs3, hi, hcR⟩ := hsl.facts
          have hc1 := hcR.1
          have hcp := hcR.2.1
          refine g_astore_n (pc := 19) (lv' := [(3, .ref (ka K q16)), (0, .ref (ka K x)), (1, .int k), (2, .int (nI 3))]) C d_Dav_lock_19 rfl (by decide) rfl ?_
          refine g_aload_n (pc := 20) C d_Dav_lock_20 0 rfl ?_
          refine g_ifnonnull (pc := 21) C 27 d_Dav_lock_21 (by decide) ?_
          refine g_iload_n (pc := 27) C d_Dav_lock_27 3 rfl ?_
          refine g_tswI (pc := 28) C 83 d_Dav_lock_28 (by decide) (by decide) rfl (by decide) ?_
          refine g_aload_n (pc := 83) C d_Dav_lock_83 0 rfl ?_
          refine g_get (pc := 84) C fl_Dav_171 hc1 (by omega) rfl d_Dav_lock_84 ?_
          refine g_if_eqB (pc := 87) C 94 d_Dav_lock_87 (by decide) (fun h_87 => ?_) (fun h_87 => ?_)
          · skip
            refine g_iconst (pc := 94) (v := nI 0) C d_Dav_lock_94 (by decide) ?_
            refine g_iret (pc := 95) C hR d_Dav_lock_95 ?_
            refine ⟨?_, rfl⟩
            rw [lockV, if_pos hok, hfi]
            simp only [List.getElem?_eq_getElem hi]
            first
              | (rw [if_neg (by decide), if_neg (by decide), if_neg (by decide), if_pos True.intro, if_pos h_87])
              | (rw [if_neg (by decide), if_neg (by decide), if_neg (by decide), if_pos True.intro, if_neg (by rw [h_87]; decide)])
          · skip
            refine g_iconst (pc := 90) (v := nI 1) C d_Dav_lock_90 (by decide) ?_
            refine g_goto (pc := 91) C 95 d_Dav_lock_91 (by decide) ?_
            refine g_iret (pc := 95) C hR d_Dav_lock_95 ?_
            refine ⟨?_, rfl⟩
            rw [lockV, if_pos hok, hfi]
            simp only [List.getElem?_eq_getElem hi]
            first
              | (rw [if_neg (by decide), if_neg (by decide), if_neg (by decide), if_pos True.intro, if_pos h_87])
              | (rw [if_neg (by decide), if_neg (by decide), if_neg (by decide), if_pos True.intro, if_neg (by rw [h_87]; decide)])
      · skip
        refine g_aload_n (pc := 11) C d_Dav_lock_11 0 rfl ?_
        refine g_get (pc := 12) C fl_Dav_41 hD.1 (by omega) rfl d_Dav_lock_12 ?_
        refine g_iload_n (pc := 15) C d_Dav_lock_15 1 rfl ?_
        refine g_cq (pc := 16) C (g_rV (As := [.int k]) (rest := []) C (c_Locks_get _ K _ (x + 426) lt ls k hD.2.2.2.2.2.2.1) mw_Locks_get mo_Locks_get ml_Dav_156 (by decide) hD.2.2.2.2.2.2.1.h rfl (by omega) rfl rfl (Nat.le_of_ble_eq_true rfl) d_Dav_lock_16) (fun E16 hp16 => ?_) (fun q16 E16 hp16 => ?_)
        · skip
          obtain ⟨hE16, ho⟩ := hp16
          rw [hE16]
          have hno : idxI k ls.length = none := by
            rcases ho with z | ⟨i, c, _, z, _⟩
            · exact z.1
            · cases z
          refine g_astore_nN (pc := 19) (lv' := [(3, .null), (0, .ref (ka K x)), (1, .int k), (2, .int (nI 4))]) C d_Dav_lock_19 rfl (by decide) rfl ?_
          refine g_aload_nN (pc := 20) C d_Dav_lock_20 0 rfl ?_
          refine g_ifnonnullN (pc := 21) C d_Dav_lock_21 ?_
          refine g_bipush (pc := 24) (v := -2) C d_Dav_lock_24 (by decide) ?_
          refine g_iret (pc := 26) C hR d_Dav_lock_26 ?_
          exact ⟨by rw [lockV, if_pos hok, hno], rfl⟩
        · skip
          obtain ⟨hE16, ho⟩ := hp16
          rw [hE16]
          obtain ⟨i, hfi, hsl⟩ : ∃ i9, idxI k ls.length = some i9 ∧ slotL K E (x + 426) q16 i9 lt ls := by
            rcases ho with z | ⟨i, c, z1, z2, z3⟩
            · cases z.2
            · cases z2
              exact ⟨i, z1, z3⟩
          obtain ⟨hs1, hs2, hs3, hi, hcR⟩ := hsl.facts
          have hc1 := hcR.1
          have hcp := hcR.2.1
          refine g_astore_n (pc := 19) (lv' := [(3, .ref (ka K q16)), (0, .ref (ka K x)), (1, .int k), (2, .int (nI 4))]) C d_Dav_lock_19 rfl (by decide) rfl ?_
          refine g_aload_n (pc := 20) C d_Dav_lock_20 0 rfl ?_
          refine g_ifnonnull (pc := 21) C 27 d_Dav_lock_21 (by decide) ?_
          refine g_iload_n (pc := 27) C d_Dav_lock_27 3 rfl ?_
          refine g_tswO (pc := 28) C 96 d_Dav_lock_28 (by decide) (by decide) ?_
          refine g_aload_n (pc := 96) C d_Dav_lock_96 0 rfl ?_
          refine g_get (pc := 97) C fl_Dav_168 hc1 (by omega) rfl d_Dav_lock_97 ?_
          refine g_if_eqB (pc := 100) C 117 d_Dav_lock_100 (by decide) (fun h_100 => ?_) (fun h_100 => ?_)
          · skip
            refine g_iconst (pc := 117) (v := nI 1) C d_Dav_lock_117 (by decide) ?_
            refine g_iret (pc := 118) C hR d_Dav_lock_118 ?_
            refine ⟨?_, rfl⟩
            rw [lockV, if_pos hok, hfi]
            simp only [List.getElem?_eq_getElem hi]
            first
              | (rw [if_neg (by decide), if_neg (by decide), if_neg (by decide), if_neg (by decide), if_pos h_100])
              | (rw [if_neg (by decide), if_neg (by decide), if_neg (by decide), if_neg (by decide), if_neg (by rw [h_100]; decide)])
          · skip
            refine g_aload_n (pc := 103) C d_Dav_lock_103 1 rfl ?_
            refine g_get (pc := 104) C fl_Dav_31 hD.1 (by omega) rfl d_Dav_lock_104 ?_
            refine g_aload_n (pc := 107) C d_Dav_lock_107 0 rfl ?_
            refine g_get (pc := 108) C fl_Dav_174 hc1 (by omega) rfl d_Dav_lock_108 ?_
            refine g_ci (pc := 111) C (g_rV (As := [.ref (ka K (q16 + 1))]) (rest := []) C (c_Tree_sizeAt _ K _ (x + 12) vt rs (q16 + 1) 45 ls[i].1 hcR.2 hD.2.2.2.2.1) mw_Tree_sizeAt mo_Tree_sizeAt ml_Dav_149 (by decide) hD.2.2.2.2.1.h rfl (by omega) rfl rfl (Nat.le_of_ble_eq_true rfl) d_Dav_lock_111) (fun r111 E111 hp111 => ?_)
            rw [hp111.1, hp111.2]
            refine g_goto (pc := 114) C 118 d_Dav_lock_114 (by decide) ?_
            refine g_iret (pc := 118) C hR d_Dav_lock_118 ?_
            refine ⟨?_, rfl⟩
            rw [lockV, if_pos hok, hfi]
            simp only [List.getElem?_eq_getElem hi]
            first
              | (rw [if_neg (by decide), if_neg (by decide), if_neg (by decide), if_neg (by decide), if_pos h_100])
              | (rw [if_neg (by decide), if_neg (by decide), if_neg (by decide), if_neg (by decide), if_neg (by rw [h_100]; decide)])
    · skip
      refine g_iconst (pc := 9) (v := -1) C d_Dav_lock_9 (by decide) ?_
      refine g_iret (pc := 10) C hR d_Dav_lock_10 ?_
      have hen : ¬ (decide (¬ w < 0) && decide (w ≤ nI 4)) = true := by
        first
          | exact rng_lo h_1
          | exact rng_hi h_6
      exact ⟨by rw [lockV, if_neg hen], rfl⟩
