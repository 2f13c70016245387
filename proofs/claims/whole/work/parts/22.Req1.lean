/-! switches; methods that answer a String constant -/
section GSW
variable {X : gX} {K : gK} {cc : ByteArray} {own : String} {mL rf rl pc : Nat} {E : gE} {lv : List (Nat × Value)} {st : List Value}
theorem g_tswI (C : gC X K cc own mL rf rl) {dflt lo hi off : Int} {offs : Array Int} {len : Nat} {x : Int32} (tgt : Nat) (hdg : decode cc pc = .ok (.tableswitch dflt lo hi offs, len)) (h1 : ¬ x.toInt < lo) (h2 : ¬ hi < x.toInt) (ho : offs[(x.toInt - lo).toNat]? = some off) (ht : (pc : Int) + off = (tgt : Int)) (k : gW X K E tgt lv st) : gW X K E pc lv (.int x :: st) :=
  fun H locs ls hH hl => lv_tableIn C.1 C.2.1 hdg h1 h2 ho ht (k H locs ls hH hl)
theorem g_tswO (C : gC X K cc own mL rf rl) {dflt lo hi : Int} {offs : Array Int} {len : Nat} {x : Int32} (tgt : Nat) (hdg : decode cc pc = .ok (.tableswitch dflt lo hi offs, len)) (h : x.toInt < lo ∨ hi < x.toInt) (ht : (pc : Int) + dflt = (tgt : Int)) (k : gW X K E tgt lv st) : gW X K E pc lv (.int x :: st) :=
  fun H locs ls hH hl => lv_tableOut C.1 C.2.1 hdg h ht (k H locs ls hH hl)
theorem g_lsw (C : gC X K cc own mL rf rl) {dflt off : Int} {ps : Array (Int × Int)} {len : Nat} {x : Int32} (tgt : Nat) (hdg : decode cc pc = .ok (.lookupswitch dflt ps, len)) (hp : (ps.toList.zip (ps.toList.drop 1)).all (fun (a, next) => a.1 < next.1) = true) (ho : Op.lookupswitch.offset ps.toList dflt x.toInt = off) (ht : (pc : Int) + off = (tgt : Int)) (k : gW X K E tgt lv st) : gW X K E pc lv (.int x :: st) :=
  fun H locs ls hH hl => lv_lookup C.1 C.2.1 hdg hp ho ht (k H locs ls hH hl)
end GSW
abbrev gMs (l : Launch) (y : MethodName) (cc : ByteArray) (mL : Nat) (rf rl : Nat) (K : gK) (E : gE) (av : List Value) (post : Nat → gE → Prop) : Prop := gM l y cc mL (some (.object "java/lang/String")) rf rl K E av (fun sz => va_Qq (fun r E' => ∃ i : Nat, r = some (ks K i) ∧ post i E') (gB K) (gA (ka K) (kN K) sz))
abbrev gRs (X : gX) (K : gK) (post : Nat → gE → Prop) : Prop := gR X (some (.object "java/lang/String")) (va_Qq (fun r E' => ∃ i : Nat, r = some (ks K i) ∧ post i E') (gB K) (xA X))
theorem g_mets {l : Launch} {y : MethodName} {cc : ByteArray} {mL rf rl : Nat} {K : gK} {E : gE} {av : List Value} {post : Nat → gE → Prop} (hy : plainName y.cls = true) (hav : (lg_sl av).length ≤ mL) (body : ∀ X : gX, xl X = l → gC X K cc y.cls mL rf rl → gRs X K post → gW X K E 0 (lv_args 0 av) []) : gMs l y cc mL rf rl K E av post :=
  g_met (QA := fun A => va_Qq (fun r E' => ∃ i : Nat, r = some (ks K i) ∧ post i E') (gB K) A) hy hav (fun _ => rfl) body
section GSR
variable {X : gX} {K : gK} {cc : ByteArray} {own : String} {mL rf rl pc : Nat} {E : gE} {lv : List (Nat × Value)} {st rest : List Value} {av : Array Value}
theorem g_sret (C : gC X K cc own mL rf rl) {i : Nat} {post : Nat → gE → Prop} (hR : gRs X K post) (hdg : decode cc pc = .ok (.areturn, 1)) (hp : post i E) : gW X K E pc lv [.ref (ks K i)] := by
  intro H locs ls hH hl
  rw [hR.2]
  exact W.aret C.1 C.2.1 hR.1 (Or.inl ⟨_, rfl⟩) (Or.inr ⟨_, rfl⟩) (fun t ht hW => ⟨⟨some (ks K i), E, rfl, ⟨i, rfl, hp⟩, by unfold gB; rw [ht]; exact hH.1⟩, hH.2.2.F ht⟩) hH.2.2.2.2 hdg C.locks
theorem g_cs (C : gC X K cc own mL rf rl) {post : Nat → gE → Prop} (hr : gRun X K E pc lv st rest (fun sz => va_Qq (fun r E' => ∃ i : Nat, r = some (ks K i) ∧ post i E') (gB K) (gA (ka K) (kN K) sz)) av) (kk : ∀ (i : Nat) (E' : gE), post i E' → gW X K E' (pc + 3) lv (.ref (ks K i) :: rest)) : gW X K E pc lv st := by
  intro H locs ls hH hl
  refine va_callq (hr H locs ls hH hl) hH.2.2 (fun q _ h => gA_sub C hH q h) (gA_sub C hH) (fun r E' t H1 locs1 ht _ hp hB _ _ hS => ?_)
  obtain ⟨i, rfl, hp⟩ := hp
  exact kk i E' hp H1 locs1 ls ⟨ht ▸ hB, gw_D hH.2.1, hS⟩ hl
end GSR
/-! REQUEST, as mathematical values -/
theorem pS_len : ∀ (l : Bs) (s n d : Nat), pS l s n d = true → l.length + n + 9 * s ≤ 44 := by
  intro l
  induction l with
  | nil =>
    intro s n d h
    rw [pS] at h
    have := of_decide_eq_true h
    simp only [List.length_nil]
    omega
  | cons c l ih =>
    intro s n d h
    rw [pS] at h
    simp only [List.length_cons]
    split at h
    · split at h
      · cases h
      · have := ih _ _ _ h
        omega
    · split at h
      · have := ih _ _ _ h
        omega
      · cases h
theorem pathOK_len {p : Bs} (h : pathOK p = true) : 1 ≤ p.length ∧ p.length ≤ 45 := by
  cases p with
  | nil => cases h
  | cons c l =>
    have h' : (decide (c.toNat = 47) && (l.isEmpty || pS l 0 0 0)) = true := h
    rw [Bool.and_eq_true, Bool.or_eq_true] at h'
    simp only [List.length_cons]
    rcases h'.2 with z | z
    · cases l with
      | nil => simp
      | cons a r => cases z
    · have := pS_len _ _ _ _ z
      omega
/-- a number in decimal: at least one digit, nine at most -/
def digB (c : UInt8) : Bool := decide (48 ≤ c.toNat ∧ c.toNat ≤ 57)
def dvN (l : Bs) : Nat := l.foldl (fun n c => n * 10 + (c.toNat - 48)) 0
def numV (l : Bs) : Int32 := if 1 ≤ l.length ∧ l.length ≤ 9 ∧ l.all digB = true then nI (dvN l) else -1
theorem part_snoc {bs : Bs} {i k : Nat} (h : i ≤ k) (hk : k < bs.length) : part bs i (k + 1) = part bs i k ++ [bs[k]] := by
  unfold part
  rw [tk_app hk, List.drop_append_of_le_length (by simp; omega)]
theorem part_bad {bs : Bs} {i j k : Nat} (h1 : i ≤ k) (h2 : k < j) (hj : j ≤ bs.length) (g : UInt8 → Bool) (hg : g bs[k] = false) : (part bs i j).all g = false := by
  have hl : k - i < (part bs i j).length := by rw [part_len]; omega
  refine all_miss g hl ?_
  rw [part_get hl (by omega)]
  simp only [show i + (k - i) = k by omega]
  exact hg
theorem subI_lt0 {a b : Nat} (ha : a < 2 ^ 30) (hb : b < 2 ^ 30) : nI a - nI b < 0 ↔ a < b := by
  rw [Int32.lt_iff_toInt_lt, pk_sub_toInt ha hb]
  simp
  omega
theorem shl1 : ∀ k : Nat, k < 8 → nI 1 <<< (nI k &&& 31) = nI (2 ^ k) := by decide +kernel

theorem fl_Req_191 : gFL "DavRoom$Request" 191 0 1 := ⟨_, _, _, rfl, i_Bytes, by decide, tb1 40 rfl rfl, rfl⟩
theorem fl_Req_14 : gFL "DavRoom$Request" 14 3 0 := ⟨_, _, _, rfl, i_Req, by decide, tb1 55 rfl rfl, rfl⟩
theorem fl_Req_20 : gFL "DavRoom$Request" 20 3 1 := ⟨_, _, _, rfl, i_Req, by decide, tb1 57 rfl rfl, rfl⟩
theorem fl_Req_25 : gFL "DavRoom$Request" 25 3 2 := ⟨_, _, _, rfl, i_Req, by decide, tb1 59 rfl rfl, rfl⟩
theorem fl_Req_35 : gFL "DavRoom$Request" 35 3 3 := ⟨_, _, _, rfl, i_Req, by decide, tb1 61 rfl rfl, rfl⟩
theorem fl_Req_38 : gFL "DavRoom$Request" 38 3 4 := ⟨_, _, _, rfl, i_Req, by decide, tb1 63 rfl rfl, rfl⟩
theorem fl_Req_41 : gFL "DavRoom$Request" 41 3 5 := ⟨_, _, _, rfl, i_Req, by decide, tb1 65 rfl rfl, rfl⟩
theorem fl_Req_44 : gFL "DavRoom$Request" 44 3 6 := ⟨_, _, _, rfl, i_Req, by decide, tb1 67 rfl rfl, rfl⟩
theorem fl_Req_47 : gFL "DavRoom$Request" 47 3 7 := ⟨_, _, _, rfl, i_Req, by decide, tb1 69 rfl rfl, rfl⟩
theorem fl_Req_50 : gFL "DavRoom$Request" 50 3 8 := ⟨_, _, _, rfl, i_Req, by decide, tb1 71 rfl rfl, rfl⟩
theorem fl_Req_54 : gFL "DavRoom$Request" 54 3 9 := ⟨_, _, _, rfl, i_Req, by decide, tb1 73 rfl rfl, rfl⟩
theorem fl_Req_57 : gFL "DavRoom$Request" 57 3 10 := ⟨_, _, _, rfl, i_Req, by decide, tb1 75 rfl rfl, rfl⟩
theorem fl_Req_28 : gFL "DavRoom$Request" 28 3 11 := ⟨_, _, _, rfl, i_Req, by decide, tb1 77 rfl rfl, rfl⟩
theorem fl_Req_60 : gFL "DavRoom$Request" 60 3 12 := ⟨_, _, _, rfl, i_Req, by decide, tb1 78 rfl rfl, rfl⟩
theorem ml_Req_1 : Cond.methodLink "DavRoom$Request" 1 ⟨"java/lang/Object", "<init>", "()V"⟩ ∈ TB := tb1 52 rfl rfl
theorem ml_Req_11 : Cond.methodLink "DavRoom$Request" 11 ⟨"DavRoom$Bytes", "<init>", "(I)V"⟩ ∈ TB := tb1 54 rfl rfl
theorem ml_Req_63 : Cond.methodLink "DavRoom$Request" 63 ⟨"DavRoom$Request", "forget", "()V"⟩ ∈ TB := tb2 25 rfl rfl
theorem ml_Req_32 : Cond.methodLink "DavRoom$Request" 32 ⟨"DavRoom$Bytes", "clear", "()V"⟩ ∈ TB := tb2 29 rfl rfl
theorem ml_Req_66 : Cond.methodLink "DavRoom$Request" 66 ⟨"DavRoom$Request", "readVerb", "(LDavRoom$Bytes;)Z"⟩ ∈ TB := tb2 30 rfl rfl
theorem ml_Req_84 : Cond.methodLink "DavRoom$Request" 84 ⟨"DavRoom$Request", "beginningOf", "(I)Ljava/lang/String;"⟩ ∈ TB := tb2 34 rfl rfl
theorem ml_Req_76 : Cond.methodLink "DavRoom$Request" 76 ⟨"DavRoom$Bytes", "hasTextAt", "(ILjava/lang/String;)Z"⟩ ∈ TB := tb2 46 rfl rfl
theorem ml_Req_88 : Cond.methodLink "DavRoom$Request" 88 ⟨"java/lang/String", "length", "()I"⟩ ∈ TB := tb2 98 rfl rfl
theorem ml_Req_70 : Cond.methodLink "DavRoom$Request" 70 ⟨"DavRoom$Bytes", "indexOf", "(II)I"⟩ ∈ TB := tb2 99 rfl rfl
theorem ml_Req_80 : Cond.methodLink "DavRoom$Request" 80 ⟨"DavRoom$Request", "readPath", "(LDavRoom$Bytes;IILDavRoom$Bytes;)Z"⟩ ∈ TB := tb2 108 rfl rfl
theorem ml_Req_112 : Cond.methodLink "DavRoom$Request" 112 ⟨"DavRoom$Paths", "isPath", "(LDavRoom$Bytes;II)Z"⟩ ∈ TB := tb2 111 rfl rfl
theorem ml_Req_116 : Cond.methodLink "DavRoom$Request" 116 ⟨"DavRoom$Bytes", "addPart", "(LDavRoom$Bytes;II)V"⟩ ∈ TB := tb2 118 rfl rfl
theorem ml_Req_120 : Cond.methodLink "DavRoom$Request" 120 ⟨"DavRoom$Bytes", "at", "(I)I"⟩ ∈ TB := tb2 132 rfl rfl
theorem ml_Req_124 : Cond.methodLink "DavRoom$Request" 124 ⟨"DavRoom$Request", "areHeadersFit", "()Z"⟩ ∈ TB := tb2 133 rfl rfl
theorem ml_Req_185 : Cond.methodLink "DavRoom$Request" 185 ⟨"DavRoom$Request", "neededBy", "(I)I"⟩ ∈ TB := tb2 137 rfl rfl
theorem ml_Req_188 : Cond.methodLink "DavRoom$Request" 188 ⟨"DavRoom$Request", "usedBy", "(I)I"⟩ ∈ TB := tb2 140 rfl rfl
theorem ml_Req_128 : Cond.methodLink "DavRoom$Request" 128 ⟨"DavRoom$Request", "readHeader", "(LDavRoom$Bytes;)Z"⟩ ∈ TB := tb2 143 rfl rfl
theorem ml_Req_131 : Cond.methodLink "DavRoom$Request" 131 ⟨"DavRoom$Request", "headerBeginning", "(I)Ljava/lang/String;"⟩ ∈ TB := tb2 147 rfl rfl
theorem ml_Req_134 : Cond.methodLink "DavRoom$Request" 134 ⟨"DavRoom$Request", "has", "(I)Z"⟩ ∈ TB := tb2 158 rfl rfl
theorem ml_Req_138 : Cond.methodLink "DavRoom$Request" 138 ⟨"DavRoom$Request", "readValue", "(ILDavRoom$Bytes;II)Z"⟩ ∈ TB := tb2 162 rfl rfl
theorem ml_Req_158 : Cond.methodLink "DavRoom$Request" 158 ⟨"DavRoom$Request", "readDepth", "(LDavRoom$Bytes;II)Z"⟩ ∈ TB := tb2 166 rfl rfl
theorem ml_Req_163 : Cond.methodLink "DavRoom$Request" 163 ⟨"DavRoom$Request", "isText", "(LDavRoom$Bytes;IILjava/lang/String;)Z"⟩ ∈ TB := tb2 171 rfl rfl
theorem ml_Req_171 : Cond.methodLink "DavRoom$Request" 171 ⟨"DavRoom$Request", "readNumber", "(LDavRoom$Bytes;II)I"⟩ ∈ TB := tb2 179 rfl rfl
theorem cl_Req_7 : Cond.classLink "DavRoom$Request" 7 "DavRoom$Bytes" ∈ TB := tb1 53 rfl rfl
theorem fw_Req_path : gFW 3 0 (.object "DavRoom$Bytes") true := ⟨_, _, _, t_Req, rfl, t_Req_ok, n_Req, by decide, rfl, rfl⟩
theorem fw_Req_to : gFW 3 1 (.object "DavRoom$Bytes") true := ⟨_, _, _, t_Req, rfl, t_Req_ok, n_Req, by decide, rfl, rfl⟩
theorem fw_Req_body : gFW 3 2 (.object "DavRoom$Bytes") true := ⟨_, _, _, t_Req, rfl, t_Req_ok, n_Req, by decide, rfl, rfl⟩
theorem fw_Req_verb : gFW 3 3 (.int) false := ⟨_, _, _, t_Req, rfl, t_Req_ok, n_Req, by decide, rfl, rfl⟩
theorem fw_Req_depth : gFW 3 4 (.int) false := ⟨_, _, _, t_Req, rfl, t_Req_ok, n_Req, by decide, rfl, rfl⟩
theorem fw_Req_match : gFW 3 5 (.int) false := ⟨_, _, _, t_Req, rfl, t_Req_ok, n_Req, by decide, rfl, rfl⟩
theorem fw_Req_token : gFW 3 6 (.int) false := ⟨_, _, _, t_Req, rfl, t_Req_ok, n_Req, by decide, rfl, rfl⟩
theorem fw_Req_term : gFW 3 7 (.int) false := ⟨_, _, _, t_Req, rfl, t_Req_ok, n_Req, by decide, rfl, rfl⟩
theorem fw_Req_matchesAny : gFW 3 8 (.boolean) false := ⟨_, _, _, t_Req, rfl, t_Req_ok, n_Req, by decide, rfl, rfl⟩
theorem fw_Req_sparesOld : gFW 3 9 (.boolean) false := ⟨_, _, _, t_Req, rfl, t_Req_ok, n_Req, by decide, rfl, rfl⟩
theorem fw_Req_alone : gFW 3 10 (.boolean) false := ⟨_, _, _, t_Req, rfl, t_Req_ok, n_Req, by decide, rfl, rfl⟩
theorem fw_Req_seen : gFW 3 11 (.int) false := ⟨_, _, _, t_Req, rfl, t_Req_ok, n_Req, by decide, rfl, rfl⟩
theorem fw_Req_cursor : gFW 3 12 (.int) false := ⟨_, _, _, t_Req, rfl, t_Req_ok, n_Req, by decide, rfl, rfl⟩
theorem mw_Req_init : gMW y_Req_init b_Req_init 1 none 0 := ⟨⟨tb1 4 rfl rfl, tb1 51 rfl rfl⟩, by decide +kernel⟩
theorem mw_Req_has : gMW y_Req_has b_Req_has 2 (some .boolean) 1 := ⟨⟨tb1 4 rfl rfl, tb2 161 rfl rfl⟩, by decide +kernel⟩
theorem mo_Req_has : gMO y_Req_has := ⟨tb2 159 rfl rfl, tb2 160 rfl rfl⟩
theorem mw_Req_forget : gMW y_Req_forget b_Req_forget 1 none 0 := ⟨⟨tb1 4 rfl rfl, tb2 28 rfl rfl⟩, by decide +kernel⟩
theorem mo_Req_forget : gMO y_Req_forget := ⟨tb2 27 rfl rfl, tbp 0 rfl⟩
theorem mw_Req_readFirstLine : gMW y_Req_readFirstLine b_Req_readFirstLine 3 (some .boolean) 1 := ⟨⟨tb1 4 rfl rfl, tb2 24 rfl rfl⟩, by decide +kernel⟩
theorem mo_Req_readFirstLine : gMO y_Req_readFirstLine := ⟨tb2 22 rfl rfl, tb2 23 rfl rfl⟩
theorem mw_Req_readVerb : gMW y_Req_readVerb b_Req_readVerb 4 (some .boolean) 1 := ⟨⟨tb1 4 rfl rfl, tb2 33 rfl rfl⟩, by decide +kernel⟩
theorem mo_Req_readVerb : gMO y_Req_readVerb := ⟨tb2 32 rfl rfl, tbp 1 rfl⟩
theorem mw_Req_beginningOf : gMW y_Req_beginningOf b_Req_beginningOf 1 (some (.object "java/lang/String")) 1 := ⟨⟨tb1 4 rfl rfl, tb2 36 rfl rfl⟩, by decide +kernel⟩
theorem mo_Req_beginningOf : Cond.static y_Req_beginningOf ∈ TB := tb2 35 rfl rfl
theorem mw_Req_readPath : gMW y_Req_readPath b_Req_readPath 4 (some .boolean) 4 := ⟨⟨tb1 4 rfl rfl, tb2 110 rfl rfl⟩, by decide +kernel⟩
theorem mo_Req_readPath : Cond.static y_Req_readPath ∈ TB := tb2 109 rfl rfl
theorem mw_Req_readHeaders : gMW y_Req_readHeaders b_Req_readHeaders 3 (some .boolean) 1 := ⟨⟨tb1 4 rfl rfl, tb2 131 rfl rfl⟩, by decide +kernel⟩
theorem mo_Req_readHeaders : gMO y_Req_readHeaders := ⟨tb2 129 rfl rfl, tb2 130 rfl rfl⟩
theorem mw_Req_readHeader : gMW y_Req_readHeader b_Req_readHeader 7 (some .boolean) 1 := ⟨⟨tb1 4 rfl rfl, tb2 146 rfl rfl⟩, by decide +kernel⟩
theorem mo_Req_readHeader : gMO y_Req_readHeader := ⟨tb2 145 rfl rfl, tbp 3 rfl⟩
theorem mw_Req_headerBeginning : gMW y_Req_headerBeginning b_Req_headerBeginning 1 (some (.object "java/lang/String")) 1 := ⟨⟨tb1 4 rfl rfl, tb2 149 rfl rfl⟩, by decide +kernel⟩
theorem mo_Req_headerBeginning : Cond.static y_Req_headerBeginning ∈ TB := tb2 148 rfl rfl
theorem mw_Req_readValue : gMW y_Req_readValue b_Req_readValue 5 (some .boolean) 4 := ⟨⟨tb1 4 rfl rfl, tb2 165 rfl rfl⟩, by decide +kernel⟩
theorem mo_Req_readValue : gMO y_Req_readValue := ⟨tb2 164 rfl rfl, tbp 4 rfl⟩
theorem mw_Req_readDepth : gMW y_Req_readDepth b_Req_readDepth 4 (some .boolean) 3 := ⟨⟨tb1 4 rfl rfl, tb2 169 rfl rfl⟩, by decide +kernel⟩
theorem mo_Req_readDepth : gMO y_Req_readDepth := ⟨tb2 168 rfl rfl, tbp 5 rfl⟩
theorem mw_Req_isText : gMW y_Req_isText b_Req_isText 4 (some .boolean) 4 := ⟨⟨tb1 4 rfl rfl, tb2 173 rfl rfl⟩, by decide +kernel⟩
theorem mo_Req_isText : Cond.static y_Req_isText ∈ TB := tb2 172 rfl rfl
theorem mw_Req_readNumber : gMW y_Req_readNumber b_Req_readNumber 6 (some .int) 3 := ⟨⟨tb1 4 rfl rfl, tb2 181 rfl rfl⟩, by decide +kernel⟩
theorem mo_Req_readNumber : Cond.static y_Req_readNumber ∈ TB := tb2 180 rfl rfl
theorem mw_Req_areHeadersFit : gMW y_Req_areHeadersFit b_Req_areHeadersFit 2 (some .boolean) 0 := ⟨⟨tb1 4 rfl rfl, tb2 136 rfl rfl⟩, by decide +kernel⟩
theorem mo_Req_areHeadersFit : gMO y_Req_areHeadersFit := ⟨tb2 135 rfl rfl, tbp 2 rfl⟩
theorem mw_Req_readBody : gMW y_Req_readBody b_Req_readBody 3 (some .boolean) 1 := ⟨⟨tb1 4 rfl rfl, tb2 187 rfl rfl⟩, by decide +kernel⟩
theorem mo_Req_readBody : gMO y_Req_readBody := ⟨tb2 185 rfl rfl, tb2 186 rfl rfl⟩
theorem mw_Req_usedBy : gMW y_Req_usedBy b_Req_usedBy 1 (some .int) 1 := ⟨⟨tb1 4 rfl rfl, tb2 142 rfl rfl⟩, by decide +kernel⟩
theorem mo_Req_usedBy : Cond.static y_Req_usedBy ∈ TB := tb2 141 rfl rfl
theorem mw_Req_neededBy : gMW y_Req_neededBy b_Req_neededBy 1 (some .int) 1 := ⟨⟨tb1 4 rfl rfl, tb2 139 rfl rfl⟩, by decide +kernel⟩
theorem mo_Req_neededBy : Cond.static y_Req_neededBy ∈ TB := tb2 138 rfl rfl
theorem d_Req_has_0 : decode b_Req_has 0 = .ok (.aload_n 0, 1) := by decide +kernel
theorem d_Req_has_1 : decode b_Req_has 1 = .ok (.getfield 28, 3) := by decide +kernel
theorem d_Req_has_4 : decode b_Req_has 4 = .ok (.iload_n 1, 1) := by decide +kernel
theorem d_Req_has_5 : decode b_Req_has 5 = .ok (.iand, 1) := by decide +kernel
theorem d_Req_has_6 : decode b_Req_has 6 = .ok (.ifCond .eq 7, 3) := by decide +kernel
theorem d_Req_has_9 : decode b_Req_has 9 = .ok (.iconst 1, 1) := by decide +kernel
theorem d_Req_has_10 : decode b_Req_has 10 = .ok (.goto 4, 3) := by decide +kernel
theorem d_Req_has_13 : decode b_Req_has 13 = .ok (.iconst 0, 1) := by decide +kernel
theorem d_Req_has_14 : decode b_Req_has 14 = .ok (.ireturn, 1) := by decide +kernel
theorem d_Req_forget_0 : decode b_Req_forget 0 = .ok (.aload_n 0, 1) := by decide +kernel
theorem d_Req_forget_1 : decode b_Req_forget 1 = .ok (.getfield 14, 3) := by decide +kernel
theorem d_Req_forget_4 : decode b_Req_forget 4 = .ok (.invokevirtual 32, 3) := by decide +kernel
theorem d_Req_forget_7 : decode b_Req_forget 7 = .ok (.aload_n 0, 1) := by decide +kernel
theorem d_Req_forget_8 : decode b_Req_forget 8 = .ok (.getfield 20, 3) := by decide +kernel
theorem d_Req_forget_11 : decode b_Req_forget 11 = .ok (.invokevirtual 32, 3) := by decide +kernel
theorem d_Req_forget_14 : decode b_Req_forget 14 = .ok (.aload_n 0, 1) := by decide +kernel
theorem d_Req_forget_15 : decode b_Req_forget 15 = .ok (.getfield 25, 3) := by decide +kernel
theorem d_Req_forget_18 : decode b_Req_forget 18 = .ok (.invokevirtual 32, 3) := by decide +kernel
theorem d_Req_forget_21 : decode b_Req_forget 21 = .ok (.aload_n 0, 1) := by decide +kernel
theorem d_Req_forget_22 : decode b_Req_forget 22 = .ok (.iconst 0, 1) := by decide +kernel
theorem d_Req_forget_23 : decode b_Req_forget 23 = .ok (.putfield 35, 3) := by decide +kernel
theorem d_Req_forget_26 : decode b_Req_forget 26 = .ok (.aload_n 0, 1) := by decide +kernel
theorem d_Req_forget_27 : decode b_Req_forget 27 = .ok (.iconst 2, 1) := by decide +kernel
theorem d_Req_forget_28 : decode b_Req_forget 28 = .ok (.putfield 38, 3) := by decide +kernel
theorem d_Req_forget_31 : decode b_Req_forget 31 = .ok (.aload_n 0, 1) := by decide +kernel
theorem d_Req_forget_32 : decode b_Req_forget 32 = .ok (.iconst (-1), 1) := by decide +kernel
theorem d_Req_forget_33 : decode b_Req_forget 33 = .ok (.putfield 41, 3) := by decide +kernel
theorem d_Req_forget_36 : decode b_Req_forget 36 = .ok (.aload_n 0, 1) := by decide +kernel
theorem d_Req_forget_37 : decode b_Req_forget 37 = .ok (.iconst (-1), 1) := by decide +kernel
theorem d_Req_forget_38 : decode b_Req_forget 38 = .ok (.putfield 44, 3) := by decide +kernel
theorem d_Req_forget_41 : decode b_Req_forget 41 = .ok (.aload_n 0, 1) := by decide +kernel
theorem d_Req_forget_42 : decode b_Req_forget 42 = .ok (.bipush 100, 2) := by decide +kernel
theorem d_Req_forget_44 : decode b_Req_forget 44 = .ok (.putfield 47, 3) := by decide +kernel
theorem d_Req_forget_47 : decode b_Req_forget 47 = .ok (.aload_n 0, 1) := by decide +kernel
theorem d_Req_forget_48 : decode b_Req_forget 48 = .ok (.iconst 0, 1) := by decide +kernel
theorem d_Req_forget_49 : decode b_Req_forget 49 = .ok (.putfield 50, 3) := by decide +kernel
theorem d_Req_forget_52 : decode b_Req_forget 52 = .ok (.aload_n 0, 1) := by decide +kernel
theorem d_Req_forget_53 : decode b_Req_forget 53 = .ok (.iconst 0, 1) := by decide +kernel
theorem d_Req_forget_54 : decode b_Req_forget 54 = .ok (.putfield 54, 3) := by decide +kernel
theorem d_Req_forget_57 : decode b_Req_forget 57 = .ok (.aload_n 0, 1) := by decide +kernel
theorem d_Req_forget_58 : decode b_Req_forget 58 = .ok (.iconst 1, 1) := by decide +kernel
theorem d_Req_forget_59 : decode b_Req_forget 59 = .ok (.putfield 57, 3) := by decide +kernel
theorem d_Req_forget_62 : decode b_Req_forget 62 = .ok (.aload_n 0, 1) := by decide +kernel
theorem d_Req_forget_63 : decode b_Req_forget 63 = .ok (.iconst 0, 1) := by decide +kernel
theorem d_Req_forget_64 : decode b_Req_forget 64 = .ok (.putfield 28, 3) := by decide +kernel
theorem d_Req_forget_67 : decode b_Req_forget 67 = .ok (.aload_n 0, 1) := by decide +kernel
theorem d_Req_forget_68 : decode b_Req_forget 68 = .ok (.iconst 0, 1) := by decide +kernel
theorem d_Req_forget_69 : decode b_Req_forget 69 = .ok (.putfield 60, 3) := by decide +kernel
theorem d_Req_forget_72 : decode b_Req_forget 72 = .ok (.return_, 1) := by decide +kernel
theorem d_Req_readFirstLine_0 : decode b_Req_readFirstLine 0 = .ok (.aload_n 0, 1) := by decide +kernel
theorem d_Req_readFirstLine_1 : decode b_Req_readFirstLine 1 = .ok (.invokevirtual 63, 3) := by decide +kernel
theorem d_Req_readFirstLine_4 : decode b_Req_readFirstLine 4 = .ok (.aload_n 0, 1) := by decide +kernel
theorem d_Req_readFirstLine_5 : decode b_Req_readFirstLine 5 = .ok (.aload_n 1, 1) := by decide +kernel
theorem d_Req_readFirstLine_6 : decode b_Req_readFirstLine 6 = .ok (.invokevirtual 66, 3) := by decide +kernel
theorem d_Req_readFirstLine_9 : decode b_Req_readFirstLine 9 = .ok (.ifCond .ne 5, 3) := by decide +kernel
theorem d_Req_readFirstLine_12 : decode b_Req_readFirstLine 12 = .ok (.iconst 0, 1) := by decide +kernel
theorem d_Req_readFirstLine_13 : decode b_Req_readFirstLine 13 = .ok (.ireturn, 1) := by decide +kernel
theorem d_Req_readFirstLine_14 : decode b_Req_readFirstLine 14 = .ok (.aload_n 1, 1) := by decide +kernel
theorem d_Req_readFirstLine_15 : decode b_Req_readFirstLine 15 = .ok (.bipush 32, 2) := by decide +kernel
theorem d_Req_readFirstLine_17 : decode b_Req_readFirstLine 17 = .ok (.aload_n 0, 1) := by decide +kernel
theorem d_Req_readFirstLine_18 : decode b_Req_readFirstLine 18 = .ok (.getfield 60, 3) := by decide +kernel
theorem d_Req_readFirstLine_21 : decode b_Req_readFirstLine 21 = .ok (.invokevirtual 70, 3) := by decide +kernel
theorem d_Req_readFirstLine_24 : decode b_Req_readFirstLine 24 = .ok (.istore_n 2, 1) := by decide +kernel
theorem d_Req_readFirstLine_25 : decode b_Req_readFirstLine 25 = .ok (.aload_n 1, 1) := by decide +kernel
theorem d_Req_readFirstLine_26 : decode b_Req_readFirstLine 26 = .ok (.iload_n 2, 1) := by decide +kernel
theorem d_Req_readFirstLine_27 : decode b_Req_readFirstLine 27 = .ok (.ldc 74, 2) := by decide +kernel
theorem d_Req_readFirstLine_29 : decode b_Req_readFirstLine 29 = .ok (.invokevirtual 76, 3) := by decide +kernel
theorem d_Req_readFirstLine_32 : decode b_Req_readFirstLine 32 = .ok (.ifCond .eq 19, 3) := by decide +kernel
theorem d_Req_readFirstLine_35 : decode b_Req_readFirstLine 35 = .ok (.aload_n 1, 1) := by decide +kernel
theorem d_Req_readFirstLine_36 : decode b_Req_readFirstLine 36 = .ok (.aload_n 0, 1) := by decide +kernel
theorem d_Req_readFirstLine_37 : decode b_Req_readFirstLine 37 = .ok (.getfield 60, 3) := by decide +kernel
theorem d_Req_readFirstLine_40 : decode b_Req_readFirstLine 40 = .ok (.iload_n 2, 1) := by decide +kernel
theorem d_Req_readFirstLine_41 : decode b_Req_readFirstLine 41 = .ok (.aload_n 0, 1) := by decide +kernel
theorem d_Req_readFirstLine_42 : decode b_Req_readFirstLine 42 = .ok (.getfield 14, 3) := by decide +kernel
theorem d_Req_readFirstLine_45 : decode b_Req_readFirstLine 45 = .ok (.invokestatic 80, 3) := by decide +kernel
theorem d_Req_readFirstLine_48 : decode b_Req_readFirstLine 48 = .ok (.ifCond .ne 5, 3) := by decide +kernel
theorem d_Req_readFirstLine_51 : decode b_Req_readFirstLine 51 = .ok (.iconst 0, 1) := by decide +kernel
theorem d_Req_readFirstLine_52 : decode b_Req_readFirstLine 52 = .ok (.ireturn, 1) := by decide +kernel
theorem d_Req_readFirstLine_53 : decode b_Req_readFirstLine 53 = .ok (.aload_n 0, 1) := by decide +kernel
theorem d_Req_readFirstLine_54 : decode b_Req_readFirstLine 54 = .ok (.iload_n 2, 1) := by decide +kernel
theorem d_Req_readFirstLine_55 : decode b_Req_readFirstLine 55 = .ok (.iconst 5, 1) := by decide +kernel
theorem d_Req_readFirstLine_56 : decode b_Req_readFirstLine 56 = .ok (.iadd, 1) := by decide +kernel
theorem d_Req_readFirstLine_57 : decode b_Req_readFirstLine 57 = .ok (.putfield 60, 3) := by decide +kernel
theorem d_Req_readFirstLine_60 : decode b_Req_readFirstLine 60 = .ok (.iconst 1, 1) := by decide +kernel
theorem d_Req_readFirstLine_61 : decode b_Req_readFirstLine 61 = .ok (.ireturn, 1) := by decide +kernel
theorem d_Req_readVerb_0 : decode b_Req_readVerb 0 = .ok (.iconst 0, 1) := by decide +kernel
theorem d_Req_readVerb_1 : decode b_Req_readVerb 1 = .ok (.istore_n 2, 1) := by decide +kernel
theorem d_Req_readVerb_2 : decode b_Req_readVerb 2 = .ok (.iload_n 2, 1) := by decide +kernel
theorem d_Req_readVerb_3 : decode b_Req_readVerb 3 = .ok (.bipush 9, 2) := by decide +kernel
theorem d_Req_readVerb_5 : decode b_Req_readVerb 5 = .ok (.if_icmp .ge 38, 3) := by decide +kernel
theorem d_Req_readVerb_8 : decode b_Req_readVerb 8 = .ok (.iload_n 2, 1) := by decide +kernel
theorem d_Req_readVerb_9 : decode b_Req_readVerb 9 = .ok (.invokestatic 84, 3) := by decide +kernel
theorem d_Req_readVerb_12 : decode b_Req_readVerb 12 = .ok (.astore_n 3, 1) := by decide +kernel
theorem d_Req_readVerb_13 : decode b_Req_readVerb 13 = .ok (.aload_n 1, 1) := by decide +kernel
theorem d_Req_readVerb_14 : decode b_Req_readVerb 14 = .ok (.iconst 0, 1) := by decide +kernel
theorem d_Req_readVerb_15 : decode b_Req_readVerb 15 = .ok (.aload_n 3, 1) := by decide +kernel
theorem d_Req_readVerb_16 : decode b_Req_readVerb 16 = .ok (.invokevirtual 76, 3) := by decide +kernel
theorem d_Req_readVerb_19 : decode b_Req_readVerb 19 = .ok (.ifCond .eq 18, 3) := by decide +kernel
theorem d_Req_readVerb_22 : decode b_Req_readVerb 22 = .ok (.aload_n 0, 1) := by decide +kernel
theorem d_Req_readVerb_23 : decode b_Req_readVerb 23 = .ok (.iload_n 2, 1) := by decide +kernel
theorem d_Req_readVerb_24 : decode b_Req_readVerb 24 = .ok (.putfield 35, 3) := by decide +kernel
theorem d_Req_readVerb_27 : decode b_Req_readVerb 27 = .ok (.aload_n 0, 1) := by decide +kernel
theorem d_Req_readVerb_28 : decode b_Req_readVerb 28 = .ok (.aload_n 3, 1) := by decide +kernel
theorem d_Req_readVerb_29 : decode b_Req_readVerb 29 = .ok (.invokevirtual 88, 3) := by decide +kernel
theorem d_Req_readVerb_32 : decode b_Req_readVerb 32 = .ok (.putfield 60, 3) := by decide +kernel
theorem d_Req_readVerb_35 : decode b_Req_readVerb 35 = .ok (.iconst 1, 1) := by decide +kernel
theorem d_Req_readVerb_36 : decode b_Req_readVerb 36 = .ok (.ireturn, 1) := by decide +kernel
theorem d_Req_readVerb_37 : decode b_Req_readVerb 37 = .ok (.iinc 2 1, 3) := by decide +kernel
theorem d_Req_readVerb_40 : decode b_Req_readVerb 40 = .ok (.goto (-38), 3) := by decide +kernel
theorem d_Req_readVerb_43 : decode b_Req_readVerb 43 = .ok (.iconst 0, 1) := by decide +kernel
theorem d_Req_readVerb_44 : decode b_Req_readVerb 44 = .ok (.ireturn, 1) := by decide +kernel
theorem d_Req_beginningOf_0 : decode b_Req_beginningOf 0 = .ok (.iload_n 0, 1) := by decide +kernel
theorem d_Req_beginningOf_1 : decode b_Req_beginningOf 1 = .ok (.tableswitch 71 0 7 #[47, 50, 53, 56, 59, 62, 65, 68], 47) := by decide +kernel
theorem d_Req_beginningOf_48 : decode b_Req_beginningOf 48 = .ok (.ldc 94, 2) := by decide +kernel
theorem d_Req_beginningOf_50 : decode b_Req_beginningOf 50 = .ok (.areturn, 1) := by decide +kernel
theorem d_Req_beginningOf_51 : decode b_Req_beginningOf 51 = .ok (.ldc 96, 2) := by decide +kernel
theorem d_Req_beginningOf_53 : decode b_Req_beginningOf 53 = .ok (.areturn, 1) := by decide +kernel
theorem d_Req_beginningOf_54 : decode b_Req_beginningOf 54 = .ok (.ldc 98, 2) := by decide +kernel
theorem d_Req_beginningOf_56 : decode b_Req_beginningOf 56 = .ok (.areturn, 1) := by decide +kernel
theorem d_Req_beginningOf_57 : decode b_Req_beginningOf 57 = .ok (.ldc 100, 2) := by decide +kernel
theorem d_Req_beginningOf_59 : decode b_Req_beginningOf 59 = .ok (.areturn, 1) := by decide +kernel
theorem d_Req_beginningOf_60 : decode b_Req_beginningOf 60 = .ok (.ldc 102, 2) := by decide +kernel
theorem d_Req_beginningOf_62 : decode b_Req_beginningOf 62 = .ok (.areturn, 1) := by decide +kernel
theorem d_Req_beginningOf_63 : decode b_Req_beginningOf 63 = .ok (.ldc 104, 2) := by decide +kernel
theorem d_Req_beginningOf_65 : decode b_Req_beginningOf 65 = .ok (.areturn, 1) := by decide +kernel
theorem d_Req_beginningOf_66 : decode b_Req_beginningOf 66 = .ok (.ldc 106, 2) := by decide +kernel
theorem d_Req_beginningOf_68 : decode b_Req_beginningOf 68 = .ok (.areturn, 1) := by decide +kernel
theorem d_Req_beginningOf_69 : decode b_Req_beginningOf 69 = .ok (.ldc 108, 2) := by decide +kernel
theorem d_Req_beginningOf_71 : decode b_Req_beginningOf 71 = .ok (.areturn, 1) := by decide +kernel
theorem d_Req_beginningOf_72 : decode b_Req_beginningOf 72 = .ok (.ldc 110, 2) := by decide +kernel
theorem d_Req_beginningOf_74 : decode b_Req_beginningOf 74 = .ok (.areturn, 1) := by decide +kernel
theorem d_Req_readPath_0 : decode b_Req_readPath 0 = .ok (.aload_n 0, 1) := by decide +kernel
theorem d_Req_readPath_1 : decode b_Req_readPath 1 = .ok (.iload_n 1, 1) := by decide +kernel
theorem d_Req_readPath_2 : decode b_Req_readPath 2 = .ok (.iload_n 2, 1) := by decide +kernel
theorem d_Req_readPath_3 : decode b_Req_readPath 3 = .ok (.invokestatic 112, 3) := by decide +kernel
theorem d_Req_readPath_6 : decode b_Req_readPath 6 = .ok (.ifCond .ne 5, 3) := by decide +kernel
theorem d_Req_readPath_9 : decode b_Req_readPath 9 = .ok (.iconst 0, 1) := by decide +kernel
theorem d_Req_readPath_10 : decode b_Req_readPath 10 = .ok (.ireturn, 1) := by decide +kernel
theorem d_Req_readPath_11 : decode b_Req_readPath 11 = .ok (.aload_n 3, 1) := by decide +kernel
theorem d_Req_readPath_12 : decode b_Req_readPath 12 = .ok (.invokevirtual 32, 3) := by decide +kernel
theorem d_Req_readPath_15 : decode b_Req_readPath 15 = .ok (.aload_n 3, 1) := by decide +kernel
theorem d_Req_readPath_16 : decode b_Req_readPath 16 = .ok (.aload_n 0, 1) := by decide +kernel
theorem d_Req_readPath_17 : decode b_Req_readPath 17 = .ok (.iload_n 1, 1) := by decide +kernel
theorem d_Req_readPath_18 : decode b_Req_readPath 18 = .ok (.iload_n 2, 1) := by decide +kernel
theorem d_Req_readPath_19 : decode b_Req_readPath 19 = .ok (.invokevirtual 116, 3) := by decide +kernel
theorem d_Req_readPath_22 : decode b_Req_readPath 22 = .ok (.iconst 1, 1) := by decide +kernel
theorem d_Req_readPath_23 : decode b_Req_readPath 23 = .ok (.ireturn, 1) := by decide +kernel
theorem d_Req_readHeaders_0 : decode b_Req_readHeaders 0 = .ok (.iconst 0, 1) := by decide +kernel
theorem d_Req_readHeaders_1 : decode b_Req_readHeaders 1 = .ok (.istore_n 2, 1) := by decide +kernel
theorem d_Req_readHeaders_2 : decode b_Req_readHeaders 2 = .ok (.iload_n 2, 1) := by decide +kernel
theorem d_Req_readHeaders_3 : decode b_Req_readHeaders 3 = .ok (.bipush 8, 2) := by decide +kernel
theorem d_Req_readHeaders_5 : decode b_Req_readHeaders 5 = .ok (.if_icmp .gt 47, 3) := by decide +kernel
theorem d_Req_readHeaders_8 : decode b_Req_readHeaders 8 = .ok (.aload_n 1, 1) := by decide +kernel
theorem d_Req_readHeaders_9 : decode b_Req_readHeaders 9 = .ok (.aload_n 0, 1) := by decide +kernel
theorem d_Req_readHeaders_10 : decode b_Req_readHeaders 10 = .ok (.getfield 60, 3) := by decide +kernel
theorem d_Req_readHeaders_13 : decode b_Req_readHeaders 13 = .ok (.invokevirtual 120, 3) := by decide +kernel
theorem d_Req_readHeaders_16 : decode b_Req_readHeaders 16 = .ok (.bipush 10, 2) := by decide +kernel
theorem d_Req_readHeaders_18 : decode b_Req_readHeaders 18 = .ok (.if_icmp .ne 18, 3) := by decide +kernel
theorem d_Req_readHeaders_21 : decode b_Req_readHeaders 21 = .ok (.aload_n 0, 1) := by decide +kernel
theorem d_Req_readHeaders_22 : decode b_Req_readHeaders 22 = .ok (.dup, 1) := by decide +kernel
theorem d_Req_readHeaders_23 : decode b_Req_readHeaders 23 = .ok (.getfield 60, 3) := by decide +kernel
theorem d_Req_readHeaders_26 : decode b_Req_readHeaders 26 = .ok (.iconst 1, 1) := by decide +kernel
theorem d_Req_readHeaders_27 : decode b_Req_readHeaders 27 = .ok (.iadd, 1) := by decide +kernel
theorem d_Req_readHeaders_28 : decode b_Req_readHeaders 28 = .ok (.putfield 60, 3) := by decide +kernel
theorem d_Req_readHeaders_31 : decode b_Req_readHeaders 31 = .ok (.aload_n 0, 1) := by decide +kernel
theorem d_Req_readHeaders_32 : decode b_Req_readHeaders 32 = .ok (.invokevirtual 124, 3) := by decide +kernel
theorem d_Req_readHeaders_35 : decode b_Req_readHeaders 35 = .ok (.ireturn, 1) := by decide +kernel
theorem d_Req_readHeaders_36 : decode b_Req_readHeaders 36 = .ok (.aload_n 0, 1) := by decide +kernel
theorem d_Req_readHeaders_37 : decode b_Req_readHeaders 37 = .ok (.aload_n 1, 1) := by decide +kernel
theorem d_Req_readHeaders_38 : decode b_Req_readHeaders 38 = .ok (.invokevirtual 128, 3) := by decide +kernel
theorem d_Req_readHeaders_41 : decode b_Req_readHeaders 41 = .ok (.ifCond .ne 5, 3) := by decide +kernel
theorem d_Req_readHeaders_44 : decode b_Req_readHeaders 44 = .ok (.iconst 0, 1) := by decide +kernel
theorem d_Req_readHeaders_45 : decode b_Req_readHeaders 45 = .ok (.ireturn, 1) := by decide +kernel
theorem d_Req_readHeaders_46 : decode b_Req_readHeaders 46 = .ok (.iinc 2 1, 3) := by decide +kernel
theorem d_Req_readHeaders_49 : decode b_Req_readHeaders 49 = .ok (.goto (-47), 3) := by decide +kernel
theorem d_Req_readHeaders_52 : decode b_Req_readHeaders 52 = .ok (.iconst 0, 1) := by decide +kernel
theorem d_Req_readHeaders_53 : decode b_Req_readHeaders 53 = .ok (.ireturn, 1) := by decide +kernel
theorem d_Req_readHeader_0 : decode b_Req_readHeader 0 = .ok (.aload_n 1, 1) := by decide +kernel
theorem d_Req_readHeader_1 : decode b_Req_readHeader 1 = .ok (.bipush 10, 2) := by decide +kernel
theorem d_Req_readHeader_3 : decode b_Req_readHeader 3 = .ok (.aload_n 0, 1) := by decide +kernel
theorem d_Req_readHeader_4 : decode b_Req_readHeader 4 = .ok (.getfield 60, 3) := by decide +kernel
theorem d_Req_readHeader_7 : decode b_Req_readHeader 7 = .ok (.invokevirtual 70, 3) := by decide +kernel
theorem d_Req_readHeader_10 : decode b_Req_readHeader 10 = .ok (.istore_n 2, 1) := by decide +kernel
theorem d_Req_readHeader_11 : decode b_Req_readHeader 11 = .ok (.iload_n 2, 1) := by decide +kernel
theorem d_Req_readHeader_12 : decode b_Req_readHeader 12 = .ok (.iconst (-1), 1) := by decide +kernel
theorem d_Req_readHeader_13 : decode b_Req_readHeader 13 = .ok (.if_icmp .ne 5, 3) := by decide +kernel
theorem d_Req_readHeader_16 : decode b_Req_readHeader 16 = .ok (.iconst 0, 1) := by decide +kernel
theorem d_Req_readHeader_17 : decode b_Req_readHeader 17 = .ok (.ireturn, 1) := by decide +kernel
theorem d_Req_readHeader_18 : decode b_Req_readHeader 18 = .ok (.iconst 0, 1) := by decide +kernel
theorem d_Req_readHeader_19 : decode b_Req_readHeader 19 = .ok (.istore_n 3, 1) := by decide +kernel
theorem d_Req_readHeader_20 : decode b_Req_readHeader 20 = .ok (.iload_n 3, 1) := by decide +kernel
theorem d_Req_readHeader_21 : decode b_Req_readHeader 21 = .ok (.bipush 8, 2) := by decide +kernel
theorem d_Req_readHeader_23 : decode b_Req_readHeader 23 = .ok (.if_icmp .ge 92, 3) := by decide +kernel
theorem d_Req_readHeader_26 : decode b_Req_readHeader 26 = .ok (.iconst 1, 1) := by decide +kernel
theorem d_Req_readHeader_27 : decode b_Req_readHeader 27 = .ok (.iload_n 3, 1) := by decide +kernel
theorem d_Req_readHeader_28 : decode b_Req_readHeader 28 = .ok (.ishl, 1) := by decide +kernel
theorem d_Req_readHeader_29 : decode b_Req_readHeader 29 = .ok (.istore 4, 2) := by decide +kernel
theorem d_Req_readHeader_31 : decode b_Req_readHeader 31 = .ok (.iload 4, 2) := by decide +kernel
theorem d_Req_readHeader_33 : decode b_Req_readHeader 33 = .ok (.invokestatic 131, 3) := by decide +kernel
theorem d_Req_readHeader_36 : decode b_Req_readHeader 36 = .ok (.astore 5, 2) := by decide +kernel
theorem d_Req_readHeader_38 : decode b_Req_readHeader 38 = .ok (.aload_n 1, 1) := by decide +kernel
theorem d_Req_readHeader_39 : decode b_Req_readHeader 39 = .ok (.aload_n 0, 1) := by decide +kernel
theorem d_Req_readHeader_40 : decode b_Req_readHeader 40 = .ok (.getfield 60, 3) := by decide +kernel
theorem d_Req_readHeader_43 : decode b_Req_readHeader 43 = .ok (.aload 5, 2) := by decide +kernel
theorem d_Req_readHeader_45 : decode b_Req_readHeader 45 = .ok (.invokevirtual 76, 3) := by decide +kernel
theorem d_Req_readHeader_48 : decode b_Req_readHeader 48 = .ok (.ifCond .eq 61, 3) := by decide +kernel
theorem d_Req_readHeader_51 : decode b_Req_readHeader 51 = .ok (.aload_n 0, 1) := by decide +kernel
theorem d_Req_readHeader_52 : decode b_Req_readHeader 52 = .ok (.iload 4, 2) := by decide +kernel
theorem d_Req_readHeader_54 : decode b_Req_readHeader 54 = .ok (.invokevirtual 134, 3) := by decide +kernel
theorem d_Req_readHeader_57 : decode b_Req_readHeader 57 = .ok (.ifCond .ne 28, 3) := by decide +kernel
theorem d_Req_readHeader_60 : decode b_Req_readHeader 60 = .ok (.aload_n 0, 1) := by decide +kernel
theorem d_Req_readHeader_61 : decode b_Req_readHeader 61 = .ok (.iload 4, 2) := by decide +kernel
theorem d_Req_readHeader_63 : decode b_Req_readHeader 63 = .ok (.aload_n 1, 1) := by decide +kernel
theorem d_Req_readHeader_64 : decode b_Req_readHeader 64 = .ok (.aload_n 0, 1) := by decide +kernel
theorem d_Req_readHeader_65 : decode b_Req_readHeader 65 = .ok (.getfield 60, 3) := by decide +kernel
theorem d_Req_readHeader_68 : decode b_Req_readHeader 68 = .ok (.aload 5, 2) := by decide +kernel
theorem d_Req_readHeader_70 : decode b_Req_readHeader 70 = .ok (.invokevirtual 88, 3) := by decide +kernel
theorem d_Req_readHeader_73 : decode b_Req_readHeader 73 = .ok (.iadd, 1) := by decide +kernel
theorem d_Req_readHeader_74 : decode b_Req_readHeader 74 = .ok (.iload_n 2, 1) := by decide +kernel
theorem d_Req_readHeader_75 : decode b_Req_readHeader 75 = .ok (.invokevirtual 138, 3) := by decide +kernel
theorem d_Req_readHeader_78 : decode b_Req_readHeader 78 = .ok (.ifCond .eq 7, 3) := by decide +kernel
theorem d_Req_readHeader_81 : decode b_Req_readHeader 81 = .ok (.iconst 1, 1) := by decide +kernel
theorem d_Req_readHeader_82 : decode b_Req_readHeader 82 = .ok (.goto 4, 3) := by decide +kernel
theorem d_Req_readHeader_85 : decode b_Req_readHeader 85 = .ok (.iconst 0, 1) := by decide +kernel
theorem d_Req_readHeader_86 : decode b_Req_readHeader 86 = .ok (.istore 6, 2) := by decide +kernel
theorem d_Req_readHeader_88 : decode b_Req_readHeader 88 = .ok (.aload_n 0, 1) := by decide +kernel
theorem d_Req_readHeader_89 : decode b_Req_readHeader 89 = .ok (.dup, 1) := by decide +kernel
theorem d_Req_readHeader_90 : decode b_Req_readHeader 90 = .ok (.getfield 28, 3) := by decide +kernel
theorem d_Req_readHeader_93 : decode b_Req_readHeader 93 = .ok (.iload 4, 2) := by decide +kernel
theorem d_Req_readHeader_95 : decode b_Req_readHeader 95 = .ok (.ior, 1) := by decide +kernel
theorem d_Req_readHeader_96 : decode b_Req_readHeader 96 = .ok (.putfield 28, 3) := by decide +kernel
theorem d_Req_readHeader_99 : decode b_Req_readHeader 99 = .ok (.aload_n 0, 1) := by decide +kernel
theorem d_Req_readHeader_100 : decode b_Req_readHeader 100 = .ok (.iload_n 2, 1) := by decide +kernel
theorem d_Req_readHeader_101 : decode b_Req_readHeader 101 = .ok (.iconst 1, 1) := by decide +kernel
theorem d_Req_readHeader_102 : decode b_Req_readHeader 102 = .ok (.iadd, 1) := by decide +kernel
theorem d_Req_readHeader_103 : decode b_Req_readHeader 103 = .ok (.putfield 60, 3) := by decide +kernel
theorem d_Req_readHeader_106 : decode b_Req_readHeader 106 = .ok (.iload 6, 2) := by decide +kernel
theorem d_Req_readHeader_108 : decode b_Req_readHeader 108 = .ok (.ireturn, 1) := by decide +kernel
theorem d_Req_readHeader_109 : decode b_Req_readHeader 109 = .ok (.iinc 3 1, 3) := by decide +kernel
theorem d_Req_readHeader_112 : decode b_Req_readHeader 112 = .ok (.goto (-92), 3) := by decide +kernel
theorem d_Req_readHeader_115 : decode b_Req_readHeader 115 = .ok (.iconst 0, 1) := by decide +kernel
theorem d_Req_readHeader_116 : decode b_Req_readHeader 116 = .ok (.ireturn, 1) := by decide +kernel
theorem d_Req_headerBeginning_0 : decode b_Req_headerBeginning 0 = .ok (.iload_n 0, 1) := by decide +kernel
theorem d_Req_headerBeginning_1 : decode b_Req_headerBeginning 1 = .ok (.lookupswitch 88 #[(1, 67), (2, 70), (4, 73), (8, 76), (16, 79), (32, 82), (64, 85)], 67) := by decide +kernel
theorem d_Req_headerBeginning_68 : decode b_Req_headerBeginning 68 = .ok (.ldc 142, 2) := by decide +kernel
theorem d_Req_headerBeginning_70 : decode b_Req_headerBeginning 70 = .ok (.areturn, 1) := by decide +kernel
theorem d_Req_headerBeginning_71 : decode b_Req_headerBeginning 71 = .ok (.ldc 144, 2) := by decide +kernel
theorem d_Req_headerBeginning_73 : decode b_Req_headerBeginning 73 = .ok (.areturn, 1) := by decide +kernel
theorem d_Req_headerBeginning_74 : decode b_Req_headerBeginning 74 = .ok (.ldc 146, 2) := by decide +kernel
theorem d_Req_headerBeginning_76 : decode b_Req_headerBeginning 76 = .ok (.areturn, 1) := by decide +kernel
theorem d_Req_headerBeginning_77 : decode b_Req_headerBeginning 77 = .ok (.ldc 148, 2) := by decide +kernel
theorem d_Req_headerBeginning_79 : decode b_Req_headerBeginning 79 = .ok (.areturn, 1) := by decide +kernel
theorem d_Req_headerBeginning_80 : decode b_Req_headerBeginning 80 = .ok (.ldc 150, 2) := by decide +kernel
theorem d_Req_headerBeginning_82 : decode b_Req_headerBeginning 82 = .ok (.areturn, 1) := by decide +kernel
theorem d_Req_headerBeginning_83 : decode b_Req_headerBeginning 83 = .ok (.ldc 152, 2) := by decide +kernel
theorem d_Req_headerBeginning_85 : decode b_Req_headerBeginning 85 = .ok (.areturn, 1) := by decide +kernel
theorem d_Req_headerBeginning_86 : decode b_Req_headerBeginning 86 = .ok (.ldc 154, 2) := by decide +kernel
theorem d_Req_headerBeginning_88 : decode b_Req_headerBeginning 88 = .ok (.areturn, 1) := by decide +kernel
theorem d_Req_headerBeginning_89 : decode b_Req_headerBeginning 89 = .ok (.ldc 156, 2) := by decide +kernel
theorem d_Req_headerBeginning_91 : decode b_Req_headerBeginning 91 = .ok (.areturn, 1) := by decide +kernel
theorem d_Req_readValue_0 : decode b_Req_readValue 0 = .ok (.iload_n 1, 1) := by decide +kernel
theorem d_Req_readValue_1 : decode b_Req_readValue 1 = .ok (.lookupswitch 241 #[(1, 67), (2, 76), (4, 88), (8, 126), (16, 171), (32, 181), (64, 206)], 67) := by decide +kernel
theorem d_Req_readValue_68 : decode b_Req_readValue 68 = .ok (.aload_n 0, 1) := by decide +kernel
theorem d_Req_readValue_69 : decode b_Req_readValue 69 = .ok (.aload_n 2, 1) := by decide +kernel
theorem d_Req_readValue_70 : decode b_Req_readValue 70 = .ok (.iload_n 3, 1) := by decide +kernel
theorem d_Req_readValue_71 : decode b_Req_readValue 71 = .ok (.iload 4, 2) := by decide +kernel
theorem d_Req_readValue_73 : decode b_Req_readValue 73 = .ok (.invokevirtual 158, 3) := by decide +kernel
theorem d_Req_readValue_76 : decode b_Req_readValue 76 = .ok (.ireturn, 1) := by decide +kernel
theorem d_Req_readValue_77 : decode b_Req_readValue 77 = .ok (.aload_n 2, 1) := by decide +kernel
theorem d_Req_readValue_78 : decode b_Req_readValue 78 = .ok (.iload_n 3, 1) := by decide +kernel
theorem d_Req_readValue_79 : decode b_Req_readValue 79 = .ok (.iload 4, 2) := by decide +kernel
theorem d_Req_readValue_81 : decode b_Req_readValue 81 = .ok (.aload_n 0, 1) := by decide +kernel
theorem d_Req_readValue_82 : decode b_Req_readValue 82 = .ok (.getfield 20, 3) := by decide +kernel
theorem d_Req_readValue_85 : decode b_Req_readValue 85 = .ok (.invokestatic 80, 3) := by decide +kernel
theorem d_Req_readValue_88 : decode b_Req_readValue 88 = .ok (.ireturn, 1) := by decide +kernel
theorem d_Req_readValue_89 : decode b_Req_readValue 89 = .ok (.aload_n 0, 1) := by decide +kernel
theorem d_Req_readValue_90 : decode b_Req_readValue 90 = .ok (.aload_n 2, 1) := by decide +kernel
theorem d_Req_readValue_91 : decode b_Req_readValue 91 = .ok (.iload_n 3, 1) := by decide +kernel
theorem d_Req_readValue_92 : decode b_Req_readValue 92 = .ok (.iload 4, 2) := by decide +kernel
theorem d_Req_readValue_94 : decode b_Req_readValue 94 = .ok (.ldc 161, 2) := by decide +kernel
theorem d_Req_readValue_96 : decode b_Req_readValue 96 = .ok (.invokestatic 163, 3) := by decide +kernel
theorem d_Req_readValue_99 : decode b_Req_readValue 99 = .ok (.putfield 54, 3) := by decide +kernel
theorem d_Req_readValue_102 : decode b_Req_readValue 102 = .ok (.aload_n 0, 1) := by decide +kernel
theorem d_Req_readValue_103 : decode b_Req_readValue 103 = .ok (.getfield 54, 3) := by decide +kernel
theorem d_Req_readValue_106 : decode b_Req_readValue 106 = .ok (.ifCond .ne 15, 3) := by decide +kernel
theorem d_Req_readValue_109 : decode b_Req_readValue 109 = .ok (.aload_n 2, 1) := by decide +kernel
theorem d_Req_readValue_110 : decode b_Req_readValue 110 = .ok (.iload_n 3, 1) := by decide +kernel
theorem d_Req_readValue_111 : decode b_Req_readValue 111 = .ok (.iload 4, 2) := by decide +kernel
theorem d_Req_readValue_113 : decode b_Req_readValue 113 = .ok (.ldc 167, 2) := by decide +kernel
theorem d_Req_readValue_115 : decode b_Req_readValue 115 = .ok (.invokestatic 163, 3) := by decide +kernel
theorem d_Req_readValue_118 : decode b_Req_readValue 118 = .ok (.ifCond .eq 7, 3) := by decide +kernel
theorem d_Req_readValue_121 : decode b_Req_readValue 121 = .ok (.iconst 1, 1) := by decide +kernel
theorem d_Req_readValue_122 : decode b_Req_readValue 122 = .ok (.goto 4, 3) := by decide +kernel
theorem d_Req_readValue_125 : decode b_Req_readValue 125 = .ok (.iconst 0, 1) := by decide +kernel
theorem d_Req_readValue_126 : decode b_Req_readValue 126 = .ok (.ireturn, 1) := by decide +kernel
theorem d_Req_readValue_127 : decode b_Req_readValue 127 = .ok (.aload_n 0, 1) := by decide +kernel
theorem d_Req_readValue_128 : decode b_Req_readValue 128 = .ok (.aload_n 2, 1) := by decide +kernel
theorem d_Req_readValue_129 : decode b_Req_readValue 129 = .ok (.iload_n 3, 1) := by decide +kernel
theorem d_Req_readValue_130 : decode b_Req_readValue 130 = .ok (.iload 4, 2) := by decide +kernel
theorem d_Req_readValue_132 : decode b_Req_readValue 132 = .ok (.ldc 169, 2) := by decide +kernel
theorem d_Req_readValue_134 : decode b_Req_readValue 134 = .ok (.invokestatic 163, 3) := by decide +kernel
theorem d_Req_readValue_137 : decode b_Req_readValue 137 = .ok (.putfield 50, 3) := by decide +kernel
theorem d_Req_readValue_140 : decode b_Req_readValue 140 = .ok (.aload_n 0, 1) := by decide +kernel
theorem d_Req_readValue_141 : decode b_Req_readValue 141 = .ok (.aload_n 2, 1) := by decide +kernel
theorem d_Req_readValue_142 : decode b_Req_readValue 142 = .ok (.iload_n 3, 1) := by decide +kernel
theorem d_Req_readValue_143 : decode b_Req_readValue 143 = .ok (.iload 4, 2) := by decide +kernel
theorem d_Req_readValue_145 : decode b_Req_readValue 145 = .ok (.invokestatic 171, 3) := by decide +kernel
theorem d_Req_readValue_148 : decode b_Req_readValue 148 = .ok (.putfield 41, 3) := by decide +kernel
theorem d_Req_readValue_151 : decode b_Req_readValue 151 = .ok (.aload_n 0, 1) := by decide +kernel
theorem d_Req_readValue_152 : decode b_Req_readValue 152 = .ok (.getfield 50, 3) := by decide +kernel
theorem d_Req_readValue_155 : decode b_Req_readValue 155 = .ok (.ifCond .ne 11, 3) := by decide +kernel
theorem d_Req_readValue_158 : decode b_Req_readValue 158 = .ok (.aload_n 0, 1) := by decide +kernel
theorem d_Req_readValue_159 : decode b_Req_readValue 159 = .ok (.getfield 41, 3) := by decide +kernel
theorem d_Req_readValue_162 : decode b_Req_readValue 162 = .ok (.iconst (-1), 1) := by decide +kernel
theorem d_Req_readValue_163 : decode b_Req_readValue 163 = .ok (.if_icmp .eq 7, 3) := by decide +kernel
theorem d_Req_readValue_166 : decode b_Req_readValue 166 = .ok (.iconst 1, 1) := by decide +kernel
theorem d_Req_readValue_167 : decode b_Req_readValue 167 = .ok (.goto 4, 3) := by decide +kernel
theorem d_Req_readValue_170 : decode b_Req_readValue 170 = .ok (.iconst 0, 1) := by decide +kernel
theorem d_Req_readValue_171 : decode b_Req_readValue 171 = .ok (.ireturn, 1) := by decide +kernel
theorem d_Req_readValue_172 : decode b_Req_readValue 172 = .ok (.aload_n 2, 1) := by decide +kernel
theorem d_Req_readValue_173 : decode b_Req_readValue 173 = .ok (.iload_n 3, 1) := by decide +kernel
theorem d_Req_readValue_174 : decode b_Req_readValue 174 = .ok (.iload 4, 2) := by decide +kernel
theorem d_Req_readValue_176 : decode b_Req_readValue 176 = .ok (.ldc 169, 2) := by decide +kernel
theorem d_Req_readValue_178 : decode b_Req_readValue 178 = .ok (.invokestatic 163, 3) := by decide +kernel
theorem d_Req_readValue_181 : decode b_Req_readValue 181 = .ok (.ireturn, 1) := by decide +kernel
theorem d_Req_readValue_182 : decode b_Req_readValue 182 = .ok (.aload_n 0, 1) := by decide +kernel
theorem d_Req_readValue_183 : decode b_Req_readValue 183 = .ok (.aload_n 2, 1) := by decide +kernel
theorem d_Req_readValue_184 : decode b_Req_readValue 184 = .ok (.iload_n 3, 1) := by decide +kernel
theorem d_Req_readValue_185 : decode b_Req_readValue 185 = .ok (.iload 4, 2) := by decide +kernel
theorem d_Req_readValue_187 : decode b_Req_readValue 187 = .ok (.invokestatic 171, 3) := by decide +kernel
theorem d_Req_readValue_190 : decode b_Req_readValue 190 = .ok (.putfield 44, 3) := by decide +kernel
theorem d_Req_readValue_193 : decode b_Req_readValue 193 = .ok (.aload_n 0, 1) := by decide +kernel
theorem d_Req_readValue_194 : decode b_Req_readValue 194 = .ok (.getfield 44, 3) := by decide +kernel
theorem d_Req_readValue_197 : decode b_Req_readValue 197 = .ok (.iconst (-1), 1) := by decide +kernel
theorem d_Req_readValue_198 : decode b_Req_readValue 198 = .ok (.if_icmp .eq 7, 3) := by decide +kernel
theorem d_Req_readValue_201 : decode b_Req_readValue 201 = .ok (.iconst 1, 1) := by decide +kernel
theorem d_Req_readValue_202 : decode b_Req_readValue 202 = .ok (.goto 4, 3) := by decide +kernel
theorem d_Req_readValue_205 : decode b_Req_readValue 205 = .ok (.iconst 0, 1) := by decide +kernel
theorem d_Req_readValue_206 : decode b_Req_readValue 206 = .ok (.ireturn, 1) := by decide +kernel
theorem d_Req_readValue_207 : decode b_Req_readValue 207 = .ok (.aload_n 0, 1) := by decide +kernel
theorem d_Req_readValue_208 : decode b_Req_readValue 208 = .ok (.aload_n 2, 1) := by decide +kernel
theorem d_Req_readValue_209 : decode b_Req_readValue 209 = .ok (.iload_n 3, 1) := by decide +kernel
theorem d_Req_readValue_210 : decode b_Req_readValue 210 = .ok (.iload 4, 2) := by decide +kernel
theorem d_Req_readValue_212 : decode b_Req_readValue 212 = .ok (.invokestatic 171, 3) := by decide +kernel
theorem d_Req_readValue_215 : decode b_Req_readValue 215 = .ok (.putfield 47, 3) := by decide +kernel
theorem d_Req_readValue_218 : decode b_Req_readValue 218 = .ok (.aload_n 0, 1) := by decide +kernel
theorem d_Req_readValue_219 : decode b_Req_readValue 219 = .ok (.getfield 47, 3) := by decide +kernel
theorem d_Req_readValue_222 : decode b_Req_readValue 222 = .ok (.iconst 1, 1) := by decide +kernel
theorem d_Req_readValue_223 : decode b_Req_readValue 223 = .ok (.if_icmp .lt 17, 3) := by decide +kernel
theorem d_Req_readValue_226 : decode b_Req_readValue 226 = .ok (.aload_n 0, 1) := by decide +kernel
theorem d_Req_readValue_227 : decode b_Req_readValue 227 = .ok (.getfield 47, 3) := by decide +kernel
theorem d_Req_readValue_230 : decode b_Req_readValue 230 = .ok (.sipush 1000, 3) := by decide +kernel
theorem d_Req_readValue_233 : decode b_Req_readValue 233 = .ok (.if_icmp .gt 7, 3) := by decide +kernel
theorem d_Req_readValue_236 : decode b_Req_readValue 236 = .ok (.iconst 1, 1) := by decide +kernel
theorem d_Req_readValue_237 : decode b_Req_readValue 237 = .ok (.goto 4, 3) := by decide +kernel
theorem d_Req_readValue_240 : decode b_Req_readValue 240 = .ok (.iconst 0, 1) := by decide +kernel
theorem d_Req_readValue_241 : decode b_Req_readValue 241 = .ok (.ireturn, 1) := by decide +kernel
theorem d_Req_readValue_242 : decode b_Req_readValue 242 = .ok (.aload_n 0, 1) := by decide +kernel
theorem d_Req_readValue_243 : decode b_Req_readValue 243 = .ok (.aload_n 2, 1) := by decide +kernel
theorem d_Req_readValue_244 : decode b_Req_readValue 244 = .ok (.iload_n 3, 1) := by decide +kernel
theorem d_Req_readValue_245 : decode b_Req_readValue 245 = .ok (.iload 4, 2) := by decide +kernel
theorem d_Req_readValue_247 : decode b_Req_readValue 247 = .ok (.ldc 175, 2) := by decide +kernel
theorem d_Req_readValue_249 : decode b_Req_readValue 249 = .ok (.invokestatic 163, 3) := by decide +kernel
theorem d_Req_readValue_252 : decode b_Req_readValue 252 = .ok (.putfield 57, 3) := by decide +kernel
theorem d_Req_readValue_255 : decode b_Req_readValue 255 = .ok (.aload_n 0, 1) := by decide +kernel
theorem d_Req_readValue_256 : decode b_Req_readValue 256 = .ok (.getfield 57, 3) := by decide +kernel
theorem d_Req_readValue_259 : decode b_Req_readValue 259 = .ok (.ifCond .ne 15, 3) := by decide +kernel
theorem d_Req_readValue_262 : decode b_Req_readValue 262 = .ok (.aload_n 2, 1) := by decide +kernel
theorem d_Req_readValue_263 : decode b_Req_readValue 263 = .ok (.iload_n 3, 1) := by decide +kernel
theorem d_Req_readValue_264 : decode b_Req_readValue 264 = .ok (.iload 4, 2) := by decide +kernel
theorem d_Req_readValue_266 : decode b_Req_readValue 266 = .ok (.ldc 177, 2) := by decide +kernel
theorem d_Req_readValue_268 : decode b_Req_readValue 268 = .ok (.invokestatic 163, 3) := by decide +kernel
theorem d_Req_readValue_271 : decode b_Req_readValue 271 = .ok (.ifCond .eq 7, 3) := by decide +kernel
theorem d_Req_readValue_274 : decode b_Req_readValue 274 = .ok (.iconst 1, 1) := by decide +kernel
theorem d_Req_readValue_275 : decode b_Req_readValue 275 = .ok (.goto 4, 3) := by decide +kernel
theorem d_Req_readValue_278 : decode b_Req_readValue 278 = .ok (.iconst 0, 1) := by decide +kernel
theorem d_Req_readValue_279 : decode b_Req_readValue 279 = .ok (.ireturn, 1) := by decide +kernel
theorem d_Req_readDepth_0 : decode b_Req_readDepth 0 = .ok (.aload_n 1, 1) := by decide +kernel
theorem d_Req_readDepth_1 : decode b_Req_readDepth 1 = .ok (.iload_n 2, 1) := by decide +kernel
theorem d_Req_readDepth_2 : decode b_Req_readDepth 2 = .ok (.iload_n 3, 1) := by decide +kernel
theorem d_Req_readDepth_3 : decode b_Req_readDepth 3 = .ok (.ldc 179, 2) := by decide +kernel
theorem d_Req_readDepth_5 : decode b_Req_readDepth 5 = .ok (.invokestatic 163, 3) := by decide +kernel
theorem d_Req_readDepth_8 : decode b_Req_readDepth 8 = .ok (.ifCond .eq 10, 3) := by decide +kernel
theorem d_Req_readDepth_11 : decode b_Req_readDepth 11 = .ok (.aload_n 0, 1) := by decide +kernel
theorem d_Req_readDepth_12 : decode b_Req_readDepth 12 = .ok (.iconst 2, 1) := by decide +kernel
theorem d_Req_readDepth_13 : decode b_Req_readDepth 13 = .ok (.putfield 38, 3) := by decide +kernel
theorem d_Req_readDepth_16 : decode b_Req_readDepth 16 = .ok (.iconst 1, 1) := by decide +kernel
theorem d_Req_readDepth_17 : decode b_Req_readDepth 17 = .ok (.ireturn, 1) := by decide +kernel
theorem d_Req_readDepth_18 : decode b_Req_readDepth 18 = .ok (.aload_n 0, 1) := by decide +kernel
theorem d_Req_readDepth_19 : decode b_Req_readDepth 19 = .ok (.aload_n 1, 1) := by decide +kernel
theorem d_Req_readDepth_20 : decode b_Req_readDepth 20 = .ok (.iload_n 2, 1) := by decide +kernel
theorem d_Req_readDepth_21 : decode b_Req_readDepth 21 = .ok (.iload_n 3, 1) := by decide +kernel
theorem d_Req_readDepth_22 : decode b_Req_readDepth 22 = .ok (.ldc 181, 2) := by decide +kernel
theorem d_Req_readDepth_24 : decode b_Req_readDepth 24 = .ok (.invokestatic 163, 3) := by decide +kernel
theorem d_Req_readDepth_27 : decode b_Req_readDepth 27 = .ok (.ifCond .eq 7, 3) := by decide +kernel
theorem d_Req_readDepth_30 : decode b_Req_readDepth 30 = .ok (.iconst 1, 1) := by decide +kernel
theorem d_Req_readDepth_31 : decode b_Req_readDepth 31 = .ok (.goto 4, 3) := by decide +kernel
theorem d_Req_readDepth_34 : decode b_Req_readDepth 34 = .ok (.iconst 0, 1) := by decide +kernel
theorem d_Req_readDepth_35 : decode b_Req_readDepth 35 = .ok (.putfield 38, 3) := by decide +kernel
theorem d_Req_readDepth_38 : decode b_Req_readDepth 38 = .ok (.aload_n 0, 1) := by decide +kernel
theorem d_Req_readDepth_39 : decode b_Req_readDepth 39 = .ok (.getfield 38, 3) := by decide +kernel
theorem d_Req_readDepth_42 : decode b_Req_readDepth 42 = .ok (.iconst 1, 1) := by decide +kernel
theorem d_Req_readDepth_43 : decode b_Req_readDepth 43 = .ok (.if_icmp .eq 14, 3) := by decide +kernel
theorem d_Req_readDepth_46 : decode b_Req_readDepth 46 = .ok (.aload_n 1, 1) := by decide +kernel
theorem d_Req_readDepth_47 : decode b_Req_readDepth 47 = .ok (.iload_n 2, 1) := by decide +kernel
theorem d_Req_readDepth_48 : decode b_Req_readDepth 48 = .ok (.iload_n 3, 1) := by decide +kernel
theorem d_Req_readDepth_49 : decode b_Req_readDepth 49 = .ok (.ldc 183, 2) := by decide +kernel
theorem d_Req_readDepth_51 : decode b_Req_readDepth 51 = .ok (.invokestatic 163, 3) := by decide +kernel
theorem d_Req_readDepth_54 : decode b_Req_readDepth 54 = .ok (.ifCond .eq 7, 3) := by decide +kernel
theorem d_Req_readDepth_57 : decode b_Req_readDepth 57 = .ok (.iconst 1, 1) := by decide +kernel
theorem d_Req_readDepth_58 : decode b_Req_readDepth 58 = .ok (.goto 4, 3) := by decide +kernel
theorem d_Req_readDepth_61 : decode b_Req_readDepth 61 = .ok (.iconst 0, 1) := by decide +kernel
theorem d_Req_readDepth_62 : decode b_Req_readDepth 62 = .ok (.ireturn, 1) := by decide +kernel
theorem d_Req_isText_0 : decode b_Req_isText 0 = .ok (.iload_n 2, 1) := by decide +kernel
theorem d_Req_isText_1 : decode b_Req_isText 1 = .ok (.iload_n 1, 1) := by decide +kernel
theorem d_Req_isText_2 : decode b_Req_isText 2 = .ok (.isub, 1) := by decide +kernel
theorem d_Req_isText_3 : decode b_Req_isText 3 = .ok (.aload_n 3, 1) := by decide +kernel
theorem d_Req_isText_4 : decode b_Req_isText 4 = .ok (.invokevirtual 88, 3) := by decide +kernel
theorem d_Req_isText_7 : decode b_Req_isText 7 = .ok (.if_icmp .ne 16, 3) := by decide +kernel
theorem d_Req_isText_10 : decode b_Req_isText 10 = .ok (.aload_n 0, 1) := by decide +kernel
theorem d_Req_isText_11 : decode b_Req_isText 11 = .ok (.iload_n 1, 1) := by decide +kernel
theorem d_Req_isText_12 : decode b_Req_isText 12 = .ok (.aload_n 3, 1) := by decide +kernel
theorem d_Req_isText_13 : decode b_Req_isText 13 = .ok (.invokevirtual 76, 3) := by decide +kernel
theorem d_Req_isText_16 : decode b_Req_isText 16 = .ok (.ifCond .eq 7, 3) := by decide +kernel
theorem d_Req_isText_19 : decode b_Req_isText 19 = .ok (.iconst 1, 1) := by decide +kernel
theorem d_Req_isText_20 : decode b_Req_isText 20 = .ok (.goto 4, 3) := by decide +kernel
theorem d_Req_isText_23 : decode b_Req_isText 23 = .ok (.iconst 0, 1) := by decide +kernel
theorem d_Req_isText_24 : decode b_Req_isText 24 = .ok (.ireturn, 1) := by decide +kernel
theorem d_Req_readNumber_0 : decode b_Req_readNumber 0 = .ok (.iload_n 2, 1) := by decide +kernel
theorem d_Req_readNumber_1 : decode b_Req_readNumber 1 = .ok (.iload_n 1, 1) := by decide +kernel
theorem d_Req_readNumber_2 : decode b_Req_readNumber 2 = .ok (.if_icmp .le 11, 3) := by decide +kernel
theorem d_Req_readNumber_5 : decode b_Req_readNumber 5 = .ok (.iload_n 2, 1) := by decide +kernel
theorem d_Req_readNumber_6 : decode b_Req_readNumber 6 = .ok (.iload_n 1, 1) := by decide +kernel
theorem d_Req_readNumber_7 : decode b_Req_readNumber 7 = .ok (.isub, 1) := by decide +kernel
theorem d_Req_readNumber_8 : decode b_Req_readNumber 8 = .ok (.bipush 9, 2) := by decide +kernel
theorem d_Req_readNumber_10 : decode b_Req_readNumber 10 = .ok (.if_icmp .le 5, 3) := by decide +kernel
theorem d_Req_readNumber_13 : decode b_Req_readNumber 13 = .ok (.iconst (-1), 1) := by decide +kernel
theorem d_Req_readNumber_14 : decode b_Req_readNumber 14 = .ok (.ireturn, 1) := by decide +kernel
theorem d_Req_readNumber_15 : decode b_Req_readNumber 15 = .ok (.iconst 0, 1) := by decide +kernel
theorem d_Req_readNumber_16 : decode b_Req_readNumber 16 = .ok (.istore_n 3, 1) := by decide +kernel
theorem d_Req_readNumber_17 : decode b_Req_readNumber 17 = .ok (.iload_n 1, 1) := by decide +kernel
theorem d_Req_readNumber_18 : decode b_Req_readNumber 18 = .ok (.istore 4, 2) := by decide +kernel
theorem d_Req_readNumber_20 : decode b_Req_readNumber 20 = .ok (.iload 4, 2) := by decide +kernel
theorem d_Req_readNumber_22 : decode b_Req_readNumber 22 = .ok (.iload_n 2, 1) := by decide +kernel
theorem d_Req_readNumber_23 : decode b_Req_readNumber 23 = .ok (.if_icmp .ge 42, 3) := by decide +kernel
theorem d_Req_readNumber_26 : decode b_Req_readNumber 26 = .ok (.aload_n 0, 1) := by decide +kernel
theorem d_Req_readNumber_27 : decode b_Req_readNumber 27 = .ok (.iload 4, 2) := by decide +kernel
theorem d_Req_readNumber_29 : decode b_Req_readNumber 29 = .ok (.invokevirtual 120, 3) := by decide +kernel
theorem d_Req_readNumber_32 : decode b_Req_readNumber 32 = .ok (.bipush 48, 2) := by decide +kernel
theorem d_Req_readNumber_34 : decode b_Req_readNumber 34 = .ok (.isub, 1) := by decide +kernel
theorem d_Req_readNumber_35 : decode b_Req_readNumber 35 = .ok (.istore 5, 2) := by decide +kernel
theorem d_Req_readNumber_37 : decode b_Req_readNumber 37 = .ok (.iload 5, 2) := by decide +kernel
theorem d_Req_readNumber_39 : decode b_Req_readNumber 39 = .ok (.ifCond .lt 10, 3) := by decide +kernel
theorem d_Req_readNumber_42 : decode b_Req_readNumber 42 = .ok (.iload 5, 2) := by decide +kernel
theorem d_Req_readNumber_44 : decode b_Req_readNumber 44 = .ok (.bipush 9, 2) := by decide +kernel
theorem d_Req_readNumber_46 : decode b_Req_readNumber 46 = .ok (.if_icmp .le 5, 3) := by decide +kernel
theorem d_Req_readNumber_49 : decode b_Req_readNumber 49 = .ok (.iconst (-1), 1) := by decide +kernel
theorem d_Req_readNumber_50 : decode b_Req_readNumber 50 = .ok (.ireturn, 1) := by decide +kernel
theorem d_Req_readNumber_51 : decode b_Req_readNumber 51 = .ok (.iload_n 3, 1) := by decide +kernel
theorem d_Req_readNumber_52 : decode b_Req_readNumber 52 = .ok (.bipush 10, 2) := by decide +kernel
theorem d_Req_readNumber_54 : decode b_Req_readNumber 54 = .ok (.imul, 1) := by decide +kernel
theorem d_Req_readNumber_55 : decode b_Req_readNumber 55 = .ok (.iload 5, 2) := by decide +kernel
theorem d_Req_readNumber_57 : decode b_Req_readNumber 57 = .ok (.iadd, 1) := by decide +kernel
theorem d_Req_readNumber_58 : decode b_Req_readNumber 58 = .ok (.istore_n 3, 1) := by decide +kernel
theorem d_Req_readNumber_59 : decode b_Req_readNumber 59 = .ok (.iinc 4 1, 3) := by decide +kernel
theorem d_Req_readNumber_62 : decode b_Req_readNumber 62 = .ok (.goto (-42), 3) := by decide +kernel
theorem d_Req_readNumber_65 : decode b_Req_readNumber 65 = .ok (.iload_n 3, 1) := by decide +kernel
theorem d_Req_readNumber_66 : decode b_Req_readNumber 66 = .ok (.ireturn, 1) := by decide +kernel
theorem d_Req_areHeadersFit_0 : decode b_Req_areHeadersFit 0 = .ok (.aload_n 0, 1) := by decide +kernel
theorem d_Req_areHeadersFit_1 : decode b_Req_areHeadersFit 1 = .ok (.getfield 35, 3) := by decide +kernel
theorem d_Req_areHeadersFit_4 : decode b_Req_areHeadersFit 4 = .ok (.invokestatic 185, 3) := by decide +kernel
theorem d_Req_areHeadersFit_7 : decode b_Req_areHeadersFit 7 = .ok (.istore_n 1, 1) := by decide +kernel
theorem d_Req_areHeadersFit_8 : decode b_Req_areHeadersFit 8 = .ok (.aload_n 0, 1) := by decide +kernel
theorem d_Req_areHeadersFit_9 : decode b_Req_areHeadersFit 9 = .ok (.getfield 28, 3) := by decide +kernel
theorem d_Req_areHeadersFit_12 : decode b_Req_areHeadersFit 12 = .ok (.aload_n 0, 1) := by decide +kernel
theorem d_Req_areHeadersFit_13 : decode b_Req_areHeadersFit 13 = .ok (.getfield 35, 3) := by decide +kernel
theorem d_Req_areHeadersFit_16 : decode b_Req_areHeadersFit 16 = .ok (.invokestatic 188, 3) := by decide +kernel
theorem d_Req_areHeadersFit_19 : decode b_Req_areHeadersFit 19 = .ok (.iconst (-1), 1) := by decide +kernel
theorem d_Req_areHeadersFit_20 : decode b_Req_areHeadersFit 20 = .ok (.ixor, 1) := by decide +kernel
theorem d_Req_areHeadersFit_21 : decode b_Req_areHeadersFit 21 = .ok (.iand, 1) := by decide +kernel
theorem d_Req_areHeadersFit_22 : decode b_Req_areHeadersFit 22 = .ok (.ifCond .ne 13, 3) := by decide +kernel
theorem d_Req_areHeadersFit_25 : decode b_Req_areHeadersFit 25 = .ok (.aload_n 0, 1) := by decide +kernel
theorem d_Req_areHeadersFit_26 : decode b_Req_areHeadersFit 26 = .ok (.getfield 28, 3) := by decide +kernel
theorem d_Req_areHeadersFit_29 : decode b_Req_areHeadersFit 29 = .ok (.iload_n 1, 1) := by decide +kernel
theorem d_Req_areHeadersFit_30 : decode b_Req_areHeadersFit 30 = .ok (.iand, 1) := by decide +kernel
theorem d_Req_areHeadersFit_31 : decode b_Req_areHeadersFit 31 = .ok (.iload_n 1, 1) := by decide +kernel
theorem d_Req_areHeadersFit_32 : decode b_Req_areHeadersFit 32 = .ok (.if_icmp .eq 5, 3) := by decide +kernel
theorem d_Req_areHeadersFit_35 : decode b_Req_areHeadersFit 35 = .ok (.iconst 0, 1) := by decide +kernel
theorem d_Req_areHeadersFit_36 : decode b_Req_areHeadersFit 36 = .ok (.ireturn, 1) := by decide +kernel
theorem d_Req_areHeadersFit_37 : decode b_Req_areHeadersFit 37 = .ok (.aload_n 0, 1) := by decide +kernel
theorem d_Req_areHeadersFit_38 : decode b_Req_areHeadersFit 38 = .ok (.getfield 38, 3) := by decide +kernel
theorem d_Req_areHeadersFit_41 : decode b_Req_areHeadersFit 41 = .ok (.iconst 1, 1) := by decide +kernel
theorem d_Req_areHeadersFit_42 : decode b_Req_areHeadersFit 42 = .ok (.if_icmp .ne 12, 3) := by decide +kernel
theorem d_Req_areHeadersFit_45 : decode b_Req_areHeadersFit 45 = .ok (.aload_n 0, 1) := by decide +kernel
theorem d_Req_areHeadersFit_46 : decode b_Req_areHeadersFit 46 = .ok (.getfield 35, 3) := by decide +kernel
theorem d_Req_areHeadersFit_49 : decode b_Req_areHeadersFit 49 = .ok (.bipush 8, 2) := by decide +kernel
theorem d_Req_areHeadersFit_51 : decode b_Req_areHeadersFit 51 = .ok (.if_icmp .ne 7, 3) := by decide +kernel
theorem d_Req_areHeadersFit_54 : decode b_Req_areHeadersFit 54 = .ok (.iconst 1, 1) := by decide +kernel
theorem d_Req_areHeadersFit_55 : decode b_Req_areHeadersFit 55 = .ok (.goto 4, 3) := by decide +kernel
theorem d_Req_areHeadersFit_58 : decode b_Req_areHeadersFit 58 = .ok (.iconst 0, 1) := by decide +kernel
theorem d_Req_areHeadersFit_59 : decode b_Req_areHeadersFit 59 = .ok (.ireturn, 1) := by decide +kernel
theorem d_Req_readBody_0 : decode b_Req_readBody 0 = .ok (.aload_n 0, 1) := by decide +kernel
theorem d_Req_readBody_1 : decode b_Req_readBody 1 = .ok (.getfield 35, 3) := by decide +kernel
theorem d_Req_readBody_4 : decode b_Req_readBody 4 = .ok (.iconst 1, 1) := by decide +kernel
theorem d_Req_readBody_5 : decode b_Req_readBody 5 = .ok (.if_icmp .ne 8, 3) := by decide +kernel
theorem d_Req_readBody_8 : decode b_Req_readBody 8 = .ok (.bipush 80, 2) := by decide +kernel
theorem d_Req_readBody_10 : decode b_Req_readBody 10 = .ok (.goto 4, 3) := by decide +kernel
theorem d_Req_readBody_13 : decode b_Req_readBody 13 = .ok (.iconst 0, 1) := by decide +kernel
theorem d_Req_readBody_14 : decode b_Req_readBody 14 = .ok (.istore_n 2, 1) := by decide +kernel
theorem d_Req_readBody_15 : decode b_Req_readBody 15 = .ok (.aload_n 0, 1) := by decide +kernel
theorem d_Req_readBody_16 : decode b_Req_readBody 16 = .ok (.getfield 25, 3) := by decide +kernel
theorem d_Req_readBody_19 : decode b_Req_readBody 19 = .ok (.aload_n 1, 1) := by decide +kernel
theorem d_Req_readBody_20 : decode b_Req_readBody 20 = .ok (.aload_n 0, 1) := by decide +kernel
theorem d_Req_readBody_21 : decode b_Req_readBody 21 = .ok (.getfield 60, 3) := by decide +kernel
theorem d_Req_readBody_24 : decode b_Req_readBody 24 = .ok (.aload_n 1, 1) := by decide +kernel
theorem d_Req_readBody_25 : decode b_Req_readBody 25 = .ok (.getfield 191, 3) := by decide +kernel
theorem d_Req_readBody_28 : decode b_Req_readBody 28 = .ok (.invokevirtual 116, 3) := by decide +kernel
theorem d_Req_readBody_31 : decode b_Req_readBody 31 = .ok (.aload_n 1, 1) := by decide +kernel
theorem d_Req_readBody_32 : decode b_Req_readBody 32 = .ok (.getfield 191, 3) := by decide +kernel
theorem d_Req_readBody_35 : decode b_Req_readBody 35 = .ok (.aload_n 0, 1) := by decide +kernel
theorem d_Req_readBody_36 : decode b_Req_readBody 36 = .ok (.getfield 60, 3) := by decide +kernel
theorem d_Req_readBody_39 : decode b_Req_readBody 39 = .ok (.isub, 1) := by decide +kernel
theorem d_Req_readBody_40 : decode b_Req_readBody 40 = .ok (.iload_n 2, 1) := by decide +kernel
theorem d_Req_readBody_41 : decode b_Req_readBody 41 = .ok (.if_icmp .gt 7, 3) := by decide +kernel
theorem d_Req_readBody_44 : decode b_Req_readBody 44 = .ok (.iconst 1, 1) := by decide +kernel
theorem d_Req_readBody_45 : decode b_Req_readBody 45 = .ok (.goto 4, 3) := by decide +kernel
theorem d_Req_readBody_48 : decode b_Req_readBody 48 = .ok (.iconst 0, 1) := by decide +kernel
theorem d_Req_readBody_49 : decode b_Req_readBody 49 = .ok (.ireturn, 1) := by decide +kernel
theorem d_Req_usedBy_0 : decode b_Req_usedBy 0 = .ok (.iload_n 0, 1) := by decide +kernel
theorem d_Req_usedBy_1 : decode b_Req_usedBy 1 = .ok (.tableswitch 72 0 7 #[47, 50, 53, 56, 59, 62, 65, 69], 47) := by decide +kernel
theorem d_Req_usedBy_48 : decode b_Req_usedBy 48 = .ok (.bipush 8, 2) := by decide +kernel
theorem d_Req_usedBy_50 : decode b_Req_usedBy 50 = .ok (.ireturn, 1) := by decide +kernel
theorem d_Req_usedBy_51 : decode b_Req_usedBy 51 = .ok (.bipush 56, 2) := by decide +kernel
theorem d_Req_usedBy_53 : decode b_Req_usedBy 53 = .ok (.ireturn, 1) := by decide +kernel
theorem d_Req_usedBy_54 : decode b_Req_usedBy 54 = .ok (.bipush 40, 2) := by decide +kernel
theorem d_Req_usedBy_56 : decode b_Req_usedBy 56 = .ok (.ireturn, 1) := by decide +kernel
theorem d_Req_usedBy_57 : decode b_Req_usedBy 57 = .ok (.bipush 32, 2) := by decide +kernel
theorem d_Req_usedBy_59 : decode b_Req_usedBy 59 = .ok (.ireturn, 1) := by decide +kernel
theorem d_Req_usedBy_60 : decode b_Req_usedBy 60 = .ok (.bipush 39, 2) := by decide +kernel
theorem d_Req_usedBy_62 : decode b_Req_usedBy 62 = .ok (.ireturn, 1) := by decide +kernel
theorem d_Req_usedBy_63 : decode b_Req_usedBy 63 = .ok (.bipush 38, 2) := by decide +kernel
theorem d_Req_usedBy_65 : decode b_Req_usedBy 65 = .ok (.ireturn, 1) := by decide +kernel
theorem d_Req_usedBy_66 : decode b_Req_usedBy 66 = .ok (.sipush 225, 3) := by decide +kernel
theorem d_Req_usedBy_69 : decode b_Req_usedBy 69 = .ok (.ireturn, 1) := by decide +kernel
theorem d_Req_usedBy_70 : decode b_Req_usedBy 70 = .ok (.bipush 32, 2) := by decide +kernel
theorem d_Req_usedBy_72 : decode b_Req_usedBy 72 = .ok (.ireturn, 1) := by decide +kernel
theorem d_Req_usedBy_73 : decode b_Req_usedBy 73 = .ok (.iconst 1, 1) := by decide +kernel
theorem d_Req_usedBy_74 : decode b_Req_usedBy 74 = .ok (.ireturn, 1) := by decide +kernel
theorem d_Req_neededBy_0 : decode b_Req_neededBy 0 = .ok (.iload_n 0, 1) := by decide +kernel
theorem d_Req_neededBy_1 : decode b_Req_neededBy 1 = .ok (.tableswitch 36 4 7 #[31, 31, 36, 33], 31) := by decide +kernel
theorem d_Req_neededBy_32 : decode b_Req_neededBy 32 = .ok (.iconst 2, 1) := by decide +kernel
theorem d_Req_neededBy_33 : decode b_Req_neededBy 33 = .ok (.ireturn, 1) := by decide +kernel
theorem d_Req_neededBy_34 : decode b_Req_neededBy 34 = .ok (.bipush 32, 2) := by decide +kernel
theorem d_Req_neededBy_36 : decode b_Req_neededBy 36 = .ok (.ireturn, 1) := by decide +kernel
theorem d_Req_neededBy_37 : decode b_Req_neededBy 37 = .ok (.iconst 0, 1) := by decide +kernel
theorem d_Req_neededBy_38 : decode b_Req_neededBy 38 = .ok (.ireturn, 1) := by decide +kernel
def vbI (n : Nat) : Nat := [0, 1, 2, 3, 4, 5, 6, 7, 8].getD n 0
def vbT (n : Nat) : Bs := ([[71, 69, 84, 32], [80, 85, 84, 32], [68, 69, 76, 69, 84, 69, 32], [77, 75, 67, 79, 76, 32], [67, 79, 80, 89, 32], [77, 79, 86, 69, 32], [76, 79, 67, 75, 32], [85, 78, 76, 79, 67, 75, 32], [76, 73, 83, 84, 32]] : List Bs).getD n []
def hdI (n : Nat) : Nat := [10, 11, 12, 13, 14, 15, 16, 17].getD n 0
def hdT (n : Nat) : Bs := ([[100, 101, 112, 116, 104, 58, 32], [116, 111, 58, 32], [111, 118, 101, 114, 58, 32], [109, 97, 116, 99, 104, 58, 32], [110, 111, 110, 101, 58, 32], [116, 111, 107, 101, 110, 58, 32], [102, 111, 114, 58, 32], [115, 111, 114, 116, 58, 32]] : List Bs).getD n []
theorem vb_sc : ∀ n, n < 9 → scT (vbI n) (vbT n) := by
  intro n hn
  rcases (show n = 0 ∨ n = 1 ∨ n = 2 ∨ n = 3 ∨ n = 4 ∨ n = 5 ∨ n = 6 ∨ n = 7 ∨ n = 8 by omega) with rfl | rfl | rfl | rfl | rfl | rfl | rfl | rfl | rfl <;> exact ⟨_, rfl, rfl⟩
theorem vb_len : ∀ n, n < 9 → 1 ≤ (vbT n).length ∧ (vbT n).length ≤ 7 := by decide
theorem hd_sc : ∀ n, n < 8 → scT (hdI n) (hdT n) := by
  intro n hn
  rcases (show n = 0 ∨ n = 1 ∨ n = 2 ∨ n = 3 ∨ n = 4 ∨ n = 5 ∨ n = 6 ∨ n = 7 by omega) with rfl | rfl | rfl | rfl | rfl | rfl | rfl | rfl <;> exact ⟨_, rfl, rfl⟩
theorem hd_len : ∀ n, n < 8 → 1 ≤ (hdT n).length ∧ (hdT n).length ≤ 7 := by decide
def t_no : Bs := [110, 111]
theorem s_no : scT 21 t_no := ⟨_, rfl, rfl⟩
def t_yes : Bs := [121, 101, 115]
theorem s_yes : scT 22 t_yes := ⟨_, rfl, rfl⟩
def t_any : Bs := [97, 110, 121]
theorem s_any : scT 23 t_any := ⟨_, rfl, rfl⟩
def t_one : Bs := [111, 110, 101]
theorem s_one : scT 24 t_one := ⟨_, rfl, rfl⟩
def t_many : Bs := [109, 97, 110, 121]
theorem s_many : scT 25 t_many := ⟨_, rfl, rfl⟩
def t_all : Bs := [97, 108, 108]
theorem s_all : scT 18 t_all := ⟨_, rfl, rfl⟩
def t_d1 : Bs := [49]
theorem s_d1 : scT 19 t_d1 := ⟨_, rfl, rfl⟩
def t_d0 : Bs := [48]
theorem s_d0 : scT 20 t_d0 := ⟨_, rfl, rfl⟩
def t_dav : Bs := [32, 68, 65, 86, 10]
theorem s_dav : scT 9 t_dav := ⟨_, rfl, rfl⟩
set_option maxHeartbeats 4000000 in
set_option maxRecDepth 100000 in
theorem c_Req_beginningOf (l : Launch) (K : gK) (E : gE) (n : Nat) (hn : n < 9) : gMs l y_Req_beginningOf b_Req_beginningOf 1 0 0 K E [.int (nI (n))] (fun i E' => i = vbI n ∧ E' = E) := by
  refine g_mets (by decide +kernel) (Nat.le_of_ble_eq_true rfl) (fun X hl C hR => ?_)
  subst hl
  rcases (show n = 0 ∨ n = 1 ∨ n = 2 ∨ n = 3 ∨ n = 4 ∨ n = 5 ∨ n = 6 ∨ n = 7 ∨ n = 8 by omega) with rfl | rfl | rfl | rfl | rfl | rfl | rfl | rfl | rfl
  · skip
    show gW X K E 0 [(0, .int (nI 0))] []
    refine g_iload_n (pc := 0) C d_Req_beginningOf_0 0 rfl ?_
    refine g_tswI (pc := 1) C 48 d_Req_beginningOf_1 (by decide) (by decide) rfl (by decide) ?_
    refine g_ldcS (pc := 48) (i := 0) C rfl d_Req_beginningOf_48 ?_
    refine g_sret (pc := 50) C hR d_Req_beginningOf_50 ?_
    exact ⟨rfl, rfl⟩
  · skip
    show gW X K E 0 [(0, .int (nI 1))] []
    refine g_iload_n (pc := 0) C d_Req_beginningOf_0 0 rfl ?_
    refine g_tswI (pc := 1) C 51 d_Req_beginningOf_1 (by decide) (by decide) rfl (by decide) ?_
    refine g_ldcS (pc := 51) (i := 1) C rfl d_Req_beginningOf_51 ?_
    refine g_sret (pc := 53) C hR d_Req_beginningOf_53 ?_
    exact ⟨rfl, rfl⟩
  · skip
    show gW X K E 0 [(0, .int (nI 2))] []
    refine g_iload_n (pc := 0) C d_Req_beginningOf_0 0 rfl ?_
    refine g_tswI (pc := 1) C 54 d_Req_beginningOf_1 (by decide) (by decide) rfl (by decide) ?_
    refine g_ldcS (pc := 54) (i := 2) C rfl d_Req_beginningOf_54 ?_
    refine g_sret (pc := 56) C hR d_Req_beginningOf_56 ?_
    exact ⟨rfl, rfl⟩
  · skip
    show gW X K E 0 [(0, .int (nI 3))] []
    refine g_iload_n (pc := 0) C d_Req_beginningOf_0 0 rfl ?_
    refine g_tswI (pc := 1) C 57 d_Req_beginningOf_1 (by decide) (by decide) rfl (by decide) ?_
    refine g_ldcS (pc := 57) (i := 3) C rfl d_Req_beginningOf_57 ?_
    refine g_sret (pc := 59) C hR d_Req_beginningOf_59 ?_
    exact ⟨rfl, rfl⟩
  · skip
    show gW X K E 0 [(0, .int (nI 4))] []
    refine g_iload_n (pc := 0) C d_Req_beginningOf_0 0 rfl ?_
    refine g_tswI (pc := 1) C 60 d_Req_beginningOf_1 (by decide) (by decide) rfl (by decide) ?_
    refine g_ldcS (pc := 60) (i := 4) C rfl d_Req_beginningOf_60 ?_
    refine g_sret (pc := 62) C hR d_Req_beginningOf_62 ?_
    exact ⟨rfl, rfl⟩
  · skip
    show gW X K E 0 [(0, .int (nI 5))] []
    refine g_iload_n (pc := 0) C d_Req_beginningOf_0 0 rfl ?_
    refine g_tswI (pc := 1) C 63 d_Req_beginningOf_1 (by decide) (by decide) rfl (by decide) ?_
    refine g_ldcS (pc := 63) (i := 5) C rfl d_Req_beginningOf_63 ?_
    refine g_sret (pc := 65) C hR d_Req_beginningOf_65 ?_
    exact ⟨rfl, rfl⟩
  · skip
    show gW X K E 0 [(0, .int (nI 6))] []
    refine g_iload_n (pc := 0) C d_Req_beginningOf_0 0 rfl ?_
    refine g_tswI (pc := 1) C 66 d_Req_beginningOf_1 (by decide) (by decide) rfl (by decide) ?_
    refine g_ldcS (pc := 66) (i := 6) C rfl d_Req_beginningOf_66 ?_
    refine g_sret (pc := 68) C hR d_Req_beginningOf_68 ?_
    exact ⟨rfl, rfl⟩
  · skip
    show gW X K E 0 [(0, .int (nI 7))] []
    refine g_iload_n (pc := 0) C d_Req_beginningOf_0 0 rfl ?_
    refine g_tswI (pc := 1) C 69 d_Req_beginningOf_1 (by decide) (by decide) rfl (by decide) ?_
    refine g_ldcS (pc := 69) (i := 7) C rfl d_Req_beginningOf_69 ?_
    refine g_sret (pc := 71) C hR d_Req_beginningOf_71 ?_
    exact ⟨rfl, rfl⟩
  · skip
    show gW X K E 0 [(0, .int (nI 8))] []
    refine g_iload_n (pc := 0) C d_Req_beginningOf_0 0 rfl ?_
    refine g_tswO (pc := 1) C 72 d_Req_beginningOf_1 (by decide) (by decide) ?_
    refine g_ldcS (pc := 72) (i := 8) C rfl d_Req_beginningOf_72 ?_
    refine g_sret (pc := 74) C hR d_Req_beginningOf_74 ?_
    exact ⟨rfl, rfl⟩

set_option maxHeartbeats 4000000 in
set_option maxRecDepth 100000 in
theorem c_Req_headerBeginning (l : Launch) (K : gK) (E : gE) (n : Nat) (hn : n < 8) : gMs l y_Req_headerBeginning b_Req_headerBeginning 1 0 0 K E [.int (nI (2 ^ n))] (fun i E' => i = hdI n ∧ E' = E) := by
  refine g_mets (by decide +kernel) (Nat.le_of_ble_eq_true rfl) (fun X hl C hR => ?_)
  subst hl
  rcases (show n = 0 ∨ n = 1 ∨ n = 2 ∨ n = 3 ∨ n = 4 ∨ n = 5 ∨ n = 6 ∨ n = 7 by omega) with rfl | rfl | rfl | rfl | rfl | rfl | rfl | rfl
  · skip
    show gW X K E 0 [(0, .int (nI 1))] []
    refine g_iload_n (pc := 0) C d_Req_headerBeginning_0 0 rfl ?_
    refine g_lsw (pc := 1) C 68 d_Req_headerBeginning_1 (by decide) rfl (by decide) ?_
    refine g_ldcS (pc := 68) (i := 10) C rfl d_Req_headerBeginning_68 ?_
    refine g_sret (pc := 70) C hR d_Req_headerBeginning_70 ?_
    exact ⟨rfl, rfl⟩
  · skip
    show gW X K E 0 [(0, .int (nI 2))] []
    refine g_iload_n (pc := 0) C d_Req_headerBeginning_0 0 rfl ?_
    refine g_lsw (pc := 1) C 71 d_Req_headerBeginning_1 (by decide) rfl (by decide) ?_
    refine g_ldcS (pc := 71) (i := 11) C rfl d_Req_headerBeginning_71 ?_
    refine g_sret (pc := 73) C hR d_Req_headerBeginning_73 ?_
    exact ⟨rfl, rfl⟩
  · skip
    show gW X K E 0 [(0, .int (nI 4))] []
    refine g_iload_n (pc := 0) C d_Req_headerBeginning_0 0 rfl ?_
    refine g_lsw (pc := 1) C 74 d_Req_headerBeginning_1 (by decide) rfl (by decide) ?_
    refine g_ldcS (pc := 74) (i := 12) C rfl d_Req_headerBeginning_74 ?_
    refine g_sret (pc := 76) C hR d_Req_headerBeginning_76 ?_
    exact ⟨rfl, rfl⟩
  · skip
    show gW X K E 0 [(0, .int (nI 8))] []
    refine g_iload_n (pc := 0) C d_Req_headerBeginning_0 0 rfl ?_
    refine g_lsw (pc := 1) C 77 d_Req_headerBeginning_1 (by decide) rfl (by decide) ?_
    refine g_ldcS (pc := 77) (i := 13) C rfl d_Req_headerBeginning_77 ?_
    refine g_sret (pc := 79) C hR d_Req_headerBeginning_79 ?_
    exact ⟨rfl, rfl⟩
  · skip
    show gW X K E 0 [(0, .int (nI 16))] []
    refine g_iload_n (pc := 0) C d_Req_headerBeginning_0 0 rfl ?_
    refine g_lsw (pc := 1) C 80 d_Req_headerBeginning_1 (by decide) rfl (by decide) ?_
    refine g_ldcS (pc := 80) (i := 14) C rfl d_Req_headerBeginning_80 ?_
    refine g_sret (pc := 82) C hR d_Req_headerBeginning_82 ?_
    exact ⟨rfl, rfl⟩
  · skip
    show gW X K E 0 [(0, .int (nI 32))] []
    refine g_iload_n (pc := 0) C d_Req_headerBeginning_0 0 rfl ?_
    refine g_lsw (pc := 1) C 83 d_Req_headerBeginning_1 (by decide) rfl (by decide) ?_
    refine g_ldcS (pc := 83) (i := 15) C rfl d_Req_headerBeginning_83 ?_
    refine g_sret (pc := 85) C hR d_Req_headerBeginning_85 ?_
    exact ⟨rfl, rfl⟩
  · skip
    show gW X K E 0 [(0, .int (nI 64))] []
    refine g_iload_n (pc := 0) C d_Req_headerBeginning_0 0 rfl ?_
    refine g_lsw (pc := 1) C 86 d_Req_headerBeginning_1 (by decide) rfl (by decide) ?_
    refine g_ldcS (pc := 86) (i := 16) C rfl d_Req_headerBeginning_86 ?_
    refine g_sret (pc := 88) C hR d_Req_headerBeginning_88 ?_
    exact ⟨rfl, rfl⟩
  · skip
    show gW X K E 0 [(0, .int (nI 128))] []
    refine g_iload_n (pc := 0) C d_Req_headerBeginning_0 0 rfl ?_
    refine g_lsw (pc := 1) C 89 d_Req_headerBeginning_1 (by decide) rfl (by decide) ?_
    refine g_ldcS (pc := 89) (i := 17) C rfl d_Req_headerBeginning_89 ?_
    refine g_sret (pc := 91) C hR d_Req_headerBeginning_91 ?_
    exact ⟨rfl, rfl⟩

def usedN (n : Nat) : Nat := [8, 56, 40, 32, 39, 38, 225, 32, 1].getD n 0
def needN (n : Nat) : Nat := [0, 0, 0, 0, 2, 2, 0, 32, 0].getD n 0
set_option maxHeartbeats 4000000 in
set_option maxRecDepth 100000 in
theorem c_Req_usedBy (l : Launch) (K : gK) (E : gE) (n : Nat) (hn : n < 9) : gMi l y_Req_usedBy b_Req_usedBy 1 .int 0 0 K E [.int (nI (n))] (fun r E' => r = nI (usedN n) ∧ E' = E) := by
  refine g_meti (by decide +kernel) (Nat.le_of_ble_eq_true rfl) (fun X hl C hR => ?_)
  subst hl
  rcases (show n = 0 ∨ n = 1 ∨ n = 2 ∨ n = 3 ∨ n = 4 ∨ n = 5 ∨ n = 6 ∨ n = 7 ∨ n = 8 by omega) with rfl | rfl | rfl | rfl | rfl | rfl | rfl | rfl | rfl
  · skip
    show gW X K E 0 [(0, .int (nI 0))] []
    refine g_iload_n (pc := 0) C d_Req_usedBy_0 0 rfl ?_
    refine g_tswI (pc := 1) C 48 d_Req_usedBy_1 (by decide) (by decide) rfl (by decide) ?_
    refine g_bipush (pc := 48) (v := nI 8) C d_Req_usedBy_48 (by decide) ?_
    refine g_iret (pc := 50) C hR d_Req_usedBy_50 ?_
    exact ⟨rfl, rfl⟩
  · skip
    show gW X K E 0 [(0, .int (nI 1))] []
    refine g_iload_n (pc := 0) C d_Req_usedBy_0 0 rfl ?_
    refine g_tswI (pc := 1) C 51 d_Req_usedBy_1 (by decide) (by decide) rfl (by decide) ?_
    refine g_bipush (pc := 51) (v := nI 56) C d_Req_usedBy_51 (by decide) ?_
    refine g_iret (pc := 53) C hR d_Req_usedBy_53 ?_
    exact ⟨rfl, rfl⟩
  · skip
    show gW X K E 0 [(0, .int (nI 2))] []
    refine g_iload_n (pc := 0) C d_Req_usedBy_0 0 rfl ?_
    refine g_tswI (pc := 1) C 54 d_Req_usedBy_1 (by decide) (by decide) rfl (by decide) ?_
    refine g_bipush (pc := 54) (v := nI 40) C d_Req_usedBy_54 (by decide) ?_
    refine g_iret (pc := 56) C hR d_Req_usedBy_56 ?_
    exact ⟨rfl, rfl⟩
  · skip
    show gW X K E 0 [(0, .int (nI 3))] []
    refine g_iload_n (pc := 0) C d_Req_usedBy_0 0 rfl ?_
    refine g_tswI (pc := 1) C 57 d_Req_usedBy_1 (by decide) (by decide) rfl (by decide) ?_
    refine g_bipush (pc := 57) (v := nI 32) C d_Req_usedBy_57 (by decide) ?_
    refine g_iret (pc := 59) C hR d_Req_usedBy_59 ?_
    exact ⟨rfl, rfl⟩
  · skip
    show gW X K E 0 [(0, .int (nI 4))] []
    refine g_iload_n (pc := 0) C d_Req_usedBy_0 0 rfl ?_
    refine g_tswI (pc := 1) C 60 d_Req_usedBy_1 (by decide) (by decide) rfl (by decide) ?_
    refine g_bipush (pc := 60) (v := nI 39) C d_Req_usedBy_60 (by decide) ?_
    refine g_iret (pc := 62) C hR d_Req_usedBy_62 ?_
    exact ⟨rfl, rfl⟩
  · skip
    show gW X K E 0 [(0, .int (nI 5))] []
    refine g_iload_n (pc := 0) C d_Req_usedBy_0 0 rfl ?_
    refine g_tswI (pc := 1) C 63 d_Req_usedBy_1 (by decide) (by decide) rfl (by decide) ?_
    refine g_bipush (pc := 63) (v := nI 38) C d_Req_usedBy_63 (by decide) ?_
    refine g_iret (pc := 65) C hR d_Req_usedBy_65 ?_
    exact ⟨rfl, rfl⟩
  · skip
    show gW X K E 0 [(0, .int (nI 6))] []
    refine g_iload_n (pc := 0) C d_Req_usedBy_0 0 rfl ?_
    refine g_tswI (pc := 1) C 66 d_Req_usedBy_1 (by decide) (by decide) rfl (by decide) ?_
    refine g_sipush (pc := 66) (v := nI 225) C d_Req_usedBy_66 (by decide) ?_
    refine g_iret (pc := 69) C hR d_Req_usedBy_69 ?_
    exact ⟨rfl, rfl⟩
  · skip
    show gW X K E 0 [(0, .int (nI 7))] []
    refine g_iload_n (pc := 0) C d_Req_usedBy_0 0 rfl ?_
    refine g_tswI (pc := 1) C 70 d_Req_usedBy_1 (by decide) (by decide) rfl (by decide) ?_
    refine g_bipush (pc := 70) (v := nI 32) C d_Req_usedBy_70 (by decide) ?_
    refine g_iret (pc := 72) C hR d_Req_usedBy_72 ?_
    exact ⟨rfl, rfl⟩
  · skip
    show gW X K E 0 [(0, .int (nI 8))] []
    refine g_iload_n (pc := 0) C d_Req_usedBy_0 0 rfl ?_
    refine g_tswO (pc := 1) C 73 d_Req_usedBy_1 (by decide) (by decide) ?_
    refine g_iconst (pc := 73) (v := nI 1) C d_Req_usedBy_73 (by decide) ?_
    refine g_iret (pc := 74) C hR d_Req_usedBy_74 ?_
    exact ⟨rfl, rfl⟩

set_option maxHeartbeats 4000000 in
set_option maxRecDepth 100000 in
theorem c_Req_neededBy (l : Launch) (K : gK) (E : gE) (n : Nat) (hn : n < 9) : gMi l y_Req_neededBy b_Req_neededBy 1 .int 0 0 K E [.int (nI (n))] (fun r E' => r = nI (needN n) ∧ E' = E) := by
  refine g_meti (by decide +kernel) (Nat.le_of_ble_eq_true rfl) (fun X hl C hR => ?_)
  subst hl
  rcases (show n = 0 ∨ n = 1 ∨ n = 2 ∨ n = 3 ∨ n = 4 ∨ n = 5 ∨ n = 6 ∨ n = 7 ∨ n = 8 by omega) with rfl | rfl | rfl | rfl | rfl | rfl | rfl | rfl | rfl
  · skip
    show gW X K E 0 [(0, .int (nI 0))] []
    refine g_iload_n (pc := 0) C d_Req_neededBy_0 0 rfl ?_
    refine g_tswO (pc := 1) C 37 d_Req_neededBy_1 (by decide) (by decide) ?_
    refine g_iconst (pc := 37) (v := nI 0) C d_Req_neededBy_37 (by decide) ?_
    refine g_iret (pc := 38) C hR d_Req_neededBy_38 ?_
    exact ⟨rfl, rfl⟩
  · skip
    show gW X K E 0 [(0, .int (nI 1))] []
    refine g_iload_n (pc := 0) C d_Req_neededBy_0 0 rfl ?_
    refine g_tswO (pc := 1) C 37 d_Req_neededBy_1 (by decide) (by decide) ?_
    refine g_iconst (pc := 37) (v := nI 0) C d_Req_neededBy_37 (by decide) ?_
    refine g_iret (pc := 38) C hR d_Req_neededBy_38 ?_
    exact ⟨rfl, rfl⟩
  · skip
    show gW X K E 0 [(0, .int (nI 2))] []
    refine g_iload_n (pc := 0) C d_Req_neededBy_0 0 rfl ?_
    refine g_tswO (pc := 1) C 37 d_Req_neededBy_1 (by decide) (by decide) ?_
    refine g_iconst (pc := 37) (v := nI 0) C d_Req_neededBy_37 (by decide) ?_
    refine g_iret (pc := 38) C hR d_Req_neededBy_38 ?_
    exact ⟨rfl, rfl⟩
  · skip
    show gW X K E 0 [(0, .int (nI 3))] []
    refine g_iload_n (pc := 0) C d_Req_neededBy_0 0 rfl ?_
    refine g_tswO (pc := 1) C 37 d_Req_neededBy_1 (by decide) (by decide) ?_
    refine g_iconst (pc := 37) (v := nI 0) C d_Req_neededBy_37 (by decide) ?_
    refine g_iret (pc := 38) C hR d_Req_neededBy_38 ?_
    exact ⟨rfl, rfl⟩
  · skip
    show gW X K E 0 [(0, .int (nI 4))] []
    refine g_iload_n (pc := 0) C d_Req_neededBy_0 0 rfl ?_
    refine g_tswI (pc := 1) C 32 d_Req_neededBy_1 (by decide) (by decide) rfl (by decide) ?_
    refine g_iconst (pc := 32) (v := nI 2) C d_Req_neededBy_32 (by decide) ?_
    refine g_iret (pc := 33) C hR d_Req_neededBy_33 ?_
    exact ⟨rfl, rfl⟩
  · skip
    show gW X K E 0 [(0, .int (nI 5))] []
    refine g_iload_n (pc := 0) C d_Req_neededBy_0 0 rfl ?_
    refine g_tswI (pc := 1) C 32 d_Req_neededBy_1 (by decide) (by decide) rfl (by decide) ?_
    refine g_iconst (pc := 32) (v := nI 2) C d_Req_neededBy_32 (by decide) ?_
    refine g_iret (pc := 33) C hR d_Req_neededBy_33 ?_
    exact ⟨rfl, rfl⟩
  · skip
    show gW X K E 0 [(0, .int (nI 6))] []
    refine g_iload_n (pc := 0) C d_Req_neededBy_0 0 rfl ?_
    refine g_tswI (pc := 1) C 37 d_Req_neededBy_1 (by decide) (by decide) rfl (by decide) ?_
    refine g_iconst (pc := 37) (v := nI 0) C d_Req_neededBy_37 (by decide) ?_
    refine g_iret (pc := 38) C hR d_Req_neededBy_38 ?_
    exact ⟨rfl, rfl⟩
  · skip
    show gW X K E 0 [(0, .int (nI 7))] []
    refine g_iload_n (pc := 0) C d_Req_neededBy_0 0 rfl ?_
    refine g_tswI (pc := 1) C 34 d_Req_neededBy_1 (by decide) (by decide) rfl (by decide) ?_
    refine g_bipush (pc := 34) (v := nI 32) C d_Req_neededBy_34 (by decide) ?_
    refine g_iret (pc := 36) C hR d_Req_neededBy_36 ?_
    exact ⟨rfl, rfl⟩
  · skip
    show gW X K E 0 [(0, .int (nI 8))] []
    refine g_iload_n (pc := 0) C d_Req_neededBy_0 0 rfl ?_
    refine g_tswO (pc := 1) C 37 d_Req_neededBy_1 (by decide) (by decide) ?_
    refine g_iconst (pc := 37) (v := nI 0) C d_Req_neededBy_37 (by decide) ?_
    refine g_iret (pc := 38) C hR d_Req_neededBy_38 ?_
    exact ⟨rfl, rfl⟩

/-- the request at q: its three rows of bytes, its numbers -/
def isQ (K : gK) (E : gE) (q : Nat) (pa ta ba : Bs) (vb dp : Nat) (ma tk tm : Int32) (an sp al : Bool) (se : Int32) (cu : Nat) : Prop := E q = .inr (3, [.ref (ka K (q + 1)), .ref (ka K (q + 3)), .ref (ka K (q + 5)), .int (nI vb), .int (nI dp), .int ma, .int tk, .int tm, .int (bI an), .int (bI sp), .int (bI al), .int se, .int (nI cu)]) ∧ isB K E (q + 1) 45 pa ∧ isB K E (q + 3) 45 ta ∧ isB K E (q + 5) 80 ba
theorem isQ.out {K : gK} {E E' : gE} {q c n : Nat} {pa ta ba : Bs} {vb dp : Nat} {ma tk tm : Int32} {an sp al : Bool} {se : Int32} {cu : Nat} (h : isQ K E q pa ta ba vb dp ma tk tm an sp al se cu) (hf : frN c n E E') (h1 : q + 7 ≤ c ∨ c + n ≤ q) : isQ K E' q pa ta ba vb dp ma tk tm an sp al se cu := ⟨(hf q (by omega)).trans h.1, h.2.1.out hf (by omega), h.2.2.1.out hf (by omega), h.2.2.2.out hf (by omega)⟩
def hasB (se : Int32) (n : Nat) : Bool := decide (¬ se &&& nI n = 0)
/-- whether the headers fit the verb -/
def fitB (se : Int32) (vb dp : Nat) : Bool := decide (se &&& (nI (usedN vb) ^^^ (-1)) = 0) && decide (se &&& nI (needN vb) = nI (needN vb)) && decide (dp ≠ 1 ∨ vb = 8)

set_option maxHeartbeats 4000000 in
set_option maxRecDepth 100000 in
theorem c_Req_has (l : Launch) (K : gK) (E : gE) (q : Nat) (pa ta ba : Bs) (vb dp : Nat) (ma tk tm : Int32) (an sp al : Bool) (se : Int32) (cu : Nat) (hQ : isQ K E q pa ta ba vb dp ma tk tm an sp al se cu) (n : Nat) : gMi l y_Req_has b_Req_has 2 .boolean 0 0 K E [.ref (ka K q), .int (nI n)] (fun r E' => r = bI (hasB se n) ∧ E' = E) := by
  have hq1 := hQ.1
  have hqp := hQ.2.1.1
  have hqt := hQ.2.2.1.1
  have hqb := hQ.2.2.2.1
  have hqN := hQ.2.2.2.2.2.1
  refine g_meti (by decide +kernel) (Nat.le_of_ble_eq_true rfl) (fun X hl C hR => ?_)
  subst hl
  show gW X K E 0 [(0, .ref (ka K q)), (1, .int (nI n))] []
  refine g_aload_n (pc := 0) C d_Req_has_0 0 rfl ?_
  refine g_get (pc := 1) C fl_Req_28 hq1 (by omega) rfl d_Req_has_1 ?_
  refine g_iload_n (pc := 4) C d_Req_has_4 1 rfl ?_
  refine g_iand (pc := 5) C d_Req_has_5 ?_
  refine g_if_eq (pc := 6) C 13 d_Req_has_6 (by decide) (fun h_6 => ?_) (fun h_6 => ?_)
  · skip
    refine g_iconst (pc := 13) (v := nI 0) C d_Req_has_13 (by decide) ?_
    refine g_zret (pc := 14) C hR rfl d_Req_has_14 ?_
    first
      | exact ⟨by rw [hasB, decide_eq_true h_6]; rfl, rfl⟩
      | exact ⟨by rw [hasB, decide_eq_false (fun z => z h_6)]; rfl, rfl⟩
  · skip
    refine g_iconst (pc := 9) (v := nI 1) C d_Req_has_9 (by decide) ?_
    refine g_goto (pc := 10) C 14 d_Req_has_10 (by decide) ?_
    refine g_zret (pc := 14) C hR rfl d_Req_has_14 ?_
    first
      | exact ⟨by rw [hasB, decide_eq_true h_6]; rfl, rfl⟩
      | exact ⟨by rw [hasB, decide_eq_false (fun z => z h_6)]; rfl, rfl⟩

set_option maxHeartbeats 4000000 in
set_option maxRecDepth 100000 in
theorem c_Req_areHeadersFit (l : Launch) (K : gK) (E : gE) (q : Nat) (pa ta ba : Bs) (vb dp : Nat) (ma tk tm : Int32) (an sp al : Bool) (se : Int32) (cu : Nat) (hQ : isQ K E q pa ta ba vb dp ma tk tm an sp al se cu) (hv : vb < 9) (hd : dp < 3) : gMi l y_Req_areHeadersFit b_Req_areHeadersFit 2 .boolean 1 64 K E [.ref (ka K q)] (fun r E' => r = bI (fitB se vb dp) ∧ E' = E) := by
  have hq1 := hQ.1
  have hqp := hQ.2.1.1
  have hqt := hQ.2.2.1.1
  have hqb := hQ.2.2.2.1
  have hqN := hQ.2.2.2.2.2.1
  refine g_meti (by decide +kernel) (Nat.le_of_ble_eq_true rfl) (fun X hl C hR => ?_)
  subst hl
  show gW X K E 0 [(0, .ref (ka K q))] []
  refine g_aload_n (pc := 0) C d_Req_areHeadersFit_0 0 rfl ?_
  refine g_get (pc := 1) C fl_Req_35 hq1 (by omega) rfl d_Req_areHeadersFit_1 ?_
  refine g_ci (pc := 4) C (g_rS (As := [.int (nI vb)]) (rest := []) C (c_Req_neededBy _ K _ vb hv) mw_Req_neededBy mo_Req_neededBy ml_Req_185 (by decide) rfl rfl (Nat.le_of_ble_eq_true rfl) d_Req_areHeadersFit_4) (fun r4 E4 hp4 => ?_)
  rw [hp4.1, hp4.2]
  refine g_istore_n (pc := 7) (lv' := [(1, .int (nI (needN vb))), (0, .ref (ka K q))]) C d_Req_areHeadersFit_7 rfl (by decide) rfl ?_
  refine g_aload_n (pc := 8) C d_Req_areHeadersFit_8 1 rfl ?_
  refine g_get (pc := 9) C fl_Req_28 hq1 (by omega) rfl d_Req_areHeadersFit_9 ?_
  refine g_aload_n (pc := 12) C d_Req_areHeadersFit_12 1 rfl ?_
  refine g_get (pc := 13) C fl_Req_35 hq1 (by omega) rfl d_Req_areHeadersFit_13 ?_
  refine g_ci (pc := 16) C (g_rS (As := [.int (nI vb)]) (rest := [.int se]) C (c_Req_usedBy _ K _ vb hv) mw_Req_usedBy mo_Req_usedBy ml_Req_188 (by decide) rfl rfl (Nat.le_of_ble_eq_true rfl) d_Req_areHeadersFit_16) (fun r16 E16 hp16 => ?_)
  rw [hp16.1, hp16.2]
  refine g_iconst (pc := 19) (v := -1) C d_Req_areHeadersFit_19 (by decide) ?_
  refine g_ixor (pc := 20) C d_Req_areHeadersFit_20 ?_
  refine g_iand (pc := 21) C d_Req_areHeadersFit_21 ?_
  refine g_if_ne (pc := 22) C 35 d_Req_areHeadersFit_22 (by decide) (fun h_22 => ?_) (fun h_22 => ?_)
  · skip
    refine g_iconst (pc := 35) (v := nI 0) C d_Req_areHeadersFit_35 (by decide) ?_
    refine g_zret (pc := 36) C hR rfl d_Req_areHeadersFit_36 ?_
    refine ⟨?_, rfl⟩
    rw [fitB]
    first
      | (rw [decide_eq_false h_22]; rfl)
      | (rw [decide_eq_true h_22, decide_eq_false h_32]; rfl)
  · skip
    refine g_aload_n (pc := 25) C d_Req_areHeadersFit_25 1 rfl ?_
    refine g_get (pc := 26) C fl_Req_28 hq1 (by omega) rfl d_Req_areHeadersFit_26 ?_
    refine g_iload_n (pc := 29) C d_Req_areHeadersFit_29 0 rfl ?_
    refine g_iand (pc := 30) C d_Req_areHeadersFit_30 ?_
    refine g_iload_n (pc := 31) C d_Req_areHeadersFit_31 0 rfl ?_
    refine g_icmp_eq (pc := 32) C 37 d_Req_areHeadersFit_32 (by decide) (fun h_32 => ?_) (fun h_32 => ?_)
    · skip
      refine g_aload_n (pc := 37) C d_Req_areHeadersFit_37 1 rfl ?_
      refine g_get (pc := 38) C fl_Req_38 hq1 (by omega) rfl d_Req_areHeadersFit_38 ?_
      refine g_iconst (pc := 41) (v := nI 1) C d_Req_areHeadersFit_41 (by decide) ?_
      refine g_icmp_neN (pc := 42) C 54 d_Req_areHeadersFit_42 (by decide) (by omega) (by omega) (fun h_42 => ?_) (fun h_42 => ?_)
      · skip
        refine g_iconst (pc := 54) (v := nI 1) C d_Req_areHeadersFit_54 (by decide) ?_
        refine g_goto (pc := 55) C 59 d_Req_areHeadersFit_55 (by decide) ?_
        refine g_zret (pc := 59) C hR rfl d_Req_areHeadersFit_59 ?_
        refine ⟨?_, rfl⟩
        rw [fitB, decide_eq_true h_22, decide_eq_true h_32]
        first
          | (rw [decide_eq_true (by omega)]; rfl)
          | (rw [decide_eq_false (by omega)]; rfl)
      · skip
        refine g_aload_n (pc := 45) C d_Req_areHeadersFit_45 1 rfl ?_
        refine g_get (pc := 46) C fl_Req_35 hq1 (by omega) rfl d_Req_areHeadersFit_46 ?_
        refine g_bipush (pc := 49) (v := nI 8) C d_Req_areHeadersFit_49 (by decide) ?_
        refine g_icmp_neN (pc := 51) C 58 d_Req_areHeadersFit_51 (by decide) (by omega) (by omega) (fun h_51 => ?_) (fun h_51 => ?_)
        · skip
          refine g_iconst (pc := 58) (v := nI 0) C d_Req_areHeadersFit_58 (by decide) ?_
          refine g_zret (pc := 59) C hR rfl d_Req_areHeadersFit_59 ?_
          refine ⟨?_, rfl⟩
          rw [fitB, decide_eq_true h_22, decide_eq_true h_32]
          first
            | (rw [decide_eq_true (by omega)]; rfl)
            | (rw [decide_eq_false (by omega)]; rfl)
        · skip
          refine g_iconst (pc := 54) (v := nI 1) C d_Req_areHeadersFit_54 (by decide) ?_
          refine g_goto (pc := 55) C 59 d_Req_areHeadersFit_55 (by decide) ?_
          refine g_zret (pc := 59) C hR rfl d_Req_areHeadersFit_59 ?_
          refine ⟨?_, rfl⟩
          rw [fitB, decide_eq_true h_22, decide_eq_true h_32]
          first
            | (rw [decide_eq_true (by omega)]; rfl)
            | (rw [decide_eq_false (by omega)]; rfl)
    · skip
      refine g_iconst (pc := 35) (v := nI 0) C d_Req_areHeadersFit_35 (by decide) ?_
      refine g_zret (pc := 36) C hR rfl d_Req_areHeadersFit_36 ?_
      refine ⟨?_, rfl⟩
      rw [fitB]
      first
        | (rw [decide_eq_false h_22]; rfl)
        | (rw [decide_eq_true h_22, decide_eq_false h_32]; rfl)
