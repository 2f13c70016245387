/-! PATHS, as mathematical values -/
def isLet (n : Nat) : Bool := decide ((97 ≤ n ∧ n ≤ 122) ∨ (48 ≤ n ∧ n ≤ 57) ∨ n = 45 ∨ n = 46)
/-- what stands behind the first slash: s segments are behind us, n letters and d dots of this one -/
def pS : Bs → Nat → Nat → Nat → Bool
  | [], s, n, d => decide (¬ (n = d ∨ 8 < n) ∧ s + 1 ≤ 5)
  | c :: l, s, n, d => if c.toNat = 47 then (if n = d ∨ 8 < n then false else pS l (s + 1) 0 0) else if isLet c.toNat = true then pS l s (n + 1) (d + if c.toNat = 46 then 1 else 0) else false
def pathOK : Bs → Bool
  | [] => false
  | c :: l => decide (c.toNat = 47) && (l.isEmpty || pS l 0 0 0)
theorem pathOK_t {c : UInt8} {l : Bs} (h : c.toNat = 47) : pathOK (c :: l) = if l = [] then true else pS l 0 0 0 := by
  show (decide (c.toNat = 47) && (l.isEmpty || pS l 0 0 0)) = _
  rw [decide_eq_true h]
  cases l with
  | nil => rfl
  | cons a r => rfl
theorem pathOK_f {c : UInt8} {l : Bs} (h : c.toNat ≠ 47) : pathOK (c :: l) = false := by
  show (decide (c.toNat = 47) && (l.isEmpty || pS l 0 0 0)) = _
  rw [decide_eq_false h]
  rfl
theorem pS_sl {c : UInt8} {l : Bs} {s n d : Nat} (h : c.toNat = 47) (h2 : ¬ (n = d ∨ 8 < n)) : pS (c :: l) s n d = pS l (s + 1) 0 0 := by rw [pS, if_pos h, if_neg h2]
theorem pS_bad {c : UInt8} {l : Bs} {s n d : Nat} (h : c.toNat = 47) (h2 : n = d ∨ 8 < n) : pS (c :: l) s n d = false := by rw [pS, if_pos h, if_pos h2]
theorem pS_let {c : UInt8} {l : Bs} {s n d : Nat} (h : c.toNat ≠ 47) (h2 : isLet c.toNat = true) : pS (c :: l) s n d = pS l s (n + 1) (d + if c.toNat = 46 then 1 else 0) := by rw [pS, if_neg h, if_pos h2]
theorem pS_no {c : UInt8} {l : Bs} {s n d : Nat} (h : c.toNat ≠ 47) (h2 : isLet c.toNat = false) : pS (c :: l) s n d = false := by rw [pS, if_neg h, if_neg (by rw [h2]; decide)]
theorem part_cons {bs : Bs} {k j : Nat} (h : k < j) (hj : j ≤ bs.length) : part bs k j = bs[k] :: part bs (k + 1) j := by
  have hl : k < (bs.take j).length := by simp; omega
  unfold part
  rw [List.drop_eq_getElem_cons hl, List.getElem_take]
theorem part_nil {bs : Bs} {k j : Nat} (h : j ≤ k) : part bs k j = [] := by
  unfold part
  exact List.drop_eq_nil_of_le (by simp; omega)
/-- at the path or in it -/
def atIn (p q : Bs) : Bool := sameN p q q.length && (decide (p.length = q.length) || decide (q.length = 1) || decide (atI p (nI q.length) = nI 47))
def cutF (p : Bs) : Nat → Nat
  | 0 => 0
  | k + 1 => if 1 ≤ k ∧ p[k]? = some 47 then k else cutF p k
def homeLen (p : Bs) : Nat := max 1 (cutF p p.length)
def segF (p : Bs) : Nat → Nat
  | 0 => 0
  | k + 1 => segF p k + if p[k]? = some 47 then 1 else 0
def segs (p : Bs) : Nat := if p.length = 1 then 0 else segF p p.length
def dirIn (p q : Bs) : Bool := decide (q.length < p.length) && sameN p q q.length && decide (homeLen p = q.length)
theorem sl_iff {p : Bs} {k : Nat} (h : k < p.length) : p[k]? = some 47 ↔ p[k].toNat = 47 := by
  rw [List.getElem?_eq_getElem h]
  refine ⟨fun e => by rw [Option.some.inj e]; rfl, fun e => congrArg some (UInt8.toNat_inj.mp (e.trans rfl))⟩
theorem cutF_le (p : Bs) : ∀ k, cutF p k ≤ k := by
  intro k
  induction k with
  | zero => exact Nat.le_refl _
  | succ k ih =>
    rw [cutF]
    split
    · omega
    · omega
theorem segF_le (p : Bs) : ∀ k, segF p k ≤ k := by
  intro k
  induction k with
  | zero => exact Nat.le_refl _
  | succ k ih =>
    rw [segF]
    split
    · omega
    · omega

theorem fl_Paths_19 : gFL "DavRoom$Paths" 19 0 1 := ⟨_, _, _, rfl, i_Bytes, by decide, tb1 38 rfl rfl, rfl⟩
theorem ml_Paths_9 : Cond.methodLink "DavRoom$Paths" 9 ⟨"DavRoom$Bytes", "at", "(I)I"⟩ ∈ TB := tb2 114 rfl rfl
theorem ml_Paths_15 : Cond.methodLink "DavRoom$Paths" 15 ⟨"DavRoom$Paths", "isLetter", "(I)Z"⟩ ∈ TB := tb2 115 rfl rfl
theorem ml_Paths_23 : Cond.methodLink "DavRoom$Paths" 23 ⟨"DavRoom$Bytes", "beginsLike", "(LDavRoom$Bytes;I)Z"⟩ ∈ TB := tb2 213 rfl rfl
theorem ml_Paths_27 : Cond.methodLink "DavRoom$Paths" 27 ⟨"DavRoom$Paths", "homeLength", "(LDavRoom$Bytes;)I"⟩ ∈ TB := tb2 214 rfl rfl
theorem ml_Paths_31 : Cond.methodLink "DavRoom$Paths" 31 ⟨"java/lang/Math", "max", "(II)I"⟩ ∈ TB := tb2 217 rfl rfl
theorem ml_Paths_37 : Cond.methodLink "DavRoom$Paths" 37 ⟨"DavRoom$Paths", "isRoot", "(LDavRoom$Bytes;)Z"⟩ ∈ TB := tb3 90 rfl rfl
theorem mw_Paths_isPath : gMW y_Paths_isPath b_Paths_isPath 8 (some .boolean) 3 := ⟨⟨tb1 16 rfl rfl, tb2 113 rfl rfl⟩, by decide +kernel⟩
theorem mo_Paths_isPath : Cond.static y_Paths_isPath ∈ TB := tb2 112 rfl rfl
theorem mw_Paths_isLetter : gMW y_Paths_isLetter b_Paths_isLetter 1 (some .boolean) 1 := ⟨⟨tb1 16 rfl rfl, tb2 117 rfl rfl⟩, by decide +kernel⟩
theorem mo_Paths_isLetter : Cond.static y_Paths_isLetter ∈ TB := tb2 116 rfl rfl
theorem mw_Paths_isRoot : gMW y_Paths_isRoot b_Paths_isRoot 1 (some .boolean) 1 := ⟨⟨tb1 16 rfl rfl, tb2 220 rfl rfl⟩, by decide +kernel⟩
theorem mo_Paths_isRoot : Cond.static y_Paths_isRoot ∈ TB := tb2 219 rfl rfl
theorem mw_Paths_isAtOrIn : gMW y_Paths_isAtOrIn b_Paths_isAtOrIn 3 (some .boolean) 2 := ⟨⟨tb1 16 rfl rfl, tb3 6 rfl rfl⟩, by decide +kernel⟩
theorem mo_Paths_isAtOrIn : Cond.static y_Paths_isAtOrIn ∈ TB := tb3 5 rfl rfl
theorem mw_Paths_isDirectlyIn : gMW y_Paths_isDirectlyIn b_Paths_isDirectlyIn 3 (some .boolean) 2 := ⟨⟨tb1 16 rfl rfl, tb2 212 rfl rfl⟩, by decide +kernel⟩
theorem mo_Paths_isDirectlyIn : Cond.static y_Paths_isDirectlyIn ∈ TB := tb2 211 rfl rfl
theorem mw_Paths_homeLength : gMW y_Paths_homeLength b_Paths_homeLength 3 (some .int) 1 := ⟨⟨tb1 16 rfl rfl, tb2 216 rfl rfl⟩, by decide +kernel⟩
theorem mo_Paths_homeLength : Cond.static y_Paths_homeLength ∈ TB := tb2 215 rfl rfl
theorem mw_Paths_segments : gMW y_Paths_segments b_Paths_segments 3 (some .int) 1 := ⟨⟨tb1 16 rfl rfl, tb3 89 rfl rfl⟩, by decide +kernel⟩
theorem mo_Paths_segments : Cond.static y_Paths_segments ∈ TB := tb3 88 rfl rfl
theorem d_Paths_isPath_0 : decode b_Paths_isPath 0 = .ok (.iload_n 1, 1) := by decide +kernel
theorem d_Paths_isPath_1 : decode b_Paths_isPath 1 = .ok (.iload_n 2, 1) := by decide +kernel
theorem d_Paths_isPath_2 : decode b_Paths_isPath 2 = .ok (.if_icmp .ge 13, 3) := by decide +kernel
theorem d_Paths_isPath_5 : decode b_Paths_isPath 5 = .ok (.aload_n 0, 1) := by decide +kernel
theorem d_Paths_isPath_6 : decode b_Paths_isPath 6 = .ok (.iload_n 1, 1) := by decide +kernel
theorem d_Paths_isPath_7 : decode b_Paths_isPath 7 = .ok (.invokevirtual 9, 3) := by decide +kernel
theorem d_Paths_isPath_10 : decode b_Paths_isPath 10 = .ok (.bipush 47, 2) := by decide +kernel
theorem d_Paths_isPath_12 : decode b_Paths_isPath 12 = .ok (.if_icmp .eq 5, 3) := by decide +kernel
theorem d_Paths_isPath_15 : decode b_Paths_isPath 15 = .ok (.iconst 0, 1) := by decide +kernel
theorem d_Paths_isPath_16 : decode b_Paths_isPath 16 = .ok (.ireturn, 1) := by decide +kernel
theorem d_Paths_isPath_17 : decode b_Paths_isPath 17 = .ok (.iload_n 2, 1) := by decide +kernel
theorem d_Paths_isPath_18 : decode b_Paths_isPath 18 = .ok (.iload_n 1, 1) := by decide +kernel
theorem d_Paths_isPath_19 : decode b_Paths_isPath 19 = .ok (.isub, 1) := by decide +kernel
theorem d_Paths_isPath_20 : decode b_Paths_isPath 20 = .ok (.iconst 1, 1) := by decide +kernel
theorem d_Paths_isPath_21 : decode b_Paths_isPath 21 = .ok (.if_icmp .ne 5, 3) := by decide +kernel
theorem d_Paths_isPath_24 : decode b_Paths_isPath 24 = .ok (.iconst 1, 1) := by decide +kernel
theorem d_Paths_isPath_25 : decode b_Paths_isPath 25 = .ok (.ireturn, 1) := by decide +kernel
theorem d_Paths_isPath_26 : decode b_Paths_isPath 26 = .ok (.iconst 0, 1) := by decide +kernel
theorem d_Paths_isPath_27 : decode b_Paths_isPath 27 = .ok (.istore_n 3, 1) := by decide +kernel
theorem d_Paths_isPath_28 : decode b_Paths_isPath 28 = .ok (.iconst 0, 1) := by decide +kernel
theorem d_Paths_isPath_29 : decode b_Paths_isPath 29 = .ok (.istore 4, 2) := by decide +kernel
theorem d_Paths_isPath_31 : decode b_Paths_isPath 31 = .ok (.iconst 0, 1) := by decide +kernel
theorem d_Paths_isPath_32 : decode b_Paths_isPath 32 = .ok (.istore 5, 2) := by decide +kernel
theorem d_Paths_isPath_34 : decode b_Paths_isPath 34 = .ok (.iload_n 1, 1) := by decide +kernel
theorem d_Paths_isPath_35 : decode b_Paths_isPath 35 = .ok (.iconst 1, 1) := by decide +kernel
theorem d_Paths_isPath_36 : decode b_Paths_isPath 36 = .ok (.iadd, 1) := by decide +kernel
theorem d_Paths_isPath_37 : decode b_Paths_isPath 37 = .ok (.istore 6, 2) := by decide +kernel
theorem d_Paths_isPath_39 : decode b_Paths_isPath 39 = .ok (.iload 6, 2) := by decide +kernel
theorem d_Paths_isPath_41 : decode b_Paths_isPath 41 = .ok (.iload_n 2, 1) := by decide +kernel
theorem d_Paths_isPath_42 : decode b_Paths_isPath 42 = .ok (.if_icmp .gt 96, 3) := by decide +kernel
theorem d_Paths_isPath_45 : decode b_Paths_isPath 45 = .ok (.iload 6, 2) := by decide +kernel
theorem d_Paths_isPath_47 : decode b_Paths_isPath 47 = .ok (.iload_n 2, 1) := by decide +kernel
theorem d_Paths_isPath_48 : decode b_Paths_isPath 48 = .ok (.if_icmp .ne 8, 3) := by decide +kernel
theorem d_Paths_isPath_51 : decode b_Paths_isPath 51 = .ok (.bipush 47, 2) := by decide +kernel
theorem d_Paths_isPath_53 : decode b_Paths_isPath 53 = .ok (.goto 9, 3) := by decide +kernel
theorem d_Paths_isPath_56 : decode b_Paths_isPath 56 = .ok (.aload_n 0, 1) := by decide +kernel
theorem d_Paths_isPath_57 : decode b_Paths_isPath 57 = .ok (.iload 6, 2) := by decide +kernel
theorem d_Paths_isPath_59 : decode b_Paths_isPath 59 = .ok (.invokevirtual 9, 3) := by decide +kernel
theorem d_Paths_isPath_62 : decode b_Paths_isPath 62 = .ok (.istore 7, 2) := by decide +kernel
theorem d_Paths_isPath_64 : decode b_Paths_isPath 64 = .ok (.iload 7, 2) := by decide +kernel
theorem d_Paths_isPath_66 : decode b_Paths_isPath 66 = .ok (.bipush 47, 2) := by decide +kernel
theorem d_Paths_isPath_68 : decode b_Paths_isPath 68 = .ok (.if_icmp .ne 31, 3) := by decide +kernel
theorem d_Paths_isPath_71 : decode b_Paths_isPath 71 = .ok (.iload 4, 2) := by decide +kernel
theorem d_Paths_isPath_73 : decode b_Paths_isPath 73 = .ok (.iload 5, 2) := by decide +kernel
theorem d_Paths_isPath_75 : decode b_Paths_isPath 75 = .ok (.if_icmp .eq 10, 3) := by decide +kernel
theorem d_Paths_isPath_78 : decode b_Paths_isPath 78 = .ok (.iload 4, 2) := by decide +kernel
theorem d_Paths_isPath_80 : decode b_Paths_isPath 80 = .ok (.bipush 8, 2) := by decide +kernel
theorem d_Paths_isPath_82 : decode b_Paths_isPath 82 = .ok (.if_icmp .le 5, 3) := by decide +kernel
theorem d_Paths_isPath_85 : decode b_Paths_isPath 85 = .ok (.iconst 0, 1) := by decide +kernel
theorem d_Paths_isPath_86 : decode b_Paths_isPath 86 = .ok (.ireturn, 1) := by decide +kernel
theorem d_Paths_isPath_87 : decode b_Paths_isPath 87 = .ok (.iinc 3 1, 3) := by decide +kernel
theorem d_Paths_isPath_90 : decode b_Paths_isPath 90 = .ok (.iconst 0, 1) := by decide +kernel
theorem d_Paths_isPath_91 : decode b_Paths_isPath 91 = .ok (.istore 4, 2) := by decide +kernel
theorem d_Paths_isPath_93 : decode b_Paths_isPath 93 = .ok (.iconst 0, 1) := by decide +kernel
theorem d_Paths_isPath_94 : decode b_Paths_isPath 94 = .ok (.istore 5, 2) := by decide +kernel
theorem d_Paths_isPath_96 : decode b_Paths_isPath 96 = .ok (.goto 36, 3) := by decide +kernel
theorem d_Paths_isPath_99 : decode b_Paths_isPath 99 = .ok (.iload 7, 2) := by decide +kernel
theorem d_Paths_isPath_101 : decode b_Paths_isPath 101 = .ok (.invokestatic 15, 3) := by decide +kernel
theorem d_Paths_isPath_104 : decode b_Paths_isPath 104 = .ok (.ifCond .eq 26, 3) := by decide +kernel
theorem d_Paths_isPath_107 : decode b_Paths_isPath 107 = .ok (.iinc 4 1, 3) := by decide +kernel
theorem d_Paths_isPath_110 : decode b_Paths_isPath 110 = .ok (.iload 5, 2) := by decide +kernel
theorem d_Paths_isPath_112 : decode b_Paths_isPath 112 = .ok (.iload 7, 2) := by decide +kernel
theorem d_Paths_isPath_114 : decode b_Paths_isPath 114 = .ok (.bipush 46, 2) := by decide +kernel
theorem d_Paths_isPath_116 : decode b_Paths_isPath 116 = .ok (.if_icmp .ne 7, 3) := by decide +kernel
theorem d_Paths_isPath_119 : decode b_Paths_isPath 119 = .ok (.iconst 1, 1) := by decide +kernel
theorem d_Paths_isPath_120 : decode b_Paths_isPath 120 = .ok (.goto 4, 3) := by decide +kernel
theorem d_Paths_isPath_123 : decode b_Paths_isPath 123 = .ok (.iconst 0, 1) := by decide +kernel
theorem d_Paths_isPath_124 : decode b_Paths_isPath 124 = .ok (.iadd, 1) := by decide +kernel
theorem d_Paths_isPath_125 : decode b_Paths_isPath 125 = .ok (.istore 5, 2) := by decide +kernel
theorem d_Paths_isPath_127 : decode b_Paths_isPath 127 = .ok (.goto 5, 3) := by decide +kernel
theorem d_Paths_isPath_130 : decode b_Paths_isPath 130 = .ok (.iconst 0, 1) := by decide +kernel
theorem d_Paths_isPath_131 : decode b_Paths_isPath 131 = .ok (.ireturn, 1) := by decide +kernel
theorem d_Paths_isPath_132 : decode b_Paths_isPath 132 = .ok (.iinc 6 1, 3) := by decide +kernel
theorem d_Paths_isPath_135 : decode b_Paths_isPath 135 = .ok (.goto (-96), 3) := by decide +kernel
theorem d_Paths_isPath_138 : decode b_Paths_isPath 138 = .ok (.iload_n 3, 1) := by decide +kernel
theorem d_Paths_isPath_139 : decode b_Paths_isPath 139 = .ok (.iconst 5, 1) := by decide +kernel
theorem d_Paths_isPath_140 : decode b_Paths_isPath 140 = .ok (.if_icmp .gt 7, 3) := by decide +kernel
theorem d_Paths_isPath_143 : decode b_Paths_isPath 143 = .ok (.iconst 1, 1) := by decide +kernel
theorem d_Paths_isPath_144 : decode b_Paths_isPath 144 = .ok (.goto 4, 3) := by decide +kernel
theorem d_Paths_isPath_147 : decode b_Paths_isPath 147 = .ok (.iconst 0, 1) := by decide +kernel
theorem d_Paths_isPath_148 : decode b_Paths_isPath 148 = .ok (.ireturn, 1) := by decide +kernel
theorem d_Paths_isLetter_0 : decode b_Paths_isLetter 0 = .ok (.iload_n 0, 1) := by decide +kernel
theorem d_Paths_isLetter_1 : decode b_Paths_isLetter 1 = .ok (.bipush 97, 2) := by decide +kernel
theorem d_Paths_isLetter_3 : decode b_Paths_isLetter 3 = .ok (.if_icmp .lt 9, 3) := by decide +kernel
theorem d_Paths_isLetter_6 : decode b_Paths_isLetter 6 = .ok (.iload_n 0, 1) := by decide +kernel
theorem d_Paths_isLetter_7 : decode b_Paths_isLetter 7 = .ok (.bipush 122, 2) := by decide +kernel
theorem d_Paths_isLetter_9 : decode b_Paths_isLetter 9 = .ok (.if_icmp .le 27, 3) := by decide +kernel
theorem d_Paths_isLetter_12 : decode b_Paths_isLetter 12 = .ok (.iload_n 0, 1) := by decide +kernel
theorem d_Paths_isLetter_13 : decode b_Paths_isLetter 13 = .ok (.bipush 48, 2) := by decide +kernel
theorem d_Paths_isLetter_15 : decode b_Paths_isLetter 15 = .ok (.if_icmp .lt 9, 3) := by decide +kernel
theorem d_Paths_isLetter_18 : decode b_Paths_isLetter 18 = .ok (.iload_n 0, 1) := by decide +kernel
theorem d_Paths_isLetter_19 : decode b_Paths_isLetter 19 = .ok (.bipush 57, 2) := by decide +kernel
theorem d_Paths_isLetter_21 : decode b_Paths_isLetter 21 = .ok (.if_icmp .le 15, 3) := by decide +kernel
theorem d_Paths_isLetter_24 : decode b_Paths_isLetter 24 = .ok (.iload_n 0, 1) := by decide +kernel
theorem d_Paths_isLetter_25 : decode b_Paths_isLetter 25 = .ok (.bipush 45, 2) := by decide +kernel
theorem d_Paths_isLetter_27 : decode b_Paths_isLetter 27 = .ok (.if_icmp .eq 9, 3) := by decide +kernel
theorem d_Paths_isLetter_30 : decode b_Paths_isLetter 30 = .ok (.iload_n 0, 1) := by decide +kernel
theorem d_Paths_isLetter_31 : decode b_Paths_isLetter 31 = .ok (.bipush 46, 2) := by decide +kernel
theorem d_Paths_isLetter_33 : decode b_Paths_isLetter 33 = .ok (.if_icmp .ne 7, 3) := by decide +kernel
theorem d_Paths_isLetter_36 : decode b_Paths_isLetter 36 = .ok (.iconst 1, 1) := by decide +kernel
theorem d_Paths_isLetter_37 : decode b_Paths_isLetter 37 = .ok (.goto 4, 3) := by decide +kernel
theorem d_Paths_isLetter_40 : decode b_Paths_isLetter 40 = .ok (.iconst 0, 1) := by decide +kernel
theorem d_Paths_isLetter_41 : decode b_Paths_isLetter 41 = .ok (.ireturn, 1) := by decide +kernel
theorem d_Paths_isRoot_0 : decode b_Paths_isRoot 0 = .ok (.aload_n 0, 1) := by decide +kernel
theorem d_Paths_isRoot_1 : decode b_Paths_isRoot 1 = .ok (.getfield 19, 3) := by decide +kernel
theorem d_Paths_isRoot_4 : decode b_Paths_isRoot 4 = .ok (.iconst 1, 1) := by decide +kernel
theorem d_Paths_isRoot_5 : decode b_Paths_isRoot 5 = .ok (.if_icmp .ne 7, 3) := by decide +kernel
theorem d_Paths_isRoot_8 : decode b_Paths_isRoot 8 = .ok (.iconst 1, 1) := by decide +kernel
theorem d_Paths_isRoot_9 : decode b_Paths_isRoot 9 = .ok (.goto 4, 3) := by decide +kernel
theorem d_Paths_isRoot_12 : decode b_Paths_isRoot 12 = .ok (.iconst 0, 1) := by decide +kernel
theorem d_Paths_isRoot_13 : decode b_Paths_isRoot 13 = .ok (.ireturn, 1) := by decide +kernel
theorem d_Paths_isAtOrIn_0 : decode b_Paths_isAtOrIn 0 = .ok (.aload_n 1, 1) := by decide +kernel
theorem d_Paths_isAtOrIn_1 : decode b_Paths_isAtOrIn 1 = .ok (.getfield 19, 3) := by decide +kernel
theorem d_Paths_isAtOrIn_4 : decode b_Paths_isAtOrIn 4 = .ok (.istore_n 2, 1) := by decide +kernel
theorem d_Paths_isAtOrIn_5 : decode b_Paths_isAtOrIn 5 = .ok (.aload_n 0, 1) := by decide +kernel
theorem d_Paths_isAtOrIn_6 : decode b_Paths_isAtOrIn 6 = .ok (.aload_n 1, 1) := by decide +kernel
theorem d_Paths_isAtOrIn_7 : decode b_Paths_isAtOrIn 7 = .ok (.iload_n 2, 1) := by decide +kernel
theorem d_Paths_isAtOrIn_8 : decode b_Paths_isAtOrIn 8 = .ok (.invokevirtual 23, 3) := by decide +kernel
theorem d_Paths_isAtOrIn_11 : decode b_Paths_isAtOrIn 11 = .ok (.ifCond .ne 5, 3) := by decide +kernel
theorem d_Paths_isAtOrIn_14 : decode b_Paths_isAtOrIn 14 = .ok (.iconst 0, 1) := by decide +kernel
theorem d_Paths_isAtOrIn_15 : decode b_Paths_isAtOrIn 15 = .ok (.ireturn, 1) := by decide +kernel
theorem d_Paths_isAtOrIn_16 : decode b_Paths_isAtOrIn 16 = .ok (.aload_n 0, 1) := by decide +kernel
theorem d_Paths_isAtOrIn_17 : decode b_Paths_isAtOrIn 17 = .ok (.getfield 19, 3) := by decide +kernel
theorem d_Paths_isAtOrIn_20 : decode b_Paths_isAtOrIn 20 = .ok (.iload_n 2, 1) := by decide +kernel
theorem d_Paths_isAtOrIn_21 : decode b_Paths_isAtOrIn 21 = .ok (.if_icmp .eq 18, 3) := by decide +kernel
theorem d_Paths_isAtOrIn_24 : decode b_Paths_isAtOrIn 24 = .ok (.iload_n 2, 1) := by decide +kernel
theorem d_Paths_isAtOrIn_25 : decode b_Paths_isAtOrIn 25 = .ok (.iconst 1, 1) := by decide +kernel
theorem d_Paths_isAtOrIn_26 : decode b_Paths_isAtOrIn 26 = .ok (.if_icmp .eq 13, 3) := by decide +kernel
theorem d_Paths_isAtOrIn_29 : decode b_Paths_isAtOrIn 29 = .ok (.aload_n 0, 1) := by decide +kernel
theorem d_Paths_isAtOrIn_30 : decode b_Paths_isAtOrIn 30 = .ok (.iload_n 2, 1) := by decide +kernel
theorem d_Paths_isAtOrIn_31 : decode b_Paths_isAtOrIn 31 = .ok (.invokevirtual 9, 3) := by decide +kernel
theorem d_Paths_isAtOrIn_34 : decode b_Paths_isAtOrIn 34 = .ok (.bipush 47, 2) := by decide +kernel
theorem d_Paths_isAtOrIn_36 : decode b_Paths_isAtOrIn 36 = .ok (.if_icmp .ne 7, 3) := by decide +kernel
theorem d_Paths_isAtOrIn_39 : decode b_Paths_isAtOrIn 39 = .ok (.iconst 1, 1) := by decide +kernel
theorem d_Paths_isAtOrIn_40 : decode b_Paths_isAtOrIn 40 = .ok (.goto 4, 3) := by decide +kernel
theorem d_Paths_isAtOrIn_43 : decode b_Paths_isAtOrIn 43 = .ok (.iconst 0, 1) := by decide +kernel
theorem d_Paths_isAtOrIn_44 : decode b_Paths_isAtOrIn 44 = .ok (.ireturn, 1) := by decide +kernel
theorem d_Paths_isDirectlyIn_0 : decode b_Paths_isDirectlyIn 0 = .ok (.aload_n 1, 1) := by decide +kernel
theorem d_Paths_isDirectlyIn_1 : decode b_Paths_isDirectlyIn 1 = .ok (.getfield 19, 3) := by decide +kernel
theorem d_Paths_isDirectlyIn_4 : decode b_Paths_isDirectlyIn 4 = .ok (.istore_n 2, 1) := by decide +kernel
theorem d_Paths_isDirectlyIn_5 : decode b_Paths_isDirectlyIn 5 = .ok (.aload_n 0, 1) := by decide +kernel
theorem d_Paths_isDirectlyIn_6 : decode b_Paths_isDirectlyIn 6 = .ok (.getfield 19, 3) := by decide +kernel
theorem d_Paths_isDirectlyIn_9 : decode b_Paths_isDirectlyIn 9 = .ok (.iload_n 2, 1) := by decide +kernel
theorem d_Paths_isDirectlyIn_10 : decode b_Paths_isDirectlyIn 10 = .ok (.if_icmp .le 24, 3) := by decide +kernel
theorem d_Paths_isDirectlyIn_13 : decode b_Paths_isDirectlyIn 13 = .ok (.aload_n 0, 1) := by decide +kernel
theorem d_Paths_isDirectlyIn_14 : decode b_Paths_isDirectlyIn 14 = .ok (.aload_n 1, 1) := by decide +kernel
theorem d_Paths_isDirectlyIn_15 : decode b_Paths_isDirectlyIn 15 = .ok (.iload_n 2, 1) := by decide +kernel
theorem d_Paths_isDirectlyIn_16 : decode b_Paths_isDirectlyIn 16 = .ok (.invokevirtual 23, 3) := by decide +kernel
theorem d_Paths_isDirectlyIn_19 : decode b_Paths_isDirectlyIn 19 = .ok (.ifCond .eq 15, 3) := by decide +kernel
theorem d_Paths_isDirectlyIn_22 : decode b_Paths_isDirectlyIn 22 = .ok (.aload_n 0, 1) := by decide +kernel
theorem d_Paths_isDirectlyIn_23 : decode b_Paths_isDirectlyIn 23 = .ok (.invokestatic 27, 3) := by decide +kernel
theorem d_Paths_isDirectlyIn_26 : decode b_Paths_isDirectlyIn 26 = .ok (.iload_n 2, 1) := by decide +kernel
theorem d_Paths_isDirectlyIn_27 : decode b_Paths_isDirectlyIn 27 = .ok (.if_icmp .ne 7, 3) := by decide +kernel
theorem d_Paths_isDirectlyIn_30 : decode b_Paths_isDirectlyIn 30 = .ok (.iconst 1, 1) := by decide +kernel
theorem d_Paths_isDirectlyIn_31 : decode b_Paths_isDirectlyIn 31 = .ok (.goto 4, 3) := by decide +kernel
theorem d_Paths_isDirectlyIn_34 : decode b_Paths_isDirectlyIn 34 = .ok (.iconst 0, 1) := by decide +kernel
theorem d_Paths_isDirectlyIn_35 : decode b_Paths_isDirectlyIn 35 = .ok (.ireturn, 1) := by decide +kernel
theorem d_Paths_homeLength_0 : decode b_Paths_homeLength 0 = .ok (.iconst 0, 1) := by decide +kernel
theorem d_Paths_homeLength_1 : decode b_Paths_homeLength 1 = .ok (.istore_n 1, 1) := by decide +kernel
theorem d_Paths_homeLength_2 : decode b_Paths_homeLength 2 = .ok (.iconst 1, 1) := by decide +kernel
theorem d_Paths_homeLength_3 : decode b_Paths_homeLength 3 = .ok (.istore_n 2, 1) := by decide +kernel
theorem d_Paths_homeLength_4 : decode b_Paths_homeLength 4 = .ok (.iload_n 2, 1) := by decide +kernel
theorem d_Paths_homeLength_5 : decode b_Paths_homeLength 5 = .ok (.aload_n 0, 1) := by decide +kernel
theorem d_Paths_homeLength_6 : decode b_Paths_homeLength 6 = .ok (.getfield 19, 3) := by decide +kernel
theorem d_Paths_homeLength_9 : decode b_Paths_homeLength 9 = .ok (.if_icmp .ge 21, 3) := by decide +kernel
theorem d_Paths_homeLength_12 : decode b_Paths_homeLength 12 = .ok (.aload_n 0, 1) := by decide +kernel
theorem d_Paths_homeLength_13 : decode b_Paths_homeLength 13 = .ok (.iload_n 2, 1) := by decide +kernel
theorem d_Paths_homeLength_14 : decode b_Paths_homeLength 14 = .ok (.invokevirtual 9, 3) := by decide +kernel
theorem d_Paths_homeLength_17 : decode b_Paths_homeLength 17 = .ok (.bipush 47, 2) := by decide +kernel
theorem d_Paths_homeLength_19 : decode b_Paths_homeLength 19 = .ok (.if_icmp .ne 5, 3) := by decide +kernel
theorem d_Paths_homeLength_22 : decode b_Paths_homeLength 22 = .ok (.iload_n 2, 1) := by decide +kernel
theorem d_Paths_homeLength_23 : decode b_Paths_homeLength 23 = .ok (.istore_n 1, 1) := by decide +kernel
theorem d_Paths_homeLength_24 : decode b_Paths_homeLength 24 = .ok (.iinc 2 1, 3) := by decide +kernel
theorem d_Paths_homeLength_27 : decode b_Paths_homeLength 27 = .ok (.goto (-23), 3) := by decide +kernel
theorem d_Paths_homeLength_30 : decode b_Paths_homeLength 30 = .ok (.iconst 1, 1) := by decide +kernel
theorem d_Paths_homeLength_31 : decode b_Paths_homeLength 31 = .ok (.iload_n 1, 1) := by decide +kernel
theorem d_Paths_homeLength_32 : decode b_Paths_homeLength 32 = .ok (.invokestatic 31, 3) := by decide +kernel
theorem d_Paths_homeLength_35 : decode b_Paths_homeLength 35 = .ok (.ireturn, 1) := by decide +kernel
theorem d_Paths_segments_0 : decode b_Paths_segments 0 = .ok (.aload_n 0, 1) := by decide +kernel
theorem d_Paths_segments_1 : decode b_Paths_segments 1 = .ok (.invokestatic 37, 3) := by decide +kernel
theorem d_Paths_segments_4 : decode b_Paths_segments 4 = .ok (.ifCond .eq 5, 3) := by decide +kernel
theorem d_Paths_segments_7 : decode b_Paths_segments 7 = .ok (.iconst 0, 1) := by decide +kernel
theorem d_Paths_segments_8 : decode b_Paths_segments 8 = .ok (.ireturn, 1) := by decide +kernel
theorem d_Paths_segments_9 : decode b_Paths_segments 9 = .ok (.iconst 0, 1) := by decide +kernel
theorem d_Paths_segments_10 : decode b_Paths_segments 10 = .ok (.istore_n 1, 1) := by decide +kernel
theorem d_Paths_segments_11 : decode b_Paths_segments 11 = .ok (.iconst 0, 1) := by decide +kernel
theorem d_Paths_segments_12 : decode b_Paths_segments 12 = .ok (.istore_n 2, 1) := by decide +kernel
theorem d_Paths_segments_13 : decode b_Paths_segments 13 = .ok (.iload_n 2, 1) := by decide +kernel
theorem d_Paths_segments_14 : decode b_Paths_segments 14 = .ok (.aload_n 0, 1) := by decide +kernel
theorem d_Paths_segments_15 : decode b_Paths_segments 15 = .ok (.getfield 19, 3) := by decide +kernel
theorem d_Paths_segments_18 : decode b_Paths_segments 18 = .ok (.if_icmp .ge 27, 3) := by decide +kernel
theorem d_Paths_segments_21 : decode b_Paths_segments 21 = .ok (.iload_n 1, 1) := by decide +kernel
theorem d_Paths_segments_22 : decode b_Paths_segments 22 = .ok (.aload_n 0, 1) := by decide +kernel
theorem d_Paths_segments_23 : decode b_Paths_segments 23 = .ok (.iload_n 2, 1) := by decide +kernel
theorem d_Paths_segments_24 : decode b_Paths_segments 24 = .ok (.invokevirtual 9, 3) := by decide +kernel
theorem d_Paths_segments_27 : decode b_Paths_segments 27 = .ok (.bipush 47, 2) := by decide +kernel
theorem d_Paths_segments_29 : decode b_Paths_segments 29 = .ok (.if_icmp .ne 7, 3) := by decide +kernel
theorem d_Paths_segments_32 : decode b_Paths_segments 32 = .ok (.iconst 1, 1) := by decide +kernel
theorem d_Paths_segments_33 : decode b_Paths_segments 33 = .ok (.goto 4, 3) := by decide +kernel
theorem d_Paths_segments_36 : decode b_Paths_segments 36 = .ok (.iconst 0, 1) := by decide +kernel
theorem d_Paths_segments_37 : decode b_Paths_segments 37 = .ok (.iadd, 1) := by decide +kernel
theorem d_Paths_segments_38 : decode b_Paths_segments 38 = .ok (.istore_n 1, 1) := by decide +kernel
theorem d_Paths_segments_39 : decode b_Paths_segments 39 = .ok (.iinc 2 1, 3) := by decide +kernel
theorem d_Paths_segments_42 : decode b_Paths_segments 42 = .ok (.goto (-29), 3) := by decide +kernel
theorem d_Paths_segments_45 : decode b_Paths_segments 45 = .ok (.iload_n 1, 1) := by decide +kernel
theorem d_Paths_segments_46 : decode b_Paths_segments 46 = .ok (.ireturn, 1) := by decide +kernel
set_option maxHeartbeats 4000000 in
set_option maxRecDepth 100000 in
theorem c_Paths_isLetter (l : Launch) (K : gK) (E : gE) (n : Nat) (hn : n < 2 ^ 31) : gMi l y_Paths_isLetter b_Paths_isLetter 1 .boolean 0 0 K E [.int (nI n)] (fun r E' => r = bI (isLet n) ∧ E' = E) := by
  refine g_meti (by decide +kernel) (Nat.le_of_ble_eq_true rfl) (fun X hl C hR => ?_)
  subst hl
  show gW X K E 0 [(0, .int (nI n))] []
  refine g_iload_n (pc := 0) C d_Paths_isLetter_0 0 rfl ?_
  refine g_bipush (pc := 1) (v := nI 97) C d_Paths_isLetter_1 (by decide) ?_
  refine g_icmp_ltN (pc := 3) C 12 d_Paths_isLetter_3 (by decide) (by omega) (by omega) (fun h_3 => ?_) (fun h_3 => ?_)
  · skip
    refine g_iload_n (pc := 12) C d_Paths_isLetter_12 0 rfl ?_
    refine g_bipush (pc := 13) (v := nI 48) C d_Paths_isLetter_13 (by decide) ?_
    refine g_icmp_ltN (pc := 15) C 24 d_Paths_isLetter_15 (by decide) (by omega) (by omega) (fun h_15 => ?_) (fun h_15 => ?_)
    · skip
      refine g_iload_n (pc := 24) C d_Paths_isLetter_24 0 rfl ?_
      refine g_bipush (pc := 25) (v := nI 45) C d_Paths_isLetter_25 (by decide) ?_
      refine g_icmp_eqN (pc := 27) C 36 d_Paths_isLetter_27 (by decide) (by omega) (by omega) (fun h_27 => ?_) (fun h_27 => ?_)
      · skip
        refine g_iconst (pc := 36) (v := nI 1) C d_Paths_isLetter_36 (by decide) ?_
        refine g_goto (pc := 37) C 41 d_Paths_isLetter_37 (by decide) ?_
        refine g_zret (pc := 41) C hR rfl d_Paths_isLetter_41 ?_
        first
          | exact ⟨by rw [isLet, decide_eq_true (by omega)]; rfl, rfl⟩
          | exact ⟨by rw [isLet, decide_eq_false (by omega)]; rfl, rfl⟩
      · skip
        refine g_iload_n (pc := 30) C d_Paths_isLetter_30 0 rfl ?_
        refine g_bipush (pc := 31) (v := nI 46) C d_Paths_isLetter_31 (by decide) ?_
        refine g_icmp_neN (pc := 33) C 40 d_Paths_isLetter_33 (by decide) (by omega) (by omega) (fun h_33 => ?_) (fun h_33 => ?_)
        · skip
          refine g_iconst (pc := 40) (v := nI 0) C d_Paths_isLetter_40 (by decide) ?_
          refine g_zret (pc := 41) C hR rfl d_Paths_isLetter_41 ?_
          first
            | exact ⟨by rw [isLet, decide_eq_true (by omega)]; rfl, rfl⟩
            | exact ⟨by rw [isLet, decide_eq_false (by omega)]; rfl, rfl⟩
        · skip
          refine g_iconst (pc := 36) (v := nI 1) C d_Paths_isLetter_36 (by decide) ?_
          refine g_goto (pc := 37) C 41 d_Paths_isLetter_37 (by decide) ?_
          refine g_zret (pc := 41) C hR rfl d_Paths_isLetter_41 ?_
          first
            | exact ⟨by rw [isLet, decide_eq_true (by omega)]; rfl, rfl⟩
            | exact ⟨by rw [isLet, decide_eq_false (by omega)]; rfl, rfl⟩
    · skip
      refine g_iload_n (pc := 18) C d_Paths_isLetter_18 0 rfl ?_
      refine g_bipush (pc := 19) (v := nI 57) C d_Paths_isLetter_19 (by decide) ?_
      refine g_icmp_leN (pc := 21) C 36 d_Paths_isLetter_21 (by decide) (by omega) (by omega) (fun h_21 => ?_) (fun h_21 => ?_)
      · skip
        refine g_iconst (pc := 36) (v := nI 1) C d_Paths_isLetter_36 (by decide) ?_
        refine g_goto (pc := 37) C 41 d_Paths_isLetter_37 (by decide) ?_
        refine g_zret (pc := 41) C hR rfl d_Paths_isLetter_41 ?_
        first
          | exact ⟨by rw [isLet, decide_eq_true (by omega)]; rfl, rfl⟩
          | exact ⟨by rw [isLet, decide_eq_false (by omega)]; rfl, rfl⟩
      · skip
        refine g_iload_n (pc := 24) C d_Paths_isLetter_24 0 rfl ?_
        refine g_bipush (pc := 25) (v := nI 45) C d_Paths_isLetter_25 (by decide) ?_
        refine g_icmp_eqN (pc := 27) C 36 d_Paths_isLetter_27 (by decide) (by omega) (by omega) (fun h_27 => ?_) (fun h_27 => ?_)
        · skip
          refine g_iconst (pc := 36) (v := nI 1) C d_Paths_isLetter_36 (by decide) ?_
          refine g_goto (pc := 37) C 41 d_Paths_isLetter_37 (by decide) ?_
          refine g_zret (pc := 41) C hR rfl d_Paths_isLetter_41 ?_
          first
            | exact ⟨by rw [isLet, decide_eq_true (by omega)]; rfl, rfl⟩
            | exact ⟨by rw [isLet, decide_eq_false (by omega)]; rfl, rfl⟩
        · skip
          refine g_iload_n (pc := 30) C d_Paths_isLetter_30 0 rfl ?_
          refine g_bipush (pc := 31) (v := nI 46) C d_Paths_isLetter_31 (by decide) ?_
          refine g_icmp_neN (pc := 33) C 40 d_Paths_isLetter_33 (by decide) (by omega) (by omega) (fun h_33 => ?_) (fun h_33 => ?_)
          · skip
            refine g_iconst (pc := 40) (v := nI 0) C d_Paths_isLetter_40 (by decide) ?_
            refine g_zret (pc := 41) C hR rfl d_Paths_isLetter_41 ?_
            first
              | exact ⟨by rw [isLet, decide_eq_true (by omega)]; rfl, rfl⟩
              | exact ⟨by rw [isLet, decide_eq_false (by omega)]; rfl, rfl⟩
          · skip
            refine g_iconst (pc := 36) (v := nI 1) C d_Paths_isLetter_36 (by decide) ?_
            refine g_goto (pc := 37) C 41 d_Paths_isLetter_37 (by decide) ?_
            refine g_zret (pc := 41) C hR rfl d_Paths_isLetter_41 ?_
            first
              | exact ⟨by rw [isLet, decide_eq_true (by omega)]; rfl, rfl⟩
              | exact ⟨by rw [isLet, decide_eq_false (by omega)]; rfl, rfl⟩
  · skip
    refine g_iload_n (pc := 6) C d_Paths_isLetter_6 0 rfl ?_
    refine g_bipush (pc := 7) (v := nI 122) C d_Paths_isLetter_7 (by decide) ?_
    refine g_icmp_leN (pc := 9) C 36 d_Paths_isLetter_9 (by decide) (by omega) (by omega) (fun h_9 => ?_) (fun h_9 => ?_)
    · skip
      refine g_iconst (pc := 36) (v := nI 1) C d_Paths_isLetter_36 (by decide) ?_
      refine g_goto (pc := 37) C 41 d_Paths_isLetter_37 (by decide) ?_
      refine g_zret (pc := 41) C hR rfl d_Paths_isLetter_41 ?_
      first
        | exact ⟨by rw [isLet, decide_eq_true (by omega)]; rfl, rfl⟩
        | exact ⟨by rw [isLet, decide_eq_false (by omega)]; rfl, rfl⟩
    · skip
      refine g_iload_n (pc := 12) C d_Paths_isLetter_12 0 rfl ?_
      refine g_bipush (pc := 13) (v := nI 48) C d_Paths_isLetter_13 (by decide) ?_
      refine g_icmp_ltN (pc := 15) C 24 d_Paths_isLetter_15 (by decide) (by omega) (by omega) (fun h_15 => ?_) (fun h_15 => ?_)
      · skip
        refine g_iload_n (pc := 24) C d_Paths_isLetter_24 0 rfl ?_
        refine g_bipush (pc := 25) (v := nI 45) C d_Paths_isLetter_25 (by decide) ?_
        refine g_icmp_eqN (pc := 27) C 36 d_Paths_isLetter_27 (by decide) (by omega) (by omega) (fun h_27 => ?_) (fun h_27 => ?_)
        · skip
          refine g_iconst (pc := 36) (v := nI 1) C d_Paths_isLetter_36 (by decide) ?_
          refine g_goto (pc := 37) C 41 d_Paths_isLetter_37 (by decide) ?_
          refine g_zret (pc := 41) C hR rfl d_Paths_isLetter_41 ?_
          first
            | exact ⟨by rw [isLet, decide_eq_true (by omega)]; rfl, rfl⟩
            | exact ⟨by rw [isLet, decide_eq_false (by omega)]; rfl, rfl⟩
        · skip
          refine g_iload_n (pc := 30) C d_Paths_isLetter_30 0 rfl ?_
          refine g_bipush (pc := 31) (v := nI 46) C d_Paths_isLetter_31 (by decide) ?_
          refine g_icmp_neN (pc := 33) C 40 d_Paths_isLetter_33 (by decide) (by omega) (by omega) (fun h_33 => ?_) (fun h_33 => ?_)
          · skip
            refine g_iconst (pc := 40) (v := nI 0) C d_Paths_isLetter_40 (by decide) ?_
            refine g_zret (pc := 41) C hR rfl d_Paths_isLetter_41 ?_
            first
              | exact ⟨by rw [isLet, decide_eq_true (by omega)]; rfl, rfl⟩
              | exact ⟨by rw [isLet, decide_eq_false (by omega)]; rfl, rfl⟩
          · skip
            refine g_iconst (pc := 36) (v := nI 1) C d_Paths_isLetter_36 (by decide) ?_
            refine g_goto (pc := 37) C 41 d_Paths_isLetter_37 (by decide) ?_
            refine g_zret (pc := 41) C hR rfl d_Paths_isLetter_41 ?_
            first
              | exact ⟨by rw [isLet, decide_eq_true (by omega)]; rfl, rfl⟩
              | exact ⟨by rw [isLet, decide_eq_false (by omega)]; rfl, rfl⟩
      · skip
        refine g_iload_n (pc := 18) C d_Paths_isLetter_18 0 rfl ?_
        refine g_bipush (pc := 19) (v := nI 57) C d_Paths_isLetter_19 (by decide) ?_
        refine g_icmp_leN (pc := 21) C 36 d_Paths_isLetter_21 (by decide) (by omega) (by omega) (fun h_21 => ?_) (fun h_21 => ?_)
        · skip
          refine g_iconst (pc := 36) (v := nI 1) C d_Paths_isLetter_36 (by decide) ?_
          refine g_goto (pc := 37) C 41 d_Paths_isLetter_37 (by decide) ?_
          refine g_zret (pc := 41) C hR rfl d_Paths_isLetter_41 ?_
          first
            | exact ⟨by rw [isLet, decide_eq_true (by omega)]; rfl, rfl⟩
            | exact ⟨by rw [isLet, decide_eq_false (by omega)]; rfl, rfl⟩
        · skip
          refine g_iload_n (pc := 24) C d_Paths_isLetter_24 0 rfl ?_
          refine g_bipush (pc := 25) (v := nI 45) C d_Paths_isLetter_25 (by decide) ?_
          refine g_icmp_eqN (pc := 27) C 36 d_Paths_isLetter_27 (by decide) (by omega) (by omega) (fun h_27 => ?_) (fun h_27 => ?_)
          · skip
            refine g_iconst (pc := 36) (v := nI 1) C d_Paths_isLetter_36 (by decide) ?_
            refine g_goto (pc := 37) C 41 d_Paths_isLetter_37 (by decide) ?_
            refine g_zret (pc := 41) C hR rfl d_Paths_isLetter_41 ?_
            first
              | exact ⟨by rw [isLet, decide_eq_true (by omega)]; rfl, rfl⟩
              | exact ⟨by rw [isLet, decide_eq_false (by omega)]; rfl, rfl⟩
          · skip
            refine g_iload_n (pc := 30) C d_Paths_isLetter_30 0 rfl ?_
            refine g_bipush (pc := 31) (v := nI 46) C d_Paths_isLetter_31 (by decide) ?_
            refine g_icmp_neN (pc := 33) C 40 d_Paths_isLetter_33 (by decide) (by omega) (by omega) (fun h_33 => ?_) (fun h_33 => ?_)
            · skip
              refine g_iconst (pc := 40) (v := nI 0) C d_Paths_isLetter_40 (by decide) ?_
              refine g_zret (pc := 41) C hR rfl d_Paths_isLetter_41 ?_
              first
                | exact ⟨by rw [isLet, decide_eq_true (by omega)]; rfl, rfl⟩
                | exact ⟨by rw [isLet, decide_eq_false (by omega)]; rfl, rfl⟩
            · skip
              refine g_iconst (pc := 36) (v := nI 1) C d_Paths_isLetter_36 (by decide) ?_
              refine g_goto (pc := 37) C 41 d_Paths_isLetter_37 (by decide) ?_
              refine g_zret (pc := 41) C hR rfl d_Paths_isLetter_41 ?_
              first
                | exact ⟨by rw [isLet, decide_eq_true (by omega)]; rfl, rfl⟩
                | exact ⟨by rw [isLet, decide_eq_false (by omega)]; rfl, rfl⟩

set_option maxHeartbeats 4000000 in
set_option maxRecDepth 100000 in
theorem c_Paths_isRoot (l : Launch) (K : gK) (E : gE) (b cap : Nat) (bs : Bs) (hB : isB K E b cap bs) : gMi l y_Paths_isRoot b_Paths_isRoot 1 .boolean 0 0 K E [.ref (ka K b)] (fun r E' => r = bI (decide (bs.length = 1)) ∧ E' = E) := by
  obtain ⟨hb1, hle, hbN, hcap, f, hb2, hf⟩ := hB
  refine g_meti (by decide +kernel) (Nat.le_of_ble_eq_true rfl) (fun X hl C hR => ?_)
  subst hl
  show gW X K E 0 [(0, .ref (ka K b))] []
  refine g_aload_n (pc := 0) C d_Paths_isRoot_0 0 rfl ?_
  refine g_get (pc := 1) C fl_Paths_19 hb1 (by omega) rfl d_Paths_isRoot_1 ?_
  refine g_iconst (pc := 4) (v := nI 1) C d_Paths_isRoot_4 (by decide) ?_
  refine g_icmp_neN (pc := 5) C 12 d_Paths_isRoot_5 (by decide) (by omega) (by omega) (fun h_5 => ?_) (fun h_5 => ?_)
  · skip
    refine g_iconst (pc := 12) (v := nI 0) C d_Paths_isRoot_12 (by decide) ?_
    refine g_zret (pc := 13) C hR rfl d_Paths_isRoot_13 ?_
    first
      | exact ⟨by rw [decide_eq_true (by omega)]; rfl, rfl⟩
      | exact ⟨by rw [decide_eq_false (by omega)]; rfl, rfl⟩
  · skip
    refine g_iconst (pc := 8) (v := nI 1) C d_Paths_isRoot_8 (by decide) ?_
    refine g_goto (pc := 9) C 13 d_Paths_isRoot_9 (by decide) ?_
    refine g_zret (pc := 13) C hR rfl d_Paths_isRoot_13 ?_
    first
      | exact ⟨by rw [decide_eq_true (by omega)]; rfl, rfl⟩
      | exact ⟨by rw [decide_eq_false (by omega)]; rfl, rfl⟩

set_option maxHeartbeats 4000000 in
set_option maxRecDepth 100000 in
theorem c_Paths_isAtOrIn (l : Launch) (K : gK) (E : gE) (b cap : Nat) (bs : Bs) (s cap2 : Nat) (ss : Bs) (hB : isB K E b cap bs) (hO : isB K E s cap2 ss) : gMi l y_Paths_isAtOrIn b_Paths_isAtOrIn 3 .boolean 1 64 K E [.ref (ka K b), .ref (ka K s)] (fun r E' => r = bI (atIn bs ss) ∧ E' = E) := by
  have hB0 := hB
  have hO0 := hO
  obtain ⟨hb1, hle, hbN, hcap, f, hb2, hf⟩ := hB
  obtain ⟨ho1, hole, hoN, hocap, g, ho2, hg⟩ := hO
  refine g_meti (by decide +kernel) (Nat.le_of_ble_eq_true rfl) (fun X hl C hR => ?_)
  subst hl
  show gW X K E 0 [(0, .ref (ka K b)), (1, .ref (ka K s))] []
  refine g_aload_n (pc := 0) C d_Paths_isAtOrIn_0 1 rfl ?_
  refine g_get (pc := 1) C fl_Paths_19 ho1 (by omega) rfl d_Paths_isAtOrIn_1 ?_
  refine g_istore_n (pc := 4) (lv' := [(2, .int (nI ss.length)), (0, .ref (ka K b)), (1, .ref (ka K s))]) C d_Paths_isAtOrIn_4 rfl (by decide) rfl ?_
  refine g_aload_n (pc := 5) C d_Paths_isAtOrIn_5 1 rfl ?_
  refine g_aload_n (pc := 6) C d_Paths_isAtOrIn_6 2 rfl ?_
  refine g_iload_n (pc := 7) C d_Paths_isAtOrIn_7 0 rfl ?_
  refine g_ci (pc := 8) C (g_rV (As := [.ref (ka K s), .int (nI ss.length)]) (rest := []) C (c_Bytes_beginsLike _ K _ b cap bs s cap2 ss ss.length (by omega) hB0 hO0) mw_Bytes_beginsLike mo_Bytes_beginsLike ml_Paths_23 (by decide) hb1 rfl (by omega) rfl rfl (Nat.le_of_ble_eq_true rfl) d_Paths_isAtOrIn_8) (fun r8 E8 hp8 => ?_)
  rw [hp8.1, hp8.2]
  refine g_if_neB (pc := 11) C 16 d_Paths_isAtOrIn_11 (by decide) (fun h_11 => ?_) (fun h_11 => ?_)
  · skip
    refine g_aload_n (pc := 16) C d_Paths_isAtOrIn_16 1 rfl ?_
    refine g_get (pc := 17) C fl_Paths_19 hb1 (by omega) rfl d_Paths_isAtOrIn_17 ?_
    refine g_iload_n (pc := 20) C d_Paths_isAtOrIn_20 0 rfl ?_
    refine g_icmp_eqN (pc := 21) C 39 d_Paths_isAtOrIn_21 (by decide) (by omega) (by omega) (fun h_21 => ?_) (fun h_21 => ?_)
    · skip
      refine g_iconst (pc := 39) (v := nI 1) C d_Paths_isAtOrIn_39 (by decide) ?_
      refine g_goto (pc := 40) C 44 d_Paths_isAtOrIn_40 (by decide) ?_
      refine g_zret (pc := 44) C hR rfl d_Paths_isAtOrIn_44 ?_
      refine ⟨?_, rfl⟩
      rw [atIn, h_11]
      first
        | rw [decide_eq_true (show bs.length = ss.length by omega)]; rfl
        | (rw [decide_eq_false (show ¬ bs.length = ss.length by omega), decide_eq_true (show ss.length = 1 by omega)]; rfl)
        | (rw [decide_eq_false (show ¬ bs.length = ss.length by omega), decide_eq_false (show ¬ ss.length = 1 by omega), decide_eq_true h_36]; rfl)
        | (rw [decide_eq_false (show ¬ bs.length = ss.length by omega), decide_eq_false (show ¬ ss.length = 1 by omega), decide_eq_false h_36]; rfl)
    · skip
      refine g_iload_n (pc := 24) C d_Paths_isAtOrIn_24 0 rfl ?_
      refine g_iconst (pc := 25) (v := nI 1) C d_Paths_isAtOrIn_25 (by decide) ?_
      refine g_icmp_eqN (pc := 26) C 39 d_Paths_isAtOrIn_26 (by decide) (by omega) (by omega) (fun h_26 => ?_) (fun h_26 => ?_)
      · skip
        refine g_iconst (pc := 39) (v := nI 1) C d_Paths_isAtOrIn_39 (by decide) ?_
        refine g_goto (pc := 40) C 44 d_Paths_isAtOrIn_40 (by decide) ?_
        refine g_zret (pc := 44) C hR rfl d_Paths_isAtOrIn_44 ?_
        refine ⟨?_, rfl⟩
        rw [atIn, h_11]
        first
          | rw [decide_eq_true (show bs.length = ss.length by omega)]; rfl
          | (rw [decide_eq_false (show ¬ bs.length = ss.length by omega), decide_eq_true (show ss.length = 1 by omega)]; rfl)
          | (rw [decide_eq_false (show ¬ bs.length = ss.length by omega), decide_eq_false (show ¬ ss.length = 1 by omega), decide_eq_true h_36]; rfl)
          | (rw [decide_eq_false (show ¬ bs.length = ss.length by omega), decide_eq_false (show ¬ ss.length = 1 by omega), decide_eq_false h_36]; rfl)
      · skip
        refine g_aload_n (pc := 29) C d_Paths_isAtOrIn_29 1 rfl ?_
        refine g_iload_n (pc := 30) C d_Paths_isAtOrIn_30 0 rfl ?_
        refine g_ci (pc := 31) C (g_rV (As := [.int (nI ss.length)]) (rest := []) C (c_Bytes_at _ K _ b cap bs (nI ss.length) hB0) mw_Bytes_at mo_Bytes_at ml_Paths_9 (by decide) hb1 rfl (by omega) rfl rfl (Nat.le_of_ble_eq_true rfl) d_Paths_isAtOrIn_31) (fun r31 E31 hp31 => ?_)
        rw [hp31.1, hp31.2]
        refine g_bipush (pc := 34) (v := nI 47) C d_Paths_isAtOrIn_34 (by decide) ?_
        refine g_icmp_ne (pc := 36) C 43 d_Paths_isAtOrIn_36 (by decide) (fun h_36 => ?_) (fun h_36 => ?_)
        · skip
          refine g_iconst (pc := 43) (v := nI 0) C d_Paths_isAtOrIn_43 (by decide) ?_
          refine g_zret (pc := 44) C hR rfl d_Paths_isAtOrIn_44 ?_
          refine ⟨?_, rfl⟩
          rw [atIn, h_11]
          first
            | rw [decide_eq_true (show bs.length = ss.length by omega)]; rfl
            | (rw [decide_eq_false (show ¬ bs.length = ss.length by omega), decide_eq_true (show ss.length = 1 by omega)]; rfl)
            | (rw [decide_eq_false (show ¬ bs.length = ss.length by omega), decide_eq_false (show ¬ ss.length = 1 by omega), decide_eq_true h_36]; rfl)
            | (rw [decide_eq_false (show ¬ bs.length = ss.length by omega), decide_eq_false (show ¬ ss.length = 1 by omega), decide_eq_false h_36]; rfl)
        · skip
          refine g_iconst (pc := 39) (v := nI 1) C d_Paths_isAtOrIn_39 (by decide) ?_
          refine g_goto (pc := 40) C 44 d_Paths_isAtOrIn_40 (by decide) ?_
          refine g_zret (pc := 44) C hR rfl d_Paths_isAtOrIn_44 ?_
          refine ⟨?_, rfl⟩
          rw [atIn, h_11]
          first
            | rw [decide_eq_true (show bs.length = ss.length by omega)]; rfl
            | (rw [decide_eq_false (show ¬ bs.length = ss.length by omega), decide_eq_true (show ss.length = 1 by omega)]; rfl)
            | (rw [decide_eq_false (show ¬ bs.length = ss.length by omega), decide_eq_false (show ¬ ss.length = 1 by omega), decide_eq_true h_36]; rfl)
            | (rw [decide_eq_false (show ¬ bs.length = ss.length by omega), decide_eq_false (show ¬ ss.length = 1 by omega), decide_eq_false h_36]; rfl)
  · skip
    refine g_iconst (pc := 14) (v := nI 0) C d_Paths_isAtOrIn_14 (by decide) ?_
    refine g_zret (pc := 15) C hR rfl d_Paths_isAtOrIn_15 ?_
    exact ⟨by rw [atIn, h_11]; rfl, rfl⟩

set_option maxHeartbeats 4000000 in
set_option maxRecDepth 100000 in
theorem w_homeLength {X : gX} {K : gK} (C : gC X K b_Paths_homeLength "DavRoom$Paths" 3 1 64) (E : gE) (b cap : Nat) (bs : Bs) (hB : isB K E b cap bs) (hR : gRi X K .int (fun r E' => r = nI (homeLen bs) ∧ E' = E)) : ∀ (d k : Nat), 1 ≤ k → k ≤ bs.length → bs.length + 1 ≤ k + d → gW X K E 4 [(2, .int (nI k)), (1, .int (nI (cutF bs k))), (0, .ref (ka K b))] [] := by
  have hB0 := hB
  obtain ⟨hb1, hle, hbN, hcap, f, hb2, hf⟩ := hB
  intro d
  induction d with
  | zero =>
    intro k _ h1 h2
    exact absurd h2 (by omega)
  | succ d ih =>
    intro k hk1 hk hd
    have hcu := cutF_le bs k
    refine g_iload_n (pc := 4) C d_Paths_homeLength_4 0 rfl ?_
    refine g_aload_n (pc := 5) C d_Paths_homeLength_5 2 rfl ?_
    refine g_get (pc := 6) C fl_Paths_19 hb1 (by omega) rfl d_Paths_homeLength_6 ?_
    refine g_icmp_geN (pc := 9) C 30 d_Paths_homeLength_9 (by decide) (by omega) (by omega) (fun h_9 => ?_) (fun h_9 => ?_)
    · skip
      have ek : k = bs.length := by omega
      refine g_iconst (pc := 30) (v := nI 1) C d_Paths_homeLength_30 (by decide) ?_
      refine g_iload_n (pc := 31) C d_Paths_homeLength_31 1 rfl ?_
      refine g_mmaxI (pc := 32) C ml_Paths_31 (by decide) (Nat.le_of_ble_eq_true rfl) d_Paths_homeLength_32 ?_
      refine g_top (max_nI (by omega) (by omega)) ?_
      refine g_iret (pc := 35) C hR d_Paths_homeLength_35 ?_
      exact ⟨by rw [homeLen, ← ek], rfl⟩
    · skip
      have x1 := (bs[k]).toNat_lt
      refine g_aload_n (pc := 12) C d_Paths_homeLength_12 2 rfl ?_
      refine g_iload_n (pc := 13) C d_Paths_homeLength_13 0 rfl ?_
      refine g_ci (pc := 14) C (g_rV (As := [.int (nI k)]) (rest := []) C (c_Bytes_at _ K _ b cap bs (nI k) hB0) mw_Bytes_at mo_Bytes_at ml_Paths_9 (by decide) hb1 rfl (by omega) rfl rfl (Nat.le_of_ble_eq_true rfl) d_Paths_homeLength_14) (fun r14 E14 hp14 => ?_)
      rw [hp14.1, hp14.2]
      refine g_top (y := nI (bs[k].toNat)) (atI_in h_9 (by omega)) ?_
      refine g_bipush (pc := 17) (v := nI 47) C d_Paths_homeLength_17 (by decide) ?_
      refine g_icmp_neN (pc := 19) C 24 d_Paths_homeLength_19 (by decide) (by omega) (by omega) (fun h_19 => ?_) (fun h_19 => ?_)
      · skip
        refine g_iinc (pc := 24) (pl := 0) (v := nI (k + 1)) (lv' := [(2, .int (nI (k + 1))), (1, .int (nI (cutF bs k))), (0, .ref (ka K b))]) C d_Paths_homeLength_24 rfl (nI_1 _) (by decide) rfl ?_
        refine g_goto (pc := 27) C 4 d_Paths_homeLength_27 (by decide) ?_
        have e := ih (k + 1) (by omega) (by omega) (by omega)
        rw [show cutF bs (k + 1) = cutF bs k from by rw [cutF, if_neg (fun z => h_19 ((sl_iff h_9).mp z.2))]] at e
        exact g_lv [0, 1, 2] rfl e
      · skip
        refine g_iload_n (pc := 22) C d_Paths_homeLength_22 0 rfl ?_
        refine g_istore_n (pc := 23) (lv' := [(1, .int (nI k)), (2, .int (nI k)), (0, .ref (ka K b))]) C d_Paths_homeLength_23 rfl (by decide) rfl ?_
        refine g_iinc (pc := 24) (pl := 1) (v := nI (k + 1)) (lv' := [(2, .int (nI (k + 1))), (1, .int (nI k)), (0, .ref (ka K b))]) C d_Paths_homeLength_24 rfl (nI_1 _) (by decide) rfl ?_
        refine g_goto (pc := 27) C 4 d_Paths_homeLength_27 (by decide) ?_
        have e := ih (k + 1) (by omega) (by omega) (by omega)
        rw [show cutF bs (k + 1) = k from by rw [cutF, if_pos ⟨hk1, (sl_iff h_9).mpr h_19⟩]] at e
        exact g_lv [0, 1, 2] rfl e

set_option maxHeartbeats 4000000 in
set_option maxRecDepth 100000 in
theorem c_Paths_homeLength (l : Launch) (K : gK) (E : gE) (b cap : Nat) (bs : Bs) (hp : 1 ≤ bs.length) (hB : isB K E b cap bs) : gMi l y_Paths_homeLength b_Paths_homeLength 3 .int 1 64 K E [.ref (ka K b)] (fun r E' => r = nI (homeLen bs) ∧ E' = E) := by
  refine g_meti (by decide +kernel) (Nat.le_of_ble_eq_true rfl) (fun X hl C hR => ?_)
  subst hl
  show gW X K E 0 [(0, .ref (ka K b))] []
  refine g_iconst (pc := 0) (v := nI 0) C d_Paths_homeLength_0 (by decide) ?_
  refine g_istore_n (pc := 1) (lv' := [(1, .int (nI 0)), (0, .ref (ka K b))]) C d_Paths_homeLength_1 rfl (by decide) rfl ?_
  refine g_iconst (pc := 2) (v := nI 1) C d_Paths_homeLength_2 (by decide) ?_
  refine g_istore_n (pc := 3) (lv' := [(2, .int (nI 1)), (1, .int (nI 0)), (0, .ref (ka K b))]) C d_Paths_homeLength_3 rfl (by decide) rfl ?_
  exact w_homeLength C E b cap bs hB hR (bs.length + 1) 1 (Nat.le_refl _) hp (by omega)

set_option maxHeartbeats 4000000 in
set_option maxRecDepth 100000 in
theorem c_Paths_isDirectlyIn (l : Launch) (K : gK) (E : gE) (b cap : Nat) (bs : Bs) (s cap2 : Nat) (ss : Bs) (hp : 1 ≤ bs.length) (hB : isB K E b cap bs) (hO : isB K E s cap2 ss) : gMi l y_Paths_isDirectlyIn b_Paths_isDirectlyIn 3 .boolean 2 128 K E [.ref (ka K b), .ref (ka K s)] (fun r E' => r = bI (dirIn bs ss) ∧ E' = E) := by
  have hB0 := hB
  have hO0 := hO
  obtain ⟨hb1, hle, hbN, hcap, f, hb2, hf⟩ := hB
  obtain ⟨ho1, hole, hoN, hocap, g, ho2, hg⟩ := hO
  have hcu := cutF_le bs bs.length
  have hho : homeLen bs ≤ 400 := by unfold homeLen; omega
  refine g_meti (by decide +kernel) (Nat.le_of_ble_eq_true rfl) (fun X hl C hR => ?_)
  subst hl
  show gW X K E 0 [(0, .ref (ka K b)), (1, .ref (ka K s))] []
  refine g_aload_n (pc := 0) C d_Paths_isDirectlyIn_0 1 rfl ?_
  refine g_get (pc := 1) C fl_Paths_19 ho1 (by omega) rfl d_Paths_isDirectlyIn_1 ?_
  refine g_istore_n (pc := 4) (lv' := [(2, .int (nI ss.length)), (0, .ref (ka K b)), (1, .ref (ka K s))]) C d_Paths_isDirectlyIn_4 rfl (by decide) rfl ?_
  refine g_aload_n (pc := 5) C d_Paths_isDirectlyIn_5 1 rfl ?_
  refine g_get (pc := 6) C fl_Paths_19 hb1 (by omega) rfl d_Paths_isDirectlyIn_6 ?_
  refine g_iload_n (pc := 9) C d_Paths_isDirectlyIn_9 0 rfl ?_
  refine g_icmp_leN (pc := 10) C 34 d_Paths_isDirectlyIn_10 (by decide) (by omega) (by omega) (fun h_10 => ?_) (fun h_10 => ?_)
  · skip
    refine g_iconst (pc := 34) (v := nI 0) C d_Paths_isDirectlyIn_34 (by decide) ?_
    refine g_zret (pc := 35) C hR rfl d_Paths_isDirectlyIn_35 ?_
    refine ⟨?_, rfl⟩
    rw [dirIn]
    first
      | (rw [decide_eq_false (show ¬ ss.length < bs.length by omega)]; rfl)
      | (rw [h_19, Bool.and_false]; rfl)
      | (rw [decide_eq_true (show ss.length < bs.length by omega), h_19, decide_eq_true h_27]; rfl)
      | (rw [decide_eq_true (show ss.length < bs.length by omega), h_19, decide_eq_false h_27]; rfl)
  · skip
    refine g_aload_n (pc := 13) C d_Paths_isDirectlyIn_13 1 rfl ?_
    refine g_aload_n (pc := 14) C d_Paths_isDirectlyIn_14 2 rfl ?_
    refine g_iload_n (pc := 15) C d_Paths_isDirectlyIn_15 0 rfl ?_
    refine g_ci (pc := 16) C (g_rV (As := [.ref (ka K s), .int (nI ss.length)]) (rest := []) C (c_Bytes_beginsLike _ K _ b cap bs s cap2 ss ss.length (by omega) hB0 hO0) mw_Bytes_beginsLike mo_Bytes_beginsLike ml_Paths_23 (by decide) hb1 rfl (by omega) rfl rfl (Nat.le_of_ble_eq_true rfl) d_Paths_isDirectlyIn_16) (fun r16 E16 hp16 => ?_)
    rw [hp16.1, hp16.2]
    refine g_if_eqB (pc := 19) C 34 d_Paths_isDirectlyIn_19 (by decide) (fun h_19 => ?_) (fun h_19 => ?_)
    · skip
      refine g_iconst (pc := 34) (v := nI 0) C d_Paths_isDirectlyIn_34 (by decide) ?_
      refine g_zret (pc := 35) C hR rfl d_Paths_isDirectlyIn_35 ?_
      refine ⟨?_, rfl⟩
      rw [dirIn]
      first
        | (rw [decide_eq_false (show ¬ ss.length < bs.length by omega)]; rfl)
        | (rw [h_19, Bool.and_false]; rfl)
        | (rw [decide_eq_true (show ss.length < bs.length by omega), h_19, decide_eq_true h_27]; rfl)
        | (rw [decide_eq_true (show ss.length < bs.length by omega), h_19, decide_eq_false h_27]; rfl)
    · skip
      refine g_aload_n (pc := 22) C d_Paths_isDirectlyIn_22 1 rfl ?_
      refine g_ci (pc := 23) C (g_rS (As := [.ref (ka K b)]) (rest := []) C (c_Paths_homeLength _ K _ b cap bs hp hB0) mw_Paths_homeLength mo_Paths_homeLength ml_Paths_27 (by decide) rfl rfl (Nat.le_of_ble_eq_true rfl) d_Paths_isDirectlyIn_23) (fun r23 E23 hp23 => ?_)
      rw [hp23.1, hp23.2]
      refine g_iload_n (pc := 26) C d_Paths_isDirectlyIn_26 0 rfl ?_
      refine g_icmp_neN (pc := 27) C 34 d_Paths_isDirectlyIn_27 (by decide) (by omega) (by omega) (fun h_27 => ?_) (fun h_27 => ?_)
      · skip
        refine g_iconst (pc := 34) (v := nI 0) C d_Paths_isDirectlyIn_34 (by decide) ?_
        refine g_zret (pc := 35) C hR rfl d_Paths_isDirectlyIn_35 ?_
        refine ⟨?_, rfl⟩
        rw [dirIn]
        first
          | (rw [decide_eq_false (show ¬ ss.length < bs.length by omega)]; rfl)
          | (rw [h_19, Bool.and_false]; rfl)
          | (rw [decide_eq_true (show ss.length < bs.length by omega), h_19, decide_eq_true h_27]; rfl)
          | (rw [decide_eq_true (show ss.length < bs.length by omega), h_19, decide_eq_false h_27]; rfl)
      · skip
        refine g_iconst (pc := 30) (v := nI 1) C d_Paths_isDirectlyIn_30 (by decide) ?_
        refine g_goto (pc := 31) C 35 d_Paths_isDirectlyIn_31 (by decide) ?_
        refine g_zret (pc := 35) C hR rfl d_Paths_isDirectlyIn_35 ?_
        refine ⟨?_, rfl⟩
        rw [dirIn]
        first
          | (rw [decide_eq_false (show ¬ ss.length < bs.length by omega)]; rfl)
          | (rw [h_19, Bool.and_false]; rfl)
          | (rw [decide_eq_true (show ss.length < bs.length by omega), h_19, decide_eq_true h_27]; rfl)
          | (rw [decide_eq_true (show ss.length < bs.length by omega), h_19, decide_eq_false h_27]; rfl)

set_option maxHeartbeats 4000000 in
set_option maxRecDepth 100000 in
theorem w_segments {X : gX} {K : gK} (C : gC X K b_Paths_segments "DavRoom$Paths" 3 1 64) (E : gE) (b cap : Nat) (bs : Bs) (hr : ¬ bs.length = 1) (hB : isB K E b cap bs) (hR : gRi X K .int (fun r E' => r = nI (segs bs) ∧ E' = E)) : ∀ (d k : Nat), k ≤ bs.length → bs.length + 1 ≤ k + d → gW X K E 13 [(2, .int (nI k)), (1, .int (nI (segF bs k))), (0, .ref (ka K b))] [] := by
  have hB0 := hB
  obtain ⟨hb1, hle, hbN, hcap, f, hb2, hf⟩ := hB
  intro d
  induction d with
  | zero =>
    intro k h1 h2
    exact absurd h2 (by omega)
  | succ d ih =>
    intro k hk hd
    have hcu := segF_le bs k
    refine g_iload_n (pc := 13) C d_Paths_segments_13 0 rfl ?_
    refine g_aload_n (pc := 14) C d_Paths_segments_14 2 rfl ?_
    refine g_get (pc := 15) C fl_Paths_19 hb1 (by omega) rfl d_Paths_segments_15 ?_
    refine g_icmp_geN (pc := 18) C 45 d_Paths_segments_18 (by decide) (by omega) (by omega) (fun h_18 => ?_) (fun h_18 => ?_)
    · skip
      have ek : k = bs.length := by omega
      refine g_iload_n (pc := 45) C d_Paths_segments_45 1 rfl ?_
      refine g_iret (pc := 46) C hR d_Paths_segments_46 ?_
      exact ⟨by rw [segs, if_neg hr, ← ek], rfl⟩
    · skip
      have x1 := (bs[k]).toNat_lt
      refine g_iload_n (pc := 21) C d_Paths_segments_21 1 rfl ?_
      refine g_aload_n (pc := 22) C d_Paths_segments_22 2 rfl ?_
      refine g_iload_n (pc := 23) C d_Paths_segments_23 0 rfl ?_
      refine g_ci (pc := 24) C (g_rV (As := [.int (nI k)]) (rest := [.int (nI (segF bs k))]) C (c_Bytes_at _ K _ b cap bs (nI k) hB0) mw_Bytes_at mo_Bytes_at ml_Paths_9 (by decide) hb1 rfl (by omega) rfl rfl (Nat.le_of_ble_eq_true rfl) d_Paths_segments_24) (fun r24 E24 hp24 => ?_)
      rw [hp24.1, hp24.2]
      refine g_top (y := nI (bs[k].toNat)) (atI_in h_18 (by omega)) ?_
      refine g_bipush (pc := 27) (v := nI 47) C d_Paths_segments_27 (by decide) ?_
      refine g_icmp_neN (pc := 29) C 36 d_Paths_segments_29 (by decide) (by omega) (by omega) (fun h_29 => ?_) (fun h_29 => ?_)
      · skip
        refine g_iconst (pc := 36) (v := nI 0) C d_Paths_segments_36 (by decide) ?_
        refine g_iaddN (pc := 37) C d_Paths_segments_37 ?_
        refine g_istore_n (pc := 38) (lv' := [(1, .int (nI ((segF bs k) + 0))), (2, .int (nI k)), (0, .ref (ka K b))]) C d_Paths_segments_38 rfl (by decide) rfl ?_
        refine g_iinc (pc := 39) (pl := 1) (v := nI (k + 1)) (lv' := [(2, .int (nI (k + 1))), (1, .int (nI ((segF bs k) + 0))), (0, .ref (ka K b))]) C d_Paths_segments_39 rfl (nI_1 _) (by decide) rfl ?_
        refine g_goto (pc := 42) C 13 d_Paths_segments_42 (by decide) ?_
        have e := ih (k + 1) (by omega) (by omega)
        rw [show segF bs (k + 1) = (segF bs k) + 0 from by rw [segF, if_neg (fun z => h_29 ((sl_iff h_18).mp z))]] at e
        exact g_lv [0, 1, 2] rfl e
      · skip
        refine g_iconst (pc := 32) (v := nI 1) C d_Paths_segments_32 (by decide) ?_
        refine g_goto (pc := 33) C 37 d_Paths_segments_33 (by decide) ?_
        refine g_iaddN (pc := 37) C d_Paths_segments_37 ?_
        refine g_istore_n (pc := 38) (lv' := [(1, .int (nI ((segF bs k) + 1))), (2, .int (nI k)), (0, .ref (ka K b))]) C d_Paths_segments_38 rfl (by decide) rfl ?_
        refine g_iinc (pc := 39) (pl := 1) (v := nI (k + 1)) (lv' := [(2, .int (nI (k + 1))), (1, .int (nI ((segF bs k) + 1))), (0, .ref (ka K b))]) C d_Paths_segments_39 rfl (nI_1 _) (by decide) rfl ?_
        refine g_goto (pc := 42) C 13 d_Paths_segments_42 (by decide) ?_
        have e := ih (k + 1) (by omega) (by omega)
        rw [show segF bs (k + 1) = (segF bs k) + 1 from by rw [segF, if_pos ((sl_iff h_18).mpr h_29)]] at e
        exact g_lv [0, 1, 2] rfl e

set_option maxHeartbeats 4000000 in
set_option maxRecDepth 100000 in
theorem c_Paths_segments (l : Launch) (K : gK) (E : gE) (b cap : Nat) (bs : Bs) (hB : isB K E b cap bs) : gMi l y_Paths_segments b_Paths_segments 3 .int 1 64 K E [.ref (ka K b)] (fun r E' => r = nI (segs bs) ∧ E' = E) := by
  refine g_meti (by decide +kernel) (Nat.le_of_ble_eq_true rfl) (fun X hl C hR => ?_)
  subst hl
  show gW X K E 0 [(0, .ref (ka K b))] []
  refine g_aload_n (pc := 0) C d_Paths_segments_0 0 rfl ?_
  refine g_ci (pc := 1) C (g_rS (As := [.ref (ka K b)]) (rest := []) C (c_Paths_isRoot _ K _ b cap bs hB) mw_Paths_isRoot mo_Paths_isRoot ml_Paths_37 (by decide) rfl rfl (Nat.le_of_ble_eq_true rfl) d_Paths_segments_1) (fun r1 E1 hp1 => ?_)
  rw [hp1.1, hp1.2]
  refine g_if_eqB (pc := 4) C 9 d_Paths_segments_4 (by decide) (fun h_4 => ?_) (fun h_4 => ?_)
  · skip
    refine g_iconst (pc := 9) (v := nI 0) C d_Paths_segments_9 (by decide) ?_
    refine g_istore_n (pc := 10) (lv' := [(1, .int (nI 0)), (0, .ref (ka K b))]) C d_Paths_segments_10 rfl (by decide) rfl ?_
    refine g_iconst (pc := 11) (v := nI 0) C d_Paths_segments_11 (by decide) ?_
    refine g_istore_n (pc := 12) (lv' := [(2, .int (nI 0)), (1, .int (nI 0)), (0, .ref (ka K b))]) C d_Paths_segments_12 rfl (by decide) rfl ?_
    exact w_segments C E b cap bs (of_decide_eq_false h_4) hB hR (bs.length + 1) 0 (Nat.zero_le _) (by omega)
  · skip
    refine g_iconst (pc := 7) (v := nI 0) C d_Paths_segments_7 (by decide) ?_
    refine g_iret (pc := 8) C hR d_Paths_segments_8 ?_
    exact ⟨by rw [segs, if_pos (of_decide_eq_true h_4)], rfl⟩

set_option maxHeartbeats 4000000 in
set_option maxRecDepth 100000 in
theorem w_isPath {X : gX} {K : gK} (C : gC X K b_Paths_isPath "DavRoom$Paths" 8 1 64) (E : gE) (b cap : Nat) (bs : Bs) (i j : Nat) (R : Bool) (hj : j ≤ bs.length) (hB : isB K E b cap bs) (hR : gRi X K .boolean (fun r E' => r = bI R ∧ E' = E)) : ∀ (d k e n s : Nat), k ≤ j + 1 → j + 2 ≤ k + d → e ≤ k ∧ n ≤ k → s ≤ k → ((k ≤ j ∧ pS (part bs k j) s n e = R) ∨ (k = j + 1 ∧ decide (s ≤ 5) = R)) → gW X K E 39 [(6, .int (nI k)), (5, .int (nI e)), (4, .int (nI n)), (3, .int (nI s)), (0, .ref (ka K b)), (1, .int (nI i)), (2, .int (nI j))] [] := by
  have hB0 := hB
  obtain ⟨hb1, hle, hbN, hcap, f, hb2, hf⟩ := hB
  intro d
  induction d with
  | zero =>
    intro k e n s h1 h2
    exact absurd h2 (by omega)
  | succ d ih =>
    intro k e n s hk hd hen hs hor
    refine g_iload (pc := 39) C d_Paths_isPath_39 0 rfl ?_
    refine g_iload_n (pc := 41) C d_Paths_isPath_41 6 rfl ?_
    refine g_icmp_gtN (pc := 42) C 138 d_Paths_isPath_42 (by decide) (by omega) (by omega) (fun h_42 => ?_) (fun h_42 => ?_)
    · skip
      have hinv : decide (s ≤ 5) = R := by
        rcases hor with q | q
        · omega
        · exact q.2
      refine g_iload_n (pc := 138) C d_Paths_isPath_138 3 rfl ?_
      refine g_iconst (pc := 139) (v := nI 5) C d_Paths_isPath_139 (by decide) ?_
      refine g_icmp_gtN (pc := 140) C 147 d_Paths_isPath_140 (by decide) (by omega) (by omega) (fun h_140 => ?_) (fun h_140 => ?_)
      · skip
        refine g_iconst (pc := 147) (v := nI 0) C d_Paths_isPath_147 (by decide) ?_
        refine g_zret (pc := 148) C hR rfl d_Paths_isPath_148 ?_
        refine ⟨?_, rfl⟩
        rw [← hinv]
        first
          | (rw [decide_eq_true (show s ≤ 5 by omega)]; rfl)
          | (rw [decide_eq_false (show ¬ s ≤ 5 by omega)]; rfl)
      · skip
        refine g_iconst (pc := 143) (v := nI 1) C d_Paths_isPath_143 (by decide) ?_
        refine g_goto (pc := 144) C 148 d_Paths_isPath_144 (by decide) ?_
        refine g_zret (pc := 148) C hR rfl d_Paths_isPath_148 ?_
        refine ⟨?_, rfl⟩
        rw [← hinv]
        first
          | (rw [decide_eq_true (show s ≤ 5 by omega)]; rfl)
          | (rw [decide_eq_false (show ¬ s ≤ 5 by omega)]; rfl)
    · skip
      have hinv : pS (part bs k j) s n e = R := by
        rcases hor with q | q
        · exact q.2
        · omega
      refine g_iload (pc := 45) C d_Paths_isPath_45 0 rfl ?_
      refine g_iload_n (pc := 47) C d_Paths_isPath_47 6 rfl ?_
      refine g_icmp_neN (pc := 48) C 56 d_Paths_isPath_48 (by decide) (by omega) (by omega) (fun h_48 => ?_) (fun h_48 => ?_)
      · skip
        have h48 : k < j := by omega
        have hkl : k < bs.length := by omega
        have x1 := (bs[k]).toNat_lt
        refine g_aload_n (pc := 56) C d_Paths_isPath_56 4 rfl ?_
        refine g_iload (pc := 57) C d_Paths_isPath_57 0 rfl ?_
        refine g_ci (pc := 59) C (g_rV (As := [.int (nI k)]) (rest := []) C (c_Bytes_at _ K _ b cap bs (nI k) hB0) mw_Bytes_at mo_Bytes_at ml_Paths_9 (by decide) hb1 rfl (by omega) rfl rfl (Nat.le_of_ble_eq_true rfl) d_Paths_isPath_59) (fun r59 E59 hp59 => ?_)
        rw [hp59.1, hp59.2]
        refine g_top (y := nI (bs[k].toNat)) (atI_in (by omega) (by omega)) ?_
        refine g_istore (pc := 62) (lv' := [(7, .int (nI (bs[k].toNat))), (6, .int (nI k)), (5, .int (nI e)), (4, .int (nI n)), (3, .int (nI s)), (0, .ref (ka K b)), (1, .int (nI i)), (2, .int (nI j))]) C d_Paths_isPath_62 (by decide) rfl ?_
        refine g_iload (pc := 64) C d_Paths_isPath_64 0 rfl ?_
        refine g_bipush (pc := 66) (v := nI 47) C d_Paths_isPath_66 (by decide) ?_
        refine g_icmp_neN (pc := 68) C 99 d_Paths_isPath_68 (by decide) (by omega) (by omega) (fun h_68 => ?_) (fun h_68 => ?_)
        · skip
          refine g_iload (pc := 99) C d_Paths_isPath_99 0 rfl ?_
          refine g_ci (pc := 101) C (g_rS (As := [.int (nI (bs[k].toNat))]) (rest := []) C (c_Paths_isLetter _ K _ bs[k].toNat (by omega)) mw_Paths_isLetter mo_Paths_isLetter ml_Paths_15 (by decide) rfl rfl (Nat.le_of_ble_eq_true rfl) d_Paths_isPath_101) (fun r101 E101 hp101 => ?_)
          rw [hp101.1, hp101.2]
          refine g_if_eqB (pc := 104) C 130 d_Paths_isPath_104 (by decide) (fun h_104 => ?_) (fun h_104 => ?_)
          · skip
            refine g_iconst (pc := 130) (v := nI 0) C d_Paths_isPath_130 (by decide) ?_
            refine g_zret (pc := 131) C hR rfl d_Paths_isPath_131 ?_
            exact ⟨by rw [← hinv, part_cons h48 hj, pS_no h_68 h_104]; rfl, rfl⟩
          · skip
            refine g_iinc (pc := 107) (pl := 3) (v := nI (n + 1)) (lv' := [(4, .int (nI (n + 1))), (7, .int (nI (bs[k].toNat))), (6, .int (nI k)), (5, .int (nI e)), (3, .int (nI s)), (0, .ref (ka K b)), (1, .int (nI i)), (2, .int (nI j))]) C d_Paths_isPath_107 rfl (nI_1 _) (by decide) rfl ?_
            refine g_iload (pc := 110) C d_Paths_isPath_110 3 rfl ?_
            refine g_iload (pc := 112) C d_Paths_isPath_112 1 rfl ?_
            refine g_bipush (pc := 114) (v := nI 46) C d_Paths_isPath_114 (by decide) ?_
            refine g_icmp_neN (pc := 116) C 123 d_Paths_isPath_116 (by decide) (by omega) (by omega) (fun h_116 => ?_) (fun h_116 => ?_)
            · skip
              refine g_iconst (pc := 123) (v := nI 0) C d_Paths_isPath_123 (by decide) ?_
              refine g_iaddN (pc := 124) C d_Paths_isPath_124 ?_
              refine g_istore (pc := 125) (lv' := [(5, .int (nI (e + 0))), (4, .int (nI (n + 1))), (7, .int (nI (bs[k].toNat))), (6, .int (nI k)), (3, .int (nI s)), (0, .ref (ka K b)), (1, .int (nI i)), (2, .int (nI j))]) C d_Paths_isPath_125 (by decide) rfl ?_
              refine g_goto (pc := 127) C 132 d_Paths_isPath_127 (by decide) ?_
              refine g_iinc (pc := 132) (pl := 3) (v := nI (k + 1)) (lv' := [(6, .int (nI (k + 1))), (5, .int (nI (e + 0))), (4, .int (nI (n + 1))), (7, .int (nI (bs[k].toNat))), (3, .int (nI s)), (0, .ref (ka K b)), (1, .int (nI i)), (2, .int (nI j))]) C d_Paths_isPath_132 rfl (nI_1 _) (by decide) rfl ?_
              refine g_goto (pc := 135) C 39 d_Paths_isPath_135 (by decide) ?_
              exact g_lv [0, 1, 2, 4, 5, 6, 7] rfl (ih (k + 1) (e + 0) (n + 1) s (by omega) (by omega) (by omega) (by omega) (Or.inl ⟨by omega, by rw [← hinv, part_cons h48 hj, pS_let h_68 h_104, if_neg h_116]⟩))
            · skip
              refine g_iconst (pc := 119) (v := nI 1) C d_Paths_isPath_119 (by decide) ?_
              refine g_goto (pc := 120) C 124 d_Paths_isPath_120 (by decide) ?_
              refine g_iaddN (pc := 124) C d_Paths_isPath_124 ?_
              refine g_istore (pc := 125) (lv' := [(5, .int (nI (e + 1))), (4, .int (nI (n + 1))), (7, .int (nI (bs[k].toNat))), (6, .int (nI k)), (3, .int (nI s)), (0, .ref (ka K b)), (1, .int (nI i)), (2, .int (nI j))]) C d_Paths_isPath_125 (by decide) rfl ?_
              refine g_goto (pc := 127) C 132 d_Paths_isPath_127 (by decide) ?_
              refine g_iinc (pc := 132) (pl := 3) (v := nI (k + 1)) (lv' := [(6, .int (nI (k + 1))), (5, .int (nI (e + 1))), (4, .int (nI (n + 1))), (7, .int (nI (bs[k].toNat))), (3, .int (nI s)), (0, .ref (ka K b)), (1, .int (nI i)), (2, .int (nI j))]) C d_Paths_isPath_132 rfl (nI_1 _) (by decide) rfl ?_
              refine g_goto (pc := 135) C 39 d_Paths_isPath_135 (by decide) ?_
              exact g_lv [0, 1, 2, 4, 5, 6, 7] rfl (ih (k + 1) (e + 1) (n + 1) s (by omega) (by omega) (by omega) (by omega) (Or.inl ⟨by omega, by rw [← hinv, part_cons h48 hj, pS_let h_68 h_104, if_pos h_116]⟩))
        · skip
          refine g_iload (pc := 71) C d_Paths_isPath_71 3 rfl ?_
          refine g_iload (pc := 73) C d_Paths_isPath_73 2 rfl ?_
          refine g_icmp_eqN (pc := 75) C 85 d_Paths_isPath_75 (by decide) (by omega) (by omega) (fun h_75 => ?_) (fun h_75 => ?_)
          · skip
            refine g_iconst (pc := 85) (v := nI 0) C d_Paths_isPath_85 (by decide) ?_
            refine g_zret (pc := 86) C hR rfl d_Paths_isPath_86 ?_
            refine ⟨?_, rfl⟩
            rw [← hinv]
            first
              | (rw [h48, part_nil (Nat.le_refl _), pS, decide_eq_false (fun z => z.1 (by omega))]; rfl)
              | (rw [part_cons h48 hj, pS_bad h_68 (by omega)]; rfl)
          · skip
            refine g_iload (pc := 78) C d_Paths_isPath_78 3 rfl ?_
            refine g_bipush (pc := 80) (v := nI 8) C d_Paths_isPath_80 (by decide) ?_
            refine g_icmp_leN (pc := 82) C 87 d_Paths_isPath_82 (by decide) (by omega) (by omega) (fun h_82 => ?_) (fun h_82 => ?_)
            · skip
              refine g_iinc (pc := 87) (pl := 4) (v := nI (s + 1)) (lv' := [(3, .int (nI (s + 1))), (7, .int (nI (bs[k].toNat))), (6, .int (nI k)), (5, .int (nI e)), (4, .int (nI n)), (0, .ref (ka K b)), (1, .int (nI i)), (2, .int (nI j))]) C d_Paths_isPath_87 rfl (nI_1 _) (by decide) rfl ?_
              refine g_iconst (pc := 90) (v := nI 0) C d_Paths_isPath_90 (by decide) ?_
              refine g_istore (pc := 91) (lv' := [(4, .int (nI 0)), (3, .int (nI (s + 1))), (7, .int (nI (bs[k].toNat))), (6, .int (nI k)), (5, .int (nI e)), (0, .ref (ka K b)), (1, .int (nI i)), (2, .int (nI j))]) C d_Paths_isPath_91 (by decide) rfl ?_
              refine g_iconst (pc := 93) (v := nI 0) C d_Paths_isPath_93 (by decide) ?_
              refine g_istore (pc := 94) (lv' := [(5, .int (nI 0)), (4, .int (nI 0)), (3, .int (nI (s + 1))), (7, .int (nI (bs[k].toNat))), (6, .int (nI k)), (0, .ref (ka K b)), (1, .int (nI i)), (2, .int (nI j))]) C d_Paths_isPath_94 (by decide) rfl ?_
              refine g_goto (pc := 96) C 132 d_Paths_isPath_96 (by decide) ?_
              refine g_iinc (pc := 132) (pl := 4) (v := nI (k + 1)) (lv' := [(6, .int (nI (k + 1))), (5, .int (nI 0)), (4, .int (nI 0)), (3, .int (nI (s + 1))), (7, .int (nI (bs[k].toNat))), (0, .ref (ka K b)), (1, .int (nI i)), (2, .int (nI j))]) C d_Paths_isPath_132 rfl (nI_1 _) (by decide) rfl ?_
              refine g_goto (pc := 135) C 39 d_Paths_isPath_135 (by decide) ?_
              exact g_lv [0, 1, 2, 3, 5, 6, 7] rfl (ih (k + 1) 0 0 (s + 1) (by omega) (by omega) (by omega) (by omega) (Or.inl ⟨by omega, by rw [← hinv, part_cons h48 hj, pS_sl h_68 (by omega)]⟩))
            · skip
              refine g_iconst (pc := 85) (v := nI 0) C d_Paths_isPath_85 (by decide) ?_
              refine g_zret (pc := 86) C hR rfl d_Paths_isPath_86 ?_
              refine ⟨?_, rfl⟩
              rw [← hinv]
              first
                | (rw [h48, part_nil (Nat.le_refl _), pS, decide_eq_false (fun z => z.1 (by omega))]; rfl)
                | (rw [part_cons h48 hj, pS_bad h_68 (by omega)]; rfl)
      · skip
        have h48 : k = j := h_48
        refine g_bipush (pc := 51) (v := nI 47) C d_Paths_isPath_51 (by decide) ?_
        refine g_goto (pc := 53) C 62 d_Paths_isPath_53 (by decide) ?_
        refine g_istore (pc := 62) (lv' := [(7, .int (nI 47)), (6, .int (nI k)), (5, .int (nI e)), (4, .int (nI n)), (3, .int (nI s)), (0, .ref (ka K b)), (1, .int (nI i)), (2, .int (nI j))]) C d_Paths_isPath_62 (by decide) rfl ?_
        refine g_iload (pc := 64) C d_Paths_isPath_64 0 rfl ?_
        refine g_bipush (pc := 66) (v := nI 47) C d_Paths_isPath_66 (by decide) ?_
        refine g_icmp_neN (pc := 68) C 99 d_Paths_isPath_68 (by decide) (by omega) (by omega) (fun h_68 => ?_) (fun h_68 => ?_)
        · exact absurd rfl h_68
        · skip
          refine g_iload (pc := 71) C d_Paths_isPath_71 3 rfl ?_
          refine g_iload (pc := 73) C d_Paths_isPath_73 2 rfl ?_
          refine g_icmp_eqN (pc := 75) C 85 d_Paths_isPath_75 (by decide) (by omega) (by omega) (fun h_75 => ?_) (fun h_75 => ?_)
          · skip
            refine g_iconst (pc := 85) (v := nI 0) C d_Paths_isPath_85 (by decide) ?_
            refine g_zret (pc := 86) C hR rfl d_Paths_isPath_86 ?_
            refine ⟨?_, rfl⟩
            rw [← hinv]
            first
              | (rw [h48, part_nil (Nat.le_refl _), pS, decide_eq_false (fun z => z.1 (by omega))]; rfl)
              | (rw [part_cons h48 hj, pS_bad h_68 (by omega)]; rfl)
          · skip
            refine g_iload (pc := 78) C d_Paths_isPath_78 3 rfl ?_
            refine g_bipush (pc := 80) (v := nI 8) C d_Paths_isPath_80 (by decide) ?_
            refine g_icmp_leN (pc := 82) C 87 d_Paths_isPath_82 (by decide) (by omega) (by omega) (fun h_82 => ?_) (fun h_82 => ?_)
            · skip
              refine g_iinc (pc := 87) (pl := 4) (v := nI (s + 1)) (lv' := [(3, .int (nI (s + 1))), (7, .int (nI 47)), (6, .int (nI k)), (5, .int (nI e)), (4, .int (nI n)), (0, .ref (ka K b)), (1, .int (nI i)), (2, .int (nI j))]) C d_Paths_isPath_87 rfl (nI_1 _) (by decide) rfl ?_
              refine g_iconst (pc := 90) (v := nI 0) C d_Paths_isPath_90 (by decide) ?_
              refine g_istore (pc := 91) (lv' := [(4, .int (nI 0)), (3, .int (nI (s + 1))), (7, .int (nI 47)), (6, .int (nI k)), (5, .int (nI e)), (0, .ref (ka K b)), (1, .int (nI i)), (2, .int (nI j))]) C d_Paths_isPath_91 (by decide) rfl ?_
              refine g_iconst (pc := 93) (v := nI 0) C d_Paths_isPath_93 (by decide) ?_
              refine g_istore (pc := 94) (lv' := [(5, .int (nI 0)), (4, .int (nI 0)), (3, .int (nI (s + 1))), (7, .int (nI 47)), (6, .int (nI k)), (0, .ref (ka K b)), (1, .int (nI i)), (2, .int (nI j))]) C d_Paths_isPath_94 (by decide) rfl ?_
              refine g_goto (pc := 96) C 132 d_Paths_isPath_96 (by decide) ?_
              refine g_iinc (pc := 132) (pl := 4) (v := nI (k + 1)) (lv' := [(6, .int (nI (k + 1))), (5, .int (nI 0)), (4, .int (nI 0)), (3, .int (nI (s + 1))), (7, .int (nI 47)), (0, .ref (ka K b)), (1, .int (nI i)), (2, .int (nI j))]) C d_Paths_isPath_132 rfl (nI_1 _) (by decide) rfl ?_
              refine g_goto (pc := 135) C 39 d_Paths_isPath_135 (by decide) ?_
              exact g_lv [0, 1, 2, 3, 5, 6, 7] rfl (ih (k + 1) 0 0 (s + 1) (by omega) (by omega) (by omega) (by omega) (Or.inr ⟨by omega, by rw [← hinv, h48, part_nil (Nat.le_refl _), pS]; exact decide_eq_decide.mpr ⟨fun z => ⟨by omega, z⟩, fun z => z.2⟩⟩))
            · skip
              refine g_iconst (pc := 85) (v := nI 0) C d_Paths_isPath_85 (by decide) ?_
              refine g_zret (pc := 86) C hR rfl d_Paths_isPath_86 ?_
              refine ⟨?_, rfl⟩
              rw [← hinv]
              first
                | (rw [h48, part_nil (Nat.le_refl _), pS, decide_eq_false (fun z => z.1 (by omega))]; rfl)
                | (rw [part_cons h48 hj, pS_bad h_68 (by omega)]; rfl)

set_option maxHeartbeats 4000000 in
set_option maxRecDepth 100000 in
theorem c_Paths_isPath (l : Launch) (K : gK) (E : gE) (b cap : Nat) (bs : Bs) (i j : Nat) (hi : i < 2 ^ 30) (hj : j ≤ bs.length) (hB : isB K E b cap bs) : gMi l y_Paths_isPath b_Paths_isPath 8 .boolean 1 64 K E [.ref (ka K b), .int (nI i), .int (nI j)] (fun r E' => r = bI (pathOK (part bs i j)) ∧ E' = E) := by
  have hB0 := hB
  obtain ⟨hb1, hle, hbN, hcap, f, hb2, hf⟩ := hB
  refine g_meti (by decide +kernel) (Nat.le_of_ble_eq_true rfl) (fun X hl C hR => ?_)
  subst hl
  show gW X K E 0 [(0, .ref (ka K b)), (1, .int (nI i)), (2, .int (nI j))] []
  refine g_iload_n (pc := 0) C d_Paths_isPath_0 1 rfl ?_
  refine g_iload_n (pc := 1) C d_Paths_isPath_1 2 rfl ?_
  refine g_icmp_geN (pc := 2) C 15 d_Paths_isPath_2 (by decide) (by omega) (by omega) (fun h_2 => ?_) (fun h_2 => ?_)
  · skip
    refine g_iconst (pc := 15) (v := nI 0) C d_Paths_isPath_15 (by decide) ?_
    refine g_zret (pc := 16) C hR rfl d_Paths_isPath_16 ?_
    refine ⟨?_, rfl⟩
    first
      | (rw [part_nil h_2]; rfl)
      | (rw [part_cons h_2 hj, pathOK_f h_12]; rfl)
  · skip
    have hil : i < bs.length := by omega
    have x1 := (bs[i]).toNat_lt
    refine g_aload_n (pc := 5) C d_Paths_isPath_5 0 rfl ?_
    refine g_iload_n (pc := 6) C d_Paths_isPath_6 1 rfl ?_
    refine g_ci (pc := 7) C (g_rV (As := [.int (nI i)]) (rest := []) C (c_Bytes_at _ K _ b cap bs (nI i) hB0) mw_Bytes_at mo_Bytes_at ml_Paths_9 (by decide) hb1 rfl (by omega) rfl rfl (Nat.le_of_ble_eq_true rfl) d_Paths_isPath_7) (fun r7 E7 hp7 => ?_)
    rw [hp7.1, hp7.2]
    refine g_top (y := nI (bs[i].toNat)) (atI_in (by omega) (by omega)) ?_
    refine g_bipush (pc := 10) (v := nI 47) C d_Paths_isPath_10 (by decide) ?_
    refine g_icmp_eqN (pc := 12) C 17 d_Paths_isPath_12 (by decide) (by omega) (by omega) (fun h_12 => ?_) (fun h_12 => ?_)
    · skip
      have e0 : pathOK (part bs i j) = if part bs (i + 1) j = [] then true else pS (part bs (i + 1) j) 0 0 0 := by
        rw [part_cons h_2 hj, pathOK_t h_12]
      refine g_iload_n (pc := 17) C d_Paths_isPath_17 2 rfl ?_
      refine g_iload_n (pc := 18) C d_Paths_isPath_18 1 rfl ?_
      refine g_isubN (pc := 19) C (by omega) d_Paths_isPath_19 ?_
      refine g_iconst (pc := 20) (v := nI 1) C d_Paths_isPath_20 (by decide) ?_
      refine g_icmp_neN (pc := 21) C 26 d_Paths_isPath_21 (by decide) (by omega) (by omega) (fun h_21 => ?_) (fun h_21 => ?_)
      · skip
        refine g_iconst (pc := 26) (v := nI 0) C d_Paths_isPath_26 (by decide) ?_
        refine g_istore_n (pc := 27) (lv' := [(3, .int (nI 0)), (0, .ref (ka K b)), (1, .int (nI i)), (2, .int (nI j))]) C d_Paths_isPath_27 rfl (by decide) rfl ?_
        refine g_iconst (pc := 28) (v := nI 0) C d_Paths_isPath_28 (by decide) ?_
        refine g_istore (pc := 29) (lv' := [(4, .int (nI 0)), (3, .int (nI 0)), (0, .ref (ka K b)), (1, .int (nI i)), (2, .int (nI j))]) C d_Paths_isPath_29 (by decide) rfl ?_
        refine g_iconst (pc := 31) (v := nI 0) C d_Paths_isPath_31 (by decide) ?_
        refine g_istore (pc := 32) (lv' := [(5, .int (nI 0)), (4, .int (nI 0)), (3, .int (nI 0)), (0, .ref (ka K b)), (1, .int (nI i)), (2, .int (nI j))]) C d_Paths_isPath_32 (by decide) rfl ?_
        refine g_iload_n (pc := 34) C d_Paths_isPath_34 4 rfl ?_
        refine g_iconst (pc := 35) (v := nI 1) C d_Paths_isPath_35 (by decide) ?_
        refine g_iaddN (pc := 36) C d_Paths_isPath_36 ?_
        refine g_istore (pc := 37) (lv' := [(6, .int (nI (i + 1))), (5, .int (nI 0)), (4, .int (nI 0)), (3, .int (nI 0)), (0, .ref (ka K b)), (1, .int (nI i)), (2, .int (nI j))]) C d_Paths_isPath_37 (by decide) rfl ?_
        rw [e0, if_neg (fun z => by have q := congrArg List.length z; rw [part_len] at q; simp at q; omega)] at hR
        exact g_lv [0, 1, 2, 3, 4, 5, 6] rfl (w_isPath C E b cap bs i j _ hj hB0 hR (j + 2) (i + 1) 0 0 0 (by omega) (by omega) (by omega) (by omega) (Or.inl ⟨by omega, rfl⟩))
      · skip
        refine g_iconst (pc := 24) (v := nI 1) C d_Paths_isPath_24 (by decide) ?_
        refine g_zret (pc := 25) C hR rfl d_Paths_isPath_25 ?_
        exact ⟨by rw [e0, if_pos (part_nil (by omega))]; rfl, rfl⟩
    · skip
      refine g_iconst (pc := 15) (v := nI 0) C d_Paths_isPath_15 (by decide) ?_
      refine g_zret (pc := 16) C hR rfl d_Paths_isPath_16 ?_
      refine ⟨?_, rfl⟩
      first
        | (rw [part_nil h_2]; rfl)
        | (rw [part_cons h_2 hj, pathOK_f h_12]; rfl)
