/-! the tree's searches, as mathematical values -/
theorem tk_sum {α : Type} {l : List α} {k : Nat} (g : α → Nat) (h : k < l.length) : ((l.take (k + 1)).map g).sum = ((l.take k).map g).sum + g l[k] := by
  rw [tk_app h, List.map_append, List.sum_append, List.map_cons, List.map_nil, List.sum_cons, List.sum_nil, Nat.add_zero]
theorem tk_all {α : Type} {l : List α} {k : Nat} (p : α → Bool) (h : k < l.length) : (l.take (k + 1)).all p = ((l.take k).all p && p l[k]) := by
  rw [tk_app h, List.all_append, List.all_cons, List.all_nil, Bool.and_true]
theorem tk_fld {α β : Type} {l : List α} {k : Nat} (g : β → α → β) (z : β) (h : k < l.length) : (l.take (k + 1)).foldl g z = g ((l.take k).foldl g z) l[k] := by
  rw [tk_app h, List.foldl_append]
  rfl
theorem all_miss {α : Type} {l : List α} {k : Nat} (p : α → Bool) (h : k < l.length) (hp : p l[k] = false) : l.all p = false := by
  rw [List.all_eq_false]
  exact ⟨l[k], List.getElem_mem h, by rw [hp]; decide⟩
/-- the resource whose path is the first m bytes of p -/
def FP (p : Bs) (m : Nat) (v : Re) : Bool := decide (v.1.length = m) && sameN v.1 p m
/-- the collection that the path is in -/
def homeIx (rs : List Re) (p : Bs) : Option Nat := if p.length = 1 then none else match rs.findIdx? (FP p (homeLen p)) with
  | none => none
  | some i => match rs[i]? with
    | none => none
    | some v => if v.2.2.1 = true then none else some i
theorem homeIx_r {rs : List Re} {p : Bs} (h : p.length = 1) : homeIx rs p = none := by rw [homeIx, if_pos h]
theorem homeIx_n {rs : List Re} {p : Bs} (h : ¬ p.length = 1) (h2 : rs.findIdx? (FP p (homeLen p)) = none) : homeIx rs p = none := by rw [homeIx, if_neg h, h2]
theorem homeIx_f {rs : List Re} {p : Bs} {i : Nat} (h : ¬ p.length = 1) (h2 : rs.findIdx? (FP p (homeLen p)) = some i) (hi : i < rs.length) (h3 : rs[i].2.2.1 = true) : homeIx rs p = none := by
  rw [homeIx, if_neg h, h2]
  simp [hi, h3]
theorem homeIx_t {rs : List Re} {p : Bs} {i : Nat} (h : ¬ p.length = 1) (h2 : rs.findIdx? (FP p (homeLen p)) = some i) (hi : i < rs.length) (h3 : rs[i].2.2.1 = false) : homeIx rs p = some i := by
  rw [homeIx, if_neg h, h2]
  simp [hi, h3]
def reachF (p : Bs) (a : Nat) (v : Re) : Nat := if atIn v.1 p = true then max a (segs v.1) else a
theorem reach_le (p : Bs) (l : List Re) (hl : ∀ v ∈ l, v.1.length ≤ 45) : ∀ a, a ≤ 45 → l.foldl (reachF p) a ≤ 45 := by
  induction l with
  | nil => intro a h; exact h
  | cons v l ih =>
    intro a h
    refine ih (fun w hw => hl w (List.mem_cons_of_mem _ hw)) _ ?_
    unfold reachF
    have h1 := hl v List.mem_cons_self
    have h2 : segs v.1 ≤ 45 := by
      unfold segs
      have := segF_le v.1 v.1.length
      split <;> omega
    split
    · omega
    · exact h
theorem segs_le {p : Bs} (h : p.length ≤ 45) : segs p ≤ 45 := by
  unfold segs
  have := segF_le p p.length
  split <;> omega
/-- which paths a listing tells -/
def withinB (p t : Bs) (d : Nat) : Bool := if d = 2 then atIn p t else decide (p = t) || (decide (d = 1) && dirIn p t)
/-- all at the path and in it are free -/
def allFree (rs : List Re) (ls : List Lk) (p : Bs) (tok : Int32) : Bool := rs.all (fun v => !atIn v.1 p || freeB ls v.1 tok)
/-- it, all in it and the collection that it is in are free -/
def mayGo (rs : List Re) (ls : List Lk) (w : Bs) (tok : Int32) : Bool := rs.all (fun v => !(atIn v.1 w || dirIn w v.1) || freeB ls v.1 tok)

theorem fl_Res_14 : gFL "DavRoom$Resource" 14 4 0 := ⟨_, _, _, rfl, i_Res, by decide, tb1 121 rfl rfl, rfl⟩
theorem fl_Res_20 : gFL "DavRoom$Resource" 20 4 1 := ⟨_, _, _, rfl, i_Res, by decide, tb1 124 rfl rfl, rfl⟩
theorem fl_Res_27 : gFL "DavRoom$Resource" 27 4 2 := ⟨_, _, _, rfl, i_Res, by decide, tb1 127 rfl rfl, rfl⟩
theorem fl_Res_31 : gFL "DavRoom$Resource" 31 4 3 := ⟨_, _, _, rfl, i_Res, by decide, tb1 130 rfl rfl, rfl⟩
theorem ml_Res_1 : Cond.methodLink "DavRoom$Resource" 1 ⟨"java/lang/Object", "<init>", "()V"⟩ ∈ TB := tb1 118 rfl rfl
theorem ml_Res_11 : Cond.methodLink "DavRoom$Resource" 11 ⟨"DavRoom$Bytes", "<init>", "(I)V"⟩ ∈ TB := tb1 120 rfl rfl
theorem ml_Res_23 : Cond.methodLink "DavRoom$Resource" 23 ⟨"DavRoom$Bytes", "become", "(LDavRoom$Bytes;)V"⟩ ∈ TB := tb3 130 rfl rfl
theorem cl_Res_7 : Cond.classLink "DavRoom$Resource" 7 "DavRoom$Bytes" ∈ TB := tb1 119 rfl rfl
theorem fw_Res_path : gFW 4 0 (.object "DavRoom$Bytes") true := ⟨_, _, _, t_Res, rfl, t_Res_ok, n_Res, by decide, rfl, rfl⟩
theorem fw_Res_body : gFW 4 1 (.object "DavRoom$Bytes") true := ⟨_, _, _, t_Res, rfl, t_Res_ok, n_Res, by decide, rfl, rfl⟩
theorem fw_Res_isFile : gFW 4 2 (.boolean) false := ⟨_, _, _, t_Res, rfl, t_Res_ok, n_Res, by decide, rfl, rfl⟩
theorem fw_Res_version : gFW 4 3 (.int) false := ⟨_, _, _, t_Res, rfl, t_Res_ok, n_Res, by decide, rfl, rfl⟩
theorem mw_Res_init : gMW y_Res_init b_Res_init 1 none 0 := ⟨⟨tb1 6 rfl rfl, tb1 117 rfl rfl⟩, by decide +kernel⟩
theorem mw_Res_become : gMW y_Res_become b_Res_become 2 none 1 := ⟨⟨tb1 6 rfl rfl, tb3 129 rfl rfl⟩, by decide +kernel⟩
theorem mo_Res_become : gMO y_Res_become := ⟨tb3 127 rfl rfl, tb3 128 rfl rfl⟩
theorem d_Res_become_0 : decode b_Res_become 0 = .ok (.aload_n 0, 1) := by decide +kernel
theorem d_Res_become_1 : decode b_Res_become 1 = .ok (.getfield 14, 3) := by decide +kernel
theorem d_Res_become_4 : decode b_Res_become 4 = .ok (.aload_n 1, 1) := by decide +kernel
theorem d_Res_become_5 : decode b_Res_become 5 = .ok (.getfield 14, 3) := by decide +kernel
theorem d_Res_become_8 : decode b_Res_become 8 = .ok (.invokevirtual 23, 3) := by decide +kernel
theorem d_Res_become_11 : decode b_Res_become 11 = .ok (.aload_n 0, 1) := by decide +kernel
theorem d_Res_become_12 : decode b_Res_become 12 = .ok (.getfield 20, 3) := by decide +kernel
theorem d_Res_become_15 : decode b_Res_become 15 = .ok (.aload_n 1, 1) := by decide +kernel
theorem d_Res_become_16 : decode b_Res_become 16 = .ok (.getfield 20, 3) := by decide +kernel
theorem d_Res_become_19 : decode b_Res_become 19 = .ok (.invokevirtual 23, 3) := by decide +kernel
theorem d_Res_become_22 : decode b_Res_become 22 = .ok (.aload_n 0, 1) := by decide +kernel
theorem d_Res_become_23 : decode b_Res_become 23 = .ok (.aload_n 1, 1) := by decide +kernel
theorem d_Res_become_24 : decode b_Res_become 24 = .ok (.getfield 27, 3) := by decide +kernel
theorem d_Res_become_27 : decode b_Res_become 27 = .ok (.putfield 27, 3) := by decide +kernel
theorem d_Res_become_30 : decode b_Res_become 30 = .ok (.aload_n 0, 1) := by decide +kernel
theorem d_Res_become_31 : decode b_Res_become 31 = .ok (.aload_n 1, 1) := by decide +kernel
theorem d_Res_become_32 : decode b_Res_become 32 = .ok (.getfield 31, 3) := by decide +kernel
theorem d_Res_become_35 : decode b_Res_become 35 = .ok (.putfield 31, 3) := by decide +kernel
theorem d_Res_become_38 : decode b_Res_become 38 = .ok (.return_, 1) := by decide +kernel
theorem fl_Tree_37 : gFL "DavRoom$Tree" 37 0 1 := ⟨_, _, _, rfl, i_Bytes, by decide, tb1 39 rfl rfl, rfl⟩
theorem fl_Tree_16 : gFL "DavRoom$Tree" 16 4 0 := ⟨_, _, _, rfl, i_Res, by decide, tb1 122 rfl rfl, rfl⟩
theorem fl_Tree_34 : gFL "DavRoom$Tree" 34 4 1 := ⟨_, _, _, rfl, i_Res, by decide, tb1 125 rfl rfl, rfl⟩
theorem fl_Tree_30 : gFL "DavRoom$Tree" 30 4 2 := ⟨_, _, _, rfl, i_Res, by decide, tb1 128 rfl rfl, rfl⟩
theorem fl_Tree_90 : gFL "DavRoom$Tree" 90 4 3 := ⟨_, _, _, rfl, i_Res, by decide, tb1 132 rfl rfl, rfl⟩
theorem fl_Tree_11 : gFL "DavRoom$Tree" 11 5 0 := ⟨_, _, _, rfl, i_Tree, by decide, tb1 146 rfl rfl, rfl⟩
theorem fl_Tree_26 : gFL "DavRoom$Tree" 26 5 1 := ⟨_, _, _, rfl, i_Tree, by decide, tb1 147 rfl rfl, rfl⟩
theorem fl_Tree_100 : gFL "DavRoom$Tree" 100 5 2 := ⟨_, _, _, rfl, i_Tree, by decide, tb1 148 rfl rfl, rfl⟩
theorem ml_Tree_1 : Cond.methodLink "DavRoom$Tree" 1 ⟨"java/lang/Object", "<init>", "()V"⟩ ∈ TB := tb1 111 rfl rfl
theorem ml_Tree_20 : Cond.methodLink "DavRoom$Tree" 20 ⟨"DavRoom$Bytes", "add", "(I)V"⟩ ∈ TB := tb1 142 rfl rfl
theorem ml_Tree_40 : Cond.methodLink "DavRoom$Tree" 40 ⟨"DavRoom$Bytes", "beginsLike", "(LDavRoom$Bytes;I)Z"⟩ ∈ TB := tb2 192 rfl rfl
theorem ml_Tree_76 : Cond.methodLink "DavRoom$Tree" 76 ⟨"DavRoom$Paths", "isDirectlyIn", "(LDavRoom$Bytes;LDavRoom$Bytes;)Z"⟩ ∈ TB := tb2 210 rfl rfl
theorem ml_Tree_44 : Cond.methodLink "DavRoom$Tree" 44 ⟨"DavRoom$Paths", "isRoot", "(LDavRoom$Bytes;)Z"⟩ ∈ TB := tb2 218 rfl rfl
theorem ml_Tree_120 : Cond.methodLink "DavRoom$Tree" 120 ⟨"DavRoom$Bytes", "addPart", "(LDavRoom$Bytes;II)V"⟩ ∈ TB := tb2 221 rfl rfl
theorem ml_Tree_50 : Cond.methodLink "DavRoom$Tree" 50 ⟨"DavRoom$Paths", "homeLength", "(LDavRoom$Bytes;)I"⟩ ∈ TB := tb2 234 rfl rfl
theorem ml_Tree_54 : Cond.methodLink "DavRoom$Tree" 54 ⟨"DavRoom$Tree", "find", "(LDavRoom$Bytes;I)LDavRoom$Resource;"⟩ ∈ TB := tb2 235 rfl rfl
theorem ml_Tree_79 : Cond.methodLink "DavRoom$Tree" 79 ⟨"DavRoom$Tree", "isFull", "()Z"⟩ ∈ TB := tb3 20 rfl rfl
theorem ml_Tree_83 : Cond.methodLink "DavRoom$Tree" 83 ⟨"DavRoom$Bytes", "become", "(LDavRoom$Bytes;)V"⟩ ∈ TB := tb3 21 rfl rfl
theorem ml_Tree_87 : Cond.methodLink "DavRoom$Tree" 87 ⟨"DavRoom$Bytes", "clear", "()V"⟩ ∈ TB := tb3 25 rfl rfl
theorem ml_Tree_93 : Cond.methodLink "DavRoom$Tree" 93 ⟨"DavRoom$Tree", "sort", "()V"⟩ ∈ TB := tb3 26 rfl rfl
theorem ml_Tree_117 : Cond.methodLink "DavRoom$Tree" 117 ⟨"DavRoom$Bytes", "isBefore", "(LDavRoom$Bytes;)Z"⟩ ∈ TB := tb3 30 rfl rfl
theorem ml_Tree_96 : Cond.methodLink "DavRoom$Tree" 96 ⟨"DavRoom$Tree", "nextVersion", "()I"⟩ ∈ TB := tb3 38 rfl rfl
theorem ml_Tree_58 : Cond.methodLink "DavRoom$Tree" 58 ⟨"DavRoom$Paths", "isAtOrIn", "(LDavRoom$Bytes;LDavRoom$Bytes;)Z"⟩ ∈ TB := tb3 51 rfl rfl
theorem ml_Tree_71 : Cond.methodLink "DavRoom$Tree" 71 ⟨"DavRoom$Locks", "isFree", "(LDavRoom$Bytes;I)Z"⟩ ∈ TB := tb3 52 rfl rfl
theorem ml_Tree_62 : Cond.methodLink "DavRoom$Tree" 62 ⟨"DavRoom$Paths", "segments", "(LDavRoom$Bytes;)I"⟩ ∈ TB := tb3 87 rfl rfl
theorem ml_Tree_65 : Cond.methodLink "DavRoom$Tree" 65 ⟨"java/lang/Math", "max", "(II)I"⟩ ∈ TB := tb3 91 rfl rfl
theorem ml_Tree_103 : Cond.methodLink "DavRoom$Tree" 103 ⟨"DavRoom$Bytes", "replaceHead", "(ILDavRoom$Bytes;)V"⟩ ∈ TB := tb3 113 rfl rfl
theorem ml_Tree_107 : Cond.methodLink "DavRoom$Tree" 107 ⟨"DavRoom$Bytes", "isSame", "(LDavRoom$Bytes;)Z"⟩ ∈ TB := tb3 121 rfl rfl
theorem ml_Tree_110 : Cond.methodLink "DavRoom$Tree" 110 ⟨"DavRoom$Tree", "copyOne", "(LDavRoom$Resource;ILDavRoom$Bytes;)V"⟩ ∈ TB := tb3 122 rfl rfl
theorem ml_Tree_114 : Cond.methodLink "DavRoom$Tree" 114 ⟨"DavRoom$Resource", "become", "(LDavRoom$Resource;)V"⟩ ∈ TB := tb3 126 rfl rfl
theorem ml_Tree_124 : Cond.methodLink "DavRoom$Tree" 124 ⟨"DavRoom$Tree", "isWithin", "(LDavRoom$Bytes;LDavRoom$Bytes;I)Z"⟩ ∈ TB := tb3 179 rfl rfl
theorem ml_Tree_128 : Cond.methodLink "DavRoom$Tree" 128 ⟨"DavRoom$Bytes", "hasRoomFor", "(I)Z"⟩ ∈ TB := tb3 182 rfl rfl
theorem cl_Tree_9 : Cond.classLink "DavRoom$Tree" 9 "DavRoom$Resource" ∈ TB := tb1 112 rfl rfl
theorem mn_Tree_15 : Cond.methodLinkNest "DavRoom$Tree" 15 ⟨"DavRoom$Resource", "<init>", "()V"⟩ "DavRoom" ∈ NST := List.mem_of_getElem? (i := 1) rfl
theorem fw_Tree_all : gFW 5 0 (.array (.object "DavRoom$Resource")) true := ⟨_, _, _, t_Tree, rfl, t_Tree_ok, n_Tree, by decide, rfl, rfl⟩
theorem fw_Tree_size : gFW 5 1 (.int) false := ⟨_, _, _, t_Tree, rfl, t_Tree_ok, n_Tree, by decide, rfl, rfl⟩
theorem fw_Tree_lastVersion : gFW 5 2 (.int) false := ⟨_, _, _, t_Tree, rfl, t_Tree_ok, n_Tree, by decide, rfl, rfl⟩
theorem mw_Tree_init : gMW y_Tree_init b_Tree_init 2 none 0 := ⟨⟨tb1 5 rfl rfl, tb1 110 rfl rfl⟩, by decide +kernel⟩
theorem mw_Tree_besidesRoot : gMW y_Tree_besidesRoot b_Tree_besidesRoot 1 (some .int) 0 := ⟨⟨tb1 5 rfl rfl, tb3 108 rfl rfl⟩, by decide +kernel⟩
theorem mo_Tree_besidesRoot : gMO y_Tree_besidesRoot := ⟨tb3 106 rfl rfl, tb3 107 rfl rfl⟩
theorem mw_Tree_isFull : gMW y_Tree_isFull b_Tree_isFull 1 (some .boolean) 0 := ⟨⟨tb1 5 rfl rfl, tb3 15 rfl rfl⟩, by decide +kernel⟩
theorem mo_Tree_isFull : gMO y_Tree_isFull := ⟨tb3 13 rfl rfl, tb3 14 rfl rfl⟩
theorem mw_Tree_files : gMW y_Tree_files b_Tree_files 3 (some .int) 0 := ⟨⟨tb1 5 rfl rfl, tb4 0 rfl rfl⟩, by decide +kernel⟩
theorem mo_Tree_files : gMO y_Tree_files := ⟨tb3 238 rfl rfl, tb3 239 rfl rfl⟩
theorem mw_Tree_bytes : gMW y_Tree_bytes b_Tree_bytes 3 (some .int) 0 := ⟨⟨tb1 5 rfl rfl, tb4 8 rfl rfl⟩, by decide +kernel⟩
theorem mo_Tree_bytes : gMO y_Tree_bytes := ⟨tb4 6 rfl rfl, tb4 7 rfl rfl⟩
theorem mw_Tree_find : gMW y_Tree_find b_Tree_find 5 (some (.object "DavRoom$Resource")) 2 := ⟨⟨tb1 5 rfl rfl, tb2 191 rfl rfl⟩, by decide +kernel⟩
theorem mo_Tree_find : gMO y_Tree_find := ⟨tb2 189 rfl rfl, tb2 190 rfl rfl⟩
theorem mw_Tree_homeOf : gMW y_Tree_homeOf b_Tree_homeOf 3 (some (.object "DavRoom$Resource")) 1 := ⟨⟨tb1 5 rfl rfl, tb2 233 rfl rfl⟩, by decide +kernel⟩
theorem mo_Tree_homeOf : gMO y_Tree_homeOf := ⟨tb2 231 rfl rfl, tb2 232 rfl rfl⟩
theorem mw_Tree_sizeAt : gMW y_Tree_sizeAt b_Tree_sizeAt 4 (some .int) 1 := ⟨⟨tb1 5 rfl rfl, tb3 104 rfl rfl⟩, by decide +kernel⟩
theorem mo_Tree_sizeAt : gMO y_Tree_sizeAt := ⟨tb3 102 rfl rfl, tb3 103 rfl rfl⟩
theorem mw_Tree_reachOf : gMW y_Tree_reachOf b_Tree_reachOf 4 (some .int) 1 := ⟨⟨tb1 5 rfl rfl, tb3 86 rfl rfl⟩, by decide +kernel⟩
theorem mo_Tree_reachOf : gMO y_Tree_reachOf := ⟨tb3 84 rfl rfl, tb3 85 rfl rfl⟩
theorem mw_Tree_areFree : gMW y_Tree_areFree b_Tree_areFree 5 (some .boolean) 3 := ⟨⟨tb1 5 rfl rfl, tb3 96 rfl rfl⟩, by decide +kernel⟩
theorem mo_Tree_areFree : gMO y_Tree_areFree := ⟨tb3 94 rfl rfl, tb3 95 rfl rfl⟩
theorem mw_Tree_mayLeave : gMW y_Tree_mayLeave b_Tree_mayLeave 7 (some .boolean) 3 := ⟨⟨tb1 5 rfl rfl, tb3 50 rfl rfl⟩, by decide +kernel⟩
theorem mo_Tree_mayLeave : gMO y_Tree_mayLeave := ⟨tb3 48 rfl rfl, tb3 49 rfl rfl⟩
theorem mw_Tree_add : gMW y_Tree_add b_Tree_add 3 (some (.object "DavRoom$Resource")) 1 := ⟨⟨tb1 5 rfl rfl, tb3 19 rfl rfl⟩, by decide +kernel⟩
theorem mo_Tree_add : gMO y_Tree_add := ⟨tb3 17 rfl rfl, tb3 18 rfl rfl⟩
theorem mw_Tree_put : gMW y_Tree_put b_Tree_put 3 none 2 := ⟨⟨tb1 5 rfl rfl, tb3 37 rfl rfl⟩, by decide +kernel⟩
theorem mo_Tree_put : gMO y_Tree_put := ⟨tb3 35 rfl rfl, tb3 36 rfl rfl⟩
theorem mw_Tree_nextVersion : gMW y_Tree_nextVersion b_Tree_nextVersion 1 (some .int) 0 := ⟨⟨tb1 5 rfl rfl, tb3 41 rfl rfl⟩, by decide +kernel⟩
theorem mo_Tree_nextVersion : gMO y_Tree_nextVersion := ⟨tb3 40 rfl rfl, tbp 11 rfl⟩
theorem mw_Tree_removeAll : gMW y_Tree_removeAll b_Tree_removeAll 5 none 1 := ⟨⟨tb1 5 rfl rfl, tb3 69 rfl rfl⟩, by decide +kernel⟩
theorem mo_Tree_removeAll : gMO y_Tree_removeAll := ⟨tb3 67 rfl rfl, tb3 68 rfl rfl⟩
theorem mw_Tree_moveAll : gMW y_Tree_moveAll b_Tree_moveAll 4 none 2 := ⟨⟨tb1 5 rfl rfl, tb3 112 rfl rfl⟩, by decide +kernel⟩
theorem mo_Tree_moveAll : gMO y_Tree_moveAll := ⟨tb3 110 rfl rfl, tb3 111 rfl rfl⟩
theorem mw_Tree_copyAll : gMW y_Tree_copyAll b_Tree_copyAll 7 none 3 := ⟨⟨tb1 5 rfl rfl, tb3 120 rfl rfl⟩, by decide +kernel⟩
theorem mo_Tree_copyAll : gMO y_Tree_copyAll := ⟨tb3 118 rfl rfl, tb3 119 rfl rfl⟩
theorem mw_Tree_copyOne : gMW y_Tree_copyOne b_Tree_copyOne 5 none 3 := ⟨⟨tb1 5 rfl rfl, tb3 125 rfl rfl⟩, by decide +kernel⟩
theorem mo_Tree_copyOne : gMO y_Tree_copyOne := ⟨tb3 124 rfl rfl, tbp 19 rfl⟩
theorem mw_Tree_sort : gMW y_Tree_sort b_Tree_sort 4 none 0 := ⟨⟨tb1 5 rfl rfl, tb3 29 rfl rfl⟩, by decide +kernel⟩
theorem mo_Tree_sort : gMO y_Tree_sort := ⟨tb3 28 rfl rfl, tbp 10 rfl⟩
theorem mw_Tree_tellSegments : gMW y_Tree_tellSegments b_Tree_tellSegments 6 none 2 := ⟨⟨tb1 5 rfl rfl, tb2 209 rfl rfl⟩, by decide +kernel⟩
theorem mo_Tree_tellSegments : gMO y_Tree_tellSegments := ⟨tb2 207 rfl rfl, tb2 208 rfl rfl⟩
theorem mw_Tree_tellPaths : gMW y_Tree_tellPaths b_Tree_tellPaths 6 none 3 := ⟨⟨tb1 5 rfl rfl, tb3 178 rfl rfl⟩, by decide +kernel⟩
theorem mo_Tree_tellPaths : gMO y_Tree_tellPaths := ⟨tb3 176 rfl rfl, tb3 177 rfl rfl⟩
theorem mw_Tree_isWithin : gMW y_Tree_isWithin b_Tree_isWithin 3 (some .boolean) 3 := ⟨⟨tb1 5 rfl rfl, tb3 181 rfl rfl⟩, by decide +kernel⟩
theorem mo_Tree_isWithin : Cond.static y_Tree_isWithin ∈ TB := tb3 180 rfl rfl
theorem mw_Tree_become : gMW y_Tree_become b_Tree_become 3 none 1 := ⟨⟨tb1 5 rfl rfl, tb3 203 rfl rfl⟩, by decide +kernel⟩
theorem mo_Tree_become : gMO y_Tree_become := ⟨tb3 201 rfl rfl, tb3 202 rfl rfl⟩
theorem d_Tree_besidesRoot_0 : decode b_Tree_besidesRoot 0 = .ok (.aload_n 0, 1) := by decide +kernel
theorem d_Tree_besidesRoot_1 : decode b_Tree_besidesRoot 1 = .ok (.getfield 26, 3) := by decide +kernel
theorem d_Tree_besidesRoot_4 : decode b_Tree_besidesRoot 4 = .ok (.iconst 1, 1) := by decide +kernel
theorem d_Tree_besidesRoot_5 : decode b_Tree_besidesRoot 5 = .ok (.isub, 1) := by decide +kernel
theorem d_Tree_besidesRoot_6 : decode b_Tree_besidesRoot 6 = .ok (.ireturn, 1) := by decide +kernel
theorem d_Tree_isFull_0 : decode b_Tree_isFull 0 = .ok (.aload_n 0, 1) := by decide +kernel
theorem d_Tree_isFull_1 : decode b_Tree_isFull 1 = .ok (.getfield 26, 3) := by decide +kernel
theorem d_Tree_isFull_4 : decode b_Tree_isFull 4 = .ok (.aload_n 0, 1) := by decide +kernel
theorem d_Tree_isFull_5 : decode b_Tree_isFull 5 = .ok (.getfield 11, 3) := by decide +kernel
theorem d_Tree_isFull_8 : decode b_Tree_isFull 8 = .ok (.arraylength, 1) := by decide +kernel
theorem d_Tree_isFull_9 : decode b_Tree_isFull 9 = .ok (.if_icmp .lt 7, 3) := by decide +kernel
theorem d_Tree_isFull_12 : decode b_Tree_isFull 12 = .ok (.iconst 1, 1) := by decide +kernel
theorem d_Tree_isFull_13 : decode b_Tree_isFull 13 = .ok (.goto 4, 3) := by decide +kernel
theorem d_Tree_isFull_16 : decode b_Tree_isFull 16 = .ok (.iconst 0, 1) := by decide +kernel
theorem d_Tree_isFull_17 : decode b_Tree_isFull 17 = .ok (.ireturn, 1) := by decide +kernel
theorem d_Tree_files_0 : decode b_Tree_files 0 = .ok (.iconst 0, 1) := by decide +kernel
theorem d_Tree_files_1 : decode b_Tree_files 1 = .ok (.istore_n 1, 1) := by decide +kernel
theorem d_Tree_files_2 : decode b_Tree_files 2 = .ok (.iconst 0, 1) := by decide +kernel
theorem d_Tree_files_3 : decode b_Tree_files 3 = .ok (.istore_n 2, 1) := by decide +kernel
theorem d_Tree_files_4 : decode b_Tree_files 4 = .ok (.iload_n 2, 1) := by decide +kernel
theorem d_Tree_files_5 : decode b_Tree_files 5 = .ok (.aload_n 0, 1) := by decide +kernel
theorem d_Tree_files_6 : decode b_Tree_files 6 = .ok (.getfield 26, 3) := by decide +kernel
theorem d_Tree_files_9 : decode b_Tree_files 9 = .ok (.if_icmp .ge 29, 3) := by decide +kernel
theorem d_Tree_files_12 : decode b_Tree_files 12 = .ok (.iload_n 1, 1) := by decide +kernel
theorem d_Tree_files_13 : decode b_Tree_files 13 = .ok (.aload_n 0, 1) := by decide +kernel
theorem d_Tree_files_14 : decode b_Tree_files 14 = .ok (.getfield 11, 3) := by decide +kernel
theorem d_Tree_files_17 : decode b_Tree_files 17 = .ok (.iload_n 2, 1) := by decide +kernel
theorem d_Tree_files_18 : decode b_Tree_files 18 = .ok (.aaload, 1) := by decide +kernel
theorem d_Tree_files_19 : decode b_Tree_files 19 = .ok (.getfield 30, 3) := by decide +kernel
theorem d_Tree_files_22 : decode b_Tree_files 22 = .ok (.ifCond .eq 7, 3) := by decide +kernel
theorem d_Tree_files_25 : decode b_Tree_files 25 = .ok (.iconst 1, 1) := by decide +kernel
theorem d_Tree_files_26 : decode b_Tree_files 26 = .ok (.goto 4, 3) := by decide +kernel
theorem d_Tree_files_29 : decode b_Tree_files 29 = .ok (.iconst 0, 1) := by decide +kernel
theorem d_Tree_files_30 : decode b_Tree_files 30 = .ok (.iadd, 1) := by decide +kernel
theorem d_Tree_files_31 : decode b_Tree_files 31 = .ok (.istore_n 1, 1) := by decide +kernel
theorem d_Tree_files_32 : decode b_Tree_files 32 = .ok (.iinc 2 1, 3) := by decide +kernel
theorem d_Tree_files_35 : decode b_Tree_files 35 = .ok (.goto (-31), 3) := by decide +kernel
theorem d_Tree_files_38 : decode b_Tree_files 38 = .ok (.iload_n 1, 1) := by decide +kernel
theorem d_Tree_files_39 : decode b_Tree_files 39 = .ok (.ireturn, 1) := by decide +kernel
theorem d_Tree_bytes_0 : decode b_Tree_bytes 0 = .ok (.iconst 0, 1) := by decide +kernel
theorem d_Tree_bytes_1 : decode b_Tree_bytes 1 = .ok (.istore_n 1, 1) := by decide +kernel
theorem d_Tree_bytes_2 : decode b_Tree_bytes 2 = .ok (.iconst 0, 1) := by decide +kernel
theorem d_Tree_bytes_3 : decode b_Tree_bytes 3 = .ok (.istore_n 2, 1) := by decide +kernel
theorem d_Tree_bytes_4 : decode b_Tree_bytes 4 = .ok (.iload_n 2, 1) := by decide +kernel
theorem d_Tree_bytes_5 : decode b_Tree_bytes 5 = .ok (.aload_n 0, 1) := by decide +kernel
theorem d_Tree_bytes_6 : decode b_Tree_bytes 6 = .ok (.getfield 26, 3) := by decide +kernel
theorem d_Tree_bytes_9 : decode b_Tree_bytes 9 = .ok (.if_icmp .ge 24, 3) := by decide +kernel
theorem d_Tree_bytes_12 : decode b_Tree_bytes 12 = .ok (.iload_n 1, 1) := by decide +kernel
theorem d_Tree_bytes_13 : decode b_Tree_bytes 13 = .ok (.aload_n 0, 1) := by decide +kernel
theorem d_Tree_bytes_14 : decode b_Tree_bytes 14 = .ok (.getfield 11, 3) := by decide +kernel
theorem d_Tree_bytes_17 : decode b_Tree_bytes 17 = .ok (.iload_n 2, 1) := by decide +kernel
theorem d_Tree_bytes_18 : decode b_Tree_bytes 18 = .ok (.aaload, 1) := by decide +kernel
theorem d_Tree_bytes_19 : decode b_Tree_bytes 19 = .ok (.getfield 34, 3) := by decide +kernel
theorem d_Tree_bytes_22 : decode b_Tree_bytes 22 = .ok (.getfield 37, 3) := by decide +kernel
theorem d_Tree_bytes_25 : decode b_Tree_bytes 25 = .ok (.iadd, 1) := by decide +kernel
theorem d_Tree_bytes_26 : decode b_Tree_bytes 26 = .ok (.istore_n 1, 1) := by decide +kernel
theorem d_Tree_bytes_27 : decode b_Tree_bytes 27 = .ok (.iinc 2 1, 3) := by decide +kernel
theorem d_Tree_bytes_30 : decode b_Tree_bytes 30 = .ok (.goto (-26), 3) := by decide +kernel
theorem d_Tree_bytes_33 : decode b_Tree_bytes 33 = .ok (.iload_n 1, 1) := by decide +kernel
theorem d_Tree_bytes_34 : decode b_Tree_bytes 34 = .ok (.ireturn, 1) := by decide +kernel
theorem d_Tree_find_0 : decode b_Tree_find 0 = .ok (.iconst 0, 1) := by decide +kernel
theorem d_Tree_find_1 : decode b_Tree_find 1 = .ok (.istore_n 3, 1) := by decide +kernel
theorem d_Tree_find_2 : decode b_Tree_find 2 = .ok (.iload_n 3, 1) := by decide +kernel
theorem d_Tree_find_3 : decode b_Tree_find 3 = .ok (.aload_n 0, 1) := by decide +kernel
theorem d_Tree_find_4 : decode b_Tree_find 4 = .ok (.getfield 26, 3) := by decide +kernel
theorem d_Tree_find_7 : decode b_Tree_find 7 = .ok (.if_icmp .ge 46, 3) := by decide +kernel
theorem d_Tree_find_10 : decode b_Tree_find 10 = .ok (.aload_n 0, 1) := by decide +kernel
theorem d_Tree_find_11 : decode b_Tree_find 11 = .ok (.getfield 11, 3) := by decide +kernel
theorem d_Tree_find_14 : decode b_Tree_find 14 = .ok (.iload_n 3, 1) := by decide +kernel
theorem d_Tree_find_15 : decode b_Tree_find 15 = .ok (.aaload, 1) := by decide +kernel
theorem d_Tree_find_16 : decode b_Tree_find 16 = .ok (.getfield 16, 3) := by decide +kernel
theorem d_Tree_find_19 : decode b_Tree_find 19 = .ok (.astore 4, 2) := by decide +kernel
theorem d_Tree_find_21 : decode b_Tree_find 21 = .ok (.aload 4, 2) := by decide +kernel
theorem d_Tree_find_23 : decode b_Tree_find 23 = .ok (.getfield 37, 3) := by decide +kernel
theorem d_Tree_find_26 : decode b_Tree_find 26 = .ok (.iload_n 2, 1) := by decide +kernel
theorem d_Tree_find_27 : decode b_Tree_find 27 = .ok (.if_icmp .ne 20, 3) := by decide +kernel
theorem d_Tree_find_30 : decode b_Tree_find 30 = .ok (.aload 4, 2) := by decide +kernel
theorem d_Tree_find_32 : decode b_Tree_find 32 = .ok (.aload_n 1, 1) := by decide +kernel
theorem d_Tree_find_33 : decode b_Tree_find 33 = .ok (.iload_n 2, 1) := by decide +kernel
theorem d_Tree_find_34 : decode b_Tree_find 34 = .ok (.invokevirtual 40, 3) := by decide +kernel
theorem d_Tree_find_37 : decode b_Tree_find 37 = .ok (.ifCond .eq 10, 3) := by decide +kernel
theorem d_Tree_find_40 : decode b_Tree_find 40 = .ok (.aload_n 0, 1) := by decide +kernel
theorem d_Tree_find_41 : decode b_Tree_find 41 = .ok (.getfield 11, 3) := by decide +kernel
theorem d_Tree_find_44 : decode b_Tree_find 44 = .ok (.iload_n 3, 1) := by decide +kernel
theorem d_Tree_find_45 : decode b_Tree_find 45 = .ok (.aaload, 1) := by decide +kernel
theorem d_Tree_find_46 : decode b_Tree_find 46 = .ok (.areturn, 1) := by decide +kernel
theorem d_Tree_find_47 : decode b_Tree_find 47 = .ok (.iinc 3 1, 3) := by decide +kernel
theorem d_Tree_find_50 : decode b_Tree_find 50 = .ok (.goto (-48), 3) := by decide +kernel
theorem d_Tree_find_53 : decode b_Tree_find 53 = .ok (.aconst_null, 1) := by decide +kernel
theorem d_Tree_find_54 : decode b_Tree_find 54 = .ok (.areturn, 1) := by decide +kernel
theorem d_Tree_homeOf_0 : decode b_Tree_homeOf 0 = .ok (.aload_n 1, 1) := by decide +kernel
theorem d_Tree_homeOf_1 : decode b_Tree_homeOf 1 = .ok (.invokestatic 44, 3) := by decide +kernel
theorem d_Tree_homeOf_4 : decode b_Tree_homeOf 4 = .ok (.ifCond .eq 5, 3) := by decide +kernel
theorem d_Tree_homeOf_7 : decode b_Tree_homeOf 7 = .ok (.aconst_null, 1) := by decide +kernel
theorem d_Tree_homeOf_8 : decode b_Tree_homeOf 8 = .ok (.areturn, 1) := by decide +kernel
theorem d_Tree_homeOf_9 : decode b_Tree_homeOf 9 = .ok (.aload_n 0, 1) := by decide +kernel
theorem d_Tree_homeOf_10 : decode b_Tree_homeOf 10 = .ok (.aload_n 1, 1) := by decide +kernel
theorem d_Tree_homeOf_11 : decode b_Tree_homeOf 11 = .ok (.aload_n 1, 1) := by decide +kernel
theorem d_Tree_homeOf_12 : decode b_Tree_homeOf 12 = .ok (.invokestatic 50, 3) := by decide +kernel
theorem d_Tree_homeOf_15 : decode b_Tree_homeOf 15 = .ok (.invokevirtual 54, 3) := by decide +kernel
theorem d_Tree_homeOf_18 : decode b_Tree_homeOf 18 = .ok (.astore_n 2, 1) := by decide +kernel
theorem d_Tree_homeOf_19 : decode b_Tree_homeOf 19 = .ok (.aload_n 2, 1) := by decide +kernel
theorem d_Tree_homeOf_20 : decode b_Tree_homeOf 20 = .ok (.ifnull 10, 3) := by decide +kernel
theorem d_Tree_homeOf_23 : decode b_Tree_homeOf 23 = .ok (.aload_n 2, 1) := by decide +kernel
theorem d_Tree_homeOf_24 : decode b_Tree_homeOf 24 = .ok (.getfield 30, 3) := by decide +kernel
theorem d_Tree_homeOf_27 : decode b_Tree_homeOf 27 = .ok (.ifCond .eq 7, 3) := by decide +kernel
theorem d_Tree_homeOf_30 : decode b_Tree_homeOf 30 = .ok (.aconst_null, 1) := by decide +kernel
theorem d_Tree_homeOf_31 : decode b_Tree_homeOf 31 = .ok (.goto 4, 3) := by decide +kernel
theorem d_Tree_homeOf_34 : decode b_Tree_homeOf 34 = .ok (.aload_n 2, 1) := by decide +kernel
theorem d_Tree_homeOf_35 : decode b_Tree_homeOf 35 = .ok (.areturn, 1) := by decide +kernel
theorem d_Tree_sizeAt_0 : decode b_Tree_sizeAt 0 = .ok (.iconst 0, 1) := by decide +kernel
theorem d_Tree_sizeAt_1 : decode b_Tree_sizeAt 1 = .ok (.istore_n 2, 1) := by decide +kernel
theorem d_Tree_sizeAt_2 : decode b_Tree_sizeAt 2 = .ok (.iconst 0, 1) := by decide +kernel
theorem d_Tree_sizeAt_3 : decode b_Tree_sizeAt 3 = .ok (.istore_n 3, 1) := by decide +kernel
theorem d_Tree_sizeAt_4 : decode b_Tree_sizeAt 4 = .ok (.iload_n 3, 1) := by decide +kernel
theorem d_Tree_sizeAt_5 : decode b_Tree_sizeAt 5 = .ok (.aload_n 0, 1) := by decide +kernel
theorem d_Tree_sizeAt_6 : decode b_Tree_sizeAt 6 = .ok (.getfield 26, 3) := by decide +kernel
theorem d_Tree_sizeAt_9 : decode b_Tree_sizeAt 9 = .ok (.if_icmp .ge 33, 3) := by decide +kernel
theorem d_Tree_sizeAt_12 : decode b_Tree_sizeAt 12 = .ok (.iload_n 2, 1) := by decide +kernel
theorem d_Tree_sizeAt_13 : decode b_Tree_sizeAt 13 = .ok (.aload_n 0, 1) := by decide +kernel
theorem d_Tree_sizeAt_14 : decode b_Tree_sizeAt 14 = .ok (.getfield 11, 3) := by decide +kernel
theorem d_Tree_sizeAt_17 : decode b_Tree_sizeAt 17 = .ok (.iload_n 3, 1) := by decide +kernel
theorem d_Tree_sizeAt_18 : decode b_Tree_sizeAt 18 = .ok (.aaload, 1) := by decide +kernel
theorem d_Tree_sizeAt_19 : decode b_Tree_sizeAt 19 = .ok (.getfield 16, 3) := by decide +kernel
theorem d_Tree_sizeAt_22 : decode b_Tree_sizeAt 22 = .ok (.aload_n 1, 1) := by decide +kernel
theorem d_Tree_sizeAt_23 : decode b_Tree_sizeAt 23 = .ok (.invokestatic 58, 3) := by decide +kernel
theorem d_Tree_sizeAt_26 : decode b_Tree_sizeAt 26 = .ok (.ifCond .eq 7, 3) := by decide +kernel
theorem d_Tree_sizeAt_29 : decode b_Tree_sizeAt 29 = .ok (.iconst 1, 1) := by decide +kernel
theorem d_Tree_sizeAt_30 : decode b_Tree_sizeAt 30 = .ok (.goto 4, 3) := by decide +kernel
theorem d_Tree_sizeAt_33 : decode b_Tree_sizeAt 33 = .ok (.iconst 0, 1) := by decide +kernel
theorem d_Tree_sizeAt_34 : decode b_Tree_sizeAt 34 = .ok (.iadd, 1) := by decide +kernel
theorem d_Tree_sizeAt_35 : decode b_Tree_sizeAt 35 = .ok (.istore_n 2, 1) := by decide +kernel
theorem d_Tree_sizeAt_36 : decode b_Tree_sizeAt 36 = .ok (.iinc 3 1, 3) := by decide +kernel
theorem d_Tree_sizeAt_39 : decode b_Tree_sizeAt 39 = .ok (.goto (-35), 3) := by decide +kernel
theorem d_Tree_sizeAt_42 : decode b_Tree_sizeAt 42 = .ok (.iload_n 2, 1) := by decide +kernel
theorem d_Tree_sizeAt_43 : decode b_Tree_sizeAt 43 = .ok (.ireturn, 1) := by decide +kernel
theorem d_Tree_reachOf_0 : decode b_Tree_reachOf 0 = .ok (.iconst 0, 1) := by decide +kernel
theorem d_Tree_reachOf_1 : decode b_Tree_reachOf 1 = .ok (.istore_n 2, 1) := by decide +kernel
theorem d_Tree_reachOf_2 : decode b_Tree_reachOf 2 = .ok (.iconst 0, 1) := by decide +kernel
theorem d_Tree_reachOf_3 : decode b_Tree_reachOf 3 = .ok (.istore_n 3, 1) := by decide +kernel
theorem d_Tree_reachOf_4 : decode b_Tree_reachOf 4 = .ok (.iload_n 3, 1) := by decide +kernel
theorem d_Tree_reachOf_5 : decode b_Tree_reachOf 5 = .ok (.aload_n 0, 1) := by decide +kernel
theorem d_Tree_reachOf_6 : decode b_Tree_reachOf 6 = .ok (.getfield 26, 3) := by decide +kernel
theorem d_Tree_reachOf_9 : decode b_Tree_reachOf 9 = .ok (.if_icmp .ge 42, 3) := by decide +kernel
theorem d_Tree_reachOf_12 : decode b_Tree_reachOf 12 = .ok (.aload_n 0, 1) := by decide +kernel
theorem d_Tree_reachOf_13 : decode b_Tree_reachOf 13 = .ok (.getfield 11, 3) := by decide +kernel
theorem d_Tree_reachOf_16 : decode b_Tree_reachOf 16 = .ok (.iload_n 3, 1) := by decide +kernel
theorem d_Tree_reachOf_17 : decode b_Tree_reachOf 17 = .ok (.aaload, 1) := by decide +kernel
theorem d_Tree_reachOf_18 : decode b_Tree_reachOf 18 = .ok (.getfield 16, 3) := by decide +kernel
theorem d_Tree_reachOf_21 : decode b_Tree_reachOf 21 = .ok (.aload_n 1, 1) := by decide +kernel
theorem d_Tree_reachOf_22 : decode b_Tree_reachOf 22 = .ok (.invokestatic 58, 3) := by decide +kernel
theorem d_Tree_reachOf_25 : decode b_Tree_reachOf 25 = .ok (.ifCond .eq 20, 3) := by decide +kernel
theorem d_Tree_reachOf_28 : decode b_Tree_reachOf 28 = .ok (.iload_n 2, 1) := by decide +kernel
theorem d_Tree_reachOf_29 : decode b_Tree_reachOf 29 = .ok (.aload_n 0, 1) := by decide +kernel
theorem d_Tree_reachOf_30 : decode b_Tree_reachOf 30 = .ok (.getfield 11, 3) := by decide +kernel
theorem d_Tree_reachOf_33 : decode b_Tree_reachOf 33 = .ok (.iload_n 3, 1) := by decide +kernel
theorem d_Tree_reachOf_34 : decode b_Tree_reachOf 34 = .ok (.aaload, 1) := by decide +kernel
theorem d_Tree_reachOf_35 : decode b_Tree_reachOf 35 = .ok (.getfield 16, 3) := by decide +kernel
theorem d_Tree_reachOf_38 : decode b_Tree_reachOf 38 = .ok (.invokestatic 62, 3) := by decide +kernel
theorem d_Tree_reachOf_41 : decode b_Tree_reachOf 41 = .ok (.invokestatic 65, 3) := by decide +kernel
theorem d_Tree_reachOf_44 : decode b_Tree_reachOf 44 = .ok (.istore_n 2, 1) := by decide +kernel
theorem d_Tree_reachOf_45 : decode b_Tree_reachOf 45 = .ok (.iinc 3 1, 3) := by decide +kernel
theorem d_Tree_reachOf_48 : decode b_Tree_reachOf 48 = .ok (.goto (-44), 3) := by decide +kernel
theorem d_Tree_reachOf_51 : decode b_Tree_reachOf 51 = .ok (.iload_n 2, 1) := by decide +kernel
theorem d_Tree_reachOf_52 : decode b_Tree_reachOf 52 = .ok (.ireturn, 1) := by decide +kernel
theorem d_Tree_areFree_0 : decode b_Tree_areFree 0 = .ok (.iconst 0, 1) := by decide +kernel
theorem d_Tree_areFree_1 : decode b_Tree_areFree 1 = .ok (.istore 4, 2) := by decide +kernel
theorem d_Tree_areFree_3 : decode b_Tree_areFree 3 = .ok (.iload 4, 2) := by decide +kernel
theorem d_Tree_areFree_5 : decode b_Tree_areFree 5 = .ok (.aload_n 0, 1) := by decide +kernel
theorem d_Tree_areFree_6 : decode b_Tree_areFree 6 = .ok (.getfield 26, 3) := by decide +kernel
theorem d_Tree_areFree_9 : decode b_Tree_areFree 9 = .ok (.if_icmp .ge 46, 3) := by decide +kernel
theorem d_Tree_areFree_12 : decode b_Tree_areFree 12 = .ok (.aload_n 0, 1) := by decide +kernel
theorem d_Tree_areFree_13 : decode b_Tree_areFree 13 = .ok (.getfield 11, 3) := by decide +kernel
theorem d_Tree_areFree_16 : decode b_Tree_areFree 16 = .ok (.iload 4, 2) := by decide +kernel
theorem d_Tree_areFree_18 : decode b_Tree_areFree 18 = .ok (.aaload, 1) := by decide +kernel
theorem d_Tree_areFree_19 : decode b_Tree_areFree 19 = .ok (.getfield 16, 3) := by decide +kernel
theorem d_Tree_areFree_22 : decode b_Tree_areFree 22 = .ok (.aload_n 1, 1) := by decide +kernel
theorem d_Tree_areFree_23 : decode b_Tree_areFree 23 = .ok (.invokestatic 58, 3) := by decide +kernel
theorem d_Tree_areFree_26 : decode b_Tree_areFree 26 = .ok (.ifCond .eq 23, 3) := by decide +kernel
theorem d_Tree_areFree_29 : decode b_Tree_areFree 29 = .ok (.aload_n 2, 1) := by decide +kernel
theorem d_Tree_areFree_30 : decode b_Tree_areFree 30 = .ok (.aload_n 0, 1) := by decide +kernel
theorem d_Tree_areFree_31 : decode b_Tree_areFree 31 = .ok (.getfield 11, 3) := by decide +kernel
theorem d_Tree_areFree_34 : decode b_Tree_areFree 34 = .ok (.iload 4, 2) := by decide +kernel
theorem d_Tree_areFree_36 : decode b_Tree_areFree 36 = .ok (.aaload, 1) := by decide +kernel
theorem d_Tree_areFree_37 : decode b_Tree_areFree 37 = .ok (.getfield 16, 3) := by decide +kernel
theorem d_Tree_areFree_40 : decode b_Tree_areFree 40 = .ok (.iload_n 3, 1) := by decide +kernel
theorem d_Tree_areFree_41 : decode b_Tree_areFree 41 = .ok (.invokevirtual 71, 3) := by decide +kernel
theorem d_Tree_areFree_44 : decode b_Tree_areFree 44 = .ok (.ifCond .ne 5, 3) := by decide +kernel
theorem d_Tree_areFree_47 : decode b_Tree_areFree 47 = .ok (.iconst 0, 1) := by decide +kernel
theorem d_Tree_areFree_48 : decode b_Tree_areFree 48 = .ok (.ireturn, 1) := by decide +kernel
theorem d_Tree_areFree_49 : decode b_Tree_areFree 49 = .ok (.iinc 4 1, 3) := by decide +kernel
theorem d_Tree_areFree_52 : decode b_Tree_areFree 52 = .ok (.goto (-49), 3) := by decide +kernel
theorem d_Tree_areFree_55 : decode b_Tree_areFree 55 = .ok (.iconst 1, 1) := by decide +kernel
theorem d_Tree_areFree_56 : decode b_Tree_areFree 56 = .ok (.ireturn, 1) := by decide +kernel
theorem d_Tree_mayLeave_0 : decode b_Tree_mayLeave 0 = .ok (.iconst 0, 1) := by decide +kernel
theorem d_Tree_mayLeave_1 : decode b_Tree_mayLeave 1 = .ok (.istore 4, 2) := by decide +kernel
theorem d_Tree_mayLeave_3 : decode b_Tree_mayLeave 3 = .ok (.iload 4, 2) := by decide +kernel
theorem d_Tree_mayLeave_5 : decode b_Tree_mayLeave 5 = .ok (.aload_n 0, 1) := by decide +kernel
theorem d_Tree_mayLeave_6 : decode b_Tree_mayLeave 6 = .ok (.getfield 26, 3) := by decide +kernel
theorem d_Tree_mayLeave_9 : decode b_Tree_mayLeave 9 = .ok (.if_icmp .ge 69, 3) := by decide +kernel
theorem d_Tree_mayLeave_12 : decode b_Tree_mayLeave 12 = .ok (.aload_n 0, 1) := by decide +kernel
theorem d_Tree_mayLeave_13 : decode b_Tree_mayLeave 13 = .ok (.getfield 11, 3) := by decide +kernel
theorem d_Tree_mayLeave_16 : decode b_Tree_mayLeave 16 = .ok (.iload 4, 2) := by decide +kernel
theorem d_Tree_mayLeave_18 : decode b_Tree_mayLeave 18 = .ok (.aaload, 1) := by decide +kernel
theorem d_Tree_mayLeave_19 : decode b_Tree_mayLeave 19 = .ok (.getfield 16, 3) := by decide +kernel
theorem d_Tree_mayLeave_22 : decode b_Tree_mayLeave 22 = .ok (.astore 5, 2) := by decide +kernel
theorem d_Tree_mayLeave_24 : decode b_Tree_mayLeave 24 = .ok (.aload 5, 2) := by decide +kernel
theorem d_Tree_mayLeave_26 : decode b_Tree_mayLeave 26 = .ok (.aload_n 1, 1) := by decide +kernel
theorem d_Tree_mayLeave_27 : decode b_Tree_mayLeave 27 = .ok (.getfield 16, 3) := by decide +kernel
theorem d_Tree_mayLeave_30 : decode b_Tree_mayLeave 30 = .ok (.invokestatic 58, 3) := by decide +kernel
theorem d_Tree_mayLeave_33 : decode b_Tree_mayLeave 33 = .ok (.ifCond .ne 15, 3) := by decide +kernel
theorem d_Tree_mayLeave_36 : decode b_Tree_mayLeave 36 = .ok (.aload_n 1, 1) := by decide +kernel
theorem d_Tree_mayLeave_37 : decode b_Tree_mayLeave 37 = .ok (.getfield 16, 3) := by decide +kernel
theorem d_Tree_mayLeave_40 : decode b_Tree_mayLeave 40 = .ok (.aload 5, 2) := by decide +kernel
theorem d_Tree_mayLeave_42 : decode b_Tree_mayLeave 42 = .ok (.invokestatic 76, 3) := by decide +kernel
theorem d_Tree_mayLeave_45 : decode b_Tree_mayLeave 45 = .ok (.ifCond .eq 7, 3) := by decide +kernel
theorem d_Tree_mayLeave_48 : decode b_Tree_mayLeave 48 = .ok (.iconst 1, 1) := by decide +kernel
theorem d_Tree_mayLeave_49 : decode b_Tree_mayLeave 49 = .ok (.goto 4, 3) := by decide +kernel
theorem d_Tree_mayLeave_52 : decode b_Tree_mayLeave 52 = .ok (.iconst 0, 1) := by decide +kernel
theorem d_Tree_mayLeave_53 : decode b_Tree_mayLeave 53 = .ok (.istore 6, 2) := by decide +kernel
theorem d_Tree_mayLeave_55 : decode b_Tree_mayLeave 55 = .ok (.iload 6, 2) := by decide +kernel
theorem d_Tree_mayLeave_57 : decode b_Tree_mayLeave 57 = .ok (.ifCond .eq 15, 3) := by decide +kernel
theorem d_Tree_mayLeave_60 : decode b_Tree_mayLeave 60 = .ok (.aload_n 2, 1) := by decide +kernel
theorem d_Tree_mayLeave_61 : decode b_Tree_mayLeave 61 = .ok (.aload 5, 2) := by decide +kernel
theorem d_Tree_mayLeave_63 : decode b_Tree_mayLeave 63 = .ok (.iload_n 3, 1) := by decide +kernel
theorem d_Tree_mayLeave_64 : decode b_Tree_mayLeave 64 = .ok (.invokevirtual 71, 3) := by decide +kernel
theorem d_Tree_mayLeave_67 : decode b_Tree_mayLeave 67 = .ok (.ifCond .ne 5, 3) := by decide +kernel
theorem d_Tree_mayLeave_70 : decode b_Tree_mayLeave 70 = .ok (.iconst 0, 1) := by decide +kernel
theorem d_Tree_mayLeave_71 : decode b_Tree_mayLeave 71 = .ok (.ireturn, 1) := by decide +kernel
theorem d_Tree_mayLeave_72 : decode b_Tree_mayLeave 72 = .ok (.iinc 4 1, 3) := by decide +kernel
theorem d_Tree_mayLeave_75 : decode b_Tree_mayLeave 75 = .ok (.goto (-72), 3) := by decide +kernel
theorem d_Tree_mayLeave_78 : decode b_Tree_mayLeave 78 = .ok (.iconst 1, 1) := by decide +kernel
theorem d_Tree_mayLeave_79 : decode b_Tree_mayLeave 79 = .ok (.ireturn, 1) := by decide +kernel
theorem d_Tree_add_0 : decode b_Tree_add 0 = .ok (.aload_n 0, 1) := by decide +kernel
theorem d_Tree_add_1 : decode b_Tree_add 1 = .ok (.invokevirtual 79, 3) := by decide +kernel
theorem d_Tree_add_4 : decode b_Tree_add 4 = .ok (.ifCond .eq 5, 3) := by decide +kernel
theorem d_Tree_add_7 : decode b_Tree_add 7 = .ok (.aconst_null, 1) := by decide +kernel
theorem d_Tree_add_8 : decode b_Tree_add 8 = .ok (.areturn, 1) := by decide +kernel
theorem d_Tree_add_9 : decode b_Tree_add 9 = .ok (.aload_n 0, 1) := by decide +kernel
theorem d_Tree_add_10 : decode b_Tree_add 10 = .ok (.getfield 11, 3) := by decide +kernel
theorem d_Tree_add_13 : decode b_Tree_add 13 = .ok (.aload_n 0, 1) := by decide +kernel
theorem d_Tree_add_14 : decode b_Tree_add 14 = .ok (.getfield 26, 3) := by decide +kernel
theorem d_Tree_add_17 : decode b_Tree_add 17 = .ok (.aaload, 1) := by decide +kernel
theorem d_Tree_add_18 : decode b_Tree_add 18 = .ok (.astore_n 2, 1) := by decide +kernel
theorem d_Tree_add_19 : decode b_Tree_add 19 = .ok (.aload_n 2, 1) := by decide +kernel
theorem d_Tree_add_20 : decode b_Tree_add 20 = .ok (.getfield 16, 3) := by decide +kernel
theorem d_Tree_add_23 : decode b_Tree_add 23 = .ok (.aload_n 1, 1) := by decide +kernel
theorem d_Tree_add_24 : decode b_Tree_add 24 = .ok (.invokevirtual 83, 3) := by decide +kernel
theorem d_Tree_add_27 : decode b_Tree_add 27 = .ok (.aload_n 2, 1) := by decide +kernel
theorem d_Tree_add_28 : decode b_Tree_add 28 = .ok (.getfield 34, 3) := by decide +kernel
theorem d_Tree_add_31 : decode b_Tree_add 31 = .ok (.invokevirtual 87, 3) := by decide +kernel
theorem d_Tree_add_34 : decode b_Tree_add 34 = .ok (.aload_n 2, 1) := by decide +kernel
theorem d_Tree_add_35 : decode b_Tree_add 35 = .ok (.iconst 0, 1) := by decide +kernel
theorem d_Tree_add_36 : decode b_Tree_add 36 = .ok (.putfield 30, 3) := by decide +kernel
theorem d_Tree_add_39 : decode b_Tree_add 39 = .ok (.aload_n 2, 1) := by decide +kernel
theorem d_Tree_add_40 : decode b_Tree_add 40 = .ok (.iconst 0, 1) := by decide +kernel
theorem d_Tree_add_41 : decode b_Tree_add 41 = .ok (.putfield 90, 3) := by decide +kernel
theorem d_Tree_add_44 : decode b_Tree_add 44 = .ok (.aload_n 0, 1) := by decide +kernel
theorem d_Tree_add_45 : decode b_Tree_add 45 = .ok (.dup, 1) := by decide +kernel
theorem d_Tree_add_46 : decode b_Tree_add 46 = .ok (.getfield 26, 3) := by decide +kernel
theorem d_Tree_add_49 : decode b_Tree_add 49 = .ok (.iconst 1, 1) := by decide +kernel
theorem d_Tree_add_50 : decode b_Tree_add 50 = .ok (.iadd, 1) := by decide +kernel
theorem d_Tree_add_51 : decode b_Tree_add 51 = .ok (.putfield 26, 3) := by decide +kernel
theorem d_Tree_add_54 : decode b_Tree_add 54 = .ok (.aload_n 0, 1) := by decide +kernel
theorem d_Tree_add_55 : decode b_Tree_add 55 = .ok (.invokevirtual 93, 3) := by decide +kernel
theorem d_Tree_add_58 : decode b_Tree_add 58 = .ok (.aload_n 2, 1) := by decide +kernel
theorem d_Tree_add_59 : decode b_Tree_add 59 = .ok (.areturn, 1) := by decide +kernel
theorem d_Tree_put_0 : decode b_Tree_put 0 = .ok (.aload_n 1, 1) := by decide +kernel
theorem d_Tree_put_1 : decode b_Tree_put 1 = .ok (.ifnonnull 4, 3) := by decide +kernel
theorem d_Tree_put_4 : decode b_Tree_put 4 = .ok (.return_, 1) := by decide +kernel
theorem d_Tree_put_5 : decode b_Tree_put 5 = .ok (.aload_n 1, 1) := by decide +kernel
theorem d_Tree_put_6 : decode b_Tree_put 6 = .ok (.getfield 34, 3) := by decide +kernel
theorem d_Tree_put_9 : decode b_Tree_put 9 = .ok (.aload_n 2, 1) := by decide +kernel
theorem d_Tree_put_10 : decode b_Tree_put 10 = .ok (.invokevirtual 83, 3) := by decide +kernel
theorem d_Tree_put_13 : decode b_Tree_put 13 = .ok (.aload_n 1, 1) := by decide +kernel
theorem d_Tree_put_14 : decode b_Tree_put 14 = .ok (.iconst 1, 1) := by decide +kernel
theorem d_Tree_put_15 : decode b_Tree_put 15 = .ok (.putfield 30, 3) := by decide +kernel
theorem d_Tree_put_18 : decode b_Tree_put 18 = .ok (.aload_n 1, 1) := by decide +kernel
theorem d_Tree_put_19 : decode b_Tree_put 19 = .ok (.aload_n 0, 1) := by decide +kernel
theorem d_Tree_put_20 : decode b_Tree_put 20 = .ok (.invokevirtual 96, 3) := by decide +kernel
theorem d_Tree_put_23 : decode b_Tree_put 23 = .ok (.putfield 90, 3) := by decide +kernel
theorem d_Tree_put_26 : decode b_Tree_put 26 = .ok (.return_, 1) := by decide +kernel
theorem d_Tree_nextVersion_0 : decode b_Tree_nextVersion 0 = .ok (.aload_n 0, 1) := by decide +kernel
theorem d_Tree_nextVersion_1 : decode b_Tree_nextVersion 1 = .ok (.dup, 1) := by decide +kernel
theorem d_Tree_nextVersion_2 : decode b_Tree_nextVersion 2 = .ok (.getfield 100, 3) := by decide +kernel
theorem d_Tree_nextVersion_5 : decode b_Tree_nextVersion 5 = .ok (.iconst 1, 1) := by decide +kernel
theorem d_Tree_nextVersion_6 : decode b_Tree_nextVersion 6 = .ok (.iadd, 1) := by decide +kernel
theorem d_Tree_nextVersion_7 : decode b_Tree_nextVersion 7 = .ok (.putfield 100, 3) := by decide +kernel
theorem d_Tree_nextVersion_10 : decode b_Tree_nextVersion 10 = .ok (.aload_n 0, 1) := by decide +kernel
theorem d_Tree_nextVersion_11 : decode b_Tree_nextVersion 11 = .ok (.getfield 100, 3) := by decide +kernel
theorem d_Tree_nextVersion_14 : decode b_Tree_nextVersion 14 = .ok (.ireturn, 1) := by decide +kernel
theorem d_Tree_removeAll_0 : decode b_Tree_removeAll 0 = .ok (.iconst 0, 1) := by decide +kernel
theorem d_Tree_removeAll_1 : decode b_Tree_removeAll 1 = .ok (.istore_n 2, 1) := by decide +kernel
theorem d_Tree_removeAll_2 : decode b_Tree_removeAll 2 = .ok (.iconst 0, 1) := by decide +kernel
theorem d_Tree_removeAll_3 : decode b_Tree_removeAll 3 = .ok (.istore_n 3, 1) := by decide +kernel
theorem d_Tree_removeAll_4 : decode b_Tree_removeAll 4 = .ok (.iload_n 3, 1) := by decide +kernel
theorem d_Tree_removeAll_5 : decode b_Tree_removeAll 5 = .ok (.aload_n 0, 1) := by decide +kernel
theorem d_Tree_removeAll_6 : decode b_Tree_removeAll 6 = .ok (.getfield 26, 3) := by decide +kernel
theorem d_Tree_removeAll_9 : decode b_Tree_removeAll 9 = .ok (.if_icmp .ge 52, 3) := by decide +kernel
theorem d_Tree_removeAll_12 : decode b_Tree_removeAll 12 = .ok (.aload_n 0, 1) := by decide +kernel
theorem d_Tree_removeAll_13 : decode b_Tree_removeAll 13 = .ok (.getfield 11, 3) := by decide +kernel
theorem d_Tree_removeAll_16 : decode b_Tree_removeAll 16 = .ok (.iload_n 3, 1) := by decide +kernel
theorem d_Tree_removeAll_17 : decode b_Tree_removeAll 17 = .ok (.aaload, 1) := by decide +kernel
theorem d_Tree_removeAll_18 : decode b_Tree_removeAll 18 = .ok (.astore 4, 2) := by decide +kernel
theorem d_Tree_removeAll_20 : decode b_Tree_removeAll 20 = .ok (.aload 4, 2) := by decide +kernel
theorem d_Tree_removeAll_22 : decode b_Tree_removeAll 22 = .ok (.getfield 16, 3) := by decide +kernel
theorem d_Tree_removeAll_25 : decode b_Tree_removeAll 25 = .ok (.aload_n 1, 1) := by decide +kernel
theorem d_Tree_removeAll_26 : decode b_Tree_removeAll 26 = .ok (.invokestatic 58, 3) := by decide +kernel
theorem d_Tree_removeAll_29 : decode b_Tree_removeAll 29 = .ok (.ifCond .ne 26, 3) := by decide +kernel
theorem d_Tree_removeAll_32 : decode b_Tree_removeAll 32 = .ok (.aload_n 0, 1) := by decide +kernel
theorem d_Tree_removeAll_33 : decode b_Tree_removeAll 33 = .ok (.getfield 11, 3) := by decide +kernel
theorem d_Tree_removeAll_36 : decode b_Tree_removeAll 36 = .ok (.iload_n 3, 1) := by decide +kernel
theorem d_Tree_removeAll_37 : decode b_Tree_removeAll 37 = .ok (.aload_n 0, 1) := by decide +kernel
theorem d_Tree_removeAll_38 : decode b_Tree_removeAll 38 = .ok (.getfield 11, 3) := by decide +kernel
theorem d_Tree_removeAll_41 : decode b_Tree_removeAll 41 = .ok (.iload_n 2, 1) := by decide +kernel
theorem d_Tree_removeAll_42 : decode b_Tree_removeAll 42 = .ok (.aaload, 1) := by decide +kernel
theorem d_Tree_removeAll_43 : decode b_Tree_removeAll 43 = .ok (.aastore, 1) := by decide +kernel
theorem d_Tree_removeAll_44 : decode b_Tree_removeAll 44 = .ok (.aload_n 0, 1) := by decide +kernel
theorem d_Tree_removeAll_45 : decode b_Tree_removeAll 45 = .ok (.getfield 11, 3) := by decide +kernel
theorem d_Tree_removeAll_48 : decode b_Tree_removeAll 48 = .ok (.iload_n 2, 1) := by decide +kernel
theorem d_Tree_removeAll_49 : decode b_Tree_removeAll 49 = .ok (.aload 4, 2) := by decide +kernel
theorem d_Tree_removeAll_51 : decode b_Tree_removeAll 51 = .ok (.aastore, 1) := by decide +kernel
theorem d_Tree_removeAll_52 : decode b_Tree_removeAll 52 = .ok (.iinc 2 1, 3) := by decide +kernel
theorem d_Tree_removeAll_55 : decode b_Tree_removeAll 55 = .ok (.iinc 3 1, 3) := by decide +kernel
theorem d_Tree_removeAll_58 : decode b_Tree_removeAll 58 = .ok (.goto (-54), 3) := by decide +kernel
theorem d_Tree_removeAll_61 : decode b_Tree_removeAll 61 = .ok (.aload_n 0, 1) := by decide +kernel
theorem d_Tree_removeAll_62 : decode b_Tree_removeAll 62 = .ok (.iload_n 2, 1) := by decide +kernel
theorem d_Tree_removeAll_63 : decode b_Tree_removeAll 63 = .ok (.putfield 26, 3) := by decide +kernel
theorem d_Tree_removeAll_66 : decode b_Tree_removeAll 66 = .ok (.return_, 1) := by decide +kernel
theorem d_Tree_moveAll_0 : decode b_Tree_moveAll 0 = .ok (.iconst 0, 1) := by decide +kernel
theorem d_Tree_moveAll_1 : decode b_Tree_moveAll 1 = .ok (.istore_n 3, 1) := by decide +kernel
theorem d_Tree_moveAll_2 : decode b_Tree_moveAll 2 = .ok (.iload_n 3, 1) := by decide +kernel
theorem d_Tree_moveAll_3 : decode b_Tree_moveAll 3 = .ok (.aload_n 0, 1) := by decide +kernel
theorem d_Tree_moveAll_4 : decode b_Tree_moveAll 4 = .ok (.getfield 26, 3) := by decide +kernel
theorem d_Tree_moveAll_7 : decode b_Tree_moveAll 7 = .ok (.if_icmp .ge 42, 3) := by decide +kernel
theorem d_Tree_moveAll_10 : decode b_Tree_moveAll 10 = .ok (.aload_n 0, 1) := by decide +kernel
theorem d_Tree_moveAll_11 : decode b_Tree_moveAll 11 = .ok (.getfield 11, 3) := by decide +kernel
theorem d_Tree_moveAll_14 : decode b_Tree_moveAll 14 = .ok (.iload_n 3, 1) := by decide +kernel
theorem d_Tree_moveAll_15 : decode b_Tree_moveAll 15 = .ok (.aaload, 1) := by decide +kernel
theorem d_Tree_moveAll_16 : decode b_Tree_moveAll 16 = .ok (.getfield 16, 3) := by decide +kernel
theorem d_Tree_moveAll_19 : decode b_Tree_moveAll 19 = .ok (.aload_n 1, 1) := by decide +kernel
theorem d_Tree_moveAll_20 : decode b_Tree_moveAll 20 = .ok (.invokestatic 58, 3) := by decide +kernel
theorem d_Tree_moveAll_23 : decode b_Tree_moveAll 23 = .ok (.ifCond .eq 20, 3) := by decide +kernel
theorem d_Tree_moveAll_26 : decode b_Tree_moveAll 26 = .ok (.aload_n 0, 1) := by decide +kernel
theorem d_Tree_moveAll_27 : decode b_Tree_moveAll 27 = .ok (.getfield 11, 3) := by decide +kernel
theorem d_Tree_moveAll_30 : decode b_Tree_moveAll 30 = .ok (.iload_n 3, 1) := by decide +kernel
theorem d_Tree_moveAll_31 : decode b_Tree_moveAll 31 = .ok (.aaload, 1) := by decide +kernel
theorem d_Tree_moveAll_32 : decode b_Tree_moveAll 32 = .ok (.getfield 16, 3) := by decide +kernel
theorem d_Tree_moveAll_35 : decode b_Tree_moveAll 35 = .ok (.aload_n 1, 1) := by decide +kernel
theorem d_Tree_moveAll_36 : decode b_Tree_moveAll 36 = .ok (.getfield 37, 3) := by decide +kernel
theorem d_Tree_moveAll_39 : decode b_Tree_moveAll 39 = .ok (.aload_n 2, 1) := by decide +kernel
theorem d_Tree_moveAll_40 : decode b_Tree_moveAll 40 = .ok (.invokevirtual 103, 3) := by decide +kernel
theorem d_Tree_moveAll_43 : decode b_Tree_moveAll 43 = .ok (.iinc 3 1, 3) := by decide +kernel
theorem d_Tree_moveAll_46 : decode b_Tree_moveAll 46 = .ok (.goto (-44), 3) := by decide +kernel
theorem d_Tree_moveAll_49 : decode b_Tree_moveAll 49 = .ok (.aload_n 0, 1) := by decide +kernel
theorem d_Tree_moveAll_50 : decode b_Tree_moveAll 50 = .ok (.invokevirtual 93, 3) := by decide +kernel
theorem d_Tree_moveAll_53 : decode b_Tree_moveAll 53 = .ok (.return_, 1) := by decide +kernel
theorem d_Tree_copyAll_0 : decode b_Tree_copyAll 0 = .ok (.aload_n 0, 1) := by decide +kernel
theorem d_Tree_copyAll_1 : decode b_Tree_copyAll 1 = .ok (.getfield 26, 3) := by decide +kernel
theorem d_Tree_copyAll_4 : decode b_Tree_copyAll 4 = .ok (.istore 4, 2) := by decide +kernel
theorem d_Tree_copyAll_6 : decode b_Tree_copyAll 6 = .ok (.iconst 0, 1) := by decide +kernel
theorem d_Tree_copyAll_7 : decode b_Tree_copyAll 7 = .ok (.istore 5, 2) := by decide +kernel
theorem d_Tree_copyAll_9 : decode b_Tree_copyAll 9 = .ok (.iload 5, 2) := by decide +kernel
theorem d_Tree_copyAll_11 : decode b_Tree_copyAll 11 = .ok (.iload 4, 2) := by decide +kernel
theorem d_Tree_copyAll_13 : decode b_Tree_copyAll 13 = .ok (.if_icmp .ge 60, 3) := by decide +kernel
theorem d_Tree_copyAll_16 : decode b_Tree_copyAll 16 = .ok (.aload_n 0, 1) := by decide +kernel
theorem d_Tree_copyAll_17 : decode b_Tree_copyAll 17 = .ok (.getfield 11, 3) := by decide +kernel
theorem d_Tree_copyAll_20 : decode b_Tree_copyAll 20 = .ok (.iload 5, 2) := by decide +kernel
theorem d_Tree_copyAll_22 : decode b_Tree_copyAll 22 = .ok (.aaload, 1) := by decide +kernel
theorem d_Tree_copyAll_23 : decode b_Tree_copyAll 23 = .ok (.astore 6, 2) := by decide +kernel
theorem d_Tree_copyAll_25 : decode b_Tree_copyAll 25 = .ok (.iload_n 3, 1) := by decide +kernel
theorem d_Tree_copyAll_26 : decode b_Tree_copyAll 26 = .ok (.ifCond .eq 18, 3) := by decide +kernel
theorem d_Tree_copyAll_29 : decode b_Tree_copyAll 29 = .ok (.aload 6, 2) := by decide +kernel
theorem d_Tree_copyAll_31 : decode b_Tree_copyAll 31 = .ok (.getfield 16, 3) := by decide +kernel
theorem d_Tree_copyAll_34 : decode b_Tree_copyAll 34 = .ok (.aload_n 1, 1) := by decide +kernel
theorem d_Tree_copyAll_35 : decode b_Tree_copyAll 35 = .ok (.invokestatic 58, 3) := by decide +kernel
theorem d_Tree_copyAll_38 : decode b_Tree_copyAll 38 = .ok (.ifCond .eq 29, 3) := by decide +kernel
theorem d_Tree_copyAll_41 : decode b_Tree_copyAll 41 = .ok (.goto 15, 3) := by decide +kernel
theorem d_Tree_copyAll_44 : decode b_Tree_copyAll 44 = .ok (.aload 6, 2) := by decide +kernel
theorem d_Tree_copyAll_46 : decode b_Tree_copyAll 46 = .ok (.getfield 16, 3) := by decide +kernel
theorem d_Tree_copyAll_49 : decode b_Tree_copyAll 49 = .ok (.aload_n 1, 1) := by decide +kernel
theorem d_Tree_copyAll_50 : decode b_Tree_copyAll 50 = .ok (.invokevirtual 107, 3) := by decide +kernel
theorem d_Tree_copyAll_53 : decode b_Tree_copyAll 53 = .ok (.ifCond .eq 14, 3) := by decide +kernel
theorem d_Tree_copyAll_56 : decode b_Tree_copyAll 56 = .ok (.aload_n 0, 1) := by decide +kernel
theorem d_Tree_copyAll_57 : decode b_Tree_copyAll 57 = .ok (.aload 6, 2) := by decide +kernel
theorem d_Tree_copyAll_59 : decode b_Tree_copyAll 59 = .ok (.aload_n 1, 1) := by decide +kernel
theorem d_Tree_copyAll_60 : decode b_Tree_copyAll 60 = .ok (.getfield 37, 3) := by decide +kernel
theorem d_Tree_copyAll_63 : decode b_Tree_copyAll 63 = .ok (.aload_n 2, 1) := by decide +kernel
theorem d_Tree_copyAll_64 : decode b_Tree_copyAll 64 = .ok (.invokevirtual 110, 3) := by decide +kernel
theorem d_Tree_copyAll_67 : decode b_Tree_copyAll 67 = .ok (.iinc 5 1, 3) := by decide +kernel
theorem d_Tree_copyAll_70 : decode b_Tree_copyAll 70 = .ok (.goto (-61), 3) := by decide +kernel
theorem d_Tree_copyAll_73 : decode b_Tree_copyAll 73 = .ok (.aload_n 0, 1) := by decide +kernel
theorem d_Tree_copyAll_74 : decode b_Tree_copyAll 74 = .ok (.invokevirtual 93, 3) := by decide +kernel
theorem d_Tree_copyAll_77 : decode b_Tree_copyAll 77 = .ok (.return_, 1) := by decide +kernel
theorem d_Tree_copyOne_0 : decode b_Tree_copyOne 0 = .ok (.aload_n 0, 1) := by decide +kernel
theorem d_Tree_copyOne_1 : decode b_Tree_copyOne 1 = .ok (.invokevirtual 79, 3) := by decide +kernel
theorem d_Tree_copyOne_4 : decode b_Tree_copyOne 4 = .ok (.ifCond .eq 4, 3) := by decide +kernel
theorem d_Tree_copyOne_7 : decode b_Tree_copyOne 7 = .ok (.return_, 1) := by decide +kernel
theorem d_Tree_copyOne_8 : decode b_Tree_copyOne 8 = .ok (.aload_n 0, 1) := by decide +kernel
theorem d_Tree_copyOne_9 : decode b_Tree_copyOne 9 = .ok (.getfield 11, 3) := by decide +kernel
theorem d_Tree_copyOne_12 : decode b_Tree_copyOne 12 = .ok (.aload_n 0, 1) := by decide +kernel
theorem d_Tree_copyOne_13 : decode b_Tree_copyOne 13 = .ok (.getfield 26, 3) := by decide +kernel
theorem d_Tree_copyOne_16 : decode b_Tree_copyOne 16 = .ok (.aaload, 1) := by decide +kernel
theorem d_Tree_copyOne_17 : decode b_Tree_copyOne 17 = .ok (.astore 4, 2) := by decide +kernel
theorem d_Tree_copyOne_19 : decode b_Tree_copyOne 19 = .ok (.aload 4, 2) := by decide +kernel
theorem d_Tree_copyOne_21 : decode b_Tree_copyOne 21 = .ok (.aload_n 1, 1) := by decide +kernel
theorem d_Tree_copyOne_22 : decode b_Tree_copyOne 22 = .ok (.invokevirtual 114, 3) := by decide +kernel
theorem d_Tree_copyOne_25 : decode b_Tree_copyOne 25 = .ok (.aload 4, 2) := by decide +kernel
theorem d_Tree_copyOne_27 : decode b_Tree_copyOne 27 = .ok (.getfield 16, 3) := by decide +kernel
theorem d_Tree_copyOne_30 : decode b_Tree_copyOne 30 = .ok (.iload_n 2, 1) := by decide +kernel
theorem d_Tree_copyOne_31 : decode b_Tree_copyOne 31 = .ok (.aload_n 3, 1) := by decide +kernel
theorem d_Tree_copyOne_32 : decode b_Tree_copyOne 32 = .ok (.invokevirtual 103, 3) := by decide +kernel
theorem d_Tree_copyOne_35 : decode b_Tree_copyOne 35 = .ok (.aload 4, 2) := by decide +kernel
theorem d_Tree_copyOne_37 : decode b_Tree_copyOne 37 = .ok (.getfield 30, 3) := by decide +kernel
theorem d_Tree_copyOne_40 : decode b_Tree_copyOne 40 = .ok (.ifCond .eq 12, 3) := by decide +kernel
theorem d_Tree_copyOne_43 : decode b_Tree_copyOne 43 = .ok (.aload 4, 2) := by decide +kernel
theorem d_Tree_copyOne_45 : decode b_Tree_copyOne 45 = .ok (.aload_n 0, 1) := by decide +kernel
theorem d_Tree_copyOne_46 : decode b_Tree_copyOne 46 = .ok (.invokevirtual 96, 3) := by decide +kernel
theorem d_Tree_copyOne_49 : decode b_Tree_copyOne 49 = .ok (.putfield 90, 3) := by decide +kernel
theorem d_Tree_copyOne_52 : decode b_Tree_copyOne 52 = .ok (.aload_n 0, 1) := by decide +kernel
theorem d_Tree_copyOne_53 : decode b_Tree_copyOne 53 = .ok (.dup, 1) := by decide +kernel
theorem d_Tree_copyOne_54 : decode b_Tree_copyOne 54 = .ok (.getfield 26, 3) := by decide +kernel
theorem d_Tree_copyOne_57 : decode b_Tree_copyOne 57 = .ok (.iconst 1, 1) := by decide +kernel
theorem d_Tree_copyOne_58 : decode b_Tree_copyOne 58 = .ok (.iadd, 1) := by decide +kernel
theorem d_Tree_copyOne_59 : decode b_Tree_copyOne 59 = .ok (.putfield 26, 3) := by decide +kernel
theorem d_Tree_copyOne_62 : decode b_Tree_copyOne 62 = .ok (.return_, 1) := by decide +kernel
theorem d_Tree_sort_0 : decode b_Tree_sort 0 = .ok (.iconst 1, 1) := by decide +kernel
theorem d_Tree_sort_1 : decode b_Tree_sort 1 = .ok (.istore_n 1, 1) := by decide +kernel
theorem d_Tree_sort_2 : decode b_Tree_sort 2 = .ok (.iload_n 1, 1) := by decide +kernel
theorem d_Tree_sort_3 : decode b_Tree_sort 3 = .ok (.aload_n 0, 1) := by decide +kernel
theorem d_Tree_sort_4 : decode b_Tree_sort 4 = .ok (.getfield 26, 3) := by decide +kernel
theorem d_Tree_sort_7 : decode b_Tree_sort 7 = .ok (.if_icmp .ge 70, 3) := by decide +kernel
theorem d_Tree_sort_10 : decode b_Tree_sort 10 = .ok (.aload_n 0, 1) := by decide +kernel
theorem d_Tree_sort_11 : decode b_Tree_sort 11 = .ok (.getfield 11, 3) := by decide +kernel
theorem d_Tree_sort_14 : decode b_Tree_sort 14 = .ok (.iload_n 1, 1) := by decide +kernel
theorem d_Tree_sort_15 : decode b_Tree_sort 15 = .ok (.aaload, 1) := by decide +kernel
theorem d_Tree_sort_16 : decode b_Tree_sort 16 = .ok (.astore_n 2, 1) := by decide +kernel
theorem d_Tree_sort_17 : decode b_Tree_sort 17 = .ok (.iload_n 1, 1) := by decide +kernel
theorem d_Tree_sort_18 : decode b_Tree_sort 18 = .ok (.istore_n 3, 1) := by decide +kernel
theorem d_Tree_sort_19 : decode b_Tree_sort 19 = .ok (.iload_n 3, 1) := by decide +kernel
theorem d_Tree_sort_20 : decode b_Tree_sort 20 = .ok (.ifCond .le 44, 3) := by decide +kernel
theorem d_Tree_sort_23 : decode b_Tree_sort 23 = .ok (.aload_n 2, 1) := by decide +kernel
theorem d_Tree_sort_24 : decode b_Tree_sort 24 = .ok (.getfield 16, 3) := by decide +kernel
theorem d_Tree_sort_27 : decode b_Tree_sort 27 = .ok (.aload_n 0, 1) := by decide +kernel
theorem d_Tree_sort_28 : decode b_Tree_sort 28 = .ok (.getfield 11, 3) := by decide +kernel
theorem d_Tree_sort_31 : decode b_Tree_sort 31 = .ok (.iload_n 3, 1) := by decide +kernel
theorem d_Tree_sort_32 : decode b_Tree_sort 32 = .ok (.iconst 1, 1) := by decide +kernel
theorem d_Tree_sort_33 : decode b_Tree_sort 33 = .ok (.isub, 1) := by decide +kernel
theorem d_Tree_sort_34 : decode b_Tree_sort 34 = .ok (.aaload, 1) := by decide +kernel
theorem d_Tree_sort_35 : decode b_Tree_sort 35 = .ok (.getfield 16, 3) := by decide +kernel
theorem d_Tree_sort_38 : decode b_Tree_sort 38 = .ok (.invokevirtual 117, 3) := by decide +kernel
theorem d_Tree_sort_41 : decode b_Tree_sort 41 = .ok (.ifCond .eq 23, 3) := by decide +kernel
theorem d_Tree_sort_44 : decode b_Tree_sort 44 = .ok (.aload_n 0, 1) := by decide +kernel
theorem d_Tree_sort_45 : decode b_Tree_sort 45 = .ok (.getfield 11, 3) := by decide +kernel
theorem d_Tree_sort_48 : decode b_Tree_sort 48 = .ok (.iload_n 3, 1) := by decide +kernel
theorem d_Tree_sort_49 : decode b_Tree_sort 49 = .ok (.aload_n 0, 1) := by decide +kernel
theorem d_Tree_sort_50 : decode b_Tree_sort 50 = .ok (.getfield 11, 3) := by decide +kernel
theorem d_Tree_sort_53 : decode b_Tree_sort 53 = .ok (.iload_n 3, 1) := by decide +kernel
theorem d_Tree_sort_54 : decode b_Tree_sort 54 = .ok (.iconst 1, 1) := by decide +kernel
theorem d_Tree_sort_55 : decode b_Tree_sort 55 = .ok (.isub, 1) := by decide +kernel
theorem d_Tree_sort_56 : decode b_Tree_sort 56 = .ok (.aaload, 1) := by decide +kernel
theorem d_Tree_sort_57 : decode b_Tree_sort 57 = .ok (.aastore, 1) := by decide +kernel
theorem d_Tree_sort_58 : decode b_Tree_sort 58 = .ok (.iinc 3 (-1), 3) := by decide +kernel
theorem d_Tree_sort_61 : decode b_Tree_sort 61 = .ok (.goto (-42), 3) := by decide +kernel
theorem d_Tree_sort_64 : decode b_Tree_sort 64 = .ok (.aload_n 0, 1) := by decide +kernel
theorem d_Tree_sort_65 : decode b_Tree_sort 65 = .ok (.getfield 11, 3) := by decide +kernel
theorem d_Tree_sort_68 : decode b_Tree_sort 68 = .ok (.iload_n 3, 1) := by decide +kernel
theorem d_Tree_sort_69 : decode b_Tree_sort 69 = .ok (.aload_n 2, 1) := by decide +kernel
theorem d_Tree_sort_70 : decode b_Tree_sort 70 = .ok (.aastore, 1) := by decide +kernel
theorem d_Tree_sort_71 : decode b_Tree_sort 71 = .ok (.iinc 1 1, 3) := by decide +kernel
theorem d_Tree_sort_74 : decode b_Tree_sort 74 = .ok (.goto (-72), 3) := by decide +kernel
theorem d_Tree_sort_77 : decode b_Tree_sort 77 = .ok (.return_, 1) := by decide +kernel
theorem d_Tree_tellSegments_0 : decode b_Tree_tellSegments 0 = .ok (.iconst 0, 1) := by decide +kernel
theorem d_Tree_tellSegments_1 : decode b_Tree_tellSegments 1 = .ok (.istore_n 3, 1) := by decide +kernel
theorem d_Tree_tellSegments_2 : decode b_Tree_tellSegments 2 = .ok (.iload_n 3, 1) := by decide +kernel
theorem d_Tree_tellSegments_3 : decode b_Tree_tellSegments 3 = .ok (.aload_n 0, 1) := by decide +kernel
theorem d_Tree_tellSegments_4 : decode b_Tree_tellSegments 4 = .ok (.getfield 26, 3) := by decide +kernel
theorem d_Tree_tellSegments_7 : decode b_Tree_tellSegments 7 = .ok (.if_icmp .ge 67, 3) := by decide +kernel
theorem d_Tree_tellSegments_10 : decode b_Tree_tellSegments 10 = .ok (.aload_n 0, 1) := by decide +kernel
theorem d_Tree_tellSegments_11 : decode b_Tree_tellSegments 11 = .ok (.getfield 11, 3) := by decide +kernel
theorem d_Tree_tellSegments_14 : decode b_Tree_tellSegments 14 = .ok (.iload_n 3, 1) := by decide +kernel
theorem d_Tree_tellSegments_15 : decode b_Tree_tellSegments 15 = .ok (.aaload, 1) := by decide +kernel
theorem d_Tree_tellSegments_16 : decode b_Tree_tellSegments 16 = .ok (.getfield 16, 3) := by decide +kernel
theorem d_Tree_tellSegments_19 : decode b_Tree_tellSegments 19 = .ok (.astore 4, 2) := by decide +kernel
theorem d_Tree_tellSegments_21 : decode b_Tree_tellSegments 21 = .ok (.aload 4, 2) := by decide +kernel
theorem d_Tree_tellSegments_23 : decode b_Tree_tellSegments 23 = .ok (.aload_n 1, 1) := by decide +kernel
theorem d_Tree_tellSegments_24 : decode b_Tree_tellSegments 24 = .ok (.invokestatic 76, 3) := by decide +kernel
theorem d_Tree_tellSegments_27 : decode b_Tree_tellSegments 27 = .ok (.ifCond .eq 41, 3) := by decide +kernel
theorem d_Tree_tellSegments_30 : decode b_Tree_tellSegments 30 = .ok (.aload_n 1, 1) := by decide +kernel
theorem d_Tree_tellSegments_31 : decode b_Tree_tellSegments 31 = .ok (.invokestatic 44, 3) := by decide +kernel
theorem d_Tree_tellSegments_34 : decode b_Tree_tellSegments 34 = .ok (.ifCond .eq 7, 3) := by decide +kernel
theorem d_Tree_tellSegments_37 : decode b_Tree_tellSegments 37 = .ok (.iconst 0, 1) := by decide +kernel
theorem d_Tree_tellSegments_38 : decode b_Tree_tellSegments 38 = .ok (.goto 7, 3) := by decide +kernel
theorem d_Tree_tellSegments_41 : decode b_Tree_tellSegments 41 = .ok (.aload_n 1, 1) := by decide +kernel
theorem d_Tree_tellSegments_42 : decode b_Tree_tellSegments 42 = .ok (.getfield 37, 3) := by decide +kernel
theorem d_Tree_tellSegments_45 : decode b_Tree_tellSegments 45 = .ok (.istore 5, 2) := by decide +kernel
theorem d_Tree_tellSegments_47 : decode b_Tree_tellSegments 47 = .ok (.aload_n 2, 1) := by decide +kernel
theorem d_Tree_tellSegments_48 : decode b_Tree_tellSegments 48 = .ok (.aload 4, 2) := by decide +kernel
theorem d_Tree_tellSegments_50 : decode b_Tree_tellSegments 50 = .ok (.iload 5, 2) := by decide +kernel
theorem d_Tree_tellSegments_52 : decode b_Tree_tellSegments 52 = .ok (.iconst 1, 1) := by decide +kernel
theorem d_Tree_tellSegments_53 : decode b_Tree_tellSegments 53 = .ok (.iadd, 1) := by decide +kernel
theorem d_Tree_tellSegments_54 : decode b_Tree_tellSegments 54 = .ok (.aload 4, 2) := by decide +kernel
theorem d_Tree_tellSegments_56 : decode b_Tree_tellSegments 56 = .ok (.getfield 37, 3) := by decide +kernel
theorem d_Tree_tellSegments_59 : decode b_Tree_tellSegments 59 = .ok (.invokevirtual 120, 3) := by decide +kernel
theorem d_Tree_tellSegments_62 : decode b_Tree_tellSegments 62 = .ok (.aload_n 2, 1) := by decide +kernel
theorem d_Tree_tellSegments_63 : decode b_Tree_tellSegments 63 = .ok (.bipush 10, 2) := by decide +kernel
theorem d_Tree_tellSegments_65 : decode b_Tree_tellSegments 65 = .ok (.invokevirtual 20, 3) := by decide +kernel
theorem d_Tree_tellSegments_68 : decode b_Tree_tellSegments 68 = .ok (.iinc 3 1, 3) := by decide +kernel
theorem d_Tree_tellSegments_71 : decode b_Tree_tellSegments 71 = .ok (.goto (-69), 3) := by decide +kernel
theorem d_Tree_tellSegments_74 : decode b_Tree_tellSegments 74 = .ok (.return_, 1) := by decide +kernel
theorem d_Tree_tellPaths_0 : decode b_Tree_tellPaths 0 = .ok (.iconst 0, 1) := by decide +kernel
theorem d_Tree_tellPaths_1 : decode b_Tree_tellPaths 1 = .ok (.istore 4, 2) := by decide +kernel
theorem d_Tree_tellPaths_3 : decode b_Tree_tellPaths 3 = .ok (.iload 4, 2) := by decide +kernel
theorem d_Tree_tellPaths_5 : decode b_Tree_tellPaths 5 = .ok (.aload_n 0, 1) := by decide +kernel
theorem d_Tree_tellPaths_6 : decode b_Tree_tellPaths 6 = .ok (.getfield 26, 3) := by decide +kernel
theorem d_Tree_tellPaths_9 : decode b_Tree_tellPaths 9 = .ok (.if_icmp .ge 64, 3) := by decide +kernel
theorem d_Tree_tellPaths_12 : decode b_Tree_tellPaths 12 = .ok (.aload_n 0, 1) := by decide +kernel
theorem d_Tree_tellPaths_13 : decode b_Tree_tellPaths 13 = .ok (.getfield 11, 3) := by decide +kernel
theorem d_Tree_tellPaths_16 : decode b_Tree_tellPaths 16 = .ok (.iload 4, 2) := by decide +kernel
theorem d_Tree_tellPaths_18 : decode b_Tree_tellPaths 18 = .ok (.aaload, 1) := by decide +kernel
theorem d_Tree_tellPaths_19 : decode b_Tree_tellPaths 19 = .ok (.getfield 16, 3) := by decide +kernel
theorem d_Tree_tellPaths_22 : decode b_Tree_tellPaths 22 = .ok (.astore 5, 2) := by decide +kernel
theorem d_Tree_tellPaths_24 : decode b_Tree_tellPaths 24 = .ok (.aload 5, 2) := by decide +kernel
theorem d_Tree_tellPaths_26 : decode b_Tree_tellPaths 26 = .ok (.aload_n 1, 1) := by decide +kernel
theorem d_Tree_tellPaths_27 : decode b_Tree_tellPaths 27 = .ok (.iload_n 2, 1) := by decide +kernel
theorem d_Tree_tellPaths_28 : decode b_Tree_tellPaths 28 = .ok (.invokestatic 124, 3) := by decide +kernel
theorem d_Tree_tellPaths_31 : decode b_Tree_tellPaths 31 = .ok (.ifCond .eq 36, 3) := by decide +kernel
theorem d_Tree_tellPaths_34 : decode b_Tree_tellPaths 34 = .ok (.aload_n 3, 1) := by decide +kernel
theorem d_Tree_tellPaths_35 : decode b_Tree_tellPaths 35 = .ok (.aload 5, 2) := by decide +kernel
theorem d_Tree_tellPaths_37 : decode b_Tree_tellPaths 37 = .ok (.getfield 37, 3) := by decide +kernel
theorem d_Tree_tellPaths_40 : decode b_Tree_tellPaths 40 = .ok (.iconst 1, 1) := by decide +kernel
theorem d_Tree_tellPaths_41 : decode b_Tree_tellPaths 41 = .ok (.iadd, 1) := by decide +kernel
theorem d_Tree_tellPaths_42 : decode b_Tree_tellPaths 42 = .ok (.invokevirtual 128, 3) := by decide +kernel
theorem d_Tree_tellPaths_45 : decode b_Tree_tellPaths 45 = .ok (.ifCond .ne 4, 3) := by decide +kernel
theorem d_Tree_tellPaths_48 : decode b_Tree_tellPaths 48 = .ok (.return_, 1) := by decide +kernel
theorem d_Tree_tellPaths_49 : decode b_Tree_tellPaths 49 = .ok (.aload_n 3, 1) := by decide +kernel
theorem d_Tree_tellPaths_50 : decode b_Tree_tellPaths 50 = .ok (.aload 5, 2) := by decide +kernel
theorem d_Tree_tellPaths_52 : decode b_Tree_tellPaths 52 = .ok (.iconst 0, 1) := by decide +kernel
theorem d_Tree_tellPaths_53 : decode b_Tree_tellPaths 53 = .ok (.aload 5, 2) := by decide +kernel
theorem d_Tree_tellPaths_55 : decode b_Tree_tellPaths 55 = .ok (.getfield 37, 3) := by decide +kernel
theorem d_Tree_tellPaths_58 : decode b_Tree_tellPaths 58 = .ok (.invokevirtual 120, 3) := by decide +kernel
theorem d_Tree_tellPaths_61 : decode b_Tree_tellPaths 61 = .ok (.aload_n 3, 1) := by decide +kernel
theorem d_Tree_tellPaths_62 : decode b_Tree_tellPaths 62 = .ok (.bipush 10, 2) := by decide +kernel
theorem d_Tree_tellPaths_64 : decode b_Tree_tellPaths 64 = .ok (.invokevirtual 20, 3) := by decide +kernel
theorem d_Tree_tellPaths_67 : decode b_Tree_tellPaths 67 = .ok (.iinc 4 1, 3) := by decide +kernel
theorem d_Tree_tellPaths_70 : decode b_Tree_tellPaths 70 = .ok (.goto (-67), 3) := by decide +kernel
theorem d_Tree_tellPaths_73 : decode b_Tree_tellPaths 73 = .ok (.return_, 1) := by decide +kernel
theorem d_Tree_isWithin_0 : decode b_Tree_isWithin 0 = .ok (.iload_n 2, 1) := by decide +kernel
theorem d_Tree_isWithin_1 : decode b_Tree_isWithin 1 = .ok (.iconst 2, 1) := by decide +kernel
theorem d_Tree_isWithin_2 : decode b_Tree_isWithin 2 = .ok (.if_icmp .ne 9, 3) := by decide +kernel
theorem d_Tree_isWithin_5 : decode b_Tree_isWithin 5 = .ok (.aload_n 0, 1) := by decide +kernel
theorem d_Tree_isWithin_6 : decode b_Tree_isWithin 6 = .ok (.aload_n 1, 1) := by decide +kernel
theorem d_Tree_isWithin_7 : decode b_Tree_isWithin 7 = .ok (.invokestatic 58, 3) := by decide +kernel
theorem d_Tree_isWithin_10 : decode b_Tree_isWithin 10 = .ok (.ireturn, 1) := by decide +kernel
theorem d_Tree_isWithin_11 : decode b_Tree_isWithin 11 = .ok (.aload_n 0, 1) := by decide +kernel
theorem d_Tree_isWithin_12 : decode b_Tree_isWithin 12 = .ok (.aload_n 1, 1) := by decide +kernel
theorem d_Tree_isWithin_13 : decode b_Tree_isWithin 13 = .ok (.invokevirtual 107, 3) := by decide +kernel
theorem d_Tree_isWithin_16 : decode b_Tree_isWithin 16 = .ok (.ifCond .ne 16, 3) := by decide +kernel
theorem d_Tree_isWithin_19 : decode b_Tree_isWithin 19 = .ok (.iload_n 2, 1) := by decide +kernel
theorem d_Tree_isWithin_20 : decode b_Tree_isWithin 20 = .ok (.iconst 1, 1) := by decide +kernel
theorem d_Tree_isWithin_21 : decode b_Tree_isWithin 21 = .ok (.if_icmp .ne 15, 3) := by decide +kernel
theorem d_Tree_isWithin_24 : decode b_Tree_isWithin 24 = .ok (.aload_n 0, 1) := by decide +kernel
theorem d_Tree_isWithin_25 : decode b_Tree_isWithin 25 = .ok (.aload_n 1, 1) := by decide +kernel
theorem d_Tree_isWithin_26 : decode b_Tree_isWithin 26 = .ok (.invokestatic 76, 3) := by decide +kernel
theorem d_Tree_isWithin_29 : decode b_Tree_isWithin 29 = .ok (.ifCond .eq 7, 3) := by decide +kernel
theorem d_Tree_isWithin_32 : decode b_Tree_isWithin 32 = .ok (.iconst 1, 1) := by decide +kernel
theorem d_Tree_isWithin_33 : decode b_Tree_isWithin 33 = .ok (.goto 4, 3) := by decide +kernel
theorem d_Tree_isWithin_36 : decode b_Tree_isWithin 36 = .ok (.iconst 0, 1) := by decide +kernel
theorem d_Tree_isWithin_37 : decode b_Tree_isWithin 37 = .ok (.ireturn, 1) := by decide +kernel
theorem d_Tree_become_0 : decode b_Tree_become 0 = .ok (.aload_n 0, 1) := by decide +kernel
theorem d_Tree_become_1 : decode b_Tree_become 1 = .ok (.aload_n 1, 1) := by decide +kernel
theorem d_Tree_become_2 : decode b_Tree_become 2 = .ok (.getfield 26, 3) := by decide +kernel
theorem d_Tree_become_5 : decode b_Tree_become 5 = .ok (.putfield 26, 3) := by decide +kernel
theorem d_Tree_become_8 : decode b_Tree_become 8 = .ok (.iconst 0, 1) := by decide +kernel
theorem d_Tree_become_9 : decode b_Tree_become 9 = .ok (.istore_n 2, 1) := by decide +kernel
theorem d_Tree_become_10 : decode b_Tree_become 10 = .ok (.iload_n 2, 1) := by decide +kernel
theorem d_Tree_become_11 : decode b_Tree_become 11 = .ok (.aload_n 0, 1) := by decide +kernel
theorem d_Tree_become_12 : decode b_Tree_become 12 = .ok (.getfield 26, 3) := by decide +kernel
theorem d_Tree_become_15 : decode b_Tree_become 15 = .ok (.if_icmp .ge 24, 3) := by decide +kernel
theorem d_Tree_become_18 : decode b_Tree_become 18 = .ok (.aload_n 0, 1) := by decide +kernel
theorem d_Tree_become_19 : decode b_Tree_become 19 = .ok (.getfield 11, 3) := by decide +kernel
theorem d_Tree_become_22 : decode b_Tree_become 22 = .ok (.iload_n 2, 1) := by decide +kernel
theorem d_Tree_become_23 : decode b_Tree_become 23 = .ok (.aaload, 1) := by decide +kernel
theorem d_Tree_become_24 : decode b_Tree_become 24 = .ok (.aload_n 1, 1) := by decide +kernel
theorem d_Tree_become_25 : decode b_Tree_become 25 = .ok (.getfield 11, 3) := by decide +kernel
theorem d_Tree_become_28 : decode b_Tree_become 28 = .ok (.iload_n 2, 1) := by decide +kernel
theorem d_Tree_become_29 : decode b_Tree_become 29 = .ok (.aaload, 1) := by decide +kernel
theorem d_Tree_become_30 : decode b_Tree_become 30 = .ok (.invokevirtual 114, 3) := by decide +kernel
theorem d_Tree_become_33 : decode b_Tree_become 33 = .ok (.iinc 2 1, 3) := by decide +kernel
theorem d_Tree_become_36 : decode b_Tree_become 36 = .ok (.goto (-26), 3) := by decide +kernel
theorem d_Tree_become_39 : decode b_Tree_become 39 = .ok (.return_, 1) := by decide +kernel
set_option maxHeartbeats 4000000 in
set_option maxRecDepth 100000 in
theorem c_Res_become (l : Launch) (K : gK) (E : gE) (c e : Nat) (v w : Re) (hd : e + 5 ≤ c ∨ c + 5 ≤ e) (hV : isR K E c v) (hW : isR K E e w) : gMv l y_Res_become b_Res_become 2 2 128 K E [.ref (ka K c), .ref (ka K e)] (fun E' => isR K E' c w ∧ frN c 5 E E') := by
  have hcN := hV.2.2.2.2.1
  have heN := hW.2.2.2.2.1
  have hc1 := hV.1
  have hcp := hV.2.1.1
  have hcb := hV.2.2.1
  have hcpl := hV.2.1.2.1
  have hcbl := hV.2.2.2.1
  have he1 := hW.1
  have hep := hW.2.1.1
  have heb := hW.2.2.1
  have hepl := hW.2.1.2.1
  have hebl := hW.2.2.2.1
  refine g_metv (by decide +kernel) (Nat.le_of_ble_eq_true rfl) (fun X hl C hR => ?_)
  subst hl
  show gW X K E 0 [(0, .ref (ka K c)), (1, .ref (ka K e))] []
  refine g_aload_n (pc := 0) C d_Res_become_0 0 rfl ?_
  refine g_get (pc := 1) C fl_Res_14 hc1 (by omega) rfl d_Res_become_1 ?_
  refine g_aload_n (pc := 4) C d_Res_become_4 1 rfl ?_
  refine g_get (pc := 5) C fl_Res_14 he1 (by omega) rfl d_Res_become_5 ?_
  refine g_cv (pc := 8) C (g_rV (As := [.ref (ka K (e + 1))]) (rest := []) C (c_Bytes_become _ K _ (c + 1) 45 v.1 (e + 1) 45 w.1 hepl (by omega) (by omega) (by omega) hV.2.1 hW.2.1) mw_Bytes_become mo_Bytes_become ml_Res_23 (by decide) hcp rfl (by omega) rfl rfl (Nat.le_of_ble_eq_true rfl) d_Res_become_8) (fun E8 hp8 => ?_)
  obtain ⟨hB8, hF8⟩ := hp8
  have gc1 := (hF8 c (by omega) (by omega)).trans hc1
  have ge1 := (hF8 e (by omega) (by omega)).trans he1
  have gcb := (hF8 (c + 3) (by omega) (by omega)).trans hcb
  have geb := (hF8 (e + 3) (by omega) (by omega)).trans heb
  have hVb := hV.2.2.fr hF8 (by omega) (by omega) (by omega)
  have hWb := hW.2.2.fr hF8 (by omega) (by omega) (by omega)
  refine g_aload_n (pc := 11) C d_Res_become_11 0 rfl ?_
  refine g_get (pc := 12) C fl_Res_20 gc1 (by omega) rfl d_Res_become_12 ?_
  refine g_aload_n (pc := 15) C d_Res_become_15 1 rfl ?_
  refine g_get (pc := 16) C fl_Res_20 ge1 (by omega) rfl d_Res_become_16 ?_
  refine g_cv (pc := 19) C (g_rV (As := [.ref (ka K (e + 3))]) (rest := []) C (c_Bytes_become _ K _ (c + 3) 80 v.2.1 (e + 3) 80 w.2.1 hebl (by omega) (by omega) (by omega) hVb hWb) mw_Bytes_become mo_Bytes_become ml_Res_23 (by decide) gcb rfl (by omega) rfl rfl (Nat.le_of_ble_eq_true rfl) d_Res_become_19) (fun E19 hp19 => ?_)
  obtain ⟨hB19, hF19⟩ := hp19
  have kc1 := (hF19 c (by omega) (by omega)).trans gc1
  have ke1 := (hF19 e (by omega) (by omega)).trans ge1
  have hBp := hB8.fr hF19 (by omega) (by omega) (by omega)
  refine g_aload_n (pc := 22) C d_Res_become_22 0 rfl ?_
  refine g_aload_n (pc := 23) C d_Res_become_23 1 rfl ?_
  refine g_get (pc := 24) C fl_Res_27 ke1 (by omega) rfl d_Res_become_24 ?_
  refine g_put (pc := 27) C fl_Res_27 fw_Res_isFile kc1 (by omega) (Nat.le_of_ble_eq_true rfl) ⟨bI_nar _, bI_fit _⟩ d_Res_become_27 (fun E27 hE27 => ?_)
  have fE27_1 : E27 c = .inr (4, [.ref (ka K (c + 1)), .ref (ka K (c + 3)), .int (bI w.2.2.1), .int v.2.2.2]) := by rw [hE27]; exact va_up_self _ _ _
  have fE27_2 := (congrFun hE27 e).trans ((va_up_ne _ _ (show e ≠ c from by omega)).trans ke1)
  refine g_aload_n (pc := 30) C d_Res_become_30 0 rfl ?_
  refine g_aload_n (pc := 31) C d_Res_become_31 1 rfl ?_
  refine g_get (pc := 32) C fl_Res_31 fE27_2 (by omega) rfl d_Res_become_32 ?_
  refine g_put (pc := 35) C fl_Res_31 fw_Res_version fE27_1 (by omega) (Nat.le_of_ble_eq_true rfl) ⟨rfl, rfl⟩ d_Res_become_35 (fun E35 hE35 => ?_)
  have fE35_1 : E35 c = .inr (4, [.ref (ka K (c + 1)), .ref (ka K (c + 3)), .int (bI w.2.2.1), .int w.2.2.2]) := by rw [hE35]; exact va_up_self _ _ _
  have fE35_2 := (congrFun hE35 e).trans ((va_up_ne _ _ (show e ≠ c from by omega)).trans fE27_2)
  refine g_vret (pc := 38) C hR d_Res_become_38 ?_
  exact ⟨⟨fE35_1, hBp.at (fun k g1 g2 => by rw [hE35, va_up_ne _ _ (by omega), hE27, va_up_ne _ _ (by omega)]), hB19.at (fun k g1 g2 => by rw [hE35, va_up_ne _ _ (by omega), hE27, va_up_ne _ _ (by omega)])⟩, fun k hk => by rw [hE35, va_up_ne _ _ (by omega), hE27, va_up_ne _ _ (by omega), hF19 k (by omega) (by omega), hF8 k (by omega) (by omega)]⟩

set_option maxHeartbeats 4000000 in
set_option maxRecDepth 100000 in
theorem c_Tree_besidesRoot (l : Launch) (K : gK) (E : gE) (q : Nat) (lt : Int32) (rs : List Re) (hn : 1 ≤ rs.length) (hTT : isTT K E q lt rs) : gMi l y_Tree_besidesRoot b_Tree_besidesRoot 1 .int 0 0 K E [.ref (ka K q)] (fun r E' => r = nI (rs.length - 1) ∧ E' = E) := by
  have hTT0 := hTT
  obtain ⟨π, v, f, hq1, hq2, hqf, hpm, hal, hlen, hvl, hqN⟩ := hTT
  refine g_meti (by decide +kernel) (Nat.le_of_ble_eq_true rfl) (fun X hl C hR => ?_)
  subst hl
  show gW X K E 0 [(0, .ref (ka K q))] []
  refine g_aload_n (pc := 0) C d_Tree_besidesRoot_0 0 rfl ?_
  refine g_get (pc := 1) C fl_Tree_26 hq1 (by omega) rfl d_Tree_besidesRoot_1 ?_
  refine g_iconst (pc := 4) (v := nI 1) C d_Tree_besidesRoot_4 (by decide) ?_
  refine g_isubN (pc := 5) C hn d_Tree_besidesRoot_5 ?_
  refine g_iret (pc := 6) C hR d_Tree_besidesRoot_6 ?_
  exact ⟨rfl, rfl⟩

set_option maxHeartbeats 4000000 in
set_option maxRecDepth 100000 in
theorem c_Tree_isFull (l : Launch) (K : gK) (E : gE) (q : Nat) (lt : Int32) (rs : List Re) (hTT : isTT K E q lt rs) : gMi l y_Tree_isFull b_Tree_isFull 1 .boolean 0 0 K E [.ref (ka K q)] (fun r E' => r = bI (decide (41 ≤ rs.length)) ∧ E' = E) := by
  have hTT0 := hTT
  obtain ⟨π, v, f, hq1, hq2, hqf, hpm, hal, hlen, hvl, hqN⟩ := hTT
  refine g_meti (by decide +kernel) (Nat.le_of_ble_eq_true rfl) (fun X hl C hR => ?_)
  subst hl
  show gW X K E 0 [(0, .ref (ka K q))] []
  refine g_aload_n (pc := 0) C d_Tree_isFull_0 0 rfl ?_
  refine g_get (pc := 1) C fl_Tree_26 hq1 (by omega) rfl d_Tree_isFull_1 ?_
  refine g_aload_n (pc := 4) C d_Tree_isFull_4 0 rfl ?_
  refine g_get (pc := 5) C fl_Tree_11 hq1 (by omega) rfl d_Tree_isFull_5 ?_
  refine g_alen (pc := 8) (n := 41) C hq2 (by omega) (gt_R _) rfl d_Tree_isFull_8 ?_
  refine g_icmp_ltN (pc := 9) C 16 d_Tree_isFull_9 (by decide) (by omega) (by omega) (fun h_9 => ?_) (fun h_9 => ?_)
  · skip
    refine g_iconst (pc := 16) (v := nI 0) C d_Tree_isFull_16 (by decide) ?_
    refine g_zret (pc := 17) C hR rfl d_Tree_isFull_17 ?_
    first
      | exact ⟨by rw [decide_eq_true (by omega)]; rfl, rfl⟩
      | exact ⟨by rw [decide_eq_false (by omega)]; rfl, rfl⟩
  · skip
    refine g_iconst (pc := 12) (v := nI 1) C d_Tree_isFull_12 (by decide) ?_
    refine g_goto (pc := 13) C 17 d_Tree_isFull_13 (by decide) ?_
    refine g_zret (pc := 17) C hR rfl d_Tree_isFull_17 ?_
    first
      | exact ⟨by rw [decide_eq_true (by omega)]; rfl, rfl⟩
      | exact ⟨by rw [decide_eq_false (by omega)]; rfl, rfl⟩

set_option maxHeartbeats 4000000 in
set_option maxRecDepth 100000 in
theorem w_files {X : gX} {K : gK} (C : gC X K b_Tree_files "DavRoom$Tree" 3 0 0) (E : gE) (q : Nat) (lt : Int32) (rs : List Re)  (hTT : isTT K E q lt rs) (hR : gRi X K .int (fun r E' => r = nI (rs.countP (fun v => v.2.2.1)) ∧ E' = E)) : ∀ (d k : Nat), k ≤ rs.length → rs.length + 1 ≤ k + d →  gW X K E 4 [(2, .int (nI k)), (1, .int (nI ((rs.take k).countP (fun v => v.2.2.1)))), (0, .ref (ka K q))] [] := by
  have hTT0 := hTT
  obtain ⟨π, v, f, hq1, hq2, hqf, hpm, hal, hlen, hvl, hqN⟩ := hTT
  intro d
  induction d with
  | zero =>
    intro k h1 h2
    exact absurd h2 (by omega)
  | succ d ih =>
    intro k hki hd
    refine g_iload_n (pc := 4) C d_Tree_files_4 0 rfl ?_
    refine g_aload_n (pc := 5) C d_Tree_files_5 2 rfl ?_
    refine g_get (pc := 6) C fl_Tree_26 hq1 (by omega) rfl d_Tree_files_6 ?_
    refine g_icmp_geN (pc := 9) C 38 d_Tree_files_9 (by decide) (by omega) (by omega) (fun h_9 => ?_) (fun h_9 => ?_)
    · skip
      have ek : k = rs.length := by omega
      rw [ek, List.take_length]
      refine g_iload_n (pc := 38) C d_Tree_files_38 1 rfl ?_
      refine g_iret (pc := 39) C hR d_Tree_files_39 ?_
      exact ⟨rfl, rfl⟩
    · skip
      have hk : k < rs.length := h_9
      obtain ⟨c, hc⟩ : ∃ c, c = q + 2 + 5 * π k := ⟨_, rfl⟩
      have hpk := hpm.1 k (by omega)
      have hcR : isR K E c rs[k] := by rw [hc, ← hvl k hk]; exact hal (π k) hpk
      have hcN : c + 5 ≤ kN K := by omega
      have hck : va_rf (f k) = .ref (ka K c) := by rw [hqf k (by omega), hc]; rfl
      have hc1 := hcR.1
      have hcp := hcR.2.1.1
      have hcb := hcR.2.2.1
      have hcpl := hcR.2.1.2.1
      have hcbl := hcR.2.2.2.1
      refine g_iload_n (pc := 12) C d_Tree_files_12 1 rfl ?_
      refine g_aload_n (pc := 13) C d_Tree_files_13 2 rfl ?_
      refine g_get (pc := 14) C fl_Tree_11 hq1 (by omega) rfl d_Tree_files_14 ?_
      refine g_iload_n (pc := 17) C d_Tree_files_17 0 rfl ?_
      refine g_aldN (pc := 18) C hq2 (by omega) (gt_R _) (by omega) (by omega) d_Tree_files_18 (hv := hck) ?_
      refine g_get (pc := 19) C fl_Tree_30 hc1 (by omega) rfl d_Tree_files_19 ?_
      refine g_if_eqB (pc := 22) C 29 d_Tree_files_22 (by decide) (fun h_22 => ?_) (fun h_22 => ?_)
      · skip
        refine g_iconst (pc := 29) (v := nI 0) C d_Tree_files_29 (by decide) ?_
        refine g_iaddN (pc := 30) C d_Tree_files_30 ?_
        refine g_istore_n (pc := 31) (lv' := [(1, .int (nI (((rs.take k).countP (fun v => v.2.2.1)) + 0))), (2, .int (nI k)), (0, .ref (ka K q))]) C d_Tree_files_31 rfl (by decide) rfl ?_
        refine g_iinc (pc := 32) (pl := 1) (v := nI (k + 1)) (lv' := [(2, .int (nI (k + 1))), (1, .int (nI (((rs.take k).countP (fun v => v.2.2.1)) + 0))), (0, .ref (ka K q))]) C d_Tree_files_32 rfl (nI_1 _) (by decide) rfl ?_
        refine g_goto (pc := 35) C 4 d_Tree_files_35 (by decide) ?_
        have e := ih (k + 1) (by omega) (by omega)
        rw [show (rs.take (k + 1)).countP (fun v => v.2.2.1) = ((rs.take k).countP (fun v => v.2.2.1)) + 0 from by rw [tk_cnt _ hk, h_22]; rfl] at e
        exact g_lv [0, 1, 2] rfl e
      · skip
        refine g_iconst (pc := 25) (v := nI 1) C d_Tree_files_25 (by decide) ?_
        refine g_goto (pc := 26) C 30 d_Tree_files_26 (by decide) ?_
        refine g_iaddN (pc := 30) C d_Tree_files_30 ?_
        refine g_istore_n (pc := 31) (lv' := [(1, .int (nI (((rs.take k).countP (fun v => v.2.2.1)) + 1))), (2, .int (nI k)), (0, .ref (ka K q))]) C d_Tree_files_31 rfl (by decide) rfl ?_
        refine g_iinc (pc := 32) (pl := 1) (v := nI (k + 1)) (lv' := [(2, .int (nI (k + 1))), (1, .int (nI (((rs.take k).countP (fun v => v.2.2.1)) + 1))), (0, .ref (ka K q))]) C d_Tree_files_32 rfl (nI_1 _) (by decide) rfl ?_
        refine g_goto (pc := 35) C 4 d_Tree_files_35 (by decide) ?_
        have e := ih (k + 1) (by omega) (by omega)
        rw [show (rs.take (k + 1)).countP (fun v => v.2.2.1) = ((rs.take k).countP (fun v => v.2.2.1)) + 1 from by rw [tk_cnt _ hk, h_22]; rfl] at e
        exact g_lv [0, 1, 2] rfl e

set_option maxHeartbeats 4000000 in
set_option maxRecDepth 100000 in
theorem c_Tree_files (l : Launch) (K : gK) (E : gE) (q : Nat) (lt : Int32) (rs : List Re)  (hTT : isTT K E q lt rs) : gMi l y_Tree_files b_Tree_files 3 .int 0 0 K E [.ref (ka K q)] (fun r E' => r = nI (rs.countP (fun v => v.2.2.1)) ∧ E' = E) := by
  refine g_meti (by decide +kernel) (Nat.le_of_ble_eq_true rfl) (fun X hl C hR => ?_)
  subst hl
  show gW X K E 0 [(0, .ref (ka K q))] []
  refine g_iconst (pc := 0) (v := nI 0) C d_Tree_files_0 (by decide) ?_
  refine g_istore_n (pc := 1) (lv' := [(1, .int (nI 0)), (0, .ref (ka K q))]) C d_Tree_files_1 rfl (by decide) rfl ?_
  refine g_iconst (pc := 2) (v := nI 0) C d_Tree_files_2 (by decide) ?_
  refine g_istore_n (pc := 3) (lv' := [(2, .int (nI 0)), (1, .int (nI 0)), (0, .ref (ka K q))]) C d_Tree_files_3 rfl (by decide) rfl ?_
  exact g_lv [0, 1, 2] rfl (w_files C E q lt rs  hTT hR (rs.length + 1) 0 (Nat.zero_le _) (by omega))

set_option maxHeartbeats 4000000 in
set_option maxRecDepth 100000 in
theorem w_bytes {X : gX} {K : gK} (C : gC X K b_Tree_bytes "DavRoom$Tree" 3 0 0) (E : gE) (q : Nat) (lt : Int32) (rs : List Re)  (hTT : isTT K E q lt rs) (hR : gRi X K .int (fun r E' => r = nI ((rs.map (fun v => v.2.1.length)).sum) ∧ E' = E)) : ∀ (d k : Nat), k ≤ rs.length → rs.length + 1 ≤ k + d →  gW X K E 4 [(2, .int (nI k)), (1, .int (nI (((rs.take k).map (fun v => v.2.1.length)).sum))), (0, .ref (ka K q))] [] := by
  have hTT0 := hTT
  obtain ⟨π, v, f, hq1, hq2, hqf, hpm, hal, hlen, hvl, hqN⟩ := hTT
  intro d
  induction d with
  | zero =>
    intro k h1 h2
    exact absurd h2 (by omega)
  | succ d ih =>
    intro k hki hd
    refine g_iload_n (pc := 4) C d_Tree_bytes_4 0 rfl ?_
    refine g_aload_n (pc := 5) C d_Tree_bytes_5 2 rfl ?_
    refine g_get (pc := 6) C fl_Tree_26 hq1 (by omega) rfl d_Tree_bytes_6 ?_
    refine g_icmp_geN (pc := 9) C 33 d_Tree_bytes_9 (by decide) (by omega) (by omega) (fun h_9 => ?_) (fun h_9 => ?_)
    · skip
      have ek : k = rs.length := by omega
      rw [ek, List.take_length]
      refine g_iload_n (pc := 33) C d_Tree_bytes_33 1 rfl ?_
      refine g_iret (pc := 34) C hR d_Tree_bytes_34 ?_
      exact ⟨rfl, rfl⟩
    · skip
      have hk : k < rs.length := h_9
      obtain ⟨c, hc⟩ : ∃ c, c = q + 2 + 5 * π k := ⟨_, rfl⟩
      have hpk := hpm.1 k (by omega)
      have hcR : isR K E c rs[k] := by rw [hc, ← hvl k hk]; exact hal (π k) hpk
      have hcN : c + 5 ≤ kN K := by omega
      have hck : va_rf (f k) = .ref (ka K c) := by rw [hqf k (by omega), hc]; rfl
      have hc1 := hcR.1
      have hcp := hcR.2.1.1
      have hcb := hcR.2.2.1
      have hcpl := hcR.2.1.2.1
      have hcbl := hcR.2.2.2.1
      refine g_iload_n (pc := 12) C d_Tree_bytes_12 1 rfl ?_
      refine g_aload_n (pc := 13) C d_Tree_bytes_13 2 rfl ?_
      refine g_get (pc := 14) C fl_Tree_11 hq1 (by omega) rfl d_Tree_bytes_14 ?_
      refine g_iload_n (pc := 17) C d_Tree_bytes_17 0 rfl ?_
      refine g_aldN (pc := 18) C hq2 (by omega) (gt_R _) (by omega) (by omega) d_Tree_bytes_18 (hv := hck) ?_
      refine g_get (pc := 19) C fl_Tree_34 hc1 (by omega) rfl d_Tree_bytes_19 ?_
      refine g_get (pc := 22) C fl_Tree_37 hcb (by omega) rfl d_Tree_bytes_22 ?_
      refine g_iaddN (pc := 25) C d_Tree_bytes_25 ?_
      refine g_istore_n (pc := 26) (lv' := [(1, .int (nI ((((rs.take k).map (fun v => v.2.1.length)).sum) + (rs[k].2.1.length)))), (2, .int (nI k)), (0, .ref (ka K q))]) C d_Tree_bytes_26 rfl (by decide) rfl ?_
      refine g_iinc (pc := 27) (pl := 1) (v := nI (k + 1)) (lv' := [(2, .int (nI (k + 1))), (1, .int (nI ((((rs.take k).map (fun v => v.2.1.length)).sum) + (rs[k].2.1.length)))), (0, .ref (ka K q))]) C d_Tree_bytes_27 rfl (nI_1 _) (by decide) rfl ?_
      refine g_goto (pc := 30) C 4 d_Tree_bytes_30 (by decide) ?_
      have e := ih (k + 1) (by omega) (by omega)
      rw [show ((rs.take (k + 1)).map (fun v => v.2.1.length)).sum = (((rs.take k).map (fun v => v.2.1.length)).sum) + (rs[k].2.1.length) from by rw [tk_sum _ hk]] at e
      exact g_lv [0, 1, 2] rfl e

set_option maxHeartbeats 4000000 in
set_option maxRecDepth 100000 in
theorem c_Tree_bytes (l : Launch) (K : gK) (E : gE) (q : Nat) (lt : Int32) (rs : List Re)  (hTT : isTT K E q lt rs) : gMi l y_Tree_bytes b_Tree_bytes 3 .int 0 0 K E [.ref (ka K q)] (fun r E' => r = nI ((rs.map (fun v => v.2.1.length)).sum) ∧ E' = E) := by
  refine g_meti (by decide +kernel) (Nat.le_of_ble_eq_true rfl) (fun X hl C hR => ?_)
  subst hl
  show gW X K E 0 [(0, .ref (ka K q))] []
  refine g_iconst (pc := 0) (v := nI 0) C d_Tree_bytes_0 (by decide) ?_
  refine g_istore_n (pc := 1) (lv' := [(1, .int (nI 0)), (0, .ref (ka K q))]) C d_Tree_bytes_1 rfl (by decide) rfl ?_
  refine g_iconst (pc := 2) (v := nI 0) C d_Tree_bytes_2 (by decide) ?_
  refine g_istore_n (pc := 3) (lv' := [(2, .int (nI 0)), (1, .int (nI 0)), (0, .ref (ka K q))]) C d_Tree_bytes_3 rfl (by decide) rfl ?_
  exact g_lv [0, 1, 2] rfl (w_bytes C E q lt rs  hTT hR (rs.length + 1) 0 (Nat.zero_le _) (by omega))

set_option maxHeartbeats 4000000 in
set_option maxRecDepth 100000 in
theorem w_sizeAt {X : gX} {K : gK} (C : gC X K b_Tree_sizeAt "DavRoom$Tree" 4 2 128) (E : gE) (q : Nat) (lt : Int32) (rs : List Re) (b cap : Nat) (p : Bs) (hB : isB K E b cap p) (hTT : isTT K E q lt rs) (hR : gRi X K .int (fun r E' => r = nI (rs.countP (fun v => atIn v.1 p)) ∧ E' = E)) : ∀ (d k : Nat), k ≤ rs.length → rs.length + 1 ≤ k + d →  gW X K E 4 [(3, .int (nI k)), (2, .int (nI ((rs.take k).countP (fun v => atIn v.1 p)))), (0, .ref (ka K q)), (1, .ref (ka K b))] [] := by
  have hTT0 := hTT
  obtain ⟨π, v, f, hq1, hq2, hqf, hpm, hal, hlen, hvl, hqN⟩ := hTT
  intro d
  induction d with
  | zero =>
    intro k h1 h2
    exact absurd h2 (by omega)
  | succ d ih =>
    intro k hki hd
    refine g_iload_n (pc := 4) C d_Tree_sizeAt_4 0 rfl ?_
    refine g_aload_n (pc := 5) C d_Tree_sizeAt_5 2 rfl ?_
    refine g_get (pc := 6) C fl_Tree_26 hq1 (by omega) rfl d_Tree_sizeAt_6 ?_
    refine g_icmp_geN (pc := 9) C 42 d_Tree_sizeAt_9 (by decide) (by omega) (by omega) (fun h_9 => ?_) (fun h_9 => ?_)
    · skip
      have ek : k = rs.length := by omega
      rw [ek, List.take_length]
      refine g_iload_n (pc := 42) C d_Tree_sizeAt_42 1 rfl ?_
      refine g_iret (pc := 43) C hR d_Tree_sizeAt_43 ?_
      exact ⟨rfl, rfl⟩
    · skip
      have hk : k < rs.length := h_9
      obtain ⟨c, hc⟩ : ∃ c, c = q + 2 + 5 * π k := ⟨_, rfl⟩
      have hpk := hpm.1 k (by omega)
      have hcR : isR K E c rs[k] := by rw [hc, ← hvl k hk]; exact hal (π k) hpk
      have hcN : c + 5 ≤ kN K := by omega
      have hck : va_rf (f k) = .ref (ka K c) := by rw [hqf k (by omega), hc]; rfl
      have hc1 := hcR.1
      have hcp := hcR.2.1.1
      have hcb := hcR.2.2.1
      have hcpl := hcR.2.1.2.1
      have hcbl := hcR.2.2.2.1
      refine g_iload_n (pc := 12) C d_Tree_sizeAt_12 1 rfl ?_
      refine g_aload_n (pc := 13) C d_Tree_sizeAt_13 2 rfl ?_
      refine g_get (pc := 14) C fl_Tree_11 hq1 (by omega) rfl d_Tree_sizeAt_14 ?_
      refine g_iload_n (pc := 17) C d_Tree_sizeAt_17 0 rfl ?_
      refine g_aldN (pc := 18) C hq2 (by omega) (gt_R _) (by omega) (by omega) d_Tree_sizeAt_18 (hv := hck) ?_
      refine g_get (pc := 19) C fl_Tree_16 hc1 (by omega) rfl d_Tree_sizeAt_19 ?_
      refine g_aload_n (pc := 22) C d_Tree_sizeAt_22 3 rfl ?_
      refine g_ci (pc := 23) C (g_rS (As := [.ref (ka K (c + 1)), .ref (ka K b)]) (rest := [.int (nI ((rs.take k).countP (fun v => atIn v.1 p)))]) C (c_Paths_isAtOrIn _ K _ (c + 1) 45 rs[k].1 b cap p hcR.2.1 hB) mw_Paths_isAtOrIn mo_Paths_isAtOrIn ml_Tree_58 (by decide) rfl rfl (Nat.le_of_ble_eq_true rfl) d_Tree_sizeAt_23) (fun r23 E23 hp23 => ?_)
      rw [hp23.1, hp23.2]
      refine g_if_eqB (pc := 26) C 33 d_Tree_sizeAt_26 (by decide) (fun h_26 => ?_) (fun h_26 => ?_)
      · skip
        refine g_iconst (pc := 33) (v := nI 0) C d_Tree_sizeAt_33 (by decide) ?_
        refine g_iaddN (pc := 34) C d_Tree_sizeAt_34 ?_
        refine g_istore_n (pc := 35) (lv' := [(2, .int (nI (((rs.take k).countP (fun v => atIn v.1 p)) + 0))), (3, .int (nI k)), (0, .ref (ka K q)), (1, .ref (ka K b))]) C d_Tree_sizeAt_35 rfl (by decide) rfl ?_
        refine g_iinc (pc := 36) (pl := 1) (v := nI (k + 1)) (lv' := [(3, .int (nI (k + 1))), (2, .int (nI (((rs.take k).countP (fun v => atIn v.1 p)) + 0))), (0, .ref (ka K q)), (1, .ref (ka K b))]) C d_Tree_sizeAt_36 rfl (nI_1 _) (by decide) rfl ?_
        refine g_goto (pc := 39) C 4 d_Tree_sizeAt_39 (by decide) ?_
        have e := ih (k + 1) (by omega) (by omega)
        rw [show (rs.take (k + 1)).countP (fun v => atIn v.1 p) = ((rs.take k).countP (fun v => atIn v.1 p)) + 0 from by rw [tk_cnt _ hk, h_26]; rfl] at e
        exact g_lv [0, 1, 2, 3] rfl e
      · skip
        refine g_iconst (pc := 29) (v := nI 1) C d_Tree_sizeAt_29 (by decide) ?_
        refine g_goto (pc := 30) C 34 d_Tree_sizeAt_30 (by decide) ?_
        refine g_iaddN (pc := 34) C d_Tree_sizeAt_34 ?_
        refine g_istore_n (pc := 35) (lv' := [(2, .int (nI (((rs.take k).countP (fun v => atIn v.1 p)) + 1))), (3, .int (nI k)), (0, .ref (ka K q)), (1, .ref (ka K b))]) C d_Tree_sizeAt_35 rfl (by decide) rfl ?_
        refine g_iinc (pc := 36) (pl := 1) (v := nI (k + 1)) (lv' := [(3, .int (nI (k + 1))), (2, .int (nI (((rs.take k).countP (fun v => atIn v.1 p)) + 1))), (0, .ref (ka K q)), (1, .ref (ka K b))]) C d_Tree_sizeAt_36 rfl (nI_1 _) (by decide) rfl ?_
        refine g_goto (pc := 39) C 4 d_Tree_sizeAt_39 (by decide) ?_
        have e := ih (k + 1) (by omega) (by omega)
        rw [show (rs.take (k + 1)).countP (fun v => atIn v.1 p) = ((rs.take k).countP (fun v => atIn v.1 p)) + 1 from by rw [tk_cnt _ hk, h_26]; rfl] at e
        exact g_lv [0, 1, 2, 3] rfl e

set_option maxHeartbeats 4000000 in
set_option maxRecDepth 100000 in
theorem c_Tree_sizeAt (l : Launch) (K : gK) (E : gE) (q : Nat) (lt : Int32) (rs : List Re) (b cap : Nat) (p : Bs) (hB : isB K E b cap p) (hTT : isTT K E q lt rs) : gMi l y_Tree_sizeAt b_Tree_sizeAt 4 .int 2 128 K E [.ref (ka K q), .ref (ka K b)] (fun r E' => r = nI (rs.countP (fun v => atIn v.1 p)) ∧ E' = E) := by
  refine g_meti (by decide +kernel) (Nat.le_of_ble_eq_true rfl) (fun X hl C hR => ?_)
  subst hl
  show gW X K E 0 [(0, .ref (ka K q)), (1, .ref (ka K b))] []
  refine g_iconst (pc := 0) (v := nI 0) C d_Tree_sizeAt_0 (by decide) ?_
  refine g_istore_n (pc := 1) (lv' := [(2, .int (nI 0)), (0, .ref (ka K q)), (1, .ref (ka K b))]) C d_Tree_sizeAt_1 rfl (by decide) rfl ?_
  refine g_iconst (pc := 2) (v := nI 0) C d_Tree_sizeAt_2 (by decide) ?_
  refine g_istore_n (pc := 3) (lv' := [(3, .int (nI 0)), (2, .int (nI 0)), (0, .ref (ka K q)), (1, .ref (ka K b))]) C d_Tree_sizeAt_3 rfl (by decide) rfl ?_
  exact g_lv [0, 1, 2, 3] rfl (w_sizeAt C E q lt rs b cap p hB hTT hR (rs.length + 1) 0 (Nat.zero_le _) (by omega))

set_option maxHeartbeats 4000000 in
set_option maxRecDepth 100000 in
theorem w_find {X : gX} {K : gK} (C : gC X K b_Tree_find "DavRoom$Tree" 5 1 64) (E : gE) (q : Nat) (lt : Int32) (rs : List Re) (b cap : Nat) (p : Bs) (hB : isB K E b cap p) (m : Nat) (hm : m < 2 ^ 31) (hTT : isTT K E q lt rs) (hR : gRq X K (.object "DavRoom$Resource") (fun o E' => E' = E ∧ optR K E q lt rs (rs.findIdx? (FP p m)) o)) : ∀ (d k : Nat), k ≤ rs.length → rs.length + 1 ≤ k + d → (∀ (j : Nat) (hj : j < rs.length), j < k → FP p m rs[j] = false) → gW X K E 2 [(3, .int (nI k)), (0, .ref (ka K q)), (1, .ref (ka K b)), (2, .int (nI m))] [] := by
  have hTT0 := hTT
  obtain ⟨π, v, f, hq1, hq2, hqf, hpm, hal, hlen, hvl, hqN⟩ := hTT
  intro d
  induction d with
  | zero =>
    intro k h1 h2
    exact absurd h2 (by omega)
  | succ d ih =>
    intro k hki hd hinv
    refine g_iload_n (pc := 2) C d_Tree_find_2 0 rfl ?_
    refine g_aload_n (pc := 3) C d_Tree_find_3 1 rfl ?_
    refine g_get (pc := 4) C fl_Tree_26 hq1 (by omega) rfl d_Tree_find_4 ?_
    refine g_icmp_geN (pc := 7) C 53 d_Tree_find_7 (by decide) (by omega) (by omega) (fun h_7 => ?_) (fun h_7 => ?_)
    · skip
      have ek : k = rs.length := by omega
      refine g_null (pc := 53) C d_Tree_find_53 ?_
      refine g_aret (pc := 54) (k := none) C hR rfl d_Tree_find_54 ?_
      exact ⟨rfl, Or.inl ⟨fnd_no _ (fun j hj => hinv j hj (by omega)), rfl⟩⟩
    · skip
      have hk : k < rs.length := h_7
      obtain ⟨c, hc⟩ : ∃ c, c = q + 2 + 5 * π k := ⟨_, rfl⟩
      have hpk := hpm.1 k (by omega)
      have hcR : isR K E c rs[k] := by rw [hc, ← hvl k hk]; exact hal (π k) hpk
      have hcN : c + 5 ≤ kN K := by omega
      have hck : va_rf (f k) = .ref (ka K c) := by rw [hqf k (by omega), hc]; rfl
      have hc1 := hcR.1
      have hcp := hcR.2.1.1
      have hcb := hcR.2.2.1
      have hcpl := hcR.2.1.2.1
      have hcbl := hcR.2.2.2.1
      refine g_aload_n (pc := 10) C d_Tree_find_10 1 rfl ?_
      refine g_get (pc := 11) C fl_Tree_11 hq1 (by omega) rfl d_Tree_find_11 ?_
      refine g_iload_n (pc := 14) C d_Tree_find_14 0 rfl ?_
      refine g_aldN (pc := 15) C hq2 (by omega) (gt_R _) (by omega) (by omega) d_Tree_find_15 (hv := hck) ?_
      refine g_get (pc := 16) C fl_Tree_16 hc1 (by omega) rfl d_Tree_find_16 ?_
      refine g_astore (pc := 19) (lv' := [(4, .ref (ka K (c + 1))), (3, .int (nI k)), (0, .ref (ka K q)), (1, .ref (ka K b)), (2, .int (nI m))]) C d_Tree_find_19 (by decide) rfl ?_
      refine g_aload (pc := 21) C d_Tree_find_21 0 rfl ?_
      refine g_get (pc := 23) C fl_Tree_37 hcp (by omega) rfl d_Tree_find_23 ?_
      refine g_iload_n (pc := 26) C d_Tree_find_26 4 rfl ?_
      refine g_icmp_neN (pc := 27) C 47 d_Tree_find_27 (by decide) (by omega) (by omega) (fun h_27 => ?_) (fun h_27 => ?_)
      · skip
        refine g_iinc (pc := 47) (pl := 1) (v := nI (k + 1)) (lv' := [(3, .int (nI (k + 1))), (4, .ref (ka K (c + 1))), (0, .ref (ka K q)), (1, .ref (ka K b)), (2, .int (nI m))]) C d_Tree_find_47 rfl (nI_1 _) (by decide) rfl ?_
        refine g_goto (pc := 50) C 2 d_Tree_find_50 (by decide) ?_
        exact g_lv [0, 2, 3, 4] rfl (ih (k + 1) (by omega) (by omega) (fun j hj hjk => by
          rcases Nat.lt_or_ge j k with z | z
          · exact hinv j hj z
          · have e : j = k := by omega
            subst e
            first
              | (simp [FP, h_27]; done)
              | (simp [FP, h_37]; done)))
      · skip
        refine g_aload (pc := 30) C d_Tree_find_30 0 rfl ?_
        refine g_aload_n (pc := 32) C d_Tree_find_32 3 rfl ?_
        refine g_iload_n (pc := 33) C d_Tree_find_33 4 rfl ?_
        refine g_ci (pc := 34) C (g_rV (As := [.ref (ka K b), .int (nI m)]) (rest := []) C (c_Bytes_beginsLike _ K _ (c + 1) 45 rs[k].1 b cap p m hm hcR.2.1 hB) mw_Bytes_beginsLike mo_Bytes_beginsLike ml_Tree_40 (by decide) hcp rfl (by omega) rfl rfl (Nat.le_of_ble_eq_true rfl) d_Tree_find_34) (fun r34 E34 hp34 => ?_)
        rw [hp34.1, hp34.2]
        refine g_if_eqB (pc := 37) C 47 d_Tree_find_37 (by decide) (fun h_37 => ?_) (fun h_37 => ?_)
        · skip
          refine g_iinc (pc := 47) (pl := 1) (v := nI (k + 1)) (lv' := [(3, .int (nI (k + 1))), (4, .ref (ka K (c + 1))), (0, .ref (ka K q)), (1, .ref (ka K b)), (2, .int (nI m))]) C d_Tree_find_47 rfl (nI_1 _) (by decide) rfl ?_
          refine g_goto (pc := 50) C 2 d_Tree_find_50 (by decide) ?_
          exact g_lv [0, 2, 3, 4] rfl (ih (k + 1) (by omega) (by omega) (fun j hj hjk => by
            rcases Nat.lt_or_ge j k with z | z
            · exact hinv j hj z
            · have e : j = k := by omega
              subst e
              first
                | (simp [FP, h_27]; done)
                | (simp [FP, h_37]; done)))
        · skip
          refine g_aload_n (pc := 40) C d_Tree_find_40 2 rfl ?_
          refine g_get (pc := 41) C fl_Tree_11 hq1 (by omega) rfl d_Tree_find_41 ?_
          refine g_iload_n (pc := 44) C d_Tree_find_44 1 rfl ?_
          refine g_aldN (pc := 45) C hq2 (by omega) (gt_R _) (by omega) (by omega) d_Tree_find_45 (hv := hck) ?_
          refine g_aret (pc := 46) (k := some c) C hR rfl d_Tree_find_46 ?_
          have hraw : rawR K E q rs.length lt π v := ⟨hq1, ⟨f, hq2, hqf⟩, hpm, hal, hlen, hqN⟩
          refine ⟨rfl, Or.inr ⟨k, c, fnd_hit _ hk hinv (by simp [FP, h_27, h_37]), rfl, ?_⟩⟩
          rw [hc]
          exact hraw.slot rfl hvl hk

set_option maxHeartbeats 4000000 in
set_option maxRecDepth 100000 in
theorem c_Tree_find (l : Launch) (K : gK) (E : gE) (q : Nat) (lt : Int32) (rs : List Re) (b cap : Nat) (p : Bs) (hB : isB K E b cap p) (m : Nat) (hm : m < 2 ^ 31) (hTT : isTT K E q lt rs) : gMq l y_Tree_find b_Tree_find 5 (.object "DavRoom$Resource") 1 64 K E [.ref (ka K q), .ref (ka K b), .int (nI m)] (fun o E' => E' = E ∧ optR K E q lt rs (rs.findIdx? (FP p m)) o) := by
  refine g_metq (by decide +kernel) (Nat.le_of_ble_eq_true rfl) (fun X hl C hR => ?_)
  subst hl
  show gW X K E 0 [(0, .ref (ka K q)), (1, .ref (ka K b)), (2, .int (nI m))] []
  refine g_iconst (pc := 0) (v := nI 0) C d_Tree_find_0 (by decide) ?_
  refine g_istore_n (pc := 1) (lv' := [(3, .int (nI 0)), (0, .ref (ka K q)), (1, .ref (ka K b)), (2, .int (nI m))]) C d_Tree_find_1 rfl (by decide) rfl ?_
  exact g_lv [0, 1, 2, 3] rfl (w_find C E q lt rs b cap p hB m hm hTT hR (rs.length + 1) 0 (Nat.zero_le _) (by omega) (fun j _ h => absurd h (Nat.not_lt_zero _)))

set_option maxHeartbeats 4000000 in
set_option maxRecDepth 100000 in
theorem c_Tree_homeOf (l : Launch) (K : gK) (E : gE) (q : Nat) (lt : Int32) (rs : List Re) (b cap : Nat) (p : Bs) (hB : isB K E b cap p) (hp : 1 ≤ p.length) (hTT : isTT K E q lt rs) : gMq l y_Tree_homeOf b_Tree_homeOf 3 (.object "DavRoom$Resource") 2 128 K E [.ref (ka K q), .ref (ka K b)] (fun o E' => E' = E ∧ optR K E q lt rs (homeIx rs p) o) := by
  have hq1 : E q = .inr (5, [.ref (ka K (q + 1)), .int (nI rs.length), .int lt]) := by
    obtain ⟨π, v, f, h, -⟩ := hTT
    exact h
  have hqN0 : q < kN K := by
    obtain ⟨π, v, f, -, -, -, -, -, -, -, h⟩ := hTT
    omega
  have hcu := cutF_le p p.length
  have hple := hB.2.1
  have hpc := hB.2.2.2.1
  have hho : homeLen p ≤ 400 := by unfold homeLen; omega
  refine g_metq (by decide +kernel) (Nat.le_of_ble_eq_true rfl) (fun X hl C hR => ?_)
  subst hl
  show gW X K E 0 [(0, .ref (ka K q)), (1, .ref (ka K b))] []
  refine g_aload_n (pc := 0) C d_Tree_homeOf_0 1 rfl ?_
  refine g_ci (pc := 1) C (g_rS (As := [.ref (ka K b)]) (rest := []) C (c_Paths_isRoot _ K _ b cap p hB) mw_Paths_isRoot mo_Paths_isRoot ml_Tree_44 (by decide) rfl rfl (Nat.le_of_ble_eq_true rfl) d_Tree_homeOf_1) (fun r1 E1 hp1 => ?_)
  rw [hp1.1, hp1.2]
  refine g_if_eqB (pc := 4) C 9 d_Tree_homeOf_4 (by decide) (fun h_4 => ?_) (fun h_4 => ?_)
  · skip
    refine g_aload_n (pc := 9) C d_Tree_homeOf_9 0 rfl ?_
    refine g_aload_n (pc := 10) C d_Tree_homeOf_10 1 rfl ?_
    refine g_aload_n (pc := 11) C d_Tree_homeOf_11 1 rfl ?_
    refine g_ci (pc := 12) C (g_rS (As := [.ref (ka K b)]) (rest := [.ref (ka K b), .ref (ka K q)]) C (c_Paths_homeLength _ K _ b cap p hp hB) mw_Paths_homeLength mo_Paths_homeLength ml_Tree_50 (by decide) rfl rfl (Nat.le_of_ble_eq_true rfl) d_Tree_homeOf_12) (fun r12 E12 hp12 => ?_)
    rw [hp12.1, hp12.2]
    refine g_cq (pc := 15) C (g_rV (As := [.ref (ka K b), .int (nI (homeLen p))]) (rest := []) C (c_Tree_find _ K _ q lt rs b cap p hB (homeLen p) (by omega) hTT) mw_Tree_find mo_Tree_find ml_Tree_54 (by decide) hq1 rfl (by omega) rfl rfl (Nat.le_of_ble_eq_true rfl) d_Tree_homeOf_15) (fun E15 hp15 => ?_) (fun q15 E15 hp15 => ?_)
    · skip
      obtain ⟨hE15, ho⟩ := hp15
      rw [hE15]
      have hno : rs.findIdx? (FP p (homeLen p)) = none := by
        rcases ho with z | ⟨i, c, _, z, _⟩
        · exact z.1
        · cases z
      refine g_astore_nN (pc := 18) (lv' := [(2, .null), (0, .ref (ka K q)), (1, .ref (ka K b))]) C d_Tree_homeOf_18 rfl (by decide) rfl ?_
      refine g_aload_nN (pc := 19) C d_Tree_homeOf_19 0 rfl ?_
      refine g_ifnullN (pc := 20) C 30 d_Tree_homeOf_20 (by decide) ?_
      refine g_null (pc := 30) C d_Tree_homeOf_30 ?_
      refine g_goto (pc := 31) C 35 d_Tree_homeOf_31 (by decide) ?_
      refine g_aret (pc := 35) (k := none) C hR rfl d_Tree_homeOf_35 ?_
      first
        | exact ⟨rfl, Or.inl ⟨homeIx_n (of_decide_eq_false h_4) hno, rfl⟩⟩
        | exact ⟨rfl, Or.inl ⟨homeIx_f (of_decide_eq_false h_4) hfi hi h_27, rfl⟩⟩
        | exact ⟨rfl, Or.inr ⟨i, q15, homeIx_t (of_decide_eq_false h_4) hfi hi h_27, rfl, hsl⟩⟩
    · skip
      obtain ⟨hE15, ho⟩ := hp15
      rw [hE15]
      obtain ⟨i, hfi, hsl⟩ : ∃ i, rs.findIdx? (FP p (homeLen p)) = some i ∧ slotR K E q q15 i lt rs := by
        rcases ho with z | ⟨i, c, z1, z2, z3⟩
        · cases z.2
        · cases z2
          exact ⟨i, z1, z3⟩
      obtain ⟨hs1, hs2, hqN, hi, hcR⟩ := hsl.facts
      have hc1 := hcR.1
      refine g_astore_n (pc := 18) (lv' := [(2, .ref (ka K q15)), (0, .ref (ka K q)), (1, .ref (ka K b))]) C d_Tree_homeOf_18 rfl (by decide) rfl ?_
      refine g_aload_n (pc := 19) C d_Tree_homeOf_19 0 rfl ?_
      refine g_ifnull (pc := 20) C d_Tree_homeOf_20 ?_
      refine g_aload_n (pc := 23) C d_Tree_homeOf_23 0 rfl ?_
      refine g_get (pc := 24) C fl_Tree_30 hc1 (by omega) rfl d_Tree_homeOf_24 ?_
      refine g_if_eqB (pc := 27) C 34 d_Tree_homeOf_27 (by decide) (fun h_27 => ?_) (fun h_27 => ?_)
      · skip
        refine g_aload_n (pc := 34) C d_Tree_homeOf_34 0 rfl ?_
        refine g_aret (pc := 35) (k := some q15) C hR rfl d_Tree_homeOf_35 ?_
        first
          | exact ⟨rfl, Or.inl ⟨homeIx_n (of_decide_eq_false h_4) hno, rfl⟩⟩
          | exact ⟨rfl, Or.inl ⟨homeIx_f (of_decide_eq_false h_4) hfi hi h_27, rfl⟩⟩
          | exact ⟨rfl, Or.inr ⟨i, q15, homeIx_t (of_decide_eq_false h_4) hfi hi h_27, rfl, hsl⟩⟩
      · skip
        refine g_null (pc := 30) C d_Tree_homeOf_30 ?_
        refine g_goto (pc := 31) C 35 d_Tree_homeOf_31 (by decide) ?_
        refine g_aret (pc := 35) (k := none) C hR rfl d_Tree_homeOf_35 ?_
        first
          | exact ⟨rfl, Or.inl ⟨homeIx_n (of_decide_eq_false h_4) hno, rfl⟩⟩
          | exact ⟨rfl, Or.inl ⟨homeIx_f (of_decide_eq_false h_4) hfi hi h_27, rfl⟩⟩
          | exact ⟨rfl, Or.inr ⟨i, q15, homeIx_t (of_decide_eq_false h_4) hfi hi h_27, rfl, hsl⟩⟩
  · skip
    refine g_null (pc := 7) C d_Tree_homeOf_7 ?_
    refine g_aret (pc := 8) (k := none) C hR rfl d_Tree_homeOf_8 ?_
    exact ⟨rfl, Or.inl ⟨homeIx_r (of_decide_eq_true h_4), rfl⟩⟩

set_option maxHeartbeats 4000000 in
set_option maxRecDepth 100000 in
theorem w_reachOf {X : gX} {K : gK} (C : gC X K b_Tree_reachOf "DavRoom$Tree" 4 2 128) (E : gE) (q : Nat) (lt : Int32) (rs : List Re) (b cap : Nat) (p : Bs) (hB : isB K E b cap p) (hTT : isTT K E q lt rs) (hR : gRi X K .int (fun r E' => r = nI (rs.foldl (reachF p) 0) ∧ E' = E)) : ∀ (d k : Nat), k ≤ rs.length → rs.length + 1 ≤ k + d →  gW X K E 4 [(3, .int (nI k)), (2, .int (nI ((rs.take k).foldl (reachF p) 0))), (0, .ref (ka K q)), (1, .ref (ka K b))] [] := by
  have hTT0 := hTT
  obtain ⟨π, v, f, hq1, hq2, hqf, hpm, hal, hlen, hvl, hqN⟩ := hTT
  intro d
  induction d with
  | zero =>
    intro k h1 h2
    exact absurd h2 (by omega)
  | succ d ih =>
    intro k hki hd
    have hpl : ∀ w ∈ rs.take k, w.1.length ≤ 45 := fun w hw => by
      obtain ⟨j, hj, e⟩ := List.getElem_of_mem (List.mem_of_mem_take hw)
      rw [← e, ← hvl j hj]
      exact (hal (π j) (hpm.1 j (by omega))).2.1.2.1
    refine g_iload_n (pc := 4) C d_Tree_reachOf_4 0 rfl ?_
    refine g_aload_n (pc := 5) C d_Tree_reachOf_5 2 rfl ?_
    refine g_get (pc := 6) C fl_Tree_26 hq1 (by omega) rfl d_Tree_reachOf_6 ?_
    refine g_icmp_geN (pc := 9) C 51 d_Tree_reachOf_9 (by decide) (by omega) (by omega) (fun h_9 => ?_) (fun h_9 => ?_)
    · skip
      have ek : k = rs.length := by omega
      rw [ek, List.take_length]
      refine g_iload_n (pc := 51) C d_Tree_reachOf_51 1 rfl ?_
      refine g_iret (pc := 52) C hR d_Tree_reachOf_52 ?_
      exact ⟨rfl, rfl⟩
    · skip
      have hk : k < rs.length := h_9
      obtain ⟨c, hc⟩ : ∃ c, c = q + 2 + 5 * π k := ⟨_, rfl⟩
      have hpk := hpm.1 k (by omega)
      have hcR : isR K E c rs[k] := by rw [hc, ← hvl k hk]; exact hal (π k) hpk
      have hcN : c + 5 ≤ kN K := by omega
      have hck : va_rf (f k) = .ref (ka K c) := by rw [hqf k (by omega), hc]; rfl
      have hc1 := hcR.1
      have hcp := hcR.2.1.1
      have hcb := hcR.2.2.1
      have hcpl := hcR.2.1.2.1
      have hcbl := hcR.2.2.2.1
      refine g_aload_n (pc := 12) C d_Tree_reachOf_12 2 rfl ?_
      refine g_get (pc := 13) C fl_Tree_11 hq1 (by omega) rfl d_Tree_reachOf_13 ?_
      refine g_iload_n (pc := 16) C d_Tree_reachOf_16 0 rfl ?_
      refine g_aldN (pc := 17) C hq2 (by omega) (gt_R _) (by omega) (by omega) d_Tree_reachOf_17 (hv := hck) ?_
      refine g_get (pc := 18) C fl_Tree_16 hc1 (by omega) rfl d_Tree_reachOf_18 ?_
      refine g_aload_n (pc := 21) C d_Tree_reachOf_21 3 rfl ?_
      refine g_ci (pc := 22) C (g_rS (As := [.ref (ka K (c + 1)), .ref (ka K b)]) (rest := []) C (c_Paths_isAtOrIn _ K _ (c + 1) 45 rs[k].1 b cap p hcR.2.1 hB) mw_Paths_isAtOrIn mo_Paths_isAtOrIn ml_Tree_58 (by decide) rfl rfl (Nat.le_of_ble_eq_true rfl) d_Tree_reachOf_22) (fun r22 E22 hp22 => ?_)
      rw [hp22.1, hp22.2]
      refine g_if_eqB (pc := 25) C 45 d_Tree_reachOf_25 (by decide) (fun h_25 => ?_) (fun h_25 => ?_)
      · skip
        refine g_iinc (pc := 45) (pl := 0) (v := nI (k + 1)) (lv' := [(3, .int (nI (k + 1))), (2, .int (nI ((rs.take k).foldl (reachF p) 0))), (0, .ref (ka K q)), (1, .ref (ka K b))]) C d_Tree_reachOf_45 rfl (nI_1 _) (by decide) rfl ?_
        refine g_goto (pc := 48) C 4 d_Tree_reachOf_48 (by decide) ?_
        have e := ih (k + 1) (by omega) (by omega)
        rw [show (rs.take (k + 1)).foldl (reachF p) 0 = (rs.take k).foldl (reachF p) 0 from by rw [tk_fld _ _ hk, reachF]; simp [h_25]] at e
        exact g_lv [0, 1, 2, 3] rfl e
      · skip
        refine g_iload_n (pc := 28) C d_Tree_reachOf_28 1 rfl ?_
        refine g_aload_n (pc := 29) C d_Tree_reachOf_29 2 rfl ?_
        refine g_get (pc := 30) C fl_Tree_11 hq1 (by omega) rfl d_Tree_reachOf_30 ?_
        refine g_iload_n (pc := 33) C d_Tree_reachOf_33 0 rfl ?_
        refine g_aldN (pc := 34) C hq2 (by omega) (gt_R _) (by omega) (by omega) d_Tree_reachOf_34 (hv := hck) ?_
        refine g_get (pc := 35) C fl_Tree_16 hc1 (by omega) rfl d_Tree_reachOf_35 ?_
        refine g_ci (pc := 38) C (g_rS (As := [.ref (ka K (c + 1))]) (rest := [.int (nI ((rs.take k).foldl (reachF p) 0))]) C (c_Paths_segments _ K _ (c + 1) 45 rs[k].1 hcR.2.1) mw_Paths_segments mo_Paths_segments ml_Tree_62 (by decide) rfl rfl (Nat.le_of_ble_eq_true rfl) d_Tree_reachOf_38) (fun r38 E38 hp38 => ?_)
        rw [hp38.1, hp38.2]
        refine g_mmaxI (pc := 41) C ml_Tree_65 (by decide) (Nat.le_of_ble_eq_true rfl) d_Tree_reachOf_41 ?_
        refine g_top (max_nI (Nat.lt_of_le_of_lt (reach_le p _ hpl 0 (by omega)) (by decide)) (Nat.lt_of_le_of_lt (segs_le hcpl) (by decide))) ?_
        refine g_istore_n (pc := 44) (lv' := [(2, .int (nI (max ((rs.take k).foldl (reachF p) 0) (segs rs[k].1)))), (3, .int (nI k)), (0, .ref (ka K q)), (1, .ref (ka K b))]) C d_Tree_reachOf_44 rfl (by decide) rfl ?_
        refine g_iinc (pc := 45) (pl := 1) (v := nI (k + 1)) (lv' := [(3, .int (nI (k + 1))), (2, .int (nI (max ((rs.take k).foldl (reachF p) 0) (segs rs[k].1)))), (0, .ref (ka K q)), (1, .ref (ka K b))]) C d_Tree_reachOf_45 rfl (nI_1 _) (by decide) rfl ?_
        refine g_goto (pc := 48) C 4 d_Tree_reachOf_48 (by decide) ?_
        have e := ih (k + 1) (by omega) (by omega)
        rw [show (rs.take (k + 1)).foldl (reachF p) 0 = max ((rs.take k).foldl (reachF p) 0) (segs rs[k].1) from by rw [tk_fld _ _ hk, reachF]; simp [h_25]] at e
        exact g_lv [0, 1, 2, 3] rfl e

set_option maxHeartbeats 4000000 in
set_option maxRecDepth 100000 in
theorem c_Tree_reachOf (l : Launch) (K : gK) (E : gE) (q : Nat) (lt : Int32) (rs : List Re) (b cap : Nat) (p : Bs) (hB : isB K E b cap p) (hTT : isTT K E q lt rs) : gMi l y_Tree_reachOf b_Tree_reachOf 4 .int 2 128 K E [.ref (ka K q), .ref (ka K b)] (fun r E' => r = nI (rs.foldl (reachF p) 0) ∧ E' = E) := by
  refine g_meti (by decide +kernel) (Nat.le_of_ble_eq_true rfl) (fun X hl C hR => ?_)
  subst hl
  show gW X K E 0 [(0, .ref (ka K q)), (1, .ref (ka K b))] []
  refine g_iconst (pc := 0) (v := nI 0) C d_Tree_reachOf_0 (by decide) ?_
  refine g_istore_n (pc := 1) (lv' := [(2, .int (nI 0)), (0, .ref (ka K q)), (1, .ref (ka K b))]) C d_Tree_reachOf_1 rfl (by decide) rfl ?_
  refine g_iconst (pc := 2) (v := nI 0) C d_Tree_reachOf_2 (by decide) ?_
  refine g_istore_n (pc := 3) (lv' := [(3, .int (nI 0)), (2, .int (nI 0)), (0, .ref (ka K q)), (1, .ref (ka K b))]) C d_Tree_reachOf_3 rfl (by decide) rfl ?_
  exact g_lv [0, 1, 2, 3] rfl (w_reachOf C E q lt rs b cap p hB hTT hR (rs.length + 1) 0 (Nat.zero_le _) (by omega))

set_option maxHeartbeats 4000000 in
set_option maxRecDepth 100000 in
theorem w_areFree {X : gX} {K : gK} (C : gC X K b_Tree_areFree "DavRoom$Tree" 5 4 256) (E : gE) (q : Nat) (lt : Int32) (rs : List Re) (b cap : Nat) (p : Bs) (hB : isB K E b cap p) (ql : Nat) (lk : Int32) (ls : List Lk) (tok : Int32) (hLL : isLL K E ql lk ls) (hTT : isTT K E q lt rs) (hR : gRi X K .boolean (fun r E' => r = bI (allFree rs ls p tok) ∧ E' = E)) : ∀ (d k : Nat), k ≤ rs.length → rs.length + 1 ≤ k + d → (rs.take k).all (fun v => !atIn v.1 p || freeB ls v.1 tok) = true → gW X K E 3 [(4, .int (nI k)), (0, .ref (ka K q)), (1, .ref (ka K b)), (2, .ref (ka K ql)), (3, .int tok)] [] := by
  have hTT0 := hTT
  obtain ⟨π, v, f, hq1, hq2, hqf, hpm, hal, hlen, hvl, hqN⟩ := hTT
  have hl1 : E ql = .inr (2, [.ref (ka K (ql + 1)), .int (nI ls.length), .int lk]) := by
    obtain ⟨π, v, f, h, -⟩ := hLL
    exact h
  have hlN : ql < kN K := by
    obtain ⟨π, v, f, -, -, -, -, -, -, -, h⟩ := hLL
    omega
  intro d
  induction d with
  | zero =>
    intro k h1 h2
    exact absurd h2 (by omega)
  | succ d ih =>
    intro k hki hd hinv
    refine g_iload (pc := 3) C d_Tree_areFree_3 0 rfl ?_
    refine g_aload_n (pc := 5) C d_Tree_areFree_5 1 rfl ?_
    refine g_get (pc := 6) C fl_Tree_26 hq1 (by omega) rfl d_Tree_areFree_6 ?_
    refine g_icmp_geN (pc := 9) C 55 d_Tree_areFree_9 (by decide) (by omega) (by omega) (fun h_9 => ?_) (fun h_9 => ?_)
    · skip
      have ek : k = rs.length := by omega
      rw [ek, List.take_length] at hinv
      refine g_iconst (pc := 55) (v := nI 1) C d_Tree_areFree_55 (by decide) ?_
      refine g_zret (pc := 56) C hR rfl d_Tree_areFree_56 ?_
      exact ⟨by rw [allFree, hinv]; rfl, rfl⟩
    · skip
      have hk : k < rs.length := h_9
      obtain ⟨c, hc⟩ : ∃ c, c = q + 2 + 5 * π k := ⟨_, rfl⟩
      have hpk := hpm.1 k (by omega)
      have hcR : isR K E c rs[k] := by rw [hc, ← hvl k hk]; exact hal (π k) hpk
      have hcN : c + 5 ≤ kN K := by omega
      have hck : va_rf (f k) = .ref (ka K c) := by rw [hqf k (by omega), hc]; rfl
      have hc1 := hcR.1
      have hcp := hcR.2.1.1
      have hcb := hcR.2.2.1
      have hcpl := hcR.2.1.2.1
      have hcbl := hcR.2.2.2.1
      refine g_aload_n (pc := 12) C d_Tree_areFree_12 1 rfl ?_
      refine g_get (pc := 13) C fl_Tree_11 hq1 (by omega) rfl d_Tree_areFree_13 ?_
      refine g_iload (pc := 16) C d_Tree_areFree_16 0 rfl ?_
      refine g_aldN (pc := 18) C hq2 (by omega) (gt_R _) (by omega) (by omega) d_Tree_areFree_18 (hv := hck) ?_
      refine g_get (pc := 19) C fl_Tree_16 hc1 (by omega) rfl d_Tree_areFree_19 ?_
      refine g_aload_n (pc := 22) C d_Tree_areFree_22 2 rfl ?_
      refine g_ci (pc := 23) C (g_rS (As := [.ref (ka K (c + 1)), .ref (ka K b)]) (rest := []) C (c_Paths_isAtOrIn _ K _ (c + 1) 45 rs[k].1 b cap p hcR.2.1 hB) mw_Paths_isAtOrIn mo_Paths_isAtOrIn ml_Tree_58 (by decide) rfl rfl (Nat.le_of_ble_eq_true rfl) d_Tree_areFree_23) (fun r23 E23 hp23 => ?_)
      rw [hp23.1, hp23.2]
      refine g_if_eqB (pc := 26) C 49 d_Tree_areFree_26 (by decide) (fun h_26 => ?_) (fun h_26 => ?_)
      · skip
        refine g_iinc (pc := 49) (pl := 0) (v := nI (k + 1)) (lv' := [(4, .int (nI (k + 1))), (0, .ref (ka K q)), (1, .ref (ka K b)), (2, .ref (ka K ql)), (3, .int tok)]) C d_Tree_areFree_49 rfl (nI_1 _) (by decide) rfl ?_
        refine g_goto (pc := 52) C 3 d_Tree_areFree_52 (by decide) ?_
        exact g_lv [0, 1, 2, 3, 4] rfl (ih (k + 1) (by omega) (by omega) (by
          rw [tk_all _ hk, hinv, Bool.true_and]
          first
            | (simp [h_26]; done)
            | (simp [h_44]; done)))
      · skip
        refine g_aload_n (pc := 29) C d_Tree_areFree_29 3 rfl ?_
        refine g_aload_n (pc := 30) C d_Tree_areFree_30 1 rfl ?_
        refine g_get (pc := 31) C fl_Tree_11 hq1 (by omega) rfl d_Tree_areFree_31 ?_
        refine g_iload (pc := 34) C d_Tree_areFree_34 0 rfl ?_
        refine g_aldN (pc := 36) C hq2 (by omega) (gt_R _) (by omega) (by omega) d_Tree_areFree_36 (hv := hck) ?_
        refine g_get (pc := 37) C fl_Tree_16 hc1 (by omega) rfl d_Tree_areFree_37 ?_
        refine g_iload_n (pc := 40) C d_Tree_areFree_40 4 rfl ?_
        refine g_ci (pc := 41) C (g_rV (As := [.ref (ka K (c + 1)), .int tok]) (rest := []) C (c_Locks_isFree _ K _ ql lk ls (c + 1) 45 rs[k].1 tok hcR.2.1 hLL) mw_Locks_isFree mo_Locks_isFree ml_Tree_71 (by decide) hl1 rfl (by omega) rfl rfl (Nat.le_of_ble_eq_true rfl) d_Tree_areFree_41) (fun r41 E41 hp41 => ?_)
        rw [hp41.1, hp41.2]
        refine g_if_neB (pc := 44) C 49 d_Tree_areFree_44 (by decide) (fun h_44 => ?_) (fun h_44 => ?_)
        · skip
          refine g_iinc (pc := 49) (pl := 0) (v := nI (k + 1)) (lv' := [(4, .int (nI (k + 1))), (0, .ref (ka K q)), (1, .ref (ka K b)), (2, .ref (ka K ql)), (3, .int tok)]) C d_Tree_areFree_49 rfl (nI_1 _) (by decide) rfl ?_
          refine g_goto (pc := 52) C 3 d_Tree_areFree_52 (by decide) ?_
          exact g_lv [0, 1, 2, 3, 4] rfl (ih (k + 1) (by omega) (by omega) (by
            rw [tk_all _ hk, hinv, Bool.true_and]
            first
              | (simp [h_26]; done)
              | (simp [h_44]; done)))
        · skip
          refine g_iconst (pc := 47) (v := nI 0) C d_Tree_areFree_47 (by decide) ?_
          refine g_zret (pc := 48) C hR rfl d_Tree_areFree_48 ?_
          exact ⟨by rw [allFree, all_miss _ hk (by first | (simp [h_26, h_44]; done))]; rfl, rfl⟩

set_option maxHeartbeats 4000000 in
set_option maxRecDepth 100000 in
theorem c_Tree_areFree (l : Launch) (K : gK) (E : gE) (q : Nat) (lt : Int32) (rs : List Re) (b cap : Nat) (p : Bs) (hB : isB K E b cap p) (ql : Nat) (lk : Int32) (ls : List Lk) (tok : Int32) (hLL : isLL K E ql lk ls) (hTT : isTT K E q lt rs) : gMi l y_Tree_areFree b_Tree_areFree 5 .boolean 4 256 K E [.ref (ka K q), .ref (ka K b), .ref (ka K ql), .int tok] (fun r E' => r = bI (allFree rs ls p tok) ∧ E' = E) := by
  refine g_meti (by decide +kernel) (Nat.le_of_ble_eq_true rfl) (fun X hl C hR => ?_)
  subst hl
  show gW X K E 0 [(0, .ref (ka K q)), (1, .ref (ka K b)), (2, .ref (ka K ql)), (3, .int tok)] []
  refine g_iconst (pc := 0) (v := nI 0) C d_Tree_areFree_0 (by decide) ?_
  refine g_istore (pc := 1) (lv' := [(4, .int (nI 0)), (0, .ref (ka K q)), (1, .ref (ka K b)), (2, .ref (ka K ql)), (3, .int tok)]) C d_Tree_areFree_1 (by decide) rfl ?_
  exact g_lv [0, 1, 2, 3, 4] rfl (w_areFree C E q lt rs b cap p hB ql lk ls tok hLL hTT hR (rs.length + 1) 0 (Nat.zero_le _) (by omega) rfl)

set_option maxHeartbeats 4000000 in
set_option maxRecDepth 100000 in
theorem w_mayLeave {X : gX} {K : gK} (C : gC X K b_Tree_mayLeave "DavRoom$Tree" 7 4 256) (E : gE) (q : Nat) (lt : Int32) (rs : List Re) (e : Nat) (w : Re) (hw : 1 ≤ w.1.length) (hW : isR K E e w) (ql : Nat) (lk : Int32) (ls : List Lk) (tok : Int32) (hLL : isLL K E ql lk ls) (hTT : isTT K E q lt rs) (hR : gRi X K .boolean (fun r E' => r = bI (mayGo rs ls w.1 tok) ∧ E' = E)) : ∀ (d k : Nat), k ≤ rs.length → rs.length + 1 ≤ k + d → (rs.take k).all (fun v => !(atIn v.1 w.1 || dirIn w.1 v.1) || freeB ls v.1 tok) = true → gW X K E 3 [(4, .int (nI k)), (0, .ref (ka K q)), (1, .ref (ka K e)), (2, .ref (ka K ql)), (3, .int tok)] [] := by
  have hTT0 := hTT
  obtain ⟨π, v, f, hq1, hq2, hqf, hpm, hal, hlen, hvl, hqN⟩ := hTT
  have hl1 : E ql = .inr (2, [.ref (ka K (ql + 1)), .int (nI ls.length), .int lk]) := by
    obtain ⟨π, v, f, h, -⟩ := hLL
    exact h
  have hlN : ql < kN K := by
    obtain ⟨π, v, f, -, -, -, -, -, -, -, h⟩ := hLL
    omega
  have hw1 := hW.1
  have hwN := hW.2.1.2.2.1
  intro d
  induction d with
  | zero =>
    intro k h1 h2
    exact absurd h2 (by omega)
  | succ d ih =>
    intro k hki hd hinv
    refine g_iload (pc := 3) C d_Tree_mayLeave_3 0 rfl ?_
    refine g_aload_n (pc := 5) C d_Tree_mayLeave_5 1 rfl ?_
    refine g_get (pc := 6) C fl_Tree_26 hq1 (by omega) rfl d_Tree_mayLeave_6 ?_
    refine g_icmp_geN (pc := 9) C 78 d_Tree_mayLeave_9 (by decide) (by omega) (by omega) (fun h_9 => ?_) (fun h_9 => ?_)
    · skip
      have ek : k = rs.length := by omega
      rw [ek, List.take_length] at hinv
      refine g_iconst (pc := 78) (v := nI 1) C d_Tree_mayLeave_78 (by decide) ?_
      refine g_zret (pc := 79) C hR rfl d_Tree_mayLeave_79 ?_
      exact ⟨by rw [mayGo, hinv]; rfl, rfl⟩
    · skip
      have hk : k < rs.length := h_9
      obtain ⟨c, hc⟩ : ∃ c, c = q + 2 + 5 * π k := ⟨_, rfl⟩
      have hpk := hpm.1 k (by omega)
      have hcR : isR K E c rs[k] := by rw [hc, ← hvl k hk]; exact hal (π k) hpk
      have hcN : c + 5 ≤ kN K := by omega
      have hck : va_rf (f k) = .ref (ka K c) := by rw [hqf k (by omega), hc]; rfl
      have hc1 := hcR.1
      have hcp := hcR.2.1.1
      have hcb := hcR.2.2.1
      have hcpl := hcR.2.1.2.1
      have hcbl := hcR.2.2.2.1
      refine g_aload_n (pc := 12) C d_Tree_mayLeave_12 1 rfl ?_
      refine g_get (pc := 13) C fl_Tree_11 hq1 (by omega) rfl d_Tree_mayLeave_13 ?_
      refine g_iload (pc := 16) C d_Tree_mayLeave_16 0 rfl ?_
      refine g_aldN (pc := 18) C hq2 (by omega) (gt_R _) (by omega) (by omega) d_Tree_mayLeave_18 (hv := hck) ?_
      refine g_get (pc := 19) C fl_Tree_16 hc1 (by omega) rfl d_Tree_mayLeave_19 ?_
      refine g_astore (pc := 22) (lv' := [(5, .ref (ka K (c + 1))), (4, .int (nI k)), (0, .ref (ka K q)), (1, .ref (ka K e)), (2, .ref (ka K ql)), (3, .int tok)]) C d_Tree_mayLeave_22 (by decide) rfl ?_
      refine g_aload (pc := 24) C d_Tree_mayLeave_24 0 rfl ?_
      refine g_aload_n (pc := 26) C d_Tree_mayLeave_26 3 rfl ?_
      refine g_get (pc := 27) C fl_Tree_16 hw1 (by omega) rfl d_Tree_mayLeave_27 ?_
      refine g_ci (pc := 30) C (g_rS (As := [.ref (ka K (c + 1)), .ref (ka K (e + 1))]) (rest := []) C (c_Paths_isAtOrIn _ K _ (c + 1) 45 rs[k].1 (e + 1) 45 w.1 hcR.2.1 hW.2.1) mw_Paths_isAtOrIn mo_Paths_isAtOrIn ml_Tree_58 (by decide) rfl rfl (Nat.le_of_ble_eq_true rfl) d_Tree_mayLeave_30) (fun r30 E30 hp30 => ?_)
      rw [hp30.1, hp30.2]
      refine g_if_neB (pc := 33) C 48 d_Tree_mayLeave_33 (by decide) (fun h_33 => ?_) (fun h_33 => ?_)
      · skip
        refine g_iconst (pc := 48) (v := nI 1) C d_Tree_mayLeave_48 (by decide) ?_
        refine g_goto (pc := 49) C 53 d_Tree_mayLeave_49 (by decide) ?_
        refine g_istore (pc := 53) (lv' := [(6, .int (nI 1)), (5, .ref (ka K (c + 1))), (4, .int (nI k)), (0, .ref (ka K q)), (1, .ref (ka K e)), (2, .ref (ka K ql)), (3, .int tok)]) C d_Tree_mayLeave_53 (by decide) rfl ?_
        refine g_iload (pc := 55) C d_Tree_mayLeave_55 0 rfl ?_
        refine g_if_eqN (pc := 57) C 72 d_Tree_mayLeave_57 (by decide) (by omega) (fun h_57 => ?_) (fun h_57 => ?_)
        · exact absurd h_57 (by decide)
        · skip
          refine g_aload_n (pc := 60) C d_Tree_mayLeave_60 5 rfl ?_
          refine g_aload (pc := 61) C d_Tree_mayLeave_61 1 rfl ?_
          refine g_iload_n (pc := 63) C d_Tree_mayLeave_63 6 rfl ?_
          refine g_ci (pc := 64) C (g_rV (As := [.ref (ka K (c + 1)), .int tok]) (rest := []) C (c_Locks_isFree _ K _ ql lk ls (c + 1) 45 rs[k].1 tok hcR.2.1 hLL) mw_Locks_isFree mo_Locks_isFree ml_Tree_71 (by decide) hl1 rfl (by omega) rfl rfl (Nat.le_of_ble_eq_true rfl) d_Tree_mayLeave_64) (fun r64 E64 hp64 => ?_)
          rw [hp64.1, hp64.2]
          refine g_if_neB (pc := 67) C 72 d_Tree_mayLeave_67 (by decide) (fun h_67 => ?_) (fun h_67 => ?_)
          · skip
            refine g_iinc (pc := 72) (pl := 2) (v := nI (k + 1)) (lv' := [(4, .int (nI (k + 1))), (6, .int (nI 1)), (5, .ref (ka K (c + 1))), (0, .ref (ka K q)), (1, .ref (ka K e)), (2, .ref (ka K ql)), (3, .int tok)]) C d_Tree_mayLeave_72 rfl (nI_1 _) (by decide) rfl ?_
            refine g_goto (pc := 75) C 3 d_Tree_mayLeave_75 (by decide) ?_
            exact g_lv [0, 3, 4, 5, 6] rfl (ih (k + 1) (by omega) (by omega) (by
              rw [tk_all _ hk, hinv, Bool.true_and]
              first
                | (simp [h_33, h_45]; done)
                | (simp [h_67]; done)))
          · skip
            refine g_iconst (pc := 70) (v := nI 0) C d_Tree_mayLeave_70 (by decide) ?_
            refine g_zret (pc := 71) C hR rfl d_Tree_mayLeave_71 ?_
            exact ⟨by rw [mayGo, all_miss _ hk (by first | (simp [h_33, h_67]; done) | (simp [h_45, h_67]; done))]; rfl, rfl⟩
      · skip
        refine g_aload_n (pc := 36) C d_Tree_mayLeave_36 3 rfl ?_
        refine g_get (pc := 37) C fl_Tree_16 hw1 (by omega) rfl d_Tree_mayLeave_37 ?_
        refine g_aload (pc := 40) C d_Tree_mayLeave_40 0 rfl ?_
        refine g_ci (pc := 42) C (g_rS (As := [.ref (ka K (e + 1)), .ref (ka K (c + 1))]) (rest := []) C (c_Paths_isDirectlyIn _ K _ (e + 1) 45 w.1 (c + 1) 45 rs[k].1 hw hW.2.1 hcR.2.1) mw_Paths_isDirectlyIn mo_Paths_isDirectlyIn ml_Tree_76 (by decide) rfl rfl (Nat.le_of_ble_eq_true rfl) d_Tree_mayLeave_42) (fun r42 E42 hp42 => ?_)
        rw [hp42.1, hp42.2]
        refine g_if_eqB (pc := 45) C 52 d_Tree_mayLeave_45 (by decide) (fun h_45 => ?_) (fun h_45 => ?_)
        · skip
          refine g_iconst (pc := 52) (v := nI 0) C d_Tree_mayLeave_52 (by decide) ?_
          refine g_istore (pc := 53) (lv' := [(6, .int (nI 0)), (5, .ref (ka K (c + 1))), (4, .int (nI k)), (0, .ref (ka K q)), (1, .ref (ka K e)), (2, .ref (ka K ql)), (3, .int tok)]) C d_Tree_mayLeave_53 (by decide) rfl ?_
          refine g_iload (pc := 55) C d_Tree_mayLeave_55 0 rfl ?_
          refine g_if_eqN (pc := 57) C 72 d_Tree_mayLeave_57 (by decide) (by omega) (fun h_57 => ?_) (fun h_57 => ?_)
          · skip
            refine g_iinc (pc := 72) (pl := 2) (v := nI (k + 1)) (lv' := [(4, .int (nI (k + 1))), (6, .int (nI 0)), (5, .ref (ka K (c + 1))), (0, .ref (ka K q)), (1, .ref (ka K e)), (2, .ref (ka K ql)), (3, .int tok)]) C d_Tree_mayLeave_72 rfl (nI_1 _) (by decide) rfl ?_
            refine g_goto (pc := 75) C 3 d_Tree_mayLeave_75 (by decide) ?_
            exact g_lv [0, 3, 4, 5, 6] rfl (ih (k + 1) (by omega) (by omega) (by
              rw [tk_all _ hk, hinv, Bool.true_and]
              first
                | (simp [h_33, h_45]; done)
                | (simp [h_67]; done)))
          · exact absurd h_57 (by decide)
        · skip
          refine g_iconst (pc := 48) (v := nI 1) C d_Tree_mayLeave_48 (by decide) ?_
          refine g_goto (pc := 49) C 53 d_Tree_mayLeave_49 (by decide) ?_
          refine g_istore (pc := 53) (lv' := [(6, .int (nI 1)), (5, .ref (ka K (c + 1))), (4, .int (nI k)), (0, .ref (ka K q)), (1, .ref (ka K e)), (2, .ref (ka K ql)), (3, .int tok)]) C d_Tree_mayLeave_53 (by decide) rfl ?_
          refine g_iload (pc := 55) C d_Tree_mayLeave_55 0 rfl ?_
          refine g_if_eqN (pc := 57) C 72 d_Tree_mayLeave_57 (by decide) (by omega) (fun h_57 => ?_) (fun h_57 => ?_)
          · exact absurd h_57 (by decide)
          · skip
            refine g_aload_n (pc := 60) C d_Tree_mayLeave_60 5 rfl ?_
            refine g_aload (pc := 61) C d_Tree_mayLeave_61 1 rfl ?_
            refine g_iload_n (pc := 63) C d_Tree_mayLeave_63 6 rfl ?_
            refine g_ci (pc := 64) C (g_rV (As := [.ref (ka K (c + 1)), .int tok]) (rest := []) C (c_Locks_isFree _ K _ ql lk ls (c + 1) 45 rs[k].1 tok hcR.2.1 hLL) mw_Locks_isFree mo_Locks_isFree ml_Tree_71 (by decide) hl1 rfl (by omega) rfl rfl (Nat.le_of_ble_eq_true rfl) d_Tree_mayLeave_64) (fun r64 E64 hp64 => ?_)
            rw [hp64.1, hp64.2]
            refine g_if_neB (pc := 67) C 72 d_Tree_mayLeave_67 (by decide) (fun h_67 => ?_) (fun h_67 => ?_)
            · skip
              refine g_iinc (pc := 72) (pl := 2) (v := nI (k + 1)) (lv' := [(4, .int (nI (k + 1))), (6, .int (nI 1)), (5, .ref (ka K (c + 1))), (0, .ref (ka K q)), (1, .ref (ka K e)), (2, .ref (ka K ql)), (3, .int tok)]) C d_Tree_mayLeave_72 rfl (nI_1 _) (by decide) rfl ?_
              refine g_goto (pc := 75) C 3 d_Tree_mayLeave_75 (by decide) ?_
              exact g_lv [0, 3, 4, 5, 6] rfl (ih (k + 1) (by omega) (by omega) (by
                rw [tk_all _ hk, hinv, Bool.true_and]
                first
                  | (simp [h_33, h_45]; done)
                  | (simp [h_67]; done)))
            · skip
              refine g_iconst (pc := 70) (v := nI 0) C d_Tree_mayLeave_70 (by decide) ?_
              refine g_zret (pc := 71) C hR rfl d_Tree_mayLeave_71 ?_
              exact ⟨by rw [mayGo, all_miss _ hk (by first | (simp [h_33, h_67]; done) | (simp [h_45, h_67]; done))]; rfl, rfl⟩

set_option maxHeartbeats 4000000 in
set_option maxRecDepth 100000 in
theorem c_Tree_mayLeave (l : Launch) (K : gK) (E : gE) (q : Nat) (lt : Int32) (rs : List Re) (e : Nat) (w : Re) (hw : 1 ≤ w.1.length) (hW : isR K E e w) (ql : Nat) (lk : Int32) (ls : List Lk) (tok : Int32) (hLL : isLL K E ql lk ls) (hTT : isTT K E q lt rs) : gMi l y_Tree_mayLeave b_Tree_mayLeave 7 .boolean 4 256 K E [.ref (ka K q), .ref (ka K e), .ref (ka K ql), .int tok] (fun r E' => r = bI (mayGo rs ls w.1 tok) ∧ E' = E) := by
  refine g_meti (by decide +kernel) (Nat.le_of_ble_eq_true rfl) (fun X hl C hR => ?_)
  subst hl
  show gW X K E 0 [(0, .ref (ka K q)), (1, .ref (ka K e)), (2, .ref (ka K ql)), (3, .int tok)] []
  refine g_iconst (pc := 0) (v := nI 0) C d_Tree_mayLeave_0 (by decide) ?_
  refine g_istore (pc := 1) (lv' := [(4, .int (nI 0)), (0, .ref (ka K q)), (1, .ref (ka K e)), (2, .ref (ka K ql)), (3, .int tok)]) C d_Tree_mayLeave_1 (by decide) rfl ?_
  exact g_lv [0, 1, 2, 3, 4] rfl (w_mayLeave C E q lt rs e w hw hW ql lk ls tok hLL hTT hR (rs.length + 1) 0 (Nat.zero_le _) (by omega) rfl)

set_option maxHeartbeats 4000000 in
set_option maxRecDepth 100000 in
theorem c_Tree_isWithin (l : Launch) (K : gK) (E : gE) (b cap : Nat) (p : Bs) (s cap2 : Nat) (t : Bs) (d : Nat) (hp : 1 ≤ p.length) (hd : d < 2 ^ 31) (hB : isB K E b cap p) (hO : isB K E s cap2 t) : gMi l y_Tree_isWithin b_Tree_isWithin 3 .boolean 3 192 K E [.ref (ka K b), .ref (ka K s), .int (nI d)] (fun r E' => r = bI (withinB p t d) ∧ E' = E) := by
  have hb1 := hB.1
  have hbN := hB.2.2.1
  refine g_meti (by decide +kernel) (Nat.le_of_ble_eq_true rfl) (fun X hl C hR => ?_)
  subst hl
  show gW X K E 0 [(0, .ref (ka K b)), (1, .ref (ka K s)), (2, .int (nI d))] []
  refine g_iload_n (pc := 0) C d_Tree_isWithin_0 2 rfl ?_
  refine g_iconst (pc := 1) (v := nI 2) C d_Tree_isWithin_1 (by decide) ?_
  refine g_icmp_neN (pc := 2) C 11 d_Tree_isWithin_2 (by decide) (by omega) (by omega) (fun h_2 => ?_) (fun h_2 => ?_)
  · skip
    refine g_aload_n (pc := 11) C d_Tree_isWithin_11 0 rfl ?_
    refine g_aload_n (pc := 12) C d_Tree_isWithin_12 1 rfl ?_
    refine g_ci (pc := 13) C (g_rV (As := [.ref (ka K s)]) (rest := []) C (c_Bytes_isSame _ K _ b cap p s cap2 t hB hO) mw_Bytes_isSame mo_Bytes_isSame ml_Tree_107 (by decide) hb1 rfl (by omega) rfl rfl (Nat.le_of_ble_eq_true rfl) d_Tree_isWithin_13) (fun r13 E13 hp13 => ?_)
    rw [hp13.1, hp13.2]
    refine g_if_neB (pc := 16) C 32 d_Tree_isWithin_16 (by decide) (fun h_16 => ?_) (fun h_16 => ?_)
    · skip
      refine g_iconst (pc := 32) (v := nI 1) C d_Tree_isWithin_32 (by decide) ?_
      refine g_goto (pc := 33) C 37 d_Tree_isWithin_33 (by decide) ?_
      refine g_zret (pc := 37) C hR rfl d_Tree_isWithin_37 ?_
      refine ⟨?_, rfl⟩
      rw [withinB, if_neg h_2]
      first
        | (rw [h_16]; rfl)
        | (rw [h_16, h_29, decide_eq_true h_21]; rfl)
        | (rw [h_16, decide_eq_false h_21]; rfl)
    · skip
      refine g_iload_n (pc := 19) C d_Tree_isWithin_19 2 rfl ?_
      refine g_iconst (pc := 20) (v := nI 1) C d_Tree_isWithin_20 (by decide) ?_
      refine g_icmp_neN (pc := 21) C 36 d_Tree_isWithin_21 (by decide) (by omega) (by omega) (fun h_21 => ?_) (fun h_21 => ?_)
      · skip
        refine g_iconst (pc := 36) (v := nI 0) C d_Tree_isWithin_36 (by decide) ?_
        refine g_zret (pc := 37) C hR rfl d_Tree_isWithin_37 ?_
        refine ⟨?_, rfl⟩
        rw [withinB, if_neg h_2]
        first
          | (rw [h_16]; rfl)
          | (rw [h_16, h_29, decide_eq_true h_21]; rfl)
          | (rw [h_16, decide_eq_false h_21]; rfl)
      · skip
        refine g_aload_n (pc := 24) C d_Tree_isWithin_24 0 rfl ?_
        refine g_aload_n (pc := 25) C d_Tree_isWithin_25 1 rfl ?_
        refine g_ci (pc := 26) C (g_rS (As := [.ref (ka K b), .ref (ka K s)]) (rest := []) C (c_Paths_isDirectlyIn _ K _ b cap p s cap2 t hp hB hO) mw_Paths_isDirectlyIn mo_Paths_isDirectlyIn ml_Tree_76 (by decide) rfl rfl (Nat.le_of_ble_eq_true rfl) d_Tree_isWithin_26) (fun r26 E26 hp26 => ?_)
        rw [hp26.1, hp26.2]
        refine g_if_eqB (pc := 29) C 36 d_Tree_isWithin_29 (by decide) (fun h_29 => ?_) (fun h_29 => ?_)
        · skip
          refine g_iconst (pc := 36) (v := nI 0) C d_Tree_isWithin_36 (by decide) ?_
          refine g_zret (pc := 37) C hR rfl d_Tree_isWithin_37 ?_
          refine ⟨?_, rfl⟩
          rw [withinB, if_neg h_2]
          first
            | (rw [h_16]; rfl)
            | (rw [h_16, h_29, decide_eq_true h_21]; rfl)
            | (rw [h_16, decide_eq_false h_21]; rfl)
        · skip
          refine g_iconst (pc := 32) (v := nI 1) C d_Tree_isWithin_32 (by decide) ?_
          refine g_goto (pc := 33) C 37 d_Tree_isWithin_33 (by decide) ?_
          refine g_zret (pc := 37) C hR rfl d_Tree_isWithin_37 ?_
          refine ⟨?_, rfl⟩
          rw [withinB, if_neg h_2]
          first
            | (rw [h_16]; rfl)
            | (rw [h_16, h_29, decide_eq_true h_21]; rfl)
            | (rw [h_16, decide_eq_false h_21]; rfl)
  · skip
    refine g_aload_n (pc := 5) C d_Tree_isWithin_5 0 rfl ?_
    refine g_aload_n (pc := 6) C d_Tree_isWithin_6 1 rfl ?_
    refine g_ci (pc := 7) C (g_rS (As := [.ref (ka K b), .ref (ka K s)]) (rest := []) C (c_Paths_isAtOrIn _ K _ b cap p s cap2 t hB hO) mw_Paths_isAtOrIn mo_Paths_isAtOrIn ml_Tree_58 (by decide) rfl rfl (Nat.le_of_ble_eq_true rfl) d_Tree_isWithin_7) (fun r7 E7 hp7 => ?_)
    rw [hp7.1, hp7.2]
    refine g_zret (pc := 10) C hR (bI_nar _) d_Tree_isWithin_10 ?_
    exact ⟨by rw [withinB, if_pos h_2], rfl⟩

set_option maxHeartbeats 4000000 in
set_option maxRecDepth 100000 in
theorem c_Tree_nextVersion (l : Launch) (K : gK) (E : gE) (q n : Nat) (lt : Int32) (hq : E q = .inr (5, [.ref (ka K (q + 1)), .int (nI n), .int lt])) (hqN : q < kN K) : gMi l y_Tree_nextVersion b_Tree_nextVersion 1 .int 0 0 K E [.ref (ka K q)] (fun r E' => r = lt + nI 1 ∧ E' = va_up E q (.inr (5, [.ref (ka K (q + 1)), .int (nI n), .int (lt + nI 1)]))) := by
  refine g_meti (by decide +kernel) (Nat.le_of_ble_eq_true rfl) (fun X hl C hR => ?_)
  subst hl
  show gW X K E 0 [(0, .ref (ka K q))] []
  refine g_aload_n (pc := 0) C d_Tree_nextVersion_0 0 rfl ?_
  refine g_dup (pc := 1) C d_Tree_nextVersion_1 rfl ?_
  refine g_get (pc := 2) C fl_Tree_100 hq (by omega) rfl d_Tree_nextVersion_2 ?_
  refine g_iconst (pc := 5) (v := nI 1) C d_Tree_nextVersion_5 (by decide) ?_
  refine g_iadd (pc := 6) C d_Tree_nextVersion_6 ?_
  refine g_put (pc := 7) C fl_Tree_100 fw_Tree_lastVersion hq (by omega) (Nat.le_of_ble_eq_true rfl) ⟨rfl, rfl⟩ d_Tree_nextVersion_7 (fun E7 hE7 => ?_)
  have fE7_1 : E7 q = .inr (5, [.ref (ka K (q + 1)), .int (nI n), .int (lt + (nI 1))]) := by rw [hE7]; exact va_up_self _ _ _
  refine g_aload_n (pc := 10) C d_Tree_nextVersion_10 0 rfl ?_
  refine g_get (pc := 11) C fl_Tree_100 fE7_1 (by omega) rfl d_Tree_nextVersion_11 ?_
  refine g_iret (pc := 14) C hR d_Tree_nextVersion_14 ?_
  exact ⟨rfl, hE7⟩
