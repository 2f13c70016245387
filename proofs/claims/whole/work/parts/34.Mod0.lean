def hdJ (n : Nat) : Nat := [26, 27, 28, 29, 30, 31, 32, 33].getD n 0
def hdU (n : Nat) : Bs := ([[100, 101, 112, 116, 104], [116, 111], [111, 118, 101, 114], [109, 97, 116, 99, 104], [110, 111, 110, 101], [116, 111, 107, 101, 110], [102, 111, 114], [115, 111, 114, 116]] : List Bs).getD n []
theorem hdJ_sc : ∀ n, n < 8 → scT (hdJ n) (hdU n) := by
  intro n hn
  rcases (show n = 0 ∨ n = 1 ∨ n = 2 ∨ n = 3 ∨ n = 4 ∨ n = 5 ∨ n = 6 ∨ n = 7 by omega) with rfl | rfl | rfl | rfl | rfl | rfl | rfl | rfl <;> exact ⟨_, rfl, rfl⟩
theorem hdU_len : ∀ n, n < 8 → 1 ≤ (hdU n).length ∧ (hdU n).length ≤ 7 := by decide
def vbJ (n : Nat) : Nat := [34, 35, 36, 37, 38, 39, 40, 41, 42].getD n 0
def vbU (n : Nat) : Bs := ([[71, 69, 84], [80, 85, 84], [68, 69, 76, 69, 84, 69], [77, 75, 67, 79, 76], [67, 79, 80, 89], [77, 79, 86, 69], [76, 79, 67, 75], [85, 78, 76, 79, 67, 75], [76, 73, 83, 84]] : List Bs).getD n []
theorem vbJ_sc : ∀ n, n < 9 → scT (vbJ n) (vbU n) := by
  intro n hn
  rcases (show n = 0 ∨ n = 1 ∨ n = 2 ∨ n = 3 ∨ n = 4 ∨ n = 5 ∨ n = 6 ∨ n = 7 ∨ n = 8 by omega) with rfl | rfl | rfl | rfl | rfl | rfl | rfl | rfl | rfl <;> exact ⟨_, rfl, rfl⟩
theorem vbU_len : ∀ n, n < 9 → 1 ≤ (vbU n).length ∧ (vbU n).length ≤ 7 := by decide
def isZ (K : gK) (E : gE) (z : Nat) (tp os pa ta pr md : Bs) (ms : List Me) (ls : List Lk) (kms : List Me) (kls : List Lk) (bms : List Me) (bls : List Lk) (ck vn tn : Int32) (mt hs bo : Nat) (vl : Nat → Int32) : Prop := E z = .inr (9, [.ref (ka K (z + 1)), .ref (ka K (z + 155)), .int ck, .int vn, .int tn, .ref (ka K (z + 309)), .int (nI tp.length), .ref (ka K (z + 310)), .int (nI os.length), .ref (ka K (z + 311)), .ref (ka K (z + 312)), .int (nI mt), .ref (ka K (z + 313)), .ref (ka K (z + 315)), .int (nI hs), .ref (ka K (z + 317)), .int (nI bo), .ref (ka K (z + 318)), .ref (ka K (z + 320)), .ref (ka K (z + 474))]) ∧ isMM K E (z + 1) ms ls ∧ isMM K E (z + 155) kms kls ∧ isA K E (z + 309) tp ∧ isA K E (z + 310) os ∧ isS K E (z + 311) 8 hdJ ∧ isS K E (z + 312) 9 vbJ ∧ isP K E (z + 313) pa ∧ isP K E (z + 315) ta ∧ isV K E (z + 317) vl ∧ isP K E (z + 318) pr ∧ isMM K E (z + 320) bms bls ∧ isP K E (z + 474) md ∧ z + 476 ≤ kN K
theorem isZ.now {K : gK} {E E' : gE} {z : Nat} {tp os pa ta pr md : Bs} {ms : List Me} {ls : List Lk} {kms : List Me} {kls : List Lk} {bms : List Me} {bls : List Lk} {ck vn tn : Int32} {mt hs bo : Nat} {vl : Nat → Int32} (h : isZ K E z tp os pa ta pr md ms ls kms kls bms bls ck vn tn mt hs bo vl) {ms' : List Me} {ls' : List Lk} (hf : frN (z + 1) 154 E E') (hn : isMM K E' (z + 1) ms' ls') : isZ K E' z tp os pa ta pr md ms' ls' kms kls bms bls ck vn tn mt hs bo vl := ⟨(hf z (by omega)).trans h.1, hn, h.2.2.1.out hf (by omega), h.2.2.2.1.out hf (by omega), h.2.2.2.2.1.out hf (by omega), h.2.2.2.2.2.1.out hf (by omega), h.2.2.2.2.2.2.1.out hf (by omega), h.2.2.2.2.2.2.2.1.out hf (by omega), h.2.2.2.2.2.2.2.2.1.out hf (by omega), h.2.2.2.2.2.2.2.2.2.1.out hf (by omega), h.2.2.2.2.2.2.2.2.2.2.1.out hf (by omega), h.2.2.2.2.2.2.2.2.2.2.2.1.out hf (by omega), h.2.2.2.2.2.2.2.2.2.2.2.2.1.out hf (by omega), h.2.2.2.2.2.2.2.2.2.2.2.2.2⟩
theorem isZ.kept {K : gK} {E E' : gE} {z : Nat} {tp os pa ta pr md : Bs} {ms : List Me} {ls : List Lk} {kms : List Me} {kls : List Lk} {bms : List Me} {bls : List Lk} {ck vn tn : Int32} {mt hs bo : Nat} {vl : Nat → Int32} (h : isZ K E z tp os pa ta pr md ms ls kms kls bms bls ck vn tn mt hs bo vl) {kms' : List Me} {kls' : List Lk} (hf : frN (z + 155) 154 E E') (hn : isMM K E' (z + 155) kms' kls') : isZ K E' z tp os pa ta pr md ms ls kms' kls' bms bls ck vn tn mt hs bo vl := ⟨(hf z (by omega)).trans h.1, h.2.1.out hf (by omega), hn, h.2.2.2.1.out hf (by omega), h.2.2.2.2.1.out hf (by omega), h.2.2.2.2.2.1.out hf (by omega), h.2.2.2.2.2.2.1.out hf (by omega), h.2.2.2.2.2.2.2.1.out hf (by omega), h.2.2.2.2.2.2.2.2.1.out hf (by omega), h.2.2.2.2.2.2.2.2.2.1.out hf (by omega), h.2.2.2.2.2.2.2.2.2.2.1.out hf (by omega), h.2.2.2.2.2.2.2.2.2.2.2.1.out hf (by omega), h.2.2.2.2.2.2.2.2.2.2.2.2.1.out hf (by omega), h.2.2.2.2.2.2.2.2.2.2.2.2.2⟩
theorem isZ.path {K : gK} {E E' : gE} {z : Nat} {tp os pa ta pr md : Bs} {ms : List Me} {ls : List Lk} {kms : List Me} {kls : List Lk} {bms : List Me} {bls : List Lk} {ck vn tn : Int32} {mt hs bo : Nat} {vl : Nat → Int32} (h : isZ K E z tp os pa ta pr md ms ls kms kls bms bls ck vn tn mt hs bo vl) {pa' : Bs} (hf : frN (z + 313) 2 E E') (hn : isP K E' (z + 313) pa') : isZ K E' z tp os pa' ta pr md ms ls kms kls bms bls ck vn tn mt hs bo vl := ⟨(hf z (by omega)).trans h.1, h.2.1.out hf (by omega), h.2.2.1.out hf (by omega), h.2.2.2.1.out hf (by omega), h.2.2.2.2.1.out hf (by omega), h.2.2.2.2.2.1.out hf (by omega), h.2.2.2.2.2.2.1.out hf (by omega), hn, h.2.2.2.2.2.2.2.2.1.out hf (by omega), h.2.2.2.2.2.2.2.2.2.1.out hf (by omega), h.2.2.2.2.2.2.2.2.2.2.1.out hf (by omega), h.2.2.2.2.2.2.2.2.2.2.2.1.out hf (by omega), h.2.2.2.2.2.2.2.2.2.2.2.2.1.out hf (by omega), h.2.2.2.2.2.2.2.2.2.2.2.2.2⟩
theorem isZ.to {K : gK} {E E' : gE} {z : Nat} {tp os pa ta pr md : Bs} {ms : List Me} {ls : List Lk} {kms : List Me} {kls : List Lk} {bms : List Me} {bls : List Lk} {ck vn tn : Int32} {mt hs bo : Nat} {vl : Nat → Int32} (h : isZ K E z tp os pa ta pr md ms ls kms kls bms bls ck vn tn mt hs bo vl) {ta' : Bs} (hf : frN (z + 315) 2 E E') (hn : isP K E' (z + 315) ta') : isZ K E' z tp os pa ta' pr md ms ls kms kls bms bls ck vn tn mt hs bo vl := ⟨(hf z (by omega)).trans h.1, h.2.1.out hf (by omega), h.2.2.1.out hf (by omega), h.2.2.2.1.out hf (by omega), h.2.2.2.2.1.out hf (by omega), h.2.2.2.2.2.1.out hf (by omega), h.2.2.2.2.2.2.1.out hf (by omega), h.2.2.2.2.2.2.2.1.out hf (by omega), hn, h.2.2.2.2.2.2.2.2.2.1.out hf (by omega), h.2.2.2.2.2.2.2.2.2.2.1.out hf (by omega), h.2.2.2.2.2.2.2.2.2.2.2.1.out hf (by omega), h.2.2.2.2.2.2.2.2.2.2.2.2.1.out hf (by omega), h.2.2.2.2.2.2.2.2.2.2.2.2.2⟩
theorem isZ.value {K : gK} {E E' : gE} {z : Nat} {tp os pa ta pr md : Bs} {ms : List Me} {ls : List Lk} {kms : List Me} {kls : List Lk} {bms : List Me} {bls : List Lk} {ck vn tn : Int32} {mt hs bo : Nat} {vl : Nat → Int32} (h : isZ K E z tp os pa ta pr md ms ls kms kls bms bls ck vn tn mt hs bo vl) {vl' : Nat → Int32} (hf : frN (z + 317) 1 E E') (hn : isV K E' (z + 317) vl') : isZ K E' z tp os pa ta pr md ms ls kms kls bms bls ck vn tn mt hs bo vl' := ⟨(hf z (by omega)).trans h.1, h.2.1.out hf (by omega), h.2.2.1.out hf (by omega), h.2.2.2.1.out hf (by omega), h.2.2.2.2.1.out hf (by omega), h.2.2.2.2.2.1.out hf (by omega), h.2.2.2.2.2.2.1.out hf (by omega), h.2.2.2.2.2.2.2.1.out hf (by omega), h.2.2.2.2.2.2.2.2.1.out hf (by omega), hn, h.2.2.2.2.2.2.2.2.2.2.1.out hf (by omega), h.2.2.2.2.2.2.2.2.2.2.2.1.out hf (by omega), h.2.2.2.2.2.2.2.2.2.2.2.2.1.out hf (by omega), h.2.2.2.2.2.2.2.2.2.2.2.2.2⟩
theorem isZ.parent {K : gK} {E E' : gE} {z : Nat} {tp os pa ta pr md : Bs} {ms : List Me} {ls : List Lk} {kms : List Me} {kls : List Lk} {bms : List Me} {bls : List Lk} {ck vn tn : Int32} {mt hs bo : Nat} {vl : Nat → Int32} (h : isZ K E z tp os pa ta pr md ms ls kms kls bms bls ck vn tn mt hs bo vl) {pr' : Bs} (hf : frN (z + 318) 2 E E') (hn : isP K E' (z + 318) pr') : isZ K E' z tp os pa ta pr' md ms ls kms kls bms bls ck vn tn mt hs bo vl := ⟨(hf z (by omega)).trans h.1, h.2.1.out hf (by omega), h.2.2.1.out hf (by omega), h.2.2.2.1.out hf (by omega), h.2.2.2.2.1.out hf (by omega), h.2.2.2.2.2.1.out hf (by omega), h.2.2.2.2.2.2.1.out hf (by omega), h.2.2.2.2.2.2.2.1.out hf (by omega), h.2.2.2.2.2.2.2.2.1.out hf (by omega), h.2.2.2.2.2.2.2.2.2.1.out hf (by omega), hn, h.2.2.2.2.2.2.2.2.2.2.2.1.out hf (by omega), h.2.2.2.2.2.2.2.2.2.2.2.2.1.out hf (by omega), h.2.2.2.2.2.2.2.2.2.2.2.2.2⟩
theorem isZ.before {K : gK} {E E' : gE} {z : Nat} {tp os pa ta pr md : Bs} {ms : List Me} {ls : List Lk} {kms : List Me} {kls : List Lk} {bms : List Me} {bls : List Lk} {ck vn tn : Int32} {mt hs bo : Nat} {vl : Nat → Int32} (h : isZ K E z tp os pa ta pr md ms ls kms kls bms bls ck vn tn mt hs bo vl) {bms' : List Me} {bls' : List Lk} (hf : frN (z + 320) 154 E E') (hn : isMM K E' (z + 320) bms' bls') : isZ K E' z tp os pa ta pr md ms ls kms kls bms' bls' ck vn tn mt hs bo vl := ⟨(hf z (by omega)).trans h.1, h.2.1.out hf (by omega), h.2.2.1.out hf (by omega), h.2.2.2.1.out hf (by omega), h.2.2.2.2.1.out hf (by omega), h.2.2.2.2.2.1.out hf (by omega), h.2.2.2.2.2.2.1.out hf (by omega), h.2.2.2.2.2.2.2.1.out hf (by omega), h.2.2.2.2.2.2.2.2.1.out hf (by omega), h.2.2.2.2.2.2.2.2.2.1.out hf (by omega), h.2.2.2.2.2.2.2.2.2.2.1.out hf (by omega), hn, h.2.2.2.2.2.2.2.2.2.2.2.2.1.out hf (by omega), h.2.2.2.2.2.2.2.2.2.2.2.2.2⟩
theorem isZ.made {K : gK} {E E' : gE} {z : Nat} {tp os pa ta pr md : Bs} {ms : List Me} {ls : List Lk} {kms : List Me} {kls : List Lk} {bms : List Me} {bls : List Lk} {ck vn tn : Int32} {mt hs bo : Nat} {vl : Nat → Int32} (h : isZ K E z tp os pa ta pr md ms ls kms kls bms bls ck vn tn mt hs bo vl) {md' : Bs} (hf : frN (z + 474) 2 E E') (hn : isP K E' (z + 474) md') : isZ K E' z tp os pa ta pr md' ms ls kms kls bms bls ck vn tn mt hs bo vl := ⟨(hf z (by omega)).trans h.1, h.2.1.out hf (by omega), h.2.2.1.out hf (by omega), h.2.2.2.1.out hf (by omega), h.2.2.2.2.1.out hf (by omega), h.2.2.2.2.2.1.out hf (by omega), h.2.2.2.2.2.2.1.out hf (by omega), h.2.2.2.2.2.2.2.1.out hf (by omega), h.2.2.2.2.2.2.2.2.1.out hf (by omega), h.2.2.2.2.2.2.2.2.2.1.out hf (by omega), h.2.2.2.2.2.2.2.2.2.2.1.out hf (by omega), h.2.2.2.2.2.2.2.2.2.2.2.1.out hf (by omega), hn, h.2.2.2.2.2.2.2.2.2.2.2.2.2⟩
theorem isZ.obj {K : gK} {E E' : gE} {z : Nat} {tp os pa ta pr md : Bs} {ms : List Me} {ls : List Lk} {kms : List Me} {kls : List Lk} {bms : List Me} {bls : List Lk} {ck vn tn : Int32} {mt hs bo : Nat} {vl : Nat → Int32} (h : isZ K E z tp os pa ta pr md ms ls kms kls bms bls ck vn tn mt hs bo vl) {tp' : Bs} {os' : Bs} {ck' : Int32} {vn' : Int32} {tn' : Int32} {mt' : Nat} {hs' : Nat} {bo' : Nat} (hf : frN z 1 E E') (hn : E' z = .inr (9, [.ref (ka K (z + 1)), .ref (ka K (z + 155)), .int ck', .int vn', .int tn', .ref (ka K (z + 309)), .int (nI tp'.length), .ref (ka K (z + 310)), .int (nI os'.length), .ref (ka K (z + 311)), .ref (ka K (z + 312)), .int (nI mt'), .ref (ka K (z + 313)), .ref (ka K (z + 315)), .int (nI hs'), .ref (ka K (z + 317)), .int (nI bo'), .ref (ka K (z + 318)), .ref (ka K (z + 320)), .ref (ka K (z + 474))])) (ht : isA K E (z + 309) tp') (ho : isA K E (z + 310) os') : isZ K E' z tp' os' pa ta pr md ms ls kms kls bms bls ck' vn' tn' mt' hs' bo' vl := ⟨hn, h.2.1.out hf (by omega), h.2.2.1.out hf (by omega), ht.out hf (by omega), ho.out hf (by omega), h.2.2.2.2.2.1.out hf (by omega), h.2.2.2.2.2.2.1.out hf (by omega), h.2.2.2.2.2.2.2.1.out hf (by omega), h.2.2.2.2.2.2.2.2.1.out hf (by omega), h.2.2.2.2.2.2.2.2.2.1.out hf (by omega), h.2.2.2.2.2.2.2.2.2.2.1.out hf (by omega), h.2.2.2.2.2.2.2.2.2.2.2.1.out hf (by omega), h.2.2.2.2.2.2.2.2.2.2.2.2.1.out hf (by omega), h.2.2.2.2.2.2.2.2.2.2.2.2.2⟩
theorem isZ.outp {K : gK} {E E1 E' : gE} {z : Nat} {tp os pa ta pr md : Bs} {ms : List Me} {ls : List Lk} {kms : List Me} {kls : List Lk} {bms : List Me} {bls : List Lk} {ck vn tn : Int32} {mt hs bo : Nat} {vl : Nat → Int32} (h : isZ K E z tp os pa ta pr md ms ls kms kls bms bls ck vn tn mt hs bo vl) {os' : Bs} (hf1 : frN (z + 310) 1 E E1) (hf2 : frN z 1 E1 E') (hn : E' z = .inr (9, [.ref (ka K (z + 1)), .ref (ka K (z + 155)), .int ck, .int vn, .int tn, .ref (ka K (z + 309)), .int (nI tp.length), .ref (ka K (z + 310)), .int (nI os'.length), .ref (ka K (z + 311)), .ref (ka K (z + 312)), .int (nI mt), .ref (ka K (z + 313)), .ref (ka K (z + 315)), .int (nI hs), .ref (ka K (z + 317)), .int (nI bo), .ref (ka K (z + 318)), .ref (ka K (z + 320)), .ref (ka K (z + 474))])) (ho : isA K E' (z + 310) os') : isZ K E' z tp os' pa ta pr md ms ls kms kls bms bls ck vn tn mt hs bo vl := ⟨hn, (h.2.1.out hf1 (by omega)).out hf2 (by omega), (h.2.2.1.out hf1 (by omega)).out hf2 (by omega), (h.2.2.2.1.out hf1 (by omega)).out hf2 (by omega), ho, (h.2.2.2.2.2.1.out hf1 (by omega)).out hf2 (by omega), (h.2.2.2.2.2.2.1.out hf1 (by omega)).out hf2 (by omega), (h.2.2.2.2.2.2.2.1.out hf1 (by omega)).out hf2 (by omega), (h.2.2.2.2.2.2.2.2.1.out hf1 (by omega)).out hf2 (by omega), (h.2.2.2.2.2.2.2.2.2.1.out hf1 (by omega)).out hf2 (by omega), (h.2.2.2.2.2.2.2.2.2.2.1.out hf1 (by omega)).out hf2 (by omega), (h.2.2.2.2.2.2.2.2.2.2.2.1.out hf1 (by omega)).out hf2 (by omega), (h.2.2.2.2.2.2.2.2.2.2.2.2.1.out hf1 (by omega)).out hf2 (by omega), h.2.2.2.2.2.2.2.2.2.2.2.2.2⟩
theorem fl_Mod_10 : gFL "DavRoomModel" 10 9 0 := ⟨_, _, _, rfl, i_Mod, by decide, tb4 111 rfl rfl, rfl⟩
theorem fl_Mod_16 : gFL "DavRoomModel" 16 9 1 := ⟨_, _, _, rfl, i_Mod, by decide, tb4 112 rfl rfl, rfl⟩
theorem fl_Mod_306 : gFL "DavRoomModel" 306 9 2 := ⟨_, _, _, rfl, i_Mod, by decide, tb4 113 rfl rfl, rfl⟩
theorem fl_Mod_277 : gFL "DavRoomModel" 277 9 3 := ⟨_, _, _, rfl, i_Mod, by decide, tb4 114 rfl rfl, rfl⟩
theorem fl_Mod_321 : gFL "DavRoomModel" 321 9 4 := ⟨_, _, _, rfl, i_Mod, by decide, tb4 115 rfl rfl, rfl⟩
theorem fl_Mod_19 : gFL "DavRoomModel" 19 9 5 := ⟨_, _, _, rfl, i_Mod, by decide, tb4 116 rfl rfl, rfl⟩
theorem fl_Mod_91 : gFL "DavRoomModel" 91 9 6 := ⟨_, _, _, rfl, i_Mod, by decide, tb4 117 rfl rfl, rfl⟩
theorem fl_Mod_23 : gFL "DavRoomModel" 23 9 7 := ⟨_, _, _, rfl, i_Mod, by decide, tb4 118 rfl rfl, rfl⟩
theorem fl_Mod_170 : gFL "DavRoomModel" 170 9 8 := ⟨_, _, _, rfl, i_Mod, by decide, tb4 119 rfl rfl, rfl⟩
theorem fl_Mod_44 : gFL "DavRoomModel" 44 9 9 := ⟨_, _, _, rfl, i_Mod, by decide, tb4 120 rfl rfl, rfl⟩
theorem fl_Mod_66 : gFL "DavRoomModel" 66 9 10 := ⟨_, _, _, rfl, i_Mod, by decide, tb4 121 rfl rfl, rfl⟩
theorem fl_Mod_155 : gFL "DavRoomModel" 155 9 11 := ⟨_, _, _, rfl, i_Mod, by decide, tb4 122 rfl rfl, rfl⟩
theorem fl_Mod_72 : gFL "DavRoomModel" 72 9 12 := ⟨_, _, _, rfl, i_Mod, by decide, tb4 123 rfl rfl, rfl⟩
theorem fl_Mod_76 : gFL "DavRoomModel" 76 9 13 := ⟨_, _, _, rfl, i_Mod, by decide, tb4 124 rfl rfl, rfl⟩
theorem fl_Mod_143 : gFL "DavRoomModel" 143 9 14 := ⟨_, _, _, rfl, i_Mod, by decide, tb4 125 rfl rfl, rfl⟩
theorem fl_Mod_78 : gFL "DavRoomModel" 78 9 15 := ⟨_, _, _, rfl, i_Mod, by decide, tb4 126 rfl rfl, rfl⟩
theorem fl_Mod_162 : gFL "DavRoomModel" 162 9 16 := ⟨_, _, _, rfl, i_Mod, by decide, tb4 127 rfl rfl, rfl⟩
theorem fl_Mod_82 : gFL "DavRoomModel" 82 9 17 := ⟨_, _, _, rfl, i_Mod, by decide, tb4 128 rfl rfl, rfl⟩
theorem fl_Mod_85 : gFL "DavRoomModel" 85 9 18 := ⟨_, _, _, rfl, i_Mod, by decide, tb4 129 rfl rfl, rfl⟩
theorem fl_Mod_88 : gFL "DavRoomModel" 88 9 19 := ⟨_, _, _, rfl, i_Mod, by decide, tb4 130 rfl rfl, rfl⟩
theorem sl_Mod_165 : Cond.fieldLink "DavRoomModel" 165 "DavRoomModel" "MAY" "[I" ∈ TB := tb4 227 rfl rfl
theorem ml_Mod_1 : Cond.methodLink "DavRoomModel" 1 ⟨"java/lang/Object", "<init>", "()V"⟩ ∈ TB := tb4 14 rfl rfl
theorem ml_Mod_9 : Cond.methodLink "DavRoomModel" 9 ⟨"DavRoomModel$Room", "<init>", "()V"⟩ ∈ TB := tb4 17 rfl rfl
theorem ml_Mod_173 : Cond.methodLink "DavRoomModel" 173 ⟨"DavRoomModel", "read", "()Z"⟩ ∈ TB := tb4 184 rfl rfl
theorem ml_Mod_150 : Cond.methodLink "DavRoomModel" 150 ⟨"DavRoomModel", "find", "(II)I"⟩ ∈ TB := tb4 188 rfl rfl
theorem ml_Mod_108 : Cond.methodLink "DavRoomModel" 108 ⟨"DavRoomModel", "is", "(IILjava/lang/String;)Z"⟩ ∈ TB := tb4 193 rfl rfl
theorem ml_Mod_95 : Cond.methodLink "DavRoomModel" 95 ⟨"java/lang/String", "length", "()I"⟩ ∈ TB := tb4 197 rfl rfl
theorem ml_Mod_99 : Cond.methodLink "DavRoomModel" 99 ⟨"java/lang/String", "charAt", "(I)C"⟩ ∈ TB := tb4 198 rfl rfl
theorem ml_Mod_125 : Cond.methodLink "DavRoomModel" 125 ⟨"DavRoomModel", "readPath", "(IILDavRoomModel$Path;)Z"⟩ ∈ TB := tb4 199 rfl rfl
theorem ml_Mod_112 : Cond.methodLink "DavRoomModel" 112 ⟨"DavRoomModel", "isSign", "(I)Z"⟩ ∈ TB := tb4 204 rfl rfl
theorem ml_Mod_158 : Cond.methodLink "DavRoomModel" 158 ⟨"DavRoomModel", "readHeader", "(II)Z"⟩ ∈ TB := tb4 207 rfl rfl
theorem ml_Mod_146 : Cond.methodLink "DavRoomModel" 146 ⟨"DavRoomModel", "readValue", "(III)Z"⟩ ∈ TB := tb4 211 rfl rfl
theorem ml_Mod_133 : Cond.methodLink "DavRoomModel" 133 ⟨"DavRoomModel", "number", "(II)I"⟩ ∈ TB := tb4 220 rfl rfl
theorem ml_Mod_168 : Cond.methodLink "DavRoomModel" 168 ⟨"DavRoomModel", "has", "(I)Z"⟩ ∈ TB := tb4 229 rfl rfl
theorem ml_Mod_177 : Cond.methodLink "DavRoomModel" 177 ⟨"DavRoomModel", "answer", "()I"⟩ ∈ TB := tb4 233 rfl rfl
theorem ml_Mod_180 : Cond.methodLink "DavRoomModel" 180 ⟨"DavRoomModel$Room", "find", "(LDavRoomModel$Path;)I"⟩ ∈ TB := tb4 237 rfl rfl
theorem ml_Mod_189 : Cond.methodLink "DavRoomModel" 189 ⟨"DavRoomModel", "get", "(I)I"⟩ ∈ TB := tb5 9 rfl rfl
theorem ml_Mod_238 : Cond.methodLink "DavRoomModel" 238 ⟨"DavRoomModel", "put", "(I)V"⟩ ∈ TB := tb5 13 rfl rfl
theorem ml_Mod_242 : Cond.methodLink "DavRoomModel" 242 ⟨"DavRoomModel", "after", "(ILDavRoomModel$Path;ZZ)I"⟩ ∈ TB := tb5 17 rfl rfl
theorem ml_Mod_219 : Cond.methodLink "DavRoomModel" 219 ⟨"DavRoomModel$Path", "same", "(LDavRoomModel$Path;)Z"⟩ ∈ TB := tb5 21 rfl rfl
theorem ml_Mod_223 : Cond.methodLink "DavRoomModel" 223 ⟨"DavRoomModel$Path", "isDirectlyIn", "(LDavRoomModel$Path;)Z"⟩ ∈ TB := tb5 22 rfl rfl
theorem ml_Mod_226 : Cond.methodLink "DavRoomModel" 226 ⟨"DavRoomModel$Path", "isIn", "(LDavRoomModel$Path;)Z"⟩ ∈ TB := tb5 34 rfl rfl
theorem ml_Mod_229 : Cond.methodLink "DavRoomModel" 229 ⟨"DavRoomModel$Path", "isBefore", "(LDavRoomModel$Path;)Z"⟩ ∈ TB := tb5 35 rfl rfl
theorem ml_Mod_193 : Cond.methodLink "DavRoomModel" 193 ⟨"DavRoomModel", "store", "(I)I"⟩ ∈ TB := tb5 39 rfl rfl
theorem ml_Mod_270 : Cond.methodLink "DavRoomModel" 270 ⟨"DavRoomModel", "hasParent", "(LDavRoomModel$Path;)Z"⟩ ∈ TB := tb5 43 rfl rfl
theorem ml_Mod_263 : Cond.methodLink "DavRoomModel" 263 ⟨"DavRoomModel$Path", "above", "(LDavRoomModel$Path;)V"⟩ ∈ TB := tb5 47 rfl rfl
theorem ml_Mod_260 : Cond.methodLink "DavRoomModel" 260 ⟨"DavRoomModel", "isFree", "(LDavRoomModel$Path;)Z"⟩ ∈ TB := tb5 55 rfl rfl
theorem ml_Mod_254 : Cond.methodLink "DavRoomModel" 254 ⟨"DavRoomModel$Room", "covers", "(ILDavRoomModel$Path;)Z"⟩ ∈ TB := tb5 59 rfl rfl
theorem ml_Mod_273 : Cond.methodLink "DavRoomModel" 273 ⟨"DavRoomModel", "fresh", "(LDavRoomModel$Path;I)I"⟩ ∈ TB := tb5 64 rfl rfl
theorem ml_Mod_267 : Cond.methodLink "DavRoomModel" 267 ⟨"DavRoomModel$Path", "copy", "(LDavRoomModel$Path;)V"⟩ ∈ TB := tb5 68 rfl rfl
theorem ml_Mod_196 : Cond.methodLink "DavRoomModel" 196 ⟨"DavRoomModel", "delete", "()I"⟩ ∈ TB := tb5 69 rfl rfl
theorem ml_Mod_280 : Cond.methodLink "DavRoomModel" 280 ⟨"DavRoomModel", "areFree", "(LDavRoomModel$Path;)Z"⟩ ∈ TB := tb5 73 rfl rfl
theorem ml_Mod_283 : Cond.methodLink "DavRoomModel" 283 ⟨"DavRoomModel$Room", "remove", "(LDavRoomModel$Path;)V"⟩ ∈ TB := tb5 77 rfl rfl
theorem ml_Mod_199 : Cond.methodLink "DavRoomModel" 199 ⟨"DavRoomModel", "make", "(I)I"⟩ ∈ TB := tb5 94 rfl rfl
theorem ml_Mod_202 : Cond.methodLink "DavRoomModel" 202 ⟨"DavRoomModel", "transfer", "(IZ)I"⟩ ∈ TB := tb5 98 rfl rfl
theorem ml_Mod_286 : Cond.methodLink "DavRoomModel" 286 ⟨"DavRoomModel", "goes", "(LDavRoomModel$Path;Z)Z"⟩ ∈ TB := tb5 102 rfl rfl
theorem ml_Mod_290 : Cond.methodLink "DavRoomModel" 290 ⟨"DavRoomModel$Path", "parts", "()I"⟩ ∈ TB := tb5 106 rfl rfl
theorem ml_Mod_293 : Cond.methodLink "DavRoomModel" 293 ⟨"DavRoomModel$Room", "copy", "(LDavRoomModel$Room;)V"⟩ ∈ TB := tb5 110 rfl rfl
theorem ml_Mod_296 : Cond.methodLink "DavRoomModel" 296 ⟨"DavRoomModel$Room", "copyResource", "(LDavRoomModel$Room;II)V"⟩ ∈ TB := tb5 114 rfl rfl
theorem ml_Mod_300 : Cond.methodLink "DavRoomModel" 300 ⟨"DavRoomModel", "target", "(LDavRoomModel$Path;)V"⟩ ∈ TB := tb5 115 rfl rfl
theorem ml_Mod_206 : Cond.methodLink "DavRoomModel" 206 ⟨"DavRoomModel", "lockIt", "()I"⟩ ∈ TB := tb5 119 rfl rfl
theorem ml_Mod_309 : Cond.methodLink "DavRoomModel" 309 ⟨"DavRoomModel", "held", "()I"⟩ ∈ TB := tb5 123 rfl rfl
theorem ml_Mod_303 : Cond.methodLink "DavRoomModel" 303 ⟨"DavRoomModel", "putNumber", "(I)V"⟩ ∈ TB := tb5 127 rfl rfl
theorem ml_Mod_209 : Cond.methodLink "DavRoomModel" 209 ⟨"DavRoomModel", "unlock", "()I"⟩ ∈ TB := tb5 131 rfl rfl
theorem ml_Mod_327 : Cond.methodLink "DavRoomModel" 327 ⟨"DavRoomModel$Room", "dropLock", "(I)V"⟩ ∈ TB := tb5 135 rfl rfl
theorem ml_Mod_212 : Cond.methodLink "DavRoomModel" 212 ⟨"DavRoomModel", "list", "()I"⟩ ∈ TB := tb5 139 rfl rfl
theorem ml_Mod_246 : Cond.methodLink "DavRoomModel" 246 ⟨"java/lang/Math", "max", "(II)I"⟩ ∈ TB := tb5 143 rfl rfl
theorem ml_Mod_330 : Cond.methodLink "DavRoomModel" 330 ⟨"DavRoomModel$Room", "dropEnded", "(I)I"⟩ ∈ TB := tb5 152 rfl rfl
theorem ml_Mod_333 : Cond.methodLink "DavRoomModel" 333 ⟨"DavRoomModel", "inside", "(LDavRoomModel$Path;)I"⟩ ∈ TB := tb5 168 rfl rfl
theorem cl_Mod_7 : Cond.classLink "DavRoomModel" 7 "DavRoomModel$Room" ∈ TB := tb4 15 rfl rfl
theorem cl_Mod_26 : Cond.classLink "DavRoomModel" 26 "java/lang/String" ∈ TB := tb4 90 rfl rfl
theorem cl_Mod_69 : Cond.classLink "DavRoomModel" 69 "DavRoomModel$Path" ∈ TB := tb4 109 rfl rfl
theorem fn_Mod_116 : Cond.fieldLinkNest "DavRoomModel" 116 "DavRoomModel$Path" "at" "[B" "DavRoomModel" ∈ NST := List.mem_of_getElem? (i := 4) rfl
theorem fN_Mod_116 : gFLN "DavRoomModel" 116 7 0 := ⟨_, _, _, _, rfl, i_MPath, by decide, fn_Mod_116, rfl⟩
theorem fn_Mod_103 : Cond.fieldLinkNest "DavRoomModel" 103 "DavRoomModel$Path" "size" "I" "DavRoomModel" ∈ NST := List.mem_of_getElem? (i := 5) rfl
theorem fN_Mod_103 : gFLN "DavRoomModel" 103 7 1 := ⟨_, _, _, _, rfl, i_MPath, by decide, fn_Mod_103, rfl⟩
theorem fn_Mod_216 : Cond.fieldLinkNest "DavRoomModel" 216 "DavRoomModel$Room" "path" "[LDavRoomModel$Path;" "DavRoomModel" ∈ NST := List.mem_of_getElem? (i := 6) rfl
theorem fN_Mod_216 : gFLN "DavRoomModel" 216 8 0 := ⟨_, _, _, _, rfl, i_MRoom, by decide, fn_Mod_216, rfl⟩
theorem fn_Mod_183 : Cond.fieldLinkNest "DavRoomModel" 183 "DavRoomModel$Room" "kind" "[I" "DavRoomModel" ∈ NST := List.mem_of_getElem? (i := 7) rfl
theorem fN_Mod_183 : gFLN "DavRoomModel" 183 8 1 := ⟨_, _, _, _, rfl, i_MRoom, by decide, fn_Mod_183, rfl⟩
theorem fn_Mod_186 : Cond.fieldLinkNest "DavRoomModel" 186 "DavRoomModel$Room" "version" "[I" "DavRoomModel" ∈ NST := List.mem_of_getElem? (i := 8) rfl
theorem fN_Mod_186 : gFLN "DavRoomModel" 186 8 2 := ⟨_, _, _, _, rfl, i_MRoom, by decide, fn_Mod_186, rfl⟩
theorem fn_Mod_232 : Cond.fieldLinkNest "DavRoomModel" 232 "DavRoomModel$Room" "size" "[I" "DavRoomModel" ∈ NST := List.mem_of_getElem? (i := 9) rfl
theorem fN_Mod_232 : gFLN "DavRoomModel" 232 8 3 := ⟨_, _, _, _, rfl, i_MRoom, by decide, fn_Mod_232, rfl⟩
theorem fn_Mod_234 : Cond.fieldLinkNest "DavRoomModel" 234 "DavRoomModel$Room" "data" "[[B" "DavRoomModel" ∈ NST := List.mem_of_getElem? (i := 10) rfl
theorem fN_Mod_234 : gFLN "DavRoomModel" 234 8 4 := ⟨_, _, _, _, rfl, i_MRoom, by decide, fn_Mod_234, rfl⟩
theorem fn_Mod_215 : Cond.fieldLinkNest "DavRoomModel" 215 "DavRoomModel$Room" "count" "I" "DavRoomModel" ∈ NST := List.mem_of_getElem? (i := 11) rfl
theorem fN_Mod_215 : gFLN "DavRoomModel" 215 8 5 := ⟨_, _, _, _, rfl, i_MRoom, by decide, fn_Mod_215, rfl⟩
theorem fn_Mod_315 : Cond.fieldLinkNest "DavRoomModel" 315 "DavRoomModel$Room" "lockPath" "[LDavRoomModel$Path;" "DavRoomModel" ∈ NST := List.mem_of_getElem? (i := 12) rfl
theorem fN_Mod_315 : gFLN "DavRoomModel" 315 8 6 := ⟨_, _, _, _, rfl, i_MRoom, by decide, fn_Mod_315, rfl⟩
theorem fn_Mod_258 : Cond.fieldLinkNest "DavRoomModel" 258 "DavRoomModel$Room" "token" "[I" "DavRoomModel" ∈ NST := List.mem_of_getElem? (i := 13) rfl
theorem fN_Mod_258 : gFLN "DavRoomModel" 258 8 7 := ⟨_, _, _, _, rfl, i_MRoom, by decide, fn_Mod_258, rfl⟩
theorem fn_Mod_324 : Cond.fieldLinkNest "DavRoomModel" 324 "DavRoomModel$Room" "deep" "[Z" "DavRoomModel" ∈ NST := List.mem_of_getElem? (i := 14) rfl
theorem fN_Mod_324 : gFLN "DavRoomModel" 324 8 8 := ⟨_, _, _, _, rfl, i_MRoom, by decide, fn_Mod_324, rfl⟩
theorem fn_Mod_318 : Cond.fieldLinkNest "DavRoomModel" 318 "DavRoomModel$Room" "one" "[Z" "DavRoomModel" ∈ NST := List.mem_of_getElem? (i := 15) rfl
theorem fN_Mod_318 : gFLN "DavRoomModel" 318 8 9 := ⟨_, _, _, _, rfl, i_MRoom, by decide, fn_Mod_318, rfl⟩
theorem fn_Mod_312 : Cond.fieldLinkNest "DavRoomModel" 312 "DavRoomModel$Room" "end" "[I" "DavRoomModel" ∈ NST := List.mem_of_getElem? (i := 16) rfl
theorem fN_Mod_312 : gFLN "DavRoomModel" 312 8 10 := ⟨_, _, _, _, rfl, i_MRoom, by decide, fn_Mod_312, rfl⟩
theorem fn_Mod_251 : Cond.fieldLinkNest "DavRoomModel" 251 "DavRoomModel$Room" "locks" "I" "DavRoomModel" ∈ NST := List.mem_of_getElem? (i := 17) rfl
theorem fN_Mod_251 : gFLN "DavRoomModel" 251 8 11 := ⟨_, _, _, _, rfl, i_MRoom, by decide, fn_Mod_251, rfl⟩
theorem mn_Mod_71 : Cond.methodLinkNest "DavRoomModel" 71 ⟨"DavRoomModel$Path", "<init>", "()V"⟩ "DavRoomModel" ∈ NST := List.mem_of_getElem? (i := 18) rfl
theorem fw_Mod_now : gFW 9 0 (.object "DavRoomModel$Room") true := ⟨_, _, _, t_Mod, rfl, t_Mod_ok, n_Mod, by decide, rfl, rfl⟩
theorem fw_Mod_kept : gFW 9 1 (.object "DavRoomModel$Room") true := ⟨_, _, _, t_Mod, rfl, t_Mod_ok, n_Mod, by decide, rfl, rfl⟩
theorem fw_Mod_clock : gFW 9 2 (.int) false := ⟨_, _, _, t_Mod, rfl, t_Mod_ok, n_Mod, by decide, rfl, rfl⟩
theorem fw_Mod_versions : gFW 9 3 (.int) false := ⟨_, _, _, t_Mod, rfl, t_Mod_ok, n_Mod, by decide, rfl, rfl⟩
theorem fw_Mod_tokens : gFW 9 4 (.int) false := ⟨_, _, _, t_Mod, rfl, t_Mod_ok, n_Mod, by decide, rfl, rfl⟩
theorem fw_Mod_tape : gFW 9 5 (.array .byte) true := ⟨_, _, _, t_Mod, rfl, t_Mod_ok, n_Mod, by decide, rfl, rfl⟩
theorem fw_Mod_count : gFW 9 6 (.int) false := ⟨_, _, _, t_Mod, rfl, t_Mod_ok, n_Mod, by decide, rfl, rfl⟩
theorem fw_Mod_out : gFW 9 7 (.array .byte) true := ⟨_, _, _, t_Mod, rfl, t_Mod_ok, n_Mod, by decide, rfl, rfl⟩
theorem fw_Mod_outCount : gFW 9 8 (.int) false := ⟨_, _, _, t_Mod, rfl, t_Mod_ok, n_Mod, by decide, rfl, rfl⟩
theorem fw_Mod_headers : gFW 9 9 (.array (.object "java/lang/String")) true := ⟨_, _, _, t_Mod, rfl, t_Mod_ok, n_Mod, by decide, rfl, rfl⟩
theorem fw_Mod_methods : gFW 9 10 (.array (.object "java/lang/String")) true := ⟨_, _, _, t_Mod, rfl, t_Mod_ok, n_Mod, by decide, rfl, rfl⟩
theorem fw_Mod_method : gFW 9 11 (.int) false := ⟨_, _, _, t_Mod, rfl, t_Mod_ok, n_Mod, by decide, rfl, rfl⟩
theorem fw_Mod_path : gFW 9 12 (.object "DavRoomModel$Path") true := ⟨_, _, _, t_Mod, rfl, t_Mod_ok, n_Mod, by decide, rfl, rfl⟩
theorem fw_Mod_to : gFW 9 13 (.object "DavRoomModel$Path") true := ⟨_, _, _, t_Mod, rfl, t_Mod_ok, n_Mod, by decide, rfl, rfl⟩
theorem fw_Mod_has : gFW 9 14 (.int) false := ⟨_, _, _, t_Mod, rfl, t_Mod_ok, n_Mod, by decide, rfl, rfl⟩
theorem fw_Mod_value : gFW 9 15 (.array .int) true := ⟨_, _, _, t_Mod, rfl, t_Mod_ok, n_Mod, by decide, rfl, rfl⟩
theorem fw_Mod_body : gFW 9 16 (.int) false := ⟨_, _, _, t_Mod, rfl, t_Mod_ok, n_Mod, by decide, rfl, rfl⟩
theorem fw_Mod_parent : gFW 9 17 (.object "DavRoomModel$Path") true := ⟨_, _, _, t_Mod, rfl, t_Mod_ok, n_Mod, by decide, rfl, rfl⟩
theorem fw_Mod_before : gFW 9 18 (.object "DavRoomModel$Room") true := ⟨_, _, _, t_Mod, rfl, t_Mod_ok, n_Mod, by decide, rfl, rfl⟩
theorem fw_Mod_made : gFW 9 19 (.object "DavRoomModel$Path") true := ⟨_, _, _, t_Mod, rfl, t_Mod_ok, n_Mod, by decide, rfl, rfl⟩
theorem mw_Mod_init : gMW y_Mod_init b_Mod_init 1 none 0 := ⟨⟨tb1 9 rfl rfl, tb4 13 rfl rfl⟩, by decide +kernel⟩
theorem mw_Mod_feed : gMW y_Mod_feed b_Mod_feed 8 (some .int) 5 := ⟨⟨tb1 9 rfl rfl, tb4 175 rfl rfl⟩, by decide +kernel⟩
theorem mo_Mod_feed : gMO y_Mod_feed := ⟨tb4 173 rfl rfl, tb4 174 rfl rfl⟩
theorem mw_Mod_end : gMW y_Mod_end b_Mod_end 2 (some .int) 1 := ⟨⟨tb1 9 rfl rfl, tb4 179 rfl rfl⟩, by decide +kernel⟩
theorem mo_Mod_end : gMO y_Mod_end := ⟨tb4 177 rfl rfl, tb4 178 rfl rfl⟩
theorem mw_Mod_is : gMW y_Mod_is b_Mod_is 5 (some .boolean) 3 := ⟨⟨tb1 9 rfl rfl, tb4 196 rfl rfl⟩, by decide +kernel⟩
theorem mo_Mod_is : gMO y_Mod_is := ⟨tb4 195 rfl rfl, tbp 26 rfl⟩
theorem mw_Mod_find : gMW y_Mod_find b_Mod_find 4 (some .int) 2 := ⟨⟨tb1 9 rfl rfl, tb4 191 rfl rfl⟩, by decide +kernel⟩
theorem mo_Mod_find : gMO y_Mod_find := ⟨tb4 190 rfl rfl, tbp 25 rfl⟩
theorem mw_Mod_isSign : gMW y_Mod_isSign b_Mod_isSign 1 (some .boolean) 1 := ⟨⟨tb1 9 rfl rfl, tb4 206 rfl rfl⟩, by decide +kernel⟩
theorem mo_Mod_isSign : Cond.static y_Mod_isSign ∈ TB := tb4 205 rfl rfl
theorem mw_Mod_readPath : gMW y_Mod_readPath b_Mod_readPath 9 (some .boolean) 3 := ⟨⟨tb1 9 rfl rfl, tb4 202 rfl rfl⟩, by decide +kernel⟩
theorem mo_Mod_readPath : gMO y_Mod_readPath := ⟨tb4 201 rfl rfl, tbp 27 rfl⟩
theorem mw_Mod_number : gMW y_Mod_number b_Mod_number 5 (some .int) 2 := ⟨⟨tb1 9 rfl rfl, tb4 223 rfl rfl⟩, by decide +kernel⟩
theorem mo_Mod_number : gMO y_Mod_number := ⟨tb4 222 rfl rfl, tbp 30 rfl⟩
theorem mw_Mod_readValue : gMW y_Mod_readValue b_Mod_readValue 4 (some .boolean) 3 := ⟨⟨tb1 9 rfl rfl, tb4 214 rfl rfl⟩, by decide +kernel⟩
theorem mo_Mod_readValue : gMO y_Mod_readValue := ⟨tb4 213 rfl rfl, tbp 29 rfl⟩
theorem mw_Mod_readHeader : gMW y_Mod_readHeader b_Mod_readHeader 5 (some .boolean) 2 := ⟨⟨tb1 9 rfl rfl, tb4 210 rfl rfl⟩, by decide +kernel⟩
theorem mo_Mod_readHeader : gMO y_Mod_readHeader := ⟨tb4 209 rfl rfl, tbp 28 rfl⟩
theorem mw_Mod_has : gMW y_Mod_has b_Mod_has 2 (some .boolean) 1 := ⟨⟨tb1 9 rfl rfl, tb4 232 rfl rfl⟩, by decide +kernel⟩
theorem mo_Mod_has : gMO y_Mod_has := ⟨tb4 231 rfl rfl, tbp 31 rfl⟩
theorem mw_Mod_read : gMW y_Mod_read b_Mod_read 6 (some .boolean) 0 := ⟨⟨tb1 9 rfl rfl, tb4 187 rfl rfl⟩, by decide +kernel⟩
theorem mo_Mod_read : gMO y_Mod_read := ⟨tb4 186 rfl rfl, tbp 24 rfl⟩
theorem mw_Mod_request : gMW y_Mod_request b_Mod_request 2 (some .int) 0 := ⟨⟨tb1 9 rfl rfl, tb4 183 rfl rfl⟩, by decide +kernel⟩
theorem mo_Mod_request : gMO y_Mod_request := ⟨tb4 181 rfl rfl, tb4 182 rfl rfl⟩
theorem mw_Mod_answer : gMW y_Mod_answer b_Mod_answer 2 (some .int) 0 := ⟨⟨tb1 9 rfl rfl, tb4 236 rfl rfl⟩, by decide +kernel⟩
theorem mo_Mod_answer : gMO y_Mod_answer := ⟨tb4 235 rfl rfl, tbp 32 rfl⟩
theorem mw_Mod_put : gMW y_Mod_put b_Mod_put 2 none 1 := ⟨⟨tb1 9 rfl rfl, tb5 16 rfl rfl⟩, by decide +kernel⟩
theorem mo_Mod_put : gMO y_Mod_put := ⟨tb5 15 rfl rfl, tbp 35 rfl⟩
theorem mw_Mod_after : gMW y_Mod_after b_Mod_after 8 (some .int) 4 := ⟨⟨tb1 9 rfl rfl, tb5 20 rfl rfl⟩, by decide +kernel⟩
theorem mo_Mod_after : gMO y_Mod_after := ⟨tb5 19 rfl rfl, tbp 36 rfl⟩
theorem mw_Mod_get : gMW y_Mod_get b_Mod_get 4 (some .int) 1 := ⟨⟨tb1 9 rfl rfl, tb5 12 rfl rfl⟩, by decide +kernel⟩
theorem mo_Mod_get : gMO y_Mod_get := ⟨tb5 11 rfl rfl, tbp 34 rfl⟩
theorem mw_Mod_list : gMW y_Mod_list b_Mod_list 6 (some .int) 0 := ⟨⟨tb1 9 rfl rfl, tb5 142 rfl rfl⟩, by decide +kernel⟩
theorem mo_Mod_list : gMO y_Mod_list := ⟨tb5 141 rfl rfl, tbp 51 rfl⟩
theorem mw_Mod_isFree : gMW y_Mod_isFree b_Mod_isFree 4 (some .boolean) 1 := ⟨⟨tb1 9 rfl rfl, tb5 58 rfl rfl⟩, by decide +kernel⟩
theorem mo_Mod_isFree : gMO y_Mod_isFree := ⟨tb5 57 rfl rfl, tbp 39 rfl⟩
theorem mw_Mod_areFree : gMW y_Mod_areFree b_Mod_areFree 3 (some .boolean) 1 := ⟨⟨tb1 9 rfl rfl, tb5 76 rfl rfl⟩, by decide +kernel⟩
theorem mo_Mod_areFree : gMO y_Mod_areFree := ⟨tb5 75 rfl rfl, tbp 42 rfl⟩
theorem mw_Mod_hasParent : gMW y_Mod_hasParent b_Mod_hasParent 3 (some .boolean) 1 := ⟨⟨tb1 9 rfl rfl, tb5 46 rfl rfl⟩, by decide +kernel⟩
theorem mo_Mod_hasParent : gMO y_Mod_hasParent := ⟨tb5 45 rfl rfl, tbp 38 rfl⟩
theorem mw_Mod_fresh : gMW y_Mod_fresh b_Mod_fresh 4 (some .int) 2 := ⟨⟨tb1 9 rfl rfl, tb5 67 rfl rfl⟩, by decide +kernel⟩
theorem mo_Mod_fresh : gMO y_Mod_fresh := ⟨tb5 66 rfl rfl, tbp 40 rfl⟩
theorem mw_Mod_store : gMW y_Mod_store b_Mod_store 4 (some .int) 1 := ⟨⟨tb1 9 rfl rfl, tb5 42 rfl rfl⟩, by decide +kernel⟩
theorem mo_Mod_store : gMO y_Mod_store := ⟨tb5 41 rfl rfl, tbp 37 rfl⟩
theorem mw_Mod_make : gMW y_Mod_make b_Mod_make 2 (some .int) 1 := ⟨⟨tb1 9 rfl rfl, tb5 97 rfl rfl⟩, by decide +kernel⟩
theorem mo_Mod_make : gMO y_Mod_make := ⟨tb5 96 rfl rfl, tbp 43 rfl⟩
theorem mw_Mod_delete : gMW y_Mod_delete b_Mod_delete 1 (some .int) 0 := ⟨⟨tb1 9 rfl rfl, tb5 72 rfl rfl⟩, by decide +kernel⟩
theorem mo_Mod_delete : gMO y_Mod_delete := ⟨tb5 71 rfl rfl, tbp 41 rfl⟩
theorem mw_Mod_target : gMW y_Mod_target b_Mod_target 3 none 1 := ⟨⟨tb1 9 rfl rfl, tb5 118 rfl rfl⟩, by decide +kernel⟩
theorem mo_Mod_target : gMO y_Mod_target := ⟨tb5 117 rfl rfl, tbp 46 rfl⟩
theorem mw_Mod_goes : gMW y_Mod_goes b_Mod_goes 3 (some .boolean) 2 := ⟨⟨tb1 9 rfl rfl, tb5 105 rfl rfl⟩, by decide +kernel⟩
theorem mo_Mod_goes : gMO y_Mod_goes := ⟨tb5 104 rfl rfl, tbp 45 rfl⟩
theorem mw_Mod_transfer : gMW y_Mod_transfer b_Mod_transfer 11 (some .int) 2 := ⟨⟨tb1 9 rfl rfl, tb5 101 rfl rfl⟩, by decide +kernel⟩
theorem mo_Mod_transfer : gMO y_Mod_transfer := ⟨tb5 100 rfl rfl, tbp 44 rfl⟩
theorem mw_Mod_held : gMW y_Mod_held b_Mod_held 2 (some .int) 0 := ⟨⟨tb1 9 rfl rfl, tb5 126 rfl rfl⟩, by decide +kernel⟩
theorem mo_Mod_held : gMO y_Mod_held := ⟨tb5 125 rfl rfl, tbp 48 rfl⟩
theorem mw_Mod_putNumber : gMW y_Mod_putNumber b_Mod_putNumber 2 none 1 := ⟨⟨tb1 9 rfl rfl, tb5 130 rfl rfl⟩, by decide +kernel⟩
theorem mo_Mod_putNumber : gMO y_Mod_putNumber := ⟨tb5 129 rfl rfl, tbp 49 rfl⟩
theorem mw_Mod_lockIt : gMW y_Mod_lockIt b_Mod_lockIt 6 (some .int) 0 := ⟨⟨tb1 9 rfl rfl, tb5 122 rfl rfl⟩, by decide +kernel⟩
theorem mo_Mod_lockIt : gMO y_Mod_lockIt := ⟨tb5 121 rfl rfl, tbp 47 rfl⟩
theorem mw_Mod_unlock : gMW y_Mod_unlock b_Mod_unlock 2 (some .int) 0 := ⟨⟨tb1 9 rfl rfl, tb5 134 rfl rfl⟩, by decide +kernel⟩
theorem mo_Mod_unlock : gMO y_Mod_unlock := ⟨tb5 133 rfl rfl, tbp 50 rfl⟩
theorem mw_Mod_octet : gMW y_Mod_octet b_Mod_octet 2 (some .int) 1 := ⟨⟨tb1 9 rfl rfl, tb5 147 rfl rfl⟩, by decide +kernel⟩
theorem mo_Mod_octet : gMO y_Mod_octet := ⟨tb5 145 rfl rfl, tb5 146 rfl rfl⟩
theorem mw_Mod_tick : gMW y_Mod_tick b_Mod_tick 2 (some .int) 1 := ⟨⟨tb1 9 rfl rfl, tb5 151 rfl rfl⟩, by decide +kernel⟩
theorem mo_Mod_tick : gMO y_Mod_tick := ⟨tb5 149 rfl rfl, tb5 150 rfl rfl⟩
theorem mw_Mod_keep : gMW y_Mod_keep b_Mod_keep 1 (some .int) 0 := ⟨⟨tb1 9 rfl rfl, tb5 159 rfl rfl⟩, by decide +kernel⟩
theorem mo_Mod_keep : gMO y_Mod_keep := ⟨tb5 157 rfl rfl, tb5 158 rfl rfl⟩
theorem mw_Mod_crash : gMW y_Mod_crash b_Mod_crash 1 (some .int) 0 := ⟨⟨tb1 9 rfl rfl, tb5 163 rfl rfl⟩, by decide +kernel⟩
theorem mo_Mod_crash : gMO y_Mod_crash := ⟨tb5 161 rfl rfl, tb5 162 rfl rfl⟩
theorem mw_Mod_inside : gMW y_Mod_inside b_Mod_inside 4 (some .int) 1 := ⟨⟨tb1 9 rfl rfl, tb5 171 rfl rfl⟩, by decide +kernel⟩
theorem mo_Mod_inside : gMO y_Mod_inside := ⟨tb5 170 rfl rfl, tbp 52 rfl⟩
theorem mw_Mod_look : gMW y_Mod_look b_Mod_look 6 (some .int) 1 := ⟨⟨tb1 9 rfl rfl, tb5 167 rfl rfl⟩, by decide +kernel⟩
theorem mo_Mod_look : gMO y_Mod_look := ⟨tb5 165 rfl rfl, tb5 166 rfl rfl⟩
theorem mw_Mod_lock : gMW y_Mod_lock b_Mod_lock 5 (some .int) 2 := ⟨⟨tb1 9 rfl rfl, tb5 175 rfl rfl⟩, by decide +kernel⟩
theorem mo_Mod_lock : gMO y_Mod_lock := ⟨tb5 173 rfl rfl, tb5 174 rfl rfl⟩
theorem mw_Mod_count : gMW y_Mod_count b_Mod_count 5 (some .int) 1 := ⟨⟨tb1 9 rfl rfl, tb5 179 rfl rfl⟩, by decide +kernel⟩
theorem mo_Mod_count : gMO y_Mod_count := ⟨tb5 177 rfl rfl, tb5 178 rfl rfl⟩
theorem d_Mod_feed_0 : decode b_Mod_feed 0 = .ok (.aload_n 0, 1) := by decide +kernel
theorem d_Mod_feed_1 : decode b_Mod_feed 1 = .ok (.getfield 91, 3) := by decide +kernel
theorem d_Mod_feed_4 : decode b_Mod_feed 4 = .ok (.bipush 20, 2) := by decide +kernel
theorem d_Mod_feed_6 : decode b_Mod_feed 6 = .ok (.iadd, 1) := by decide +kernel
theorem d_Mod_feed_7 : decode b_Mod_feed 7 = .ok (.sipush 400, 3) := by decide +kernel
theorem d_Mod_feed_10 : decode b_Mod_feed 10 = .ok (.if_icmp .le 6, 3) := by decide +kernel
theorem d_Mod_feed_13 : decode b_Mod_feed 13 = .ok (.bipush (-3), 2) := by decide +kernel
theorem d_Mod_feed_15 : decode b_Mod_feed 15 = .ok (.ireturn, 1) := by decide +kernel
theorem d_Mod_feed_16 : decode b_Mod_feed 16 = .ok (.iconst 5, 1) := by decide +kernel
theorem d_Mod_feed_17 : decode b_Mod_feed 17 = .ok (.newarray .int, 2) := by decide +kernel
theorem d_Mod_feed_19 : decode b_Mod_feed 19 = .ok (.dup, 1) := by decide +kernel
theorem d_Mod_feed_20 : decode b_Mod_feed 20 = .ok (.iconst 0, 1) := by decide +kernel
theorem d_Mod_feed_21 : decode b_Mod_feed 21 = .ok (.iload_n 1, 1) := by decide +kernel
theorem d_Mod_feed_22 : decode b_Mod_feed 22 = .ok (.iastore, 1) := by decide +kernel
theorem d_Mod_feed_23 : decode b_Mod_feed 23 = .ok (.dup, 1) := by decide +kernel
theorem d_Mod_feed_24 : decode b_Mod_feed 24 = .ok (.iconst 1, 1) := by decide +kernel
theorem d_Mod_feed_25 : decode b_Mod_feed 25 = .ok (.iload_n 2, 1) := by decide +kernel
theorem d_Mod_feed_26 : decode b_Mod_feed 26 = .ok (.iastore, 1) := by decide +kernel
theorem d_Mod_feed_27 : decode b_Mod_feed 27 = .ok (.dup, 1) := by decide +kernel
theorem d_Mod_feed_28 : decode b_Mod_feed 28 = .ok (.iconst 2, 1) := by decide +kernel
theorem d_Mod_feed_29 : decode b_Mod_feed 29 = .ok (.iload_n 3, 1) := by decide +kernel
theorem d_Mod_feed_30 : decode b_Mod_feed 30 = .ok (.iastore, 1) := by decide +kernel
theorem d_Mod_feed_31 : decode b_Mod_feed 31 = .ok (.dup, 1) := by decide +kernel
theorem d_Mod_feed_32 : decode b_Mod_feed 32 = .ok (.iconst 3, 1) := by decide +kernel
theorem d_Mod_feed_33 : decode b_Mod_feed 33 = .ok (.iload 4, 2) := by decide +kernel
theorem d_Mod_feed_35 : decode b_Mod_feed 35 = .ok (.iastore, 1) := by decide +kernel
theorem d_Mod_feed_36 : decode b_Mod_feed 36 = .ok (.dup, 1) := by decide +kernel
theorem d_Mod_feed_37 : decode b_Mod_feed 37 = .ok (.iconst 4, 1) := by decide +kernel
theorem d_Mod_feed_38 : decode b_Mod_feed 38 = .ok (.iload 5, 2) := by decide +kernel
theorem d_Mod_feed_40 : decode b_Mod_feed 40 = .ok (.iastore, 1) := by decide +kernel
theorem d_Mod_feed_41 : decode b_Mod_feed 41 = .ok (.astore 6, 2) := by decide +kernel
theorem d_Mod_feed_43 : decode b_Mod_feed 43 = .ok (.iconst 0, 1) := by decide +kernel
theorem d_Mod_feed_44 : decode b_Mod_feed 44 = .ok (.istore 7, 2) := by decide +kernel
theorem d_Mod_feed_46 : decode b_Mod_feed 46 = .ok (.iload 7, 2) := by decide +kernel
theorem d_Mod_feed_48 : decode b_Mod_feed 48 = .ok (.bipush 20, 2) := by decide +kernel
theorem d_Mod_feed_50 : decode b_Mod_feed 50 = .ok (.if_icmp .ge 40, 3) := by decide +kernel
theorem d_Mod_feed_53 : decode b_Mod_feed 53 = .ok (.aload_n 0, 1) := by decide +kernel
theorem d_Mod_feed_54 : decode b_Mod_feed 54 = .ok (.getfield 19, 3) := by decide +kernel
theorem d_Mod_feed_57 : decode b_Mod_feed 57 = .ok (.aload_n 0, 1) := by decide +kernel
theorem d_Mod_feed_58 : decode b_Mod_feed 58 = .ok (.getfield 91, 3) := by decide +kernel
theorem d_Mod_feed_61 : decode b_Mod_feed 61 = .ok (.iload 7, 2) := by decide +kernel
theorem d_Mod_feed_63 : decode b_Mod_feed 63 = .ok (.iadd, 1) := by decide +kernel
theorem d_Mod_feed_64 : decode b_Mod_feed 64 = .ok (.aload 6, 2) := by decide +kernel
theorem d_Mod_feed_66 : decode b_Mod_feed 66 = .ok (.iload 7, 2) := by decide +kernel
theorem d_Mod_feed_68 : decode b_Mod_feed 68 = .ok (.iconst 4, 1) := by decide +kernel
theorem d_Mod_feed_69 : decode b_Mod_feed 69 = .ok (.idiv, 1) := by decide +kernel
theorem d_Mod_feed_70 : decode b_Mod_feed 70 = .ok (.iaload, 1) := by decide +kernel
theorem d_Mod_feed_71 : decode b_Mod_feed 71 = .ok (.bipush 24, 2) := by decide +kernel
theorem d_Mod_feed_73 : decode b_Mod_feed 73 = .ok (.bipush 8, 2) := by decide +kernel
theorem d_Mod_feed_75 : decode b_Mod_feed 75 = .ok (.iload 7, 2) := by decide +kernel
theorem d_Mod_feed_77 : decode b_Mod_feed 77 = .ok (.iconst 4, 1) := by decide +kernel
theorem d_Mod_feed_78 : decode b_Mod_feed 78 = .ok (.irem, 1) := by decide +kernel
theorem d_Mod_feed_79 : decode b_Mod_feed 79 = .ok (.imul, 1) := by decide +kernel
theorem d_Mod_feed_80 : decode b_Mod_feed 80 = .ok (.isub, 1) := by decide +kernel
theorem d_Mod_feed_81 : decode b_Mod_feed 81 = .ok (.ishr, 1) := by decide +kernel
theorem d_Mod_feed_82 : decode b_Mod_feed 82 = .ok (.i2b, 1) := by decide +kernel
theorem d_Mod_feed_83 : decode b_Mod_feed 83 = .ok (.bastore, 1) := by decide +kernel
theorem d_Mod_feed_84 : decode b_Mod_feed 84 = .ok (.iinc 7 1, 3) := by decide +kernel
theorem d_Mod_feed_87 : decode b_Mod_feed 87 = .ok (.goto (-41), 3) := by decide +kernel
theorem d_Mod_feed_90 : decode b_Mod_feed 90 = .ok (.aload_n 0, 1) := by decide +kernel
theorem d_Mod_feed_91 : decode b_Mod_feed 91 = .ok (.dup, 1) := by decide +kernel
theorem d_Mod_feed_92 : decode b_Mod_feed 92 = .ok (.getfield 91, 3) := by decide +kernel
theorem d_Mod_feed_95 : decode b_Mod_feed 95 = .ok (.bipush 20, 2) := by decide +kernel
theorem d_Mod_feed_97 : decode b_Mod_feed 97 = .ok (.iadd, 1) := by decide +kernel
theorem d_Mod_feed_98 : decode b_Mod_feed 98 = .ok (.putfield 91, 3) := by decide +kernel
theorem d_Mod_feed_101 : decode b_Mod_feed 101 = .ok (.aload_n 0, 1) := by decide +kernel
theorem d_Mod_feed_102 : decode b_Mod_feed 102 = .ok (.getfield 91, 3) := by decide +kernel
theorem d_Mod_feed_105 : decode b_Mod_feed 105 = .ok (.ireturn, 1) := by decide +kernel
theorem d_Mod_end_0 : decode b_Mod_end 0 = .ok (.iload_n 1, 1) := by decide +kernel
theorem d_Mod_end_1 : decode b_Mod_end 1 = .ok (.ifCond .lt 11, 3) := by decide +kernel
theorem d_Mod_end_4 : decode b_Mod_end 4 = .ok (.iload_n 1, 1) := by decide +kernel
theorem d_Mod_end_5 : decode b_Mod_end 5 = .ok (.aload_n 0, 1) := by decide +kernel
theorem d_Mod_end_6 : decode b_Mod_end 6 = .ok (.getfield 91, 3) := by decide +kernel
theorem d_Mod_end_9 : decode b_Mod_end 9 = .ok (.if_icmp .le 5, 3) := by decide +kernel
theorem d_Mod_end_12 : decode b_Mod_end 12 = .ok (.iconst (-1), 1) := by decide +kernel
theorem d_Mod_end_13 : decode b_Mod_end 13 = .ok (.ireturn, 1) := by decide +kernel
theorem d_Mod_end_14 : decode b_Mod_end 14 = .ok (.aload_n 0, 1) := by decide +kernel
theorem d_Mod_end_15 : decode b_Mod_end 15 = .ok (.iload_n 1, 1) := by decide +kernel
theorem d_Mod_end_16 : decode b_Mod_end 16 = .ok (.putfield 91, 3) := by decide +kernel
theorem d_Mod_end_19 : decode b_Mod_end 19 = .ok (.iload_n 1, 1) := by decide +kernel
theorem d_Mod_end_20 : decode b_Mod_end 20 = .ok (.ireturn, 1) := by decide +kernel
theorem d_Mod_is_0 : decode b_Mod_is 0 = .ok (.iload_n 2, 1) := by decide +kernel
theorem d_Mod_is_1 : decode b_Mod_is 1 = .ok (.iload_n 1, 1) := by decide +kernel
theorem d_Mod_is_2 : decode b_Mod_is 2 = .ok (.isub, 1) := by decide +kernel
theorem d_Mod_is_3 : decode b_Mod_is 3 = .ok (.aload_n 3, 1) := by decide +kernel
theorem d_Mod_is_4 : decode b_Mod_is 4 = .ok (.invokevirtual 95, 3) := by decide +kernel
theorem d_Mod_is_7 : decode b_Mod_is 7 = .ok (.if_icmp .eq 5, 3) := by decide +kernel
theorem d_Mod_is_10 : decode b_Mod_is 10 = .ok (.iconst 0, 1) := by decide +kernel
theorem d_Mod_is_11 : decode b_Mod_is 11 = .ok (.ireturn, 1) := by decide +kernel
theorem d_Mod_is_12 : decode b_Mod_is 12 = .ok (.iconst 0, 1) := by decide +kernel
theorem d_Mod_is_13 : decode b_Mod_is 13 = .ok (.istore 4, 2) := by decide +kernel
theorem d_Mod_is_15 : decode b_Mod_is 15 = .ok (.iload 4, 2) := by decide +kernel
theorem d_Mod_is_17 : decode b_Mod_is 17 = .ok (.aload_n 3, 1) := by decide +kernel
theorem d_Mod_is_18 : decode b_Mod_is 18 = .ok (.invokevirtual 95, 3) := by decide +kernel
theorem d_Mod_is_21 : decode b_Mod_is 21 = .ok (.if_icmp .ge 29, 3) := by decide +kernel
theorem d_Mod_is_24 : decode b_Mod_is 24 = .ok (.aload_n 0, 1) := by decide +kernel
theorem d_Mod_is_25 : decode b_Mod_is 25 = .ok (.getfield 19, 3) := by decide +kernel
theorem d_Mod_is_28 : decode b_Mod_is 28 = .ok (.iload_n 1, 1) := by decide +kernel
theorem d_Mod_is_29 : decode b_Mod_is 29 = .ok (.iload 4, 2) := by decide +kernel
theorem d_Mod_is_31 : decode b_Mod_is 31 = .ok (.iadd, 1) := by decide +kernel
theorem d_Mod_is_32 : decode b_Mod_is 32 = .ok (.baload, 1) := by decide +kernel
theorem d_Mod_is_33 : decode b_Mod_is 33 = .ok (.aload_n 3, 1) := by decide +kernel
theorem d_Mod_is_34 : decode b_Mod_is 34 = .ok (.iload 4, 2) := by decide +kernel
theorem d_Mod_is_36 : decode b_Mod_is 36 = .ok (.invokevirtual 99, 3) := by decide +kernel
theorem d_Mod_is_39 : decode b_Mod_is 39 = .ok (.if_icmp .eq 5, 3) := by decide +kernel
theorem d_Mod_is_42 : decode b_Mod_is 42 = .ok (.iconst 0, 1) := by decide +kernel
theorem d_Mod_is_43 : decode b_Mod_is 43 = .ok (.ireturn, 1) := by decide +kernel
theorem d_Mod_is_44 : decode b_Mod_is 44 = .ok (.iinc 4 1, 3) := by decide +kernel
theorem d_Mod_is_47 : decode b_Mod_is 47 = .ok (.goto (-32), 3) := by decide +kernel
theorem d_Mod_is_50 : decode b_Mod_is 50 = .ok (.iconst 1, 1) := by decide +kernel
theorem d_Mod_is_51 : decode b_Mod_is 51 = .ok (.ireturn, 1) := by decide +kernel
theorem d_Mod_find_0 : decode b_Mod_find 0 = .ok (.iload_n 2, 1) := by decide +kernel
theorem d_Mod_find_1 : decode b_Mod_find 1 = .ok (.istore_n 3, 1) := by decide +kernel
theorem d_Mod_find_2 : decode b_Mod_find 2 = .ok (.iload_n 3, 1) := by decide +kernel
theorem d_Mod_find_3 : decode b_Mod_find 3 = .ok (.aload_n 0, 1) := by decide +kernel
theorem d_Mod_find_4 : decode b_Mod_find 4 = .ok (.getfield 91, 3) := by decide +kernel
theorem d_Mod_find_7 : decode b_Mod_find 7 = .ok (.if_icmp .ge 19, 3) := by decide +kernel
theorem d_Mod_find_10 : decode b_Mod_find 10 = .ok (.aload_n 0, 1) := by decide +kernel
theorem d_Mod_find_11 : decode b_Mod_find 11 = .ok (.getfield 19, 3) := by decide +kernel
theorem d_Mod_find_14 : decode b_Mod_find 14 = .ok (.iload_n 3, 1) := by decide +kernel
theorem d_Mod_find_15 : decode b_Mod_find 15 = .ok (.baload, 1) := by decide +kernel
theorem d_Mod_find_16 : decode b_Mod_find 16 = .ok (.iload_n 1, 1) := by decide +kernel
theorem d_Mod_find_17 : decode b_Mod_find 17 = .ok (.if_icmp .eq 9, 3) := by decide +kernel
theorem d_Mod_find_20 : decode b_Mod_find 20 = .ok (.iinc 3 1, 3) := by decide +kernel
theorem d_Mod_find_23 : decode b_Mod_find 23 = .ok (.goto (-21), 3) := by decide +kernel
theorem d_Mod_find_26 : decode b_Mod_find 26 = .ok (.iload_n 3, 1) := by decide +kernel
theorem d_Mod_find_27 : decode b_Mod_find 27 = .ok (.ireturn, 1) := by decide +kernel
theorem d_Mod_isSign_0 : decode b_Mod_isSign 0 = .ok (.iload_n 0, 1) := by decide +kernel
theorem d_Mod_isSign_1 : decode b_Mod_isSign 1 = .ok (.bipush 97, 2) := by decide +kernel
theorem d_Mod_isSign_3 : decode b_Mod_isSign 3 = .ok (.if_icmp .lt 9, 3) := by decide +kernel
theorem d_Mod_isSign_6 : decode b_Mod_isSign 6 = .ok (.iload_n 0, 1) := by decide +kernel
theorem d_Mod_isSign_7 : decode b_Mod_isSign 7 = .ok (.bipush 122, 2) := by decide +kernel
theorem d_Mod_isSign_9 : decode b_Mod_isSign 9 = .ok (.if_icmp .le 27, 3) := by decide +kernel
theorem d_Mod_isSign_12 : decode b_Mod_isSign 12 = .ok (.iload_n 0, 1) := by decide +kernel
theorem d_Mod_isSign_13 : decode b_Mod_isSign 13 = .ok (.bipush 48, 2) := by decide +kernel
theorem d_Mod_isSign_15 : decode b_Mod_isSign 15 = .ok (.if_icmp .lt 9, 3) := by decide +kernel
theorem d_Mod_isSign_18 : decode b_Mod_isSign 18 = .ok (.iload_n 0, 1) := by decide +kernel
theorem d_Mod_isSign_19 : decode b_Mod_isSign 19 = .ok (.bipush 57, 2) := by decide +kernel
theorem d_Mod_isSign_21 : decode b_Mod_isSign 21 = .ok (.if_icmp .le 15, 3) := by decide +kernel
theorem d_Mod_isSign_24 : decode b_Mod_isSign 24 = .ok (.iload_n 0, 1) := by decide +kernel
theorem d_Mod_isSign_25 : decode b_Mod_isSign 25 = .ok (.bipush 45, 2) := by decide +kernel
theorem d_Mod_isSign_27 : decode b_Mod_isSign 27 = .ok (.if_icmp .eq 9, 3) := by decide +kernel
theorem d_Mod_isSign_30 : decode b_Mod_isSign 30 = .ok (.iload_n 0, 1) := by decide +kernel
theorem d_Mod_isSign_31 : decode b_Mod_isSign 31 = .ok (.bipush 46, 2) := by decide +kernel
theorem d_Mod_isSign_33 : decode b_Mod_isSign 33 = .ok (.if_icmp .ne 7, 3) := by decide +kernel
theorem d_Mod_isSign_36 : decode b_Mod_isSign 36 = .ok (.iconst 1, 1) := by decide +kernel
theorem d_Mod_isSign_37 : decode b_Mod_isSign 37 = .ok (.goto 4, 3) := by decide +kernel
theorem d_Mod_isSign_40 : decode b_Mod_isSign 40 = .ok (.iconst 0, 1) := by decide +kernel
theorem d_Mod_isSign_41 : decode b_Mod_isSign 41 = .ok (.ireturn, 1) := by decide +kernel
theorem d_Mod_readPath_0 : decode b_Mod_readPath 0 = .ok (.aload_n 3, 1) := by decide +kernel
theorem d_Mod_readPath_1 : decode b_Mod_readPath 1 = .ok (.iconst 0, 1) := by decide +kernel
theorem d_Mod_readPath_2 : decode b_Mod_readPath 2 = .ok (.putfield 103, 3) := by decide +kernel
theorem d_Mod_readPath_5 : decode b_Mod_readPath 5 = .ok (.aload_n 0, 1) := by decide +kernel
theorem d_Mod_readPath_6 : decode b_Mod_readPath 6 = .ok (.iload_n 1, 1) := by decide +kernel
theorem d_Mod_readPath_7 : decode b_Mod_readPath 7 = .ok (.iload_n 2, 1) := by decide +kernel
theorem d_Mod_readPath_8 : decode b_Mod_readPath 8 = .ok (.ldc 106, 2) := by decide +kernel
theorem d_Mod_readPath_10 : decode b_Mod_readPath 10 = .ok (.invokevirtual 108, 3) := by decide +kernel
theorem d_Mod_readPath_13 : decode b_Mod_readPath 13 = .ok (.ifCond .eq 5, 3) := by decide +kernel
theorem d_Mod_readPath_16 : decode b_Mod_readPath 16 = .ok (.iconst 1, 1) := by decide +kernel
theorem d_Mod_readPath_17 : decode b_Mod_readPath 17 = .ok (.ireturn, 1) := by decide +kernel
theorem d_Mod_readPath_18 : decode b_Mod_readPath 18 = .ok (.iconst 0, 1) := by decide +kernel
theorem d_Mod_readPath_19 : decode b_Mod_readPath 19 = .ok (.istore 4, 2) := by decide +kernel
theorem d_Mod_readPath_21 : decode b_Mod_readPath 21 = .ok (.iload_n 1, 1) := by decide +kernel
theorem d_Mod_readPath_22 : decode b_Mod_readPath 22 = .ok (.istore 5, 2) := by decide +kernel
theorem d_Mod_readPath_24 : decode b_Mod_readPath 24 = .ok (.iload 5, 2) := by decide +kernel
theorem d_Mod_readPath_26 : decode b_Mod_readPath 26 = .ok (.iload_n 2, 1) := by decide +kernel
theorem d_Mod_readPath_27 : decode b_Mod_readPath 27 = .ok (.if_icmp .ge 117, 3) := by decide +kernel
theorem d_Mod_readPath_30 : decode b_Mod_readPath 30 = .ok (.aload_n 0, 1) := by decide +kernel
theorem d_Mod_readPath_31 : decode b_Mod_readPath 31 = .ok (.getfield 19, 3) := by decide +kernel
theorem d_Mod_readPath_34 : decode b_Mod_readPath 34 = .ok (.iload 5, 2) := by decide +kernel
theorem d_Mod_readPath_36 : decode b_Mod_readPath 36 = .ok (.baload, 1) := by decide +kernel
theorem d_Mod_readPath_37 : decode b_Mod_readPath 37 = .ok (.bipush 47, 2) := by decide +kernel
theorem d_Mod_readPath_39 : decode b_Mod_readPath 39 = .ok (.if_icmp .eq 5, 3) := by decide +kernel
theorem d_Mod_readPath_42 : decode b_Mod_readPath 42 = .ok (.iconst 0, 1) := by decide +kernel
theorem d_Mod_readPath_43 : decode b_Mod_readPath 43 = .ok (.ireturn, 1) := by decide +kernel
theorem d_Mod_readPath_44 : decode b_Mod_readPath 44 = .ok (.iload 5, 2) := by decide +kernel
theorem d_Mod_readPath_46 : decode b_Mod_readPath 46 = .ok (.iconst 1, 1) := by decide +kernel
theorem d_Mod_readPath_47 : decode b_Mod_readPath 47 = .ok (.iadd, 1) := by decide +kernel
theorem d_Mod_readPath_48 : decode b_Mod_readPath 48 = .ok (.istore 6, 2) := by decide +kernel
theorem d_Mod_readPath_50 : decode b_Mod_readPath 50 = .ok (.iconst 0, 1) := by decide +kernel
theorem d_Mod_readPath_51 : decode b_Mod_readPath 51 = .ok (.istore 7, 2) := by decide +kernel
theorem d_Mod_readPath_53 : decode b_Mod_readPath 53 = .ok (.iinc 5 1, 3) := by decide +kernel
theorem d_Mod_readPath_56 : decode b_Mod_readPath 56 = .ok (.iload 5, 2) := by decide +kernel
theorem d_Mod_readPath_58 : decode b_Mod_readPath 58 = .ok (.iload_n 2, 1) := by decide +kernel
theorem d_Mod_readPath_59 : decode b_Mod_readPath 59 = .ok (.if_icmp .ge 44, 3) := by decide +kernel
theorem d_Mod_readPath_62 : decode b_Mod_readPath 62 = .ok (.aload_n 0, 1) := by decide +kernel
theorem d_Mod_readPath_63 : decode b_Mod_readPath 63 = .ok (.getfield 19, 3) := by decide +kernel
theorem d_Mod_readPath_66 : decode b_Mod_readPath 66 = .ok (.iload 5, 2) := by decide +kernel
theorem d_Mod_readPath_68 : decode b_Mod_readPath 68 = .ok (.baload, 1) := by decide +kernel
theorem d_Mod_readPath_69 : decode b_Mod_readPath 69 = .ok (.invokestatic 112, 3) := by decide +kernel
theorem d_Mod_readPath_72 : decode b_Mod_readPath 72 = .ok (.ifCond .eq 31, 3) := by decide +kernel
theorem d_Mod_readPath_75 : decode b_Mod_readPath 75 = .ok (.iload 7, 2) := by decide +kernel
theorem d_Mod_readPath_77 : decode b_Mod_readPath 77 = .ok (.aload_n 0, 1) := by decide +kernel
theorem d_Mod_readPath_78 : decode b_Mod_readPath 78 = .ok (.getfield 19, 3) := by decide +kernel
theorem d_Mod_readPath_81 : decode b_Mod_readPath 81 = .ok (.iload 5, 2) := by decide +kernel
theorem d_Mod_readPath_83 : decode b_Mod_readPath 83 = .ok (.baload, 1) := by decide +kernel
theorem d_Mod_readPath_84 : decode b_Mod_readPath 84 = .ok (.bipush 46, 2) := by decide +kernel
theorem d_Mod_readPath_86 : decode b_Mod_readPath 86 = .ok (.if_icmp .ne 7, 3) := by decide +kernel
theorem d_Mod_readPath_89 : decode b_Mod_readPath 89 = .ok (.iconst 1, 1) := by decide +kernel
theorem d_Mod_readPath_90 : decode b_Mod_readPath 90 = .ok (.goto 4, 3) := by decide +kernel
theorem d_Mod_readPath_93 : decode b_Mod_readPath 93 = .ok (.iconst 0, 1) := by decide +kernel
theorem d_Mod_readPath_94 : decode b_Mod_readPath 94 = .ok (.iadd, 1) := by decide +kernel
theorem d_Mod_readPath_95 : decode b_Mod_readPath 95 = .ok (.istore 7, 2) := by decide +kernel
theorem d_Mod_readPath_97 : decode b_Mod_readPath 97 = .ok (.iinc 5 1, 3) := by decide +kernel
theorem d_Mod_readPath_100 : decode b_Mod_readPath 100 = .ok (.goto (-44), 3) := by decide +kernel
theorem d_Mod_readPath_103 : decode b_Mod_readPath 103 = .ok (.iinc 4 1, 3) := by decide +kernel
theorem d_Mod_readPath_106 : decode b_Mod_readPath 106 = .ok (.iload 5, 2) := by decide +kernel
theorem d_Mod_readPath_108 : decode b_Mod_readPath 108 = .ok (.iload 6, 2) := by decide +kernel
theorem d_Mod_readPath_110 : decode b_Mod_readPath 110 = .ok (.isub, 1) := by decide +kernel
theorem d_Mod_readPath_111 : decode b_Mod_readPath 111 = .ok (.istore 8, 2) := by decide +kernel
theorem d_Mod_readPath_113 : decode b_Mod_readPath 113 = .ok (.iload 8, 2) := by decide +kernel
theorem d_Mod_readPath_115 : decode b_Mod_readPath 115 = .ok (.iconst 1, 1) := by decide +kernel
theorem d_Mod_readPath_116 : decode b_Mod_readPath 116 = .ok (.if_icmp .lt 23, 3) := by decide +kernel
theorem d_Mod_readPath_119 : decode b_Mod_readPath 119 = .ok (.iload 8, 2) := by decide +kernel
theorem d_Mod_readPath_121 : decode b_Mod_readPath 121 = .ok (.bipush 8, 2) := by decide +kernel
theorem d_Mod_readPath_123 : decode b_Mod_readPath 123 = .ok (.if_icmp .gt 16, 3) := by decide +kernel
theorem d_Mod_readPath_126 : decode b_Mod_readPath 126 = .ok (.iload 7, 2) := by decide +kernel
theorem d_Mod_readPath_128 : decode b_Mod_readPath 128 = .ok (.iload 8, 2) := by decide +kernel
theorem d_Mod_readPath_130 : decode b_Mod_readPath 130 = .ok (.if_icmp .eq 9, 3) := by decide +kernel
theorem d_Mod_readPath_133 : decode b_Mod_readPath 133 = .ok (.iload 4, 2) := by decide +kernel
theorem d_Mod_readPath_135 : decode b_Mod_readPath 135 = .ok (.iconst 5, 1) := by decide +kernel
theorem d_Mod_readPath_136 : decode b_Mod_readPath 136 = .ok (.if_icmp .le 5, 3) := by decide +kernel
theorem d_Mod_readPath_139 : decode b_Mod_readPath 139 = .ok (.iconst 0, 1) := by decide +kernel
theorem d_Mod_readPath_140 : decode b_Mod_readPath 140 = .ok (.ireturn, 1) := by decide +kernel
theorem d_Mod_readPath_141 : decode b_Mod_readPath 141 = .ok (.goto (-117), 3) := by decide +kernel
theorem d_Mod_readPath_144 : decode b_Mod_readPath 144 = .ok (.iload_n 1, 1) := by decide +kernel
theorem d_Mod_readPath_145 : decode b_Mod_readPath 145 = .ok (.istore 6, 2) := by decide +kernel
theorem d_Mod_readPath_147 : decode b_Mod_readPath 147 = .ok (.iload 6, 2) := by decide +kernel
theorem d_Mod_readPath_149 : decode b_Mod_readPath 149 = .ok (.iload_n 2, 1) := by decide +kernel
theorem d_Mod_readPath_150 : decode b_Mod_readPath 150 = .ok (.if_icmp .ge 25, 3) := by decide +kernel
theorem d_Mod_readPath_153 : decode b_Mod_readPath 153 = .ok (.aload_n 3, 1) := by decide +kernel
theorem d_Mod_readPath_154 : decode b_Mod_readPath 154 = .ok (.getfield 116, 3) := by decide +kernel
theorem d_Mod_readPath_157 : decode b_Mod_readPath 157 = .ok (.iload 6, 2) := by decide +kernel
theorem d_Mod_readPath_159 : decode b_Mod_readPath 159 = .ok (.iload_n 1, 1) := by decide +kernel
theorem d_Mod_readPath_160 : decode b_Mod_readPath 160 = .ok (.isub, 1) := by decide +kernel
theorem d_Mod_readPath_161 : decode b_Mod_readPath 161 = .ok (.aload_n 0, 1) := by decide +kernel
theorem d_Mod_readPath_162 : decode b_Mod_readPath 162 = .ok (.getfield 19, 3) := by decide +kernel
theorem d_Mod_readPath_165 : decode b_Mod_readPath 165 = .ok (.iload 6, 2) := by decide +kernel
theorem d_Mod_readPath_167 : decode b_Mod_readPath 167 = .ok (.baload, 1) := by decide +kernel
theorem d_Mod_readPath_168 : decode b_Mod_readPath 168 = .ok (.bastore, 1) := by decide +kernel
theorem d_Mod_readPath_169 : decode b_Mod_readPath 169 = .ok (.iinc 6 1, 3) := by decide +kernel
theorem d_Mod_readPath_172 : decode b_Mod_readPath 172 = .ok (.goto (-25), 3) := by decide +kernel
theorem d_Mod_readPath_175 : decode b_Mod_readPath 175 = .ok (.aload_n 3, 1) := by decide +kernel
theorem d_Mod_readPath_176 : decode b_Mod_readPath 176 = .ok (.iload_n 2, 1) := by decide +kernel
theorem d_Mod_readPath_177 : decode b_Mod_readPath 177 = .ok (.iload_n 1, 1) := by decide +kernel
theorem d_Mod_readPath_178 : decode b_Mod_readPath 178 = .ok (.isub, 1) := by decide +kernel
theorem d_Mod_readPath_179 : decode b_Mod_readPath 179 = .ok (.putfield 103, 3) := by decide +kernel
theorem d_Mod_readPath_182 : decode b_Mod_readPath 182 = .ok (.iload 4, 2) := by decide +kernel
theorem d_Mod_readPath_184 : decode b_Mod_readPath 184 = .ok (.ifCond .le 7, 3) := by decide +kernel
theorem d_Mod_readPath_187 : decode b_Mod_readPath 187 = .ok (.iconst 1, 1) := by decide +kernel
theorem d_Mod_readPath_188 : decode b_Mod_readPath 188 = .ok (.goto 4, 3) := by decide +kernel
theorem d_Mod_readPath_191 : decode b_Mod_readPath 191 = .ok (.iconst 0, 1) := by decide +kernel
theorem d_Mod_readPath_192 : decode b_Mod_readPath 192 = .ok (.ireturn, 1) := by decide +kernel
theorem d_Mod_number_0 : decode b_Mod_number 0 = .ok (.iload_n 2, 1) := by decide +kernel
theorem d_Mod_number_1 : decode b_Mod_number 1 = .ok (.iload_n 1, 1) := by decide +kernel
theorem d_Mod_number_2 : decode b_Mod_number 2 = .ok (.isub, 1) := by decide +kernel
theorem d_Mod_number_3 : decode b_Mod_number 3 = .ok (.iconst 1, 1) := by decide +kernel
theorem d_Mod_number_4 : decode b_Mod_number 4 = .ok (.if_icmp .lt 11, 3) := by decide +kernel
theorem d_Mod_number_7 : decode b_Mod_number 7 = .ok (.iload_n 2, 1) := by decide +kernel
theorem d_Mod_number_8 : decode b_Mod_number 8 = .ok (.iload_n 1, 1) := by decide +kernel
theorem d_Mod_number_9 : decode b_Mod_number 9 = .ok (.isub, 1) := by decide +kernel
theorem d_Mod_number_10 : decode b_Mod_number 10 = .ok (.bipush 9, 2) := by decide +kernel
theorem d_Mod_number_12 : decode b_Mod_number 12 = .ok (.if_icmp .le 5, 3) := by decide +kernel
theorem d_Mod_number_15 : decode b_Mod_number 15 = .ok (.iconst (-1), 1) := by decide +kernel
theorem d_Mod_number_16 : decode b_Mod_number 16 = .ok (.ireturn, 1) := by decide +kernel
theorem d_Mod_number_17 : decode b_Mod_number 17 = .ok (.iconst 0, 1) := by decide +kernel
theorem d_Mod_number_18 : decode b_Mod_number 18 = .ok (.istore_n 3, 1) := by decide +kernel
theorem d_Mod_number_19 : decode b_Mod_number 19 = .ok (.iload_n 1, 1) := by decide +kernel
theorem d_Mod_number_20 : decode b_Mod_number 20 = .ok (.istore 4, 2) := by decide +kernel
theorem d_Mod_number_22 : decode b_Mod_number 22 = .ok (.iload 4, 2) := by decide +kernel
theorem d_Mod_number_24 : decode b_Mod_number 24 = .ok (.iload_n 2, 1) := by decide +kernel
theorem d_Mod_number_25 : decode b_Mod_number 25 = .ok (.if_icmp .ge 51, 3) := by decide +kernel
theorem d_Mod_number_28 : decode b_Mod_number 28 = .ok (.aload_n 0, 1) := by decide +kernel
theorem d_Mod_number_29 : decode b_Mod_number 29 = .ok (.getfield 19, 3) := by decide +kernel
theorem d_Mod_number_32 : decode b_Mod_number 32 = .ok (.iload 4, 2) := by decide +kernel
theorem d_Mod_number_34 : decode b_Mod_number 34 = .ok (.baload, 1) := by decide +kernel
theorem d_Mod_number_35 : decode b_Mod_number 35 = .ok (.bipush 48, 2) := by decide +kernel
theorem d_Mod_number_37 : decode b_Mod_number 37 = .ok (.if_icmp .lt 15, 3) := by decide +kernel
theorem d_Mod_number_40 : decode b_Mod_number 40 = .ok (.aload_n 0, 1) := by decide +kernel
theorem d_Mod_number_41 : decode b_Mod_number 41 = .ok (.getfield 19, 3) := by decide +kernel
theorem d_Mod_number_44 : decode b_Mod_number 44 = .ok (.iload 4, 2) := by decide +kernel
theorem d_Mod_number_46 : decode b_Mod_number 46 = .ok (.baload, 1) := by decide +kernel
theorem d_Mod_number_47 : decode b_Mod_number 47 = .ok (.bipush 57, 2) := by decide +kernel
theorem d_Mod_number_49 : decode b_Mod_number 49 = .ok (.if_icmp .le 5, 3) := by decide +kernel
theorem d_Mod_number_52 : decode b_Mod_number 52 = .ok (.iconst (-1), 1) := by decide +kernel
theorem d_Mod_number_53 : decode b_Mod_number 53 = .ok (.ireturn, 1) := by decide +kernel
theorem d_Mod_number_54 : decode b_Mod_number 54 = .ok (.bipush 10, 2) := by decide +kernel
theorem d_Mod_number_56 : decode b_Mod_number 56 = .ok (.iload_n 3, 1) := by decide +kernel
theorem d_Mod_number_57 : decode b_Mod_number 57 = .ok (.imul, 1) := by decide +kernel
theorem d_Mod_number_58 : decode b_Mod_number 58 = .ok (.aload_n 0, 1) := by decide +kernel
theorem d_Mod_number_59 : decode b_Mod_number 59 = .ok (.getfield 19, 3) := by decide +kernel
theorem d_Mod_number_62 : decode b_Mod_number 62 = .ok (.iload 4, 2) := by decide +kernel
theorem d_Mod_number_64 : decode b_Mod_number 64 = .ok (.baload, 1) := by decide +kernel
theorem d_Mod_number_65 : decode b_Mod_number 65 = .ok (.iadd, 1) := by decide +kernel
theorem d_Mod_number_66 : decode b_Mod_number 66 = .ok (.bipush 48, 2) := by decide +kernel
theorem d_Mod_number_68 : decode b_Mod_number 68 = .ok (.isub, 1) := by decide +kernel
theorem d_Mod_number_69 : decode b_Mod_number 69 = .ok (.istore_n 3, 1) := by decide +kernel
theorem d_Mod_number_70 : decode b_Mod_number 70 = .ok (.iinc 4 1, 3) := by decide +kernel
theorem d_Mod_number_73 : decode b_Mod_number 73 = .ok (.goto (-51), 3) := by decide +kernel
theorem d_Mod_number_76 : decode b_Mod_number 76 = .ok (.iload_n 3, 1) := by decide +kernel
theorem d_Mod_number_77 : decode b_Mod_number 77 = .ok (.ireturn, 1) := by decide +kernel
theorem d_Mod_readValue_0 : decode b_Mod_readValue 0 = .ok (.iload_n 1, 1) := by decide +kernel
theorem d_Mod_readValue_1 : decode b_Mod_readValue 1 = .ok (.tableswitch 280 0 6 #[43, 106, 117, 166, 204, 213, 240], 43) := by decide +kernel
theorem d_Mod_readValue_44 : decode b_Mod_readValue 44 = .ok (.aload_n 0, 1) := by decide +kernel
theorem d_Mod_readValue_45 : decode b_Mod_readValue 45 = .ok (.getfield 78, 3) := by decide +kernel
theorem d_Mod_readValue_48 : decode b_Mod_readValue 48 = .ok (.iload_n 1, 1) := by decide +kernel
theorem d_Mod_readValue_49 : decode b_Mod_readValue 49 = .ok (.aload_n 0, 1) := by decide +kernel
theorem d_Mod_readValue_50 : decode b_Mod_readValue 50 = .ok (.iload_n 2, 1) := by decide +kernel
theorem d_Mod_readValue_51 : decode b_Mod_readValue 51 = .ok (.iload_n 3, 1) := by decide +kernel
theorem d_Mod_readValue_52 : decode b_Mod_readValue 52 = .ok (.ldc 119, 2) := by decide +kernel
theorem d_Mod_readValue_54 : decode b_Mod_readValue 54 = .ok (.invokevirtual 108, 3) := by decide +kernel
theorem d_Mod_readValue_57 : decode b_Mod_readValue 57 = .ok (.ifCond .eq 7, 3) := by decide +kernel
theorem d_Mod_readValue_60 : decode b_Mod_readValue 60 = .ok (.iconst (-1), 1) := by decide +kernel
theorem d_Mod_readValue_61 : decode b_Mod_readValue 61 = .ok (.goto 19, 3) := by decide +kernel
theorem d_Mod_readValue_64 : decode b_Mod_readValue 64 = .ok (.aload_n 0, 1) := by decide +kernel
theorem d_Mod_readValue_65 : decode b_Mod_readValue 65 = .ok (.iload_n 2, 1) := by decide +kernel
theorem d_Mod_readValue_66 : decode b_Mod_readValue 66 = .ok (.iload_n 3, 1) := by decide +kernel
theorem d_Mod_readValue_67 : decode b_Mod_readValue 67 = .ok (.ldc 121, 2) := by decide +kernel
theorem d_Mod_readValue_69 : decode b_Mod_readValue 69 = .ok (.invokevirtual 108, 3) := by decide +kernel
theorem d_Mod_readValue_72 : decode b_Mod_readValue 72 = .ok (.ifCond .eq 7, 3) := by decide +kernel
theorem d_Mod_readValue_75 : decode b_Mod_readValue 75 = .ok (.iconst 1, 1) := by decide +kernel
theorem d_Mod_readValue_76 : decode b_Mod_readValue 76 = .ok (.goto 4, 3) := by decide +kernel
theorem d_Mod_readValue_79 : decode b_Mod_readValue 79 = .ok (.iconst 0, 1) := by decide +kernel
theorem d_Mod_readValue_80 : decode b_Mod_readValue 80 = .ok (.iastore, 1) := by decide +kernel
theorem d_Mod_readValue_81 : decode b_Mod_readValue 81 = .ok (.aload_n 0, 1) := by decide +kernel
theorem d_Mod_readValue_82 : decode b_Mod_readValue 82 = .ok (.getfield 78, 3) := by decide +kernel
theorem d_Mod_readValue_85 : decode b_Mod_readValue 85 = .ok (.iload_n 1, 1) := by decide +kernel
theorem d_Mod_readValue_86 : decode b_Mod_readValue 86 = .ok (.iaload, 1) := by decide +kernel
theorem d_Mod_readValue_87 : decode b_Mod_readValue 87 = .ok (.ifCond .ne 14, 3) := by decide +kernel
theorem d_Mod_readValue_90 : decode b_Mod_readValue 90 = .ok (.aload_n 0, 1) := by decide +kernel
theorem d_Mod_readValue_91 : decode b_Mod_readValue 91 = .ok (.iload_n 2, 1) := by decide +kernel
theorem d_Mod_readValue_92 : decode b_Mod_readValue 92 = .ok (.iload_n 3, 1) := by decide +kernel
theorem d_Mod_readValue_93 : decode b_Mod_readValue 93 = .ok (.ldc 123, 2) := by decide +kernel
theorem d_Mod_readValue_95 : decode b_Mod_readValue 95 = .ok (.invokevirtual 108, 3) := by decide +kernel
theorem d_Mod_readValue_98 : decode b_Mod_readValue 98 = .ok (.ifCond .eq 7, 3) := by decide +kernel
theorem d_Mod_readValue_101 : decode b_Mod_readValue 101 = .ok (.iconst 1, 1) := by decide +kernel
theorem d_Mod_readValue_102 : decode b_Mod_readValue 102 = .ok (.goto 4, 3) := by decide +kernel
theorem d_Mod_readValue_105 : decode b_Mod_readValue 105 = .ok (.iconst 0, 1) := by decide +kernel
theorem d_Mod_readValue_106 : decode b_Mod_readValue 106 = .ok (.ireturn, 1) := by decide +kernel
theorem d_Mod_readValue_107 : decode b_Mod_readValue 107 = .ok (.aload_n 0, 1) := by decide +kernel
theorem d_Mod_readValue_108 : decode b_Mod_readValue 108 = .ok (.iload_n 2, 1) := by decide +kernel
theorem d_Mod_readValue_109 : decode b_Mod_readValue 109 = .ok (.iload_n 3, 1) := by decide +kernel
theorem d_Mod_readValue_110 : decode b_Mod_readValue 110 = .ok (.aload_n 0, 1) := by decide +kernel
theorem d_Mod_readValue_111 : decode b_Mod_readValue 111 = .ok (.getfield 76, 3) := by decide +kernel
theorem d_Mod_readValue_114 : decode b_Mod_readValue 114 = .ok (.invokevirtual 125, 3) := by decide +kernel
theorem d_Mod_readValue_117 : decode b_Mod_readValue 117 = .ok (.ireturn, 1) := by decide +kernel
theorem d_Mod_readValue_118 : decode b_Mod_readValue 118 = .ok (.aload_n 0, 1) := by decide +kernel
theorem d_Mod_readValue_119 : decode b_Mod_readValue 119 = .ok (.getfield 78, 3) := by decide +kernel
theorem d_Mod_readValue_122 : decode b_Mod_readValue 122 = .ok (.iload_n 1, 1) := by decide +kernel
theorem d_Mod_readValue_123 : decode b_Mod_readValue 123 = .ok (.aload_n 0, 1) := by decide +kernel
theorem d_Mod_readValue_124 : decode b_Mod_readValue 124 = .ok (.iload_n 2, 1) := by decide +kernel
theorem d_Mod_readValue_125 : decode b_Mod_readValue 125 = .ok (.iload_n 3, 1) := by decide +kernel
theorem d_Mod_readValue_126 : decode b_Mod_readValue 126 = .ok (.ldc 129, 2) := by decide +kernel
theorem d_Mod_readValue_128 : decode b_Mod_readValue 128 = .ok (.invokevirtual 108, 3) := by decide +kernel
theorem d_Mod_readValue_131 : decode b_Mod_readValue 131 = .ok (.ifCond .eq 7, 3) := by decide +kernel
theorem d_Mod_readValue_134 : decode b_Mod_readValue 134 = .ok (.iconst 1, 1) := by decide +kernel
theorem d_Mod_readValue_135 : decode b_Mod_readValue 135 = .ok (.goto 4, 3) := by decide +kernel
theorem d_Mod_readValue_138 : decode b_Mod_readValue 138 = .ok (.iconst 0, 1) := by decide +kernel
theorem d_Mod_readValue_139 : decode b_Mod_readValue 139 = .ok (.iastore, 1) := by decide +kernel
theorem d_Mod_readValue_140 : decode b_Mod_readValue 140 = .ok (.aload_n 0, 1) := by decide +kernel
theorem d_Mod_readValue_141 : decode b_Mod_readValue 141 = .ok (.getfield 78, 3) := by decide +kernel
theorem d_Mod_readValue_144 : decode b_Mod_readValue 144 = .ok (.iload_n 1, 1) := by decide +kernel
theorem d_Mod_readValue_145 : decode b_Mod_readValue 145 = .ok (.iaload, 1) := by decide +kernel
theorem d_Mod_readValue_146 : decode b_Mod_readValue 146 = .ok (.iconst 1, 1) := by decide +kernel
theorem d_Mod_readValue_147 : decode b_Mod_readValue 147 = .ok (.if_icmp .eq 14, 3) := by decide +kernel
theorem d_Mod_readValue_150 : decode b_Mod_readValue 150 = .ok (.aload_n 0, 1) := by decide +kernel
theorem d_Mod_readValue_151 : decode b_Mod_readValue 151 = .ok (.iload_n 2, 1) := by decide +kernel
theorem d_Mod_readValue_152 : decode b_Mod_readValue 152 = .ok (.iload_n 3, 1) := by decide +kernel
theorem d_Mod_readValue_153 : decode b_Mod_readValue 153 = .ok (.ldc 131, 2) := by decide +kernel
theorem d_Mod_readValue_155 : decode b_Mod_readValue 155 = .ok (.invokevirtual 108, 3) := by decide +kernel
theorem d_Mod_readValue_158 : decode b_Mod_readValue 158 = .ok (.ifCond .eq 7, 3) := by decide +kernel
theorem d_Mod_readValue_161 : decode b_Mod_readValue 161 = .ok (.iconst 1, 1) := by decide +kernel
theorem d_Mod_readValue_162 : decode b_Mod_readValue 162 = .ok (.goto 4, 3) := by decide +kernel
theorem d_Mod_readValue_165 : decode b_Mod_readValue 165 = .ok (.iconst 0, 1) := by decide +kernel
theorem d_Mod_readValue_166 : decode b_Mod_readValue 166 = .ok (.ireturn, 1) := by decide +kernel
theorem d_Mod_readValue_167 : decode b_Mod_readValue 167 = .ok (.aload_n 0, 1) := by decide +kernel
theorem d_Mod_readValue_168 : decode b_Mod_readValue 168 = .ok (.getfield 78, 3) := by decide +kernel
theorem d_Mod_readValue_171 : decode b_Mod_readValue 171 = .ok (.iload_n 1, 1) := by decide +kernel
theorem d_Mod_readValue_172 : decode b_Mod_readValue 172 = .ok (.aload_n 0, 1) := by decide +kernel
theorem d_Mod_readValue_173 : decode b_Mod_readValue 173 = .ok (.iload_n 2, 1) := by decide +kernel
theorem d_Mod_readValue_174 : decode b_Mod_readValue 174 = .ok (.iload_n 3, 1) := by decide +kernel
theorem d_Mod_readValue_175 : decode b_Mod_readValue 175 = .ok (.invokevirtual 133, 3) := by decide +kernel
theorem d_Mod_readValue_178 : decode b_Mod_readValue 178 = .ok (.iastore, 1) := by decide +kernel
theorem d_Mod_readValue_179 : decode b_Mod_readValue 179 = .ok (.aload_n 0, 1) := by decide +kernel
theorem d_Mod_readValue_180 : decode b_Mod_readValue 180 = .ok (.getfield 78, 3) := by decide +kernel
theorem d_Mod_readValue_183 : decode b_Mod_readValue 183 = .ok (.iload_n 1, 1) := by decide +kernel
theorem d_Mod_readValue_184 : decode b_Mod_readValue 184 = .ok (.iaload, 1) := by decide +kernel
theorem d_Mod_readValue_185 : decode b_Mod_readValue 185 = .ok (.ifCond .ge 14, 3) := by decide +kernel
theorem d_Mod_readValue_188 : decode b_Mod_readValue 188 = .ok (.aload_n 0, 1) := by decide +kernel
theorem d_Mod_readValue_189 : decode b_Mod_readValue 189 = .ok (.iload_n 2, 1) := by decide +kernel
theorem d_Mod_readValue_190 : decode b_Mod_readValue 190 = .ok (.iload_n 3, 1) := by decide +kernel
theorem d_Mod_readValue_191 : decode b_Mod_readValue 191 = .ok (.ldc 137, 2) := by decide +kernel
theorem d_Mod_readValue_193 : decode b_Mod_readValue 193 = .ok (.invokevirtual 108, 3) := by decide +kernel
theorem d_Mod_readValue_196 : decode b_Mod_readValue 196 = .ok (.ifCond .eq 7, 3) := by decide +kernel
theorem d_Mod_readValue_199 : decode b_Mod_readValue 199 = .ok (.iconst 1, 1) := by decide +kernel
theorem d_Mod_readValue_200 : decode b_Mod_readValue 200 = .ok (.goto 4, 3) := by decide +kernel
theorem d_Mod_readValue_203 : decode b_Mod_readValue 203 = .ok (.iconst 0, 1) := by decide +kernel
theorem d_Mod_readValue_204 : decode b_Mod_readValue 204 = .ok (.ireturn, 1) := by decide +kernel
theorem d_Mod_readValue_205 : decode b_Mod_readValue 205 = .ok (.aload_n 0, 1) := by decide +kernel
theorem d_Mod_readValue_206 : decode b_Mod_readValue 206 = .ok (.iload_n 2, 1) := by decide +kernel
theorem d_Mod_readValue_207 : decode b_Mod_readValue 207 = .ok (.iload_n 3, 1) := by decide +kernel
theorem d_Mod_readValue_208 : decode b_Mod_readValue 208 = .ok (.ldc 137, 2) := by decide +kernel
theorem d_Mod_readValue_210 : decode b_Mod_readValue 210 = .ok (.invokevirtual 108, 3) := by decide +kernel
theorem d_Mod_readValue_213 : decode b_Mod_readValue 213 = .ok (.ireturn, 1) := by decide +kernel
theorem d_Mod_readValue_214 : decode b_Mod_readValue 214 = .ok (.aload_n 0, 1) := by decide +kernel
theorem d_Mod_readValue_215 : decode b_Mod_readValue 215 = .ok (.getfield 78, 3) := by decide +kernel
theorem d_Mod_readValue_218 : decode b_Mod_readValue 218 = .ok (.iload_n 1, 1) := by decide +kernel
theorem d_Mod_readValue_219 : decode b_Mod_readValue 219 = .ok (.aload_n 0, 1) := by decide +kernel
theorem d_Mod_readValue_220 : decode b_Mod_readValue 220 = .ok (.iload_n 2, 1) := by decide +kernel
theorem d_Mod_readValue_221 : decode b_Mod_readValue 221 = .ok (.iload_n 3, 1) := by decide +kernel
theorem d_Mod_readValue_222 : decode b_Mod_readValue 222 = .ok (.invokevirtual 133, 3) := by decide +kernel
theorem d_Mod_readValue_225 : decode b_Mod_readValue 225 = .ok (.iastore, 1) := by decide +kernel
theorem d_Mod_readValue_226 : decode b_Mod_readValue 226 = .ok (.aload_n 0, 1) := by decide +kernel
theorem d_Mod_readValue_227 : decode b_Mod_readValue 227 = .ok (.getfield 78, 3) := by decide +kernel
theorem d_Mod_readValue_230 : decode b_Mod_readValue 230 = .ok (.iload_n 1, 1) := by decide +kernel
theorem d_Mod_readValue_231 : decode b_Mod_readValue 231 = .ok (.iaload, 1) := by decide +kernel
theorem d_Mod_readValue_232 : decode b_Mod_readValue 232 = .ok (.ifCond .lt 7, 3) := by decide +kernel
theorem d_Mod_readValue_235 : decode b_Mod_readValue 235 = .ok (.iconst 1, 1) := by decide +kernel
theorem d_Mod_readValue_236 : decode b_Mod_readValue 236 = .ok (.goto 4, 3) := by decide +kernel
theorem d_Mod_readValue_239 : decode b_Mod_readValue 239 = .ok (.iconst 0, 1) := by decide +kernel
theorem d_Mod_readValue_240 : decode b_Mod_readValue 240 = .ok (.ireturn, 1) := by decide +kernel
theorem d_Mod_readValue_241 : decode b_Mod_readValue 241 = .ok (.aload_n 0, 1) := by decide +kernel
theorem d_Mod_readValue_242 : decode b_Mod_readValue 242 = .ok (.getfield 78, 3) := by decide +kernel
theorem d_Mod_readValue_245 : decode b_Mod_readValue 245 = .ok (.iload_n 1, 1) := by decide +kernel
theorem d_Mod_readValue_246 : decode b_Mod_readValue 246 = .ok (.aload_n 0, 1) := by decide +kernel
theorem d_Mod_readValue_247 : decode b_Mod_readValue 247 = .ok (.iload_n 2, 1) := by decide +kernel
theorem d_Mod_readValue_248 : decode b_Mod_readValue 248 = .ok (.iload_n 3, 1) := by decide +kernel
theorem d_Mod_readValue_249 : decode b_Mod_readValue 249 = .ok (.invokevirtual 133, 3) := by decide +kernel
theorem d_Mod_readValue_252 : decode b_Mod_readValue 252 = .ok (.iastore, 1) := by decide +kernel
theorem d_Mod_readValue_253 : decode b_Mod_readValue 253 = .ok (.aload_n 0, 1) := by decide +kernel
theorem d_Mod_readValue_254 : decode b_Mod_readValue 254 = .ok (.getfield 78, 3) := by decide +kernel
theorem d_Mod_readValue_257 : decode b_Mod_readValue 257 = .ok (.iload_n 1, 1) := by decide +kernel
theorem d_Mod_readValue_258 : decode b_Mod_readValue 258 = .ok (.iaload, 1) := by decide +kernel
theorem d_Mod_readValue_259 : decode b_Mod_readValue 259 = .ok (.iconst 1, 1) := by decide +kernel
theorem d_Mod_readValue_260 : decode b_Mod_readValue 260 = .ok (.if_icmp .lt 19, 3) := by decide +kernel
theorem d_Mod_readValue_263 : decode b_Mod_readValue 263 = .ok (.aload_n 0, 1) := by decide +kernel
theorem d_Mod_readValue_264 : decode b_Mod_readValue 264 = .ok (.getfield 78, 3) := by decide +kernel
theorem d_Mod_readValue_267 : decode b_Mod_readValue 267 = .ok (.iload_n 1, 1) := by decide +kernel
theorem d_Mod_readValue_268 : decode b_Mod_readValue 268 = .ok (.iaload, 1) := by decide +kernel
theorem d_Mod_readValue_269 : decode b_Mod_readValue 269 = .ok (.sipush 1000, 3) := by decide +kernel
theorem d_Mod_readValue_272 : decode b_Mod_readValue 272 = .ok (.if_icmp .gt 7, 3) := by decide +kernel
theorem d_Mod_readValue_275 : decode b_Mod_readValue 275 = .ok (.iconst 1, 1) := by decide +kernel
theorem d_Mod_readValue_276 : decode b_Mod_readValue 276 = .ok (.goto 4, 3) := by decide +kernel
theorem d_Mod_readValue_279 : decode b_Mod_readValue 279 = .ok (.iconst 0, 1) := by decide +kernel
theorem d_Mod_readValue_280 : decode b_Mod_readValue 280 = .ok (.ireturn, 1) := by decide +kernel
theorem d_Mod_readValue_281 : decode b_Mod_readValue 281 = .ok (.aload_n 0, 1) := by decide +kernel
theorem d_Mod_readValue_282 : decode b_Mod_readValue 282 = .ok (.getfield 78, 3) := by decide +kernel
theorem d_Mod_readValue_285 : decode b_Mod_readValue 285 = .ok (.iload_n 1, 1) := by decide +kernel
theorem d_Mod_readValue_286 : decode b_Mod_readValue 286 = .ok (.aload_n 0, 1) := by decide +kernel
theorem d_Mod_readValue_287 : decode b_Mod_readValue 287 = .ok (.iload_n 2, 1) := by decide +kernel
theorem d_Mod_readValue_288 : decode b_Mod_readValue 288 = .ok (.iload_n 3, 1) := by decide +kernel
theorem d_Mod_readValue_289 : decode b_Mod_readValue 289 = .ok (.ldc 139, 2) := by decide +kernel
theorem d_Mod_readValue_291 : decode b_Mod_readValue 291 = .ok (.invokevirtual 108, 3) := by decide +kernel
theorem d_Mod_readValue_294 : decode b_Mod_readValue 294 = .ok (.ifCond .eq 7, 3) := by decide +kernel
theorem d_Mod_readValue_297 : decode b_Mod_readValue 297 = .ok (.iconst 1, 1) := by decide +kernel
theorem d_Mod_readValue_298 : decode b_Mod_readValue 298 = .ok (.goto 4, 3) := by decide +kernel
theorem d_Mod_readValue_301 : decode b_Mod_readValue 301 = .ok (.iconst 0, 1) := by decide +kernel
theorem d_Mod_readValue_302 : decode b_Mod_readValue 302 = .ok (.iastore, 1) := by decide +kernel
theorem d_Mod_readValue_303 : decode b_Mod_readValue 303 = .ok (.aload_n 0, 1) := by decide +kernel
theorem d_Mod_readValue_304 : decode b_Mod_readValue 304 = .ok (.getfield 78, 3) := by decide +kernel
theorem d_Mod_readValue_307 : decode b_Mod_readValue 307 = .ok (.iload_n 1, 1) := by decide +kernel
theorem d_Mod_readValue_308 : decode b_Mod_readValue 308 = .ok (.iaload, 1) := by decide +kernel
theorem d_Mod_readValue_309 : decode b_Mod_readValue 309 = .ok (.iconst 1, 1) := by decide +kernel
theorem d_Mod_readValue_310 : decode b_Mod_readValue 310 = .ok (.if_icmp .eq 14, 3) := by decide +kernel
theorem d_Mod_readValue_313 : decode b_Mod_readValue 313 = .ok (.aload_n 0, 1) := by decide +kernel
theorem d_Mod_readValue_314 : decode b_Mod_readValue 314 = .ok (.iload_n 2, 1) := by decide +kernel
theorem d_Mod_readValue_315 : decode b_Mod_readValue 315 = .ok (.iload_n 3, 1) := by decide +kernel
theorem d_Mod_readValue_316 : decode b_Mod_readValue 316 = .ok (.ldc 141, 2) := by decide +kernel
theorem d_Mod_readValue_318 : decode b_Mod_readValue 318 = .ok (.invokevirtual 108, 3) := by decide +kernel
theorem d_Mod_readValue_321 : decode b_Mod_readValue 321 = .ok (.ifCond .eq 7, 3) := by decide +kernel
theorem d_Mod_readValue_324 : decode b_Mod_readValue 324 = .ok (.iconst 1, 1) := by decide +kernel
theorem d_Mod_readValue_325 : decode b_Mod_readValue 325 = .ok (.goto 4, 3) := by decide +kernel
theorem d_Mod_readValue_328 : decode b_Mod_readValue 328 = .ok (.iconst 0, 1) := by decide +kernel
theorem d_Mod_readValue_329 : decode b_Mod_readValue 329 = .ok (.ireturn, 1) := by decide +kernel
theorem d_Mod_readHeader_0 : decode b_Mod_readHeader 0 = .ok (.iload_n 1, 1) := by decide +kernel
theorem d_Mod_readHeader_1 : decode b_Mod_readHeader 1 = .ok (.istore_n 3, 1) := by decide +kernel
theorem d_Mod_readHeader_2 : decode b_Mod_readHeader 2 = .ok (.iload_n 3, 1) := by decide +kernel
theorem d_Mod_readHeader_3 : decode b_Mod_readHeader 3 = .ok (.iload_n 2, 1) := by decide +kernel
theorem d_Mod_readHeader_4 : decode b_Mod_readHeader 4 = .ok (.if_icmp .ge 20, 3) := by decide +kernel
theorem d_Mod_readHeader_7 : decode b_Mod_readHeader 7 = .ok (.aload_n 0, 1) := by decide +kernel
theorem d_Mod_readHeader_8 : decode b_Mod_readHeader 8 = .ok (.getfield 19, 3) := by decide +kernel
theorem d_Mod_readHeader_11 : decode b_Mod_readHeader 11 = .ok (.iload_n 3, 1) := by decide +kernel
theorem d_Mod_readHeader_12 : decode b_Mod_readHeader 12 = .ok (.baload, 1) := by decide +kernel
theorem d_Mod_readHeader_13 : decode b_Mod_readHeader 13 = .ok (.bipush 58, 2) := by decide +kernel
theorem d_Mod_readHeader_15 : decode b_Mod_readHeader 15 = .ok (.if_icmp .eq 9, 3) := by decide +kernel
theorem d_Mod_readHeader_18 : decode b_Mod_readHeader 18 = .ok (.iinc 3 1, 3) := by decide +kernel
theorem d_Mod_readHeader_21 : decode b_Mod_readHeader 21 = .ok (.goto (-19), 3) := by decide +kernel
theorem d_Mod_readHeader_24 : decode b_Mod_readHeader 24 = .ok (.iload_n 3, 1) := by decide +kernel
theorem d_Mod_readHeader_25 : decode b_Mod_readHeader 25 = .ok (.iconst 1, 1) := by decide +kernel
theorem d_Mod_readHeader_26 : decode b_Mod_readHeader 26 = .ok (.iadd, 1) := by decide +kernel
theorem d_Mod_readHeader_27 : decode b_Mod_readHeader 27 = .ok (.iload_n 2, 1) := by decide +kernel
theorem d_Mod_readHeader_28 : decode b_Mod_readHeader 28 = .ok (.if_icmp .ge 16, 3) := by decide +kernel
theorem d_Mod_readHeader_31 : decode b_Mod_readHeader 31 = .ok (.aload_n 0, 1) := by decide +kernel
theorem d_Mod_readHeader_32 : decode b_Mod_readHeader 32 = .ok (.getfield 19, 3) := by decide +kernel
theorem d_Mod_readHeader_35 : decode b_Mod_readHeader 35 = .ok (.iload_n 3, 1) := by decide +kernel
theorem d_Mod_readHeader_36 : decode b_Mod_readHeader 36 = .ok (.iconst 1, 1) := by decide +kernel
theorem d_Mod_readHeader_37 : decode b_Mod_readHeader 37 = .ok (.iadd, 1) := by decide +kernel
theorem d_Mod_readHeader_38 : decode b_Mod_readHeader 38 = .ok (.baload, 1) := by decide +kernel
theorem d_Mod_readHeader_39 : decode b_Mod_readHeader 39 = .ok (.bipush 32, 2) := by decide +kernel
theorem d_Mod_readHeader_41 : decode b_Mod_readHeader 41 = .ok (.if_icmp .eq 5, 3) := by decide +kernel
theorem d_Mod_readHeader_44 : decode b_Mod_readHeader 44 = .ok (.iconst 0, 1) := by decide +kernel
theorem d_Mod_readHeader_45 : decode b_Mod_readHeader 45 = .ok (.ireturn, 1) := by decide +kernel
theorem d_Mod_readHeader_46 : decode b_Mod_readHeader 46 = .ok (.iconst 0, 1) := by decide +kernel
theorem d_Mod_readHeader_47 : decode b_Mod_readHeader 47 = .ok (.istore 4, 2) := by decide +kernel
theorem d_Mod_readHeader_49 : decode b_Mod_readHeader 49 = .ok (.iload 4, 2) := by decide +kernel
theorem d_Mod_readHeader_51 : decode b_Mod_readHeader 51 = .ok (.bipush 8, 2) := by decide +kernel
theorem d_Mod_readHeader_53 : decode b_Mod_readHeader 53 = .ok (.if_icmp .ge 67, 3) := by decide +kernel
theorem d_Mod_readHeader_56 : decode b_Mod_readHeader 56 = .ok (.aload_n 0, 1) := by decide +kernel
theorem d_Mod_readHeader_57 : decode b_Mod_readHeader 57 = .ok (.iload_n 1, 1) := by decide +kernel
theorem d_Mod_readHeader_58 : decode b_Mod_readHeader 58 = .ok (.iload_n 3, 1) := by decide +kernel
theorem d_Mod_readHeader_59 : decode b_Mod_readHeader 59 = .ok (.aload_n 0, 1) := by decide +kernel
theorem d_Mod_readHeader_60 : decode b_Mod_readHeader 60 = .ok (.getfield 44, 3) := by decide +kernel
theorem d_Mod_readHeader_63 : decode b_Mod_readHeader 63 = .ok (.iload 4, 2) := by decide +kernel
theorem d_Mod_readHeader_65 : decode b_Mod_readHeader 65 = .ok (.aaload, 1) := by decide +kernel
theorem d_Mod_readHeader_66 : decode b_Mod_readHeader 66 = .ok (.invokevirtual 108, 3) := by decide +kernel
theorem d_Mod_readHeader_69 : decode b_Mod_readHeader 69 = .ok (.ifCond .ne 6, 3) := by decide +kernel
theorem d_Mod_readHeader_72 : decode b_Mod_readHeader 72 = .ok (.goto 42, 3) := by decide +kernel
theorem d_Mod_readHeader_75 : decode b_Mod_readHeader 75 = .ok (.aload_n 0, 1) := by decide +kernel
theorem d_Mod_readHeader_76 : decode b_Mod_readHeader 76 = .ok (.getfield 143, 3) := by decide +kernel
theorem d_Mod_readHeader_79 : decode b_Mod_readHeader 79 = .ok (.iload 4, 2) := by decide +kernel
theorem d_Mod_readHeader_81 : decode b_Mod_readHeader 81 = .ok (.ishr, 1) := by decide +kernel
theorem d_Mod_readHeader_82 : decode b_Mod_readHeader 82 = .ok (.iconst 1, 1) := by decide +kernel
theorem d_Mod_readHeader_83 : decode b_Mod_readHeader 83 = .ok (.iand, 1) := by decide +kernel
theorem d_Mod_readHeader_84 : decode b_Mod_readHeader 84 = .ok (.iconst 1, 1) := by decide +kernel
theorem d_Mod_readHeader_85 : decode b_Mod_readHeader 85 = .ok (.if_icmp .ne 5, 3) := by decide +kernel
theorem d_Mod_readHeader_88 : decode b_Mod_readHeader 88 = .ok (.iconst 0, 1) := by decide +kernel
theorem d_Mod_readHeader_89 : decode b_Mod_readHeader 89 = .ok (.ireturn, 1) := by decide +kernel
theorem d_Mod_readHeader_90 : decode b_Mod_readHeader 90 = .ok (.aload_n 0, 1) := by decide +kernel
theorem d_Mod_readHeader_91 : decode b_Mod_readHeader 91 = .ok (.dup, 1) := by decide +kernel
theorem d_Mod_readHeader_92 : decode b_Mod_readHeader 92 = .ok (.getfield 143, 3) := by decide +kernel
theorem d_Mod_readHeader_95 : decode b_Mod_readHeader 95 = .ok (.iconst 1, 1) := by decide +kernel
theorem d_Mod_readHeader_96 : decode b_Mod_readHeader 96 = .ok (.iload 4, 2) := by decide +kernel
theorem d_Mod_readHeader_98 : decode b_Mod_readHeader 98 = .ok (.ishl, 1) := by decide +kernel
theorem d_Mod_readHeader_99 : decode b_Mod_readHeader 99 = .ok (.ior, 1) := by decide +kernel
theorem d_Mod_readHeader_100 : decode b_Mod_readHeader 100 = .ok (.putfield 143, 3) := by decide +kernel
theorem d_Mod_readHeader_103 : decode b_Mod_readHeader 103 = .ok (.aload_n 0, 1) := by decide +kernel
theorem d_Mod_readHeader_104 : decode b_Mod_readHeader 104 = .ok (.iload 4, 2) := by decide +kernel
theorem d_Mod_readHeader_106 : decode b_Mod_readHeader 106 = .ok (.iload_n 3, 1) := by decide +kernel
theorem d_Mod_readHeader_107 : decode b_Mod_readHeader 107 = .ok (.iconst 2, 1) := by decide +kernel
theorem d_Mod_readHeader_108 : decode b_Mod_readHeader 108 = .ok (.iadd, 1) := by decide +kernel
theorem d_Mod_readHeader_109 : decode b_Mod_readHeader 109 = .ok (.iload_n 2, 1) := by decide +kernel
theorem d_Mod_readHeader_110 : decode b_Mod_readHeader 110 = .ok (.invokevirtual 146, 3) := by decide +kernel
theorem d_Mod_readHeader_113 : decode b_Mod_readHeader 113 = .ok (.ireturn, 1) := by decide +kernel
theorem d_Mod_readHeader_114 : decode b_Mod_readHeader 114 = .ok (.iinc 4 1, 3) := by decide +kernel
theorem d_Mod_readHeader_117 : decode b_Mod_readHeader 117 = .ok (.goto (-68), 3) := by decide +kernel
theorem d_Mod_readHeader_120 : decode b_Mod_readHeader 120 = .ok (.iconst 0, 1) := by decide +kernel
theorem d_Mod_readHeader_121 : decode b_Mod_readHeader 121 = .ok (.ireturn, 1) := by decide +kernel
theorem d_Mod_has_0 : decode b_Mod_has 0 = .ok (.aload_n 0, 1) := by decide +kernel
theorem d_Mod_has_1 : decode b_Mod_has 1 = .ok (.getfield 143, 3) := by decide +kernel
theorem d_Mod_has_4 : decode b_Mod_has 4 = .ok (.iload_n 1, 1) := by decide +kernel
theorem d_Mod_has_5 : decode b_Mod_has 5 = .ok (.ishr, 1) := by decide +kernel
theorem d_Mod_has_6 : decode b_Mod_has 6 = .ok (.iconst 1, 1) := by decide +kernel
theorem d_Mod_has_7 : decode b_Mod_has 7 = .ok (.iand, 1) := by decide +kernel
theorem d_Mod_has_8 : decode b_Mod_has 8 = .ok (.iconst 1, 1) := by decide +kernel
theorem d_Mod_has_9 : decode b_Mod_has 9 = .ok (.if_icmp .ne 7, 3) := by decide +kernel
theorem d_Mod_has_12 : decode b_Mod_has 12 = .ok (.iconst 1, 1) := by decide +kernel
theorem d_Mod_has_13 : decode b_Mod_has 13 = .ok (.goto 4, 3) := by decide +kernel
theorem d_Mod_has_16 : decode b_Mod_has 16 = .ok (.iconst 0, 1) := by decide +kernel
theorem d_Mod_has_17 : decode b_Mod_has 17 = .ok (.ireturn, 1) := by decide +kernel
theorem d_Mod_read_0 : decode b_Mod_read 0 = .ok (.aload_n 0, 1) := by decide +kernel
theorem d_Mod_read_1 : decode b_Mod_read 1 = .ok (.iconst 0, 1) := by decide +kernel
theorem d_Mod_read_2 : decode b_Mod_read 2 = .ok (.putfield 143, 3) := by decide +kernel
theorem d_Mod_read_5 : decode b_Mod_read 5 = .ok (.aload_n 0, 1) := by decide +kernel
theorem d_Mod_read_6 : decode b_Mod_read 6 = .ok (.bipush 32, 2) := by decide +kernel
theorem d_Mod_read_8 : decode b_Mod_read 8 = .ok (.iconst 0, 1) := by decide +kernel
theorem d_Mod_read_9 : decode b_Mod_read 9 = .ok (.invokevirtual 150, 3) := by decide +kernel
theorem d_Mod_read_12 : decode b_Mod_read 12 = .ok (.istore_n 1, 1) := by decide +kernel
theorem d_Mod_read_13 : decode b_Mod_read 13 = .ok (.aload_n 0, 1) := by decide +kernel
theorem d_Mod_read_14 : decode b_Mod_read 14 = .ok (.bipush 32, 2) := by decide +kernel
theorem d_Mod_read_16 : decode b_Mod_read 16 = .ok (.iload_n 1, 1) := by decide +kernel
theorem d_Mod_read_17 : decode b_Mod_read 17 = .ok (.iconst 1, 1) := by decide +kernel
theorem d_Mod_read_18 : decode b_Mod_read 18 = .ok (.iadd, 1) := by decide +kernel
theorem d_Mod_read_19 : decode b_Mod_read 19 = .ok (.invokevirtual 150, 3) := by decide +kernel
theorem d_Mod_read_22 : decode b_Mod_read 22 = .ok (.istore_n 2, 1) := by decide +kernel
theorem d_Mod_read_23 : decode b_Mod_read 23 = .ok (.aload_n 0, 1) := by decide +kernel
theorem d_Mod_read_24 : decode b_Mod_read 24 = .ok (.bipush 10, 2) := by decide +kernel
theorem d_Mod_read_26 : decode b_Mod_read 26 = .ok (.iconst 0, 1) := by decide +kernel
theorem d_Mod_read_27 : decode b_Mod_read 27 = .ok (.invokevirtual 150, 3) := by decide +kernel
theorem d_Mod_read_30 : decode b_Mod_read 30 = .ok (.istore_n 3, 1) := by decide +kernel
theorem d_Mod_read_31 : decode b_Mod_read 31 = .ok (.iload_n 2, 1) := by decide +kernel
theorem d_Mod_read_32 : decode b_Mod_read 32 = .ok (.aload_n 0, 1) := by decide +kernel
theorem d_Mod_read_33 : decode b_Mod_read 33 = .ok (.getfield 91, 3) := by decide +kernel
theorem d_Mod_read_36 : decode b_Mod_read 36 = .ok (.if_icmp .ge 29, 3) := by decide +kernel
theorem d_Mod_read_39 : decode b_Mod_read 39 = .ok (.iload_n 3, 1) := by decide +kernel
theorem d_Mod_read_40 : decode b_Mod_read 40 = .ok (.aload_n 0, 1) := by decide +kernel
theorem d_Mod_read_41 : decode b_Mod_read 41 = .ok (.getfield 91, 3) := by decide +kernel
theorem d_Mod_read_44 : decode b_Mod_read 44 = .ok (.if_icmp .ge 21, 3) := by decide +kernel
theorem d_Mod_read_47 : decode b_Mod_read 47 = .ok (.iload_n 3, 1) := by decide +kernel
theorem d_Mod_read_48 : decode b_Mod_read 48 = .ok (.iload_n 2, 1) := by decide +kernel
theorem d_Mod_read_49 : decode b_Mod_read 49 = .ok (.if_icmp .lt 16, 3) := by decide +kernel
theorem d_Mod_read_52 : decode b_Mod_read 52 = .ok (.aload_n 0, 1) := by decide +kernel
theorem d_Mod_read_53 : decode b_Mod_read 53 = .ok (.iload_n 2, 1) := by decide +kernel
theorem d_Mod_read_54 : decode b_Mod_read 54 = .ok (.iconst 1, 1) := by decide +kernel
theorem d_Mod_read_55 : decode b_Mod_read 55 = .ok (.iadd, 1) := by decide +kernel
theorem d_Mod_read_56 : decode b_Mod_read 56 = .ok (.iload_n 3, 1) := by decide +kernel
theorem d_Mod_read_57 : decode b_Mod_read 57 = .ok (.ldc 153, 2) := by decide +kernel
theorem d_Mod_read_59 : decode b_Mod_read 59 = .ok (.invokevirtual 108, 3) := by decide +kernel
theorem d_Mod_read_62 : decode b_Mod_read 62 = .ok (.ifCond .ne 5, 3) := by decide +kernel
theorem d_Mod_read_65 : decode b_Mod_read 65 = .ok (.iconst 0, 1) := by decide +kernel
theorem d_Mod_read_66 : decode b_Mod_read 66 = .ok (.ireturn, 1) := by decide +kernel
theorem d_Mod_read_67 : decode b_Mod_read 67 = .ok (.aload_n 0, 1) := by decide +kernel
theorem d_Mod_read_68 : decode b_Mod_read 68 = .ok (.iconst 0, 1) := by decide +kernel
theorem d_Mod_read_69 : decode b_Mod_read 69 = .ok (.putfield 155, 3) := by decide +kernel
theorem d_Mod_read_72 : decode b_Mod_read 72 = .ok (.aload_n 0, 1) := by decide +kernel
theorem d_Mod_read_73 : decode b_Mod_read 73 = .ok (.getfield 155, 3) := by decide +kernel
theorem d_Mod_read_76 : decode b_Mod_read 76 = .ok (.bipush 9, 2) := by decide +kernel
theorem d_Mod_read_78 : decode b_Mod_read 78 = .ok (.if_icmp .ge 34, 3) := by decide +kernel
theorem d_Mod_read_81 : decode b_Mod_read 81 = .ok (.aload_n 0, 1) := by decide +kernel
theorem d_Mod_read_82 : decode b_Mod_read 82 = .ok (.iconst 0, 1) := by decide +kernel
theorem d_Mod_read_83 : decode b_Mod_read 83 = .ok (.iload_n 1, 1) := by decide +kernel
theorem d_Mod_read_84 : decode b_Mod_read 84 = .ok (.aload_n 0, 1) := by decide +kernel
theorem d_Mod_read_85 : decode b_Mod_read 85 = .ok (.getfield 66, 3) := by decide +kernel
theorem d_Mod_read_88 : decode b_Mod_read 88 = .ok (.aload_n 0, 1) := by decide +kernel
theorem d_Mod_read_89 : decode b_Mod_read 89 = .ok (.getfield 155, 3) := by decide +kernel
theorem d_Mod_read_92 : decode b_Mod_read 92 = .ok (.aaload, 1) := by decide +kernel
theorem d_Mod_read_93 : decode b_Mod_read 93 = .ok (.invokevirtual 108, 3) := by decide +kernel
theorem d_Mod_read_96 : decode b_Mod_read 96 = .ok (.ifCond .ne 16, 3) := by decide +kernel
theorem d_Mod_read_99 : decode b_Mod_read 99 = .ok (.aload_n 0, 1) := by decide +kernel
theorem d_Mod_read_100 : decode b_Mod_read 100 = .ok (.dup, 1) := by decide +kernel
theorem d_Mod_read_101 : decode b_Mod_read 101 = .ok (.getfield 155, 3) := by decide +kernel
theorem d_Mod_read_104 : decode b_Mod_read 104 = .ok (.iconst 1, 1) := by decide +kernel
theorem d_Mod_read_105 : decode b_Mod_read 105 = .ok (.iadd, 1) := by decide +kernel
theorem d_Mod_read_106 : decode b_Mod_read 106 = .ok (.putfield 155, 3) := by decide +kernel
theorem d_Mod_read_109 : decode b_Mod_read 109 = .ok (.goto (-37), 3) := by decide +kernel
theorem d_Mod_read_112 : decode b_Mod_read 112 = .ok (.aload_n 0, 1) := by decide +kernel
theorem d_Mod_read_113 : decode b_Mod_read 113 = .ok (.getfield 155, 3) := by decide +kernel
theorem d_Mod_read_116 : decode b_Mod_read 116 = .ok (.bipush 9, 2) := by decide +kernel
theorem d_Mod_read_118 : decode b_Mod_read 118 = .ok (.if_icmp .eq 18, 3) := by decide +kernel
theorem d_Mod_read_121 : decode b_Mod_read 121 = .ok (.aload_n 0, 1) := by decide +kernel
theorem d_Mod_read_122 : decode b_Mod_read 122 = .ok (.iload_n 1, 1) := by decide +kernel
theorem d_Mod_read_123 : decode b_Mod_read 123 = .ok (.iconst 1, 1) := by decide +kernel
theorem d_Mod_read_124 : decode b_Mod_read 124 = .ok (.iadd, 1) := by decide +kernel
theorem d_Mod_read_125 : decode b_Mod_read 125 = .ok (.iload_n 2, 1) := by decide +kernel
theorem d_Mod_read_126 : decode b_Mod_read 126 = .ok (.aload_n 0, 1) := by decide +kernel
theorem d_Mod_read_127 : decode b_Mod_read 127 = .ok (.getfield 72, 3) := by decide +kernel
theorem d_Mod_read_130 : decode b_Mod_read 130 = .ok (.invokevirtual 125, 3) := by decide +kernel
theorem d_Mod_read_133 : decode b_Mod_read 133 = .ok (.ifCond .ne 5, 3) := by decide +kernel
theorem d_Mod_read_136 : decode b_Mod_read 136 = .ok (.iconst 0, 1) := by decide +kernel
theorem d_Mod_read_137 : decode b_Mod_read 137 = .ok (.ireturn, 1) := by decide +kernel
theorem d_Mod_read_138 : decode b_Mod_read 138 = .ok (.iload_n 3, 1) := by decide +kernel
theorem d_Mod_read_139 : decode b_Mod_read 139 = .ok (.iconst 1, 1) := by decide +kernel
theorem d_Mod_read_140 : decode b_Mod_read 140 = .ok (.iadd, 1) := by decide +kernel
theorem d_Mod_read_141 : decode b_Mod_read 141 = .ok (.istore 4, 2) := by decide +kernel
theorem d_Mod_read_143 : decode b_Mod_read 143 = .ok (.iload 4, 2) := by decide +kernel
theorem d_Mod_read_145 : decode b_Mod_read 145 = .ok (.aload_n 0, 1) := by decide +kernel
theorem d_Mod_read_146 : decode b_Mod_read 146 = .ok (.getfield 91, 3) := by decide +kernel
theorem d_Mod_read_149 : decode b_Mod_read 149 = .ok (.if_icmp .ge 56, 3) := by decide +kernel
theorem d_Mod_read_152 : decode b_Mod_read 152 = .ok (.aload_n 0, 1) := by decide +kernel
theorem d_Mod_read_153 : decode b_Mod_read 153 = .ok (.getfield 19, 3) := by decide +kernel
theorem d_Mod_read_156 : decode b_Mod_read 156 = .ok (.iload 4, 2) := by decide +kernel
theorem d_Mod_read_158 : decode b_Mod_read 158 = .ok (.baload, 1) := by decide +kernel
theorem d_Mod_read_159 : decode b_Mod_read 159 = .ok (.bipush 10, 2) := by decide +kernel
theorem d_Mod_read_161 : decode b_Mod_read 161 = .ok (.if_icmp .eq 44, 3) := by decide +kernel
theorem d_Mod_read_164 : decode b_Mod_read 164 = .ok (.aload_n 0, 1) := by decide +kernel
theorem d_Mod_read_165 : decode b_Mod_read 165 = .ok (.bipush 10, 2) := by decide +kernel
theorem d_Mod_read_167 : decode b_Mod_read 167 = .ok (.iload 4, 2) := by decide +kernel
theorem d_Mod_read_169 : decode b_Mod_read 169 = .ok (.invokevirtual 150, 3) := by decide +kernel
theorem d_Mod_read_172 : decode b_Mod_read 172 = .ok (.istore 5, 2) := by decide +kernel
theorem d_Mod_read_174 : decode b_Mod_read 174 = .ok (.iload 5, 2) := by decide +kernel
theorem d_Mod_read_176 : decode b_Mod_read 176 = .ok (.aload_n 0, 1) := by decide +kernel
theorem d_Mod_read_177 : decode b_Mod_read 177 = .ok (.getfield 91, 3) := by decide +kernel
theorem d_Mod_read_180 : decode b_Mod_read 180 = .ok (.if_icmp .eq 14, 3) := by decide +kernel
theorem d_Mod_read_183 : decode b_Mod_read 183 = .ok (.aload_n 0, 1) := by decide +kernel
theorem d_Mod_read_184 : decode b_Mod_read 184 = .ok (.iload 4, 2) := by decide +kernel
theorem d_Mod_read_186 : decode b_Mod_read 186 = .ok (.iload 5, 2) := by decide +kernel
theorem d_Mod_read_188 : decode b_Mod_read 188 = .ok (.invokevirtual 158, 3) := by decide +kernel
theorem d_Mod_read_191 : decode b_Mod_read 191 = .ok (.ifCond .ne 5, 3) := by decide +kernel
theorem d_Mod_read_194 : decode b_Mod_read 194 = .ok (.iconst 0, 1) := by decide +kernel
theorem d_Mod_read_195 : decode b_Mod_read 195 = .ok (.ireturn, 1) := by decide +kernel
theorem d_Mod_read_196 : decode b_Mod_read 196 = .ok (.iload 5, 2) := by decide +kernel
theorem d_Mod_read_198 : decode b_Mod_read 198 = .ok (.iconst 1, 1) := by decide +kernel
theorem d_Mod_read_199 : decode b_Mod_read 199 = .ok (.iadd, 1) := by decide +kernel
theorem d_Mod_read_200 : decode b_Mod_read 200 = .ok (.istore 4, 2) := by decide +kernel
theorem d_Mod_read_202 : decode b_Mod_read 202 = .ok (.goto (-59), 3) := by decide +kernel
theorem d_Mod_read_205 : decode b_Mod_read 205 = .ok (.iload 4, 2) := by decide +kernel
theorem d_Mod_read_207 : decode b_Mod_read 207 = .ok (.aload_n 0, 1) := by decide +kernel
theorem d_Mod_read_208 : decode b_Mod_read 208 = .ok (.getfield 91, 3) := by decide +kernel
theorem d_Mod_read_211 : decode b_Mod_read 211 = .ok (.if_icmp .lt 5, 3) := by decide +kernel
theorem d_Mod_read_214 : decode b_Mod_read 214 = .ok (.iconst 0, 1) := by decide +kernel
theorem d_Mod_read_215 : decode b_Mod_read 215 = .ok (.ireturn, 1) := by decide +kernel
theorem d_Mod_read_216 : decode b_Mod_read 216 = .ok (.aload_n 0, 1) := by decide +kernel
theorem d_Mod_read_217 : decode b_Mod_read 217 = .ok (.iload 4, 2) := by decide +kernel
theorem d_Mod_read_219 : decode b_Mod_read 219 = .ok (.iconst 1, 1) := by decide +kernel
theorem d_Mod_read_220 : decode b_Mod_read 220 = .ok (.iadd, 1) := by decide +kernel
theorem d_Mod_read_221 : decode b_Mod_read 221 = .ok (.putfield 162, 3) := by decide +kernel
theorem d_Mod_read_224 : decode b_Mod_read 224 = .ok (.aload_n 0, 1) := by decide +kernel
theorem d_Mod_read_225 : decode b_Mod_read 225 = .ok (.getfield 91, 3) := by decide +kernel
theorem d_Mod_read_228 : decode b_Mod_read 228 = .ok (.aload_n 0, 1) := by decide +kernel
theorem d_Mod_read_229 : decode b_Mod_read 229 = .ok (.getfield 162, 3) := by decide +kernel
theorem d_Mod_read_232 : decode b_Mod_read 232 = .ok (.isub, 1) := by decide +kernel
theorem d_Mod_read_233 : decode b_Mod_read 233 = .ok (.istore 5, 2) := by decide +kernel
theorem d_Mod_read_235 : decode b_Mod_read 235 = .ok (.iload 5, 2) := by decide +kernel
theorem d_Mod_read_237 : decode b_Mod_read 237 = .ok (.bipush 80, 2) := by decide +kernel
theorem d_Mod_read_239 : decode b_Mod_read 239 = .ok (.if_icmp .gt 34, 3) := by decide +kernel
theorem d_Mod_read_242 : decode b_Mod_read 242 = .ok (.iload 5, 2) := by decide +kernel
theorem d_Mod_read_244 : decode b_Mod_read 244 = .ok (.ifCond .le 11, 3) := by decide +kernel
theorem d_Mod_read_247 : decode b_Mod_read 247 = .ok (.aload_n 0, 1) := by decide +kernel
theorem d_Mod_read_248 : decode b_Mod_read 248 = .ok (.getfield 155, 3) := by decide +kernel
theorem d_Mod_read_251 : decode b_Mod_read 251 = .ok (.iconst 1, 1) := by decide +kernel
theorem d_Mod_read_252 : decode b_Mod_read 252 = .ok (.if_icmp .ne 21, 3) := by decide +kernel
theorem d_Mod_read_255 : decode b_Mod_read 255 = .ok (.aload_n 0, 1) := by decide +kernel
theorem d_Mod_read_256 : decode b_Mod_read 256 = .ok (.getfield 143, 3) := by decide +kernel
theorem d_Mod_read_259 : decode b_Mod_read 259 = .ok (.getstatic 165, 3) := by decide +kernel
theorem d_Mod_read_262 : decode b_Mod_read 262 = .ok (.aload_n 0, 1) := by decide +kernel
theorem d_Mod_read_263 : decode b_Mod_read 263 = .ok (.getfield 155, 3) := by decide +kernel
theorem d_Mod_read_266 : decode b_Mod_read 266 = .ok (.iaload, 1) := by decide +kernel
theorem d_Mod_read_267 : decode b_Mod_read 267 = .ok (.iconst (-1), 1) := by decide +kernel
theorem d_Mod_read_268 : decode b_Mod_read 268 = .ok (.ixor, 1) := by decide +kernel
theorem d_Mod_read_269 : decode b_Mod_read 269 = .ok (.iand, 1) := by decide +kernel
theorem d_Mod_read_270 : decode b_Mod_read 270 = .ok (.ifCond .eq 5, 3) := by decide +kernel
theorem d_Mod_read_273 : decode b_Mod_read 273 = .ok (.iconst 0, 1) := by decide +kernel
theorem d_Mod_read_274 : decode b_Mod_read 274 = .ok (.ireturn, 1) := by decide +kernel
theorem d_Mod_read_275 : decode b_Mod_read 275 = .ok (.aload_n 0, 1) := by decide +kernel
theorem d_Mod_read_276 : decode b_Mod_read 276 = .ok (.getfield 155, 3) := by decide +kernel
theorem d_Mod_read_279 : decode b_Mod_read 279 = .ok (.iconst 4, 1) := by decide +kernel
theorem d_Mod_read_280 : decode b_Mod_read 280 = .ok (.if_icmp .eq 11, 3) := by decide +kernel
theorem d_Mod_read_283 : decode b_Mod_read 283 = .ok (.aload_n 0, 1) := by decide +kernel
theorem d_Mod_read_284 : decode b_Mod_read 284 = .ok (.getfield 155, 3) := by decide +kernel
theorem d_Mod_read_287 : decode b_Mod_read 287 = .ok (.iconst 5, 1) := by decide +kernel
theorem d_Mod_read_288 : decode b_Mod_read 288 = .ok (.if_icmp .ne 11, 3) := by decide +kernel
theorem d_Mod_read_291 : decode b_Mod_read 291 = .ok (.aload_n 0, 1) := by decide +kernel
theorem d_Mod_read_292 : decode b_Mod_read 292 = .ok (.iconst 1, 1) := by decide +kernel
theorem d_Mod_read_293 : decode b_Mod_read 293 = .ok (.invokevirtual 168, 3) := by decide +kernel
theorem d_Mod_read_296 : decode b_Mod_read 296 = .ok (.ifCond .eq 20, 3) := by decide +kernel
theorem d_Mod_read_299 : decode b_Mod_read 299 = .ok (.aload_n 0, 1) := by decide +kernel
theorem d_Mod_read_300 : decode b_Mod_read 300 = .ok (.getfield 155, 3) := by decide +kernel
theorem d_Mod_read_303 : decode b_Mod_read 303 = .ok (.bipush 7, 2) := by decide +kernel
theorem d_Mod_read_305 : decode b_Mod_read 305 = .ok (.if_icmp .ne 13, 3) := by decide +kernel
theorem d_Mod_read_308 : decode b_Mod_read 308 = .ok (.aload_n 0, 1) := by decide +kernel
theorem d_Mod_read_309 : decode b_Mod_read 309 = .ok (.iconst 5, 1) := by decide +kernel
theorem d_Mod_read_310 : decode b_Mod_read 310 = .ok (.invokevirtual 168, 3) := by decide +kernel
theorem d_Mod_read_313 : decode b_Mod_read 313 = .ok (.ifCond .ne 5, 3) := by decide +kernel
theorem d_Mod_read_316 : decode b_Mod_read 316 = .ok (.iconst 0, 1) := by decide +kernel
theorem d_Mod_read_317 : decode b_Mod_read 317 = .ok (.ireturn, 1) := by decide +kernel
theorem d_Mod_read_318 : decode b_Mod_read 318 = .ok (.aload_n 0, 1) := by decide +kernel
theorem d_Mod_read_319 : decode b_Mod_read 319 = .ok (.iconst 0, 1) := by decide +kernel
theorem d_Mod_read_320 : decode b_Mod_read 320 = .ok (.invokevirtual 168, 3) := by decide +kernel
theorem d_Mod_read_323 : decode b_Mod_read 323 = .ok (.ifCond .eq 22, 3) := by decide +kernel
theorem d_Mod_read_326 : decode b_Mod_read 326 = .ok (.aload_n 0, 1) := by decide +kernel
theorem d_Mod_read_327 : decode b_Mod_read 327 = .ok (.getfield 78, 3) := by decide +kernel
theorem d_Mod_read_330 : decode b_Mod_read 330 = .ok (.iconst 0, 1) := by decide +kernel
theorem d_Mod_read_331 : decode b_Mod_read 331 = .ok (.iaload, 1) := by decide +kernel
theorem d_Mod_read_332 : decode b_Mod_read 332 = .ok (.iconst 1, 1) := by decide +kernel
theorem d_Mod_read_333 : decode b_Mod_read 333 = .ok (.if_icmp .ne 12, 3) := by decide +kernel
theorem d_Mod_read_336 : decode b_Mod_read 336 = .ok (.aload_n 0, 1) := by decide +kernel
theorem d_Mod_read_337 : decode b_Mod_read 337 = .ok (.getfield 155, 3) := by decide +kernel
theorem d_Mod_read_340 : decode b_Mod_read 340 = .ok (.bipush 8, 2) := by decide +kernel
theorem d_Mod_read_342 : decode b_Mod_read 342 = .ok (.if_icmp .ne 7, 3) := by decide +kernel
theorem d_Mod_read_345 : decode b_Mod_read 345 = .ok (.iconst 1, 1) := by decide +kernel
theorem d_Mod_read_346 : decode b_Mod_read 346 = .ok (.goto 4, 3) := by decide +kernel
theorem d_Mod_read_349 : decode b_Mod_read 349 = .ok (.iconst 0, 1) := by decide +kernel
theorem d_Mod_read_350 : decode b_Mod_read 350 = .ok (.ireturn, 1) := by decide +kernel
theorem d_Mod_request_0 : decode b_Mod_request 0 = .ok (.aload_n 0, 1) := by decide +kernel
theorem d_Mod_request_1 : decode b_Mod_request 1 = .ok (.iconst 0, 1) := by decide +kernel
theorem d_Mod_request_2 : decode b_Mod_request 2 = .ok (.putfield 170, 3) := by decide +kernel
theorem d_Mod_request_5 : decode b_Mod_request 5 = .ok (.aload_n 0, 1) := by decide +kernel
theorem d_Mod_request_6 : decode b_Mod_request 6 = .ok (.invokevirtual 173, 3) := by decide +kernel
theorem d_Mod_request_9 : decode b_Mod_request 9 = .ok (.ifCond .eq 10, 3) := by decide +kernel
theorem d_Mod_request_12 : decode b_Mod_request 12 = .ok (.aload_n 0, 1) := by decide +kernel
theorem d_Mod_request_13 : decode b_Mod_request 13 = .ok (.invokevirtual 177, 3) := by decide +kernel
theorem d_Mod_request_16 : decode b_Mod_request 16 = .ok (.goto 6, 3) := by decide +kernel
theorem d_Mod_request_19 : decode b_Mod_request 19 = .ok (.sipush 400, 3) := by decide +kernel
theorem d_Mod_request_22 : decode b_Mod_request 22 = .ok (.istore_n 1, 1) := by decide +kernel
theorem d_Mod_request_23 : decode b_Mod_request 23 = .ok (.aload_n 0, 1) := by decide +kernel
theorem d_Mod_request_24 : decode b_Mod_request 24 = .ok (.iconst 0, 1) := by decide +kernel
theorem d_Mod_request_25 : decode b_Mod_request 25 = .ok (.putfield 91, 3) := by decide +kernel
theorem d_Mod_request_28 : decode b_Mod_request 28 = .ok (.iload_n 1, 1) := by decide +kernel
theorem d_Mod_request_29 : decode b_Mod_request 29 = .ok (.ireturn, 1) := by decide +kernel
theorem d_Mod_answer_0 : decode b_Mod_answer 0 = .ok (.aload_n 0, 1) := by decide +kernel
theorem d_Mod_answer_1 : decode b_Mod_answer 1 = .ok (.getfield 10, 3) := by decide +kernel
theorem d_Mod_answer_4 : decode b_Mod_answer 4 = .ok (.aload_n 0, 1) := by decide +kernel
theorem d_Mod_answer_5 : decode b_Mod_answer 5 = .ok (.getfield 72, 3) := by decide +kernel
theorem d_Mod_answer_8 : decode b_Mod_answer 8 = .ok (.invokevirtual 180, 3) := by decide +kernel
theorem d_Mod_answer_11 : decode b_Mod_answer 11 = .ok (.istore_n 1, 1) := by decide +kernel
theorem d_Mod_answer_12 : decode b_Mod_answer 12 = .ok (.aload_n 0, 1) := by decide +kernel
theorem d_Mod_answer_13 : decode b_Mod_answer 13 = .ok (.iconst 3, 1) := by decide +kernel
theorem d_Mod_answer_14 : decode b_Mod_answer 14 = .ok (.invokevirtual 168, 3) := by decide +kernel
theorem d_Mod_answer_17 : decode b_Mod_answer 17 = .ok (.ifCond .eq 47, 3) := by decide +kernel
theorem d_Mod_answer_20 : decode b_Mod_answer 20 = .ok (.iload_n 1, 1) := by decide +kernel
theorem d_Mod_answer_21 : decode b_Mod_answer 21 = .ok (.ifCond .lt 55, 3) := by decide +kernel
theorem d_Mod_answer_24 : decode b_Mod_answer 24 = .ok (.aload_n 0, 1) := by decide +kernel
theorem d_Mod_answer_25 : decode b_Mod_answer 25 = .ok (.getfield 78, 3) := by decide +kernel
theorem d_Mod_answer_28 : decode b_Mod_answer 28 = .ok (.iconst 3, 1) := by decide +kernel
theorem d_Mod_answer_29 : decode b_Mod_answer 29 = .ok (.iaload, 1) := by decide +kernel
theorem d_Mod_answer_30 : decode b_Mod_answer 30 = .ok (.ifCond .lt 34, 3) := by decide +kernel
theorem d_Mod_answer_33 : decode b_Mod_answer 33 = .ok (.aload_n 0, 1) := by decide +kernel
theorem d_Mod_answer_34 : decode b_Mod_answer 34 = .ok (.getfield 10, 3) := by decide +kernel
theorem d_Mod_answer_37 : decode b_Mod_answer 37 = .ok (.getfield 183, 3) := by decide +kernel
theorem d_Mod_answer_40 : decode b_Mod_answer 40 = .ok (.iload_n 1, 1) := by decide +kernel
theorem d_Mod_answer_41 : decode b_Mod_answer 41 = .ok (.iaload, 1) := by decide +kernel
theorem d_Mod_answer_42 : decode b_Mod_answer 42 = .ok (.iconst 1, 1) := by decide +kernel
theorem d_Mod_answer_43 : decode b_Mod_answer 43 = .ok (.if_icmp .ne 33, 3) := by decide +kernel
theorem d_Mod_answer_46 : decode b_Mod_answer 46 = .ok (.aload_n 0, 1) := by decide +kernel
theorem d_Mod_answer_47 : decode b_Mod_answer 47 = .ok (.getfield 10, 3) := by decide +kernel
theorem d_Mod_answer_50 : decode b_Mod_answer 50 = .ok (.getfield 186, 3) := by decide +kernel
theorem d_Mod_answer_53 : decode b_Mod_answer 53 = .ok (.iload_n 1, 1) := by decide +kernel
theorem d_Mod_answer_54 : decode b_Mod_answer 54 = .ok (.iaload, 1) := by decide +kernel
theorem d_Mod_answer_55 : decode b_Mod_answer 55 = .ok (.aload_n 0, 1) := by decide +kernel
theorem d_Mod_answer_56 : decode b_Mod_answer 56 = .ok (.getfield 78, 3) := by decide +kernel
theorem d_Mod_answer_59 : decode b_Mod_answer 59 = .ok (.iconst 3, 1) := by decide +kernel
theorem d_Mod_answer_60 : decode b_Mod_answer 60 = .ok (.iaload, 1) := by decide +kernel
theorem d_Mod_answer_61 : decode b_Mod_answer 61 = .ok (.if_icmp .ne 15, 3) := by decide +kernel
theorem d_Mod_answer_64 : decode b_Mod_answer 64 = .ok (.aload_n 0, 1) := by decide +kernel
theorem d_Mod_answer_65 : decode b_Mod_answer 65 = .ok (.iconst 4, 1) := by decide +kernel
theorem d_Mod_answer_66 : decode b_Mod_answer 66 = .ok (.invokevirtual 168, 3) := by decide +kernel
theorem d_Mod_answer_69 : decode b_Mod_answer 69 = .ok (.ifCond .eq 11, 3) := by decide +kernel
theorem d_Mod_answer_72 : decode b_Mod_answer 72 = .ok (.iload_n 1, 1) := by decide +kernel
theorem d_Mod_answer_73 : decode b_Mod_answer 73 = .ok (.ifCond .lt 7, 3) := by decide +kernel
theorem d_Mod_answer_76 : decode b_Mod_answer 76 = .ok (.sipush 412, 3) := by decide +kernel
theorem d_Mod_answer_79 : decode b_Mod_answer 79 = .ok (.ireturn, 1) := by decide +kernel
theorem d_Mod_answer_80 : decode b_Mod_answer 80 = .ok (.aload_n 0, 1) := by decide +kernel
theorem d_Mod_answer_81 : decode b_Mod_answer 81 = .ok (.getfield 155, 3) := by decide +kernel
theorem d_Mod_answer_84 : decode b_Mod_answer 84 = .ok (.tableswitch 187 0 7 #[48, 64, 70, 101, 107, 124, 157, 172], 48) := by decide +kernel
theorem d_Mod_answer_132 : decode b_Mod_answer 132 = .ok (.iload_n 1, 1) := by decide +kernel
theorem d_Mod_answer_133 : decode b_Mod_answer 133 = .ok (.ifCond .ge 9, 3) := by decide +kernel
theorem d_Mod_answer_136 : decode b_Mod_answer 136 = .ok (.sipush 404, 3) := by decide +kernel
theorem d_Mod_answer_139 : decode b_Mod_answer 139 = .ok (.goto 8, 3) := by decide +kernel
theorem d_Mod_answer_142 : decode b_Mod_answer 142 = .ok (.aload_n 0, 1) := by decide +kernel
theorem d_Mod_answer_143 : decode b_Mod_answer 143 = .ok (.iload_n 1, 1) := by decide +kernel
theorem d_Mod_answer_144 : decode b_Mod_answer 144 = .ok (.invokevirtual 189, 3) := by decide +kernel
theorem d_Mod_answer_147 : decode b_Mod_answer 147 = .ok (.ireturn, 1) := by decide +kernel
theorem d_Mod_answer_148 : decode b_Mod_answer 148 = .ok (.aload_n 0, 1) := by decide +kernel
theorem d_Mod_answer_149 : decode b_Mod_answer 149 = .ok (.iload_n 1, 1) := by decide +kernel
theorem d_Mod_answer_150 : decode b_Mod_answer 150 = .ok (.invokevirtual 193, 3) := by decide +kernel
theorem d_Mod_answer_153 : decode b_Mod_answer 153 = .ok (.ireturn, 1) := by decide +kernel
theorem d_Mod_answer_154 : decode b_Mod_answer 154 = .ok (.iload_n 1, 1) := by decide +kernel
theorem d_Mod_answer_155 : decode b_Mod_answer 155 = .ok (.ifCond .ge 9, 3) := by decide +kernel
theorem d_Mod_answer_158 : decode b_Mod_answer 158 = .ok (.sipush 404, 3) := by decide +kernel
theorem d_Mod_answer_161 : decode b_Mod_answer 161 = .ok (.goto 23, 3) := by decide +kernel
theorem d_Mod_answer_164 : decode b_Mod_answer 164 = .ok (.aload_n 0, 1) := by decide +kernel
theorem d_Mod_answer_165 : decode b_Mod_answer 165 = .ok (.getfield 72, 3) := by decide +kernel
theorem d_Mod_answer_168 : decode b_Mod_answer 168 = .ok (.getfield 103, 3) := by decide +kernel
theorem d_Mod_answer_171 : decode b_Mod_answer 171 = .ok (.ifCond .ne 9, 3) := by decide +kernel
theorem d_Mod_answer_174 : decode b_Mod_answer 174 = .ok (.sipush 403, 3) := by decide +kernel
theorem d_Mod_answer_177 : decode b_Mod_answer 177 = .ok (.goto 7, 3) := by decide +kernel
theorem d_Mod_answer_180 : decode b_Mod_answer 180 = .ok (.aload_n 0, 1) := by decide +kernel
theorem d_Mod_answer_181 : decode b_Mod_answer 181 = .ok (.invokevirtual 196, 3) := by decide +kernel
theorem d_Mod_answer_184 : decode b_Mod_answer 184 = .ok (.ireturn, 1) := by decide +kernel
theorem d_Mod_answer_185 : decode b_Mod_answer 185 = .ok (.aload_n 0, 1) := by decide +kernel
theorem d_Mod_answer_186 : decode b_Mod_answer 186 = .ok (.iload_n 1, 1) := by decide +kernel
theorem d_Mod_answer_187 : decode b_Mod_answer 187 = .ok (.invokevirtual 199, 3) := by decide +kernel
theorem d_Mod_answer_190 : decode b_Mod_answer 190 = .ok (.ireturn, 1) := by decide +kernel
theorem d_Mod_answer_191 : decode b_Mod_answer 191 = .ok (.iload_n 1, 1) := by decide +kernel
theorem d_Mod_answer_192 : decode b_Mod_answer 192 = .ok (.ifCond .ge 9, 3) := by decide +kernel
theorem d_Mod_answer_195 : decode b_Mod_answer 195 = .ok (.sipush 404, 3) := by decide +kernel
theorem d_Mod_answer_198 : decode b_Mod_answer 198 = .ok (.goto 9, 3) := by decide +kernel
theorem d_Mod_answer_201 : decode b_Mod_answer 201 = .ok (.aload_n 0, 1) := by decide +kernel
theorem d_Mod_answer_202 : decode b_Mod_answer 202 = .ok (.iload_n 1, 1) := by decide +kernel
theorem d_Mod_answer_203 : decode b_Mod_answer 203 = .ok (.iconst 0, 1) := by decide +kernel
theorem d_Mod_answer_204 : decode b_Mod_answer 204 = .ok (.invokevirtual 202, 3) := by decide +kernel
theorem d_Mod_answer_207 : decode b_Mod_answer 207 = .ok (.ireturn, 1) := by decide +kernel
theorem d_Mod_answer_208 : decode b_Mod_answer 208 = .ok (.iload_n 1, 1) := by decide +kernel
theorem d_Mod_answer_209 : decode b_Mod_answer 209 = .ok (.ifCond .ge 9, 3) := by decide +kernel
theorem d_Mod_answer_212 : decode b_Mod_answer 212 = .ok (.sipush 404, 3) := by decide +kernel
theorem d_Mod_answer_215 : decode b_Mod_answer 215 = .ok (.goto 25, 3) := by decide +kernel
theorem d_Mod_answer_218 : decode b_Mod_answer 218 = .ok (.aload_n 0, 1) := by decide +kernel
theorem d_Mod_answer_219 : decode b_Mod_answer 219 = .ok (.getfield 72, 3) := by decide +kernel
theorem d_Mod_answer_222 : decode b_Mod_answer 222 = .ok (.getfield 103, 3) := by decide +kernel
theorem d_Mod_answer_225 : decode b_Mod_answer 225 = .ok (.ifCond .ne 9, 3) := by decide +kernel
theorem d_Mod_answer_228 : decode b_Mod_answer 228 = .ok (.sipush 403, 3) := by decide +kernel
theorem d_Mod_answer_231 : decode b_Mod_answer 231 = .ok (.goto 9, 3) := by decide +kernel
theorem d_Mod_answer_234 : decode b_Mod_answer 234 = .ok (.aload_n 0, 1) := by decide +kernel
theorem d_Mod_answer_235 : decode b_Mod_answer 235 = .ok (.iload_n 1, 1) := by decide +kernel
theorem d_Mod_answer_236 : decode b_Mod_answer 236 = .ok (.iconst 1, 1) := by decide +kernel
theorem d_Mod_answer_237 : decode b_Mod_answer 237 = .ok (.invokevirtual 202, 3) := by decide +kernel
theorem d_Mod_answer_240 : decode b_Mod_answer 240 = .ok (.ireturn, 1) := by decide +kernel
theorem d_Mod_answer_241 : decode b_Mod_answer 241 = .ok (.iload_n 1, 1) := by decide +kernel
theorem d_Mod_answer_242 : decode b_Mod_answer 242 = .ok (.ifCond .ge 9, 3) := by decide +kernel
theorem d_Mod_answer_245 : decode b_Mod_answer 245 = .ok (.sipush 404, 3) := by decide +kernel
theorem d_Mod_answer_248 : decode b_Mod_answer 248 = .ok (.goto 7, 3) := by decide +kernel
theorem d_Mod_answer_251 : decode b_Mod_answer 251 = .ok (.aload_n 0, 1) := by decide +kernel
theorem d_Mod_answer_252 : decode b_Mod_answer 252 = .ok (.invokevirtual 206, 3) := by decide +kernel
theorem d_Mod_answer_255 : decode b_Mod_answer 255 = .ok (.ireturn, 1) := by decide +kernel
theorem d_Mod_answer_256 : decode b_Mod_answer 256 = .ok (.iload_n 1, 1) := by decide +kernel
theorem d_Mod_answer_257 : decode b_Mod_answer 257 = .ok (.ifCond .ge 9, 3) := by decide +kernel
theorem d_Mod_answer_260 : decode b_Mod_answer 260 = .ok (.sipush 404, 3) := by decide +kernel
theorem d_Mod_answer_263 : decode b_Mod_answer 263 = .ok (.goto 7, 3) := by decide +kernel
theorem d_Mod_answer_266 : decode b_Mod_answer 266 = .ok (.aload_n 0, 1) := by decide +kernel
theorem d_Mod_answer_267 : decode b_Mod_answer 267 = .ok (.invokevirtual 209, 3) := by decide +kernel
theorem d_Mod_answer_270 : decode b_Mod_answer 270 = .ok (.ireturn, 1) := by decide +kernel
theorem d_Mod_answer_271 : decode b_Mod_answer 271 = .ok (.iload_n 1, 1) := by decide +kernel
theorem d_Mod_answer_272 : decode b_Mod_answer 272 = .ok (.ifCond .ge 9, 3) := by decide +kernel
theorem d_Mod_answer_275 : decode b_Mod_answer 275 = .ok (.sipush 404, 3) := by decide +kernel
theorem d_Mod_answer_278 : decode b_Mod_answer 278 = .ok (.goto 7, 3) := by decide +kernel
theorem d_Mod_answer_281 : decode b_Mod_answer 281 = .ok (.aload_n 0, 1) := by decide +kernel
theorem d_Mod_answer_282 : decode b_Mod_answer 282 = .ok (.invokevirtual 212, 3) := by decide +kernel
theorem d_Mod_answer_285 : decode b_Mod_answer 285 = .ok (.ireturn, 1) := by decide +kernel
theorem d_Mod_put_0 : decode b_Mod_put 0 = .ok (.aload_n 0, 1) := by decide +kernel
theorem d_Mod_put_1 : decode b_Mod_put 1 = .ok (.getfield 23, 3) := by decide +kernel
theorem d_Mod_put_4 : decode b_Mod_put 4 = .ok (.aload_n 0, 1) := by decide +kernel
theorem d_Mod_put_5 : decode b_Mod_put 5 = .ok (.getfield 170, 3) := by decide +kernel
theorem d_Mod_put_8 : decode b_Mod_put 8 = .ok (.iload_n 1, 1) := by decide +kernel
theorem d_Mod_put_9 : decode b_Mod_put 9 = .ok (.i2b, 1) := by decide +kernel
theorem d_Mod_put_10 : decode b_Mod_put 10 = .ok (.bastore, 1) := by decide +kernel
theorem d_Mod_put_11 : decode b_Mod_put 11 = .ok (.aload_n 0, 1) := by decide +kernel
theorem d_Mod_put_12 : decode b_Mod_put 12 = .ok (.dup, 1) := by decide +kernel
theorem d_Mod_put_13 : decode b_Mod_put 13 = .ok (.getfield 170, 3) := by decide +kernel
theorem d_Mod_put_16 : decode b_Mod_put 16 = .ok (.iconst 1, 1) := by decide +kernel
theorem d_Mod_put_17 : decode b_Mod_put 17 = .ok (.iadd, 1) := by decide +kernel
theorem d_Mod_put_18 : decode b_Mod_put 18 = .ok (.putfield 170, 3) := by decide +kernel
theorem d_Mod_put_21 : decode b_Mod_put 21 = .ok (.return_, 1) := by decide +kernel
theorem d_Mod_after_0 : decode b_Mod_after 0 = .ok (.iconst (-1), 1) := by decide +kernel
theorem d_Mod_after_1 : decode b_Mod_after 1 = .ok (.istore 5, 2) := by decide +kernel
theorem d_Mod_after_3 : decode b_Mod_after 3 = .ok (.iconst 0, 1) := by decide +kernel
theorem d_Mod_after_4 : decode b_Mod_after 4 = .ok (.istore 6, 2) := by decide +kernel
theorem d_Mod_after_6 : decode b_Mod_after 6 = .ok (.iload 6, 2) := by decide +kernel
theorem d_Mod_after_8 : decode b_Mod_after 8 = .ok (.aload_n 0, 1) := by decide +kernel
theorem d_Mod_after_9 : decode b_Mod_after 9 = .ok (.getfield 10, 3) := by decide +kernel
theorem d_Mod_after_12 : decode b_Mod_after 12 = .ok (.getfield 215, 3) := by decide +kernel
theorem d_Mod_after_15 : decode b_Mod_after 15 = .ok (.if_icmp .ge 151, 3) := by decide +kernel
theorem d_Mod_after_18 : decode b_Mod_after 18 = .ok (.iload 4, 2) := by decide +kernel
theorem d_Mod_after_20 : decode b_Mod_after 20 = .ok (.ifCond .eq 20, 3) := by decide +kernel
theorem d_Mod_after_23 : decode b_Mod_after 23 = .ok (.aload_n 0, 1) := by decide +kernel
theorem d_Mod_after_24 : decode b_Mod_after 24 = .ok (.getfield 10, 3) := by decide +kernel
theorem d_Mod_after_27 : decode b_Mod_after 27 = .ok (.getfield 216, 3) := by decide +kernel
theorem d_Mod_after_30 : decode b_Mod_after 30 = .ok (.iload 6, 2) := by decide +kernel
theorem d_Mod_after_32 : decode b_Mod_after 32 = .ok (.aaload, 1) := by decide +kernel
theorem d_Mod_after_33 : decode b_Mod_after 33 = .ok (.aload_n 2, 1) := by decide +kernel
theorem d_Mod_after_34 : decode b_Mod_after 34 = .ok (.invokevirtual 219, 3) := by decide +kernel
theorem d_Mod_after_37 : decode b_Mod_after 37 = .ok (.ifCond .ne 44, 3) := by decide +kernel
theorem d_Mod_after_40 : decode b_Mod_after 40 = .ok (.iload_n 3, 1) := by decide +kernel
theorem d_Mod_after_41 : decode b_Mod_after 41 = .ok (.ifCond .eq 23, 3) := by decide +kernel
theorem d_Mod_after_44 : decode b_Mod_after 44 = .ok (.aload_n 0, 1) := by decide +kernel
theorem d_Mod_after_45 : decode b_Mod_after 45 = .ok (.getfield 10, 3) := by decide +kernel
theorem d_Mod_after_48 : decode b_Mod_after 48 = .ok (.getfield 216, 3) := by decide +kernel
theorem d_Mod_after_51 : decode b_Mod_after 51 = .ok (.iload 6, 2) := by decide +kernel
theorem d_Mod_after_53 : decode b_Mod_after 53 = .ok (.aaload, 1) := by decide +kernel
theorem d_Mod_after_54 : decode b_Mod_after 54 = .ok (.aload_n 2, 1) := by decide +kernel
theorem d_Mod_after_55 : decode b_Mod_after 55 = .ok (.invokevirtual 223, 3) := by decide +kernel
theorem d_Mod_after_58 : decode b_Mod_after 58 = .ok (.ifCond .eq 27, 3) := by decide +kernel
theorem d_Mod_after_61 : decode b_Mod_after 61 = .ok (.goto 20, 3) := by decide +kernel
theorem d_Mod_after_64 : decode b_Mod_after 64 = .ok (.aload_n 0, 1) := by decide +kernel
theorem d_Mod_after_65 : decode b_Mod_after 65 = .ok (.getfield 10, 3) := by decide +kernel
theorem d_Mod_after_68 : decode b_Mod_after 68 = .ok (.getfield 216, 3) := by decide +kernel
theorem d_Mod_after_71 : decode b_Mod_after 71 = .ok (.iload 6, 2) := by decide +kernel
theorem d_Mod_after_73 : decode b_Mod_after 73 = .ok (.aaload, 1) := by decide +kernel
theorem d_Mod_after_74 : decode b_Mod_after 74 = .ok (.aload_n 2, 1) := by decide +kernel
theorem d_Mod_after_75 : decode b_Mod_after 75 = .ok (.invokevirtual 226, 3) := by decide +kernel
theorem d_Mod_after_78 : decode b_Mod_after 78 = .ok (.ifCond .eq 7, 3) := by decide +kernel
theorem d_Mod_after_81 : decode b_Mod_after 81 = .ok (.iconst 1, 1) := by decide +kernel
theorem d_Mod_after_82 : decode b_Mod_after 82 = .ok (.goto 4, 3) := by decide +kernel
theorem d_Mod_after_85 : decode b_Mod_after 85 = .ok (.iconst 0, 1) := by decide +kernel
theorem d_Mod_after_86 : decode b_Mod_after 86 = .ok (.istore 7, 2) := by decide +kernel
theorem d_Mod_after_88 : decode b_Mod_after 88 = .ok (.iload 7, 2) := by decide +kernel
theorem d_Mod_after_90 : decode b_Mod_after 90 = .ok (.ifCond .eq 70, 3) := by decide +kernel
theorem d_Mod_after_93 : decode b_Mod_after 93 = .ok (.iload_n 1, 1) := by decide +kernel
theorem d_Mod_after_94 : decode b_Mod_after 94 = .ok (.ifCond .lt 31, 3) := by decide +kernel
theorem d_Mod_after_97 : decode b_Mod_after 97 = .ok (.aload_n 0, 1) := by decide +kernel
theorem d_Mod_after_98 : decode b_Mod_after 98 = .ok (.getfield 10, 3) := by decide +kernel
theorem d_Mod_after_101 : decode b_Mod_after 101 = .ok (.getfield 216, 3) := by decide +kernel
theorem d_Mod_after_104 : decode b_Mod_after 104 = .ok (.iload_n 1, 1) := by decide +kernel
theorem d_Mod_after_105 : decode b_Mod_after 105 = .ok (.aaload, 1) := by decide +kernel
theorem d_Mod_after_106 : decode b_Mod_after 106 = .ok (.aload_n 0, 1) := by decide +kernel
theorem d_Mod_after_107 : decode b_Mod_after 107 = .ok (.getfield 10, 3) := by decide +kernel
theorem d_Mod_after_110 : decode b_Mod_after 110 = .ok (.getfield 216, 3) := by decide +kernel
theorem d_Mod_after_113 : decode b_Mod_after 113 = .ok (.iload 6, 2) := by decide +kernel
theorem d_Mod_after_115 : decode b_Mod_after 115 = .ok (.aaload, 1) := by decide +kernel
theorem d_Mod_after_116 : decode b_Mod_after 116 = .ok (.invokevirtual 229, 3) := by decide +kernel
theorem d_Mod_after_119 : decode b_Mod_after 119 = .ok (.ifCond .ne 6, 3) := by decide +kernel
theorem d_Mod_after_122 : decode b_Mod_after 122 = .ok (.goto 38, 3) := by decide +kernel
theorem d_Mod_after_125 : decode b_Mod_after 125 = .ok (.iload 5, 2) := by decide +kernel
theorem d_Mod_after_127 : decode b_Mod_after 127 = .ok (.ifCond .lt 29, 3) := by decide +kernel
theorem d_Mod_after_130 : decode b_Mod_after 130 = .ok (.aload_n 0, 1) := by decide +kernel
theorem d_Mod_after_131 : decode b_Mod_after 131 = .ok (.getfield 10, 3) := by decide +kernel
theorem d_Mod_after_134 : decode b_Mod_after 134 = .ok (.getfield 216, 3) := by decide +kernel
theorem d_Mod_after_137 : decode b_Mod_after 137 = .ok (.iload 6, 2) := by decide +kernel
theorem d_Mod_after_139 : decode b_Mod_after 139 = .ok (.aaload, 1) := by decide +kernel
theorem d_Mod_after_140 : decode b_Mod_after 140 = .ok (.aload_n 0, 1) := by decide +kernel
theorem d_Mod_after_141 : decode b_Mod_after 141 = .ok (.getfield 10, 3) := by decide +kernel
theorem d_Mod_after_144 : decode b_Mod_after 144 = .ok (.getfield 216, 3) := by decide +kernel
theorem d_Mod_after_147 : decode b_Mod_after 147 = .ok (.iload 5, 2) := by decide +kernel
theorem d_Mod_after_149 : decode b_Mod_after 149 = .ok (.aaload, 1) := by decide +kernel
theorem d_Mod_after_150 : decode b_Mod_after 150 = .ok (.invokevirtual 229, 3) := by decide +kernel
theorem d_Mod_after_153 : decode b_Mod_after 153 = .ok (.ifCond .eq 7, 3) := by decide +kernel
theorem d_Mod_after_156 : decode b_Mod_after 156 = .ok (.iload 6, 2) := by decide +kernel
theorem d_Mod_after_158 : decode b_Mod_after 158 = .ok (.istore 5, 2) := by decide +kernel
theorem d_Mod_after_160 : decode b_Mod_after 160 = .ok (.iinc 6 1, 3) := by decide +kernel
theorem d_Mod_after_163 : decode b_Mod_after 163 = .ok (.goto (-157), 3) := by decide +kernel
theorem d_Mod_after_166 : decode b_Mod_after 166 = .ok (.iload 5, 2) := by decide +kernel
theorem d_Mod_after_168 : decode b_Mod_after 168 = .ok (.ireturn, 1) := by decide +kernel
theorem d_Mod_get_0 : decode b_Mod_get 0 = .ok (.aload_n 0, 1) := by decide +kernel
theorem d_Mod_get_1 : decode b_Mod_get 1 = .ok (.getfield 10, 3) := by decide +kernel
theorem d_Mod_get_4 : decode b_Mod_get 4 = .ok (.getfield 183, 3) := by decide +kernel
theorem d_Mod_get_7 : decode b_Mod_get 7 = .ok (.iload_n 1, 1) := by decide +kernel
theorem d_Mod_get_8 : decode b_Mod_get 8 = .ok (.iaload, 1) := by decide +kernel
theorem d_Mod_get_9 : decode b_Mod_get 9 = .ok (.iconst 1, 1) := by decide +kernel
theorem d_Mod_get_10 : decode b_Mod_get 10 = .ok (.if_icmp .ne 43, 3) := by decide +kernel
theorem d_Mod_get_13 : decode b_Mod_get 13 = .ok (.iconst 0, 1) := by decide +kernel
theorem d_Mod_get_14 : decode b_Mod_get 14 = .ok (.istore_n 2, 1) := by decide +kernel
theorem d_Mod_get_15 : decode b_Mod_get 15 = .ok (.iload_n 2, 1) := by decide +kernel
theorem d_Mod_get_16 : decode b_Mod_get 16 = .ok (.aload_n 0, 1) := by decide +kernel
theorem d_Mod_get_17 : decode b_Mod_get 17 = .ok (.getfield 10, 3) := by decide +kernel
theorem d_Mod_get_20 : decode b_Mod_get 20 = .ok (.getfield 232, 3) := by decide +kernel
theorem d_Mod_get_23 : decode b_Mod_get 23 = .ok (.iload_n 1, 1) := by decide +kernel
theorem d_Mod_get_24 : decode b_Mod_get 24 = .ok (.iaload, 1) := by decide +kernel
theorem d_Mod_get_25 : decode b_Mod_get 25 = .ok (.if_icmp .ge 24, 3) := by decide +kernel
theorem d_Mod_get_28 : decode b_Mod_get 28 = .ok (.aload_n 0, 1) := by decide +kernel
theorem d_Mod_get_29 : decode b_Mod_get 29 = .ok (.aload_n 0, 1) := by decide +kernel
theorem d_Mod_get_30 : decode b_Mod_get 30 = .ok (.getfield 10, 3) := by decide +kernel
theorem d_Mod_get_33 : decode b_Mod_get 33 = .ok (.getfield 234, 3) := by decide +kernel
theorem d_Mod_get_36 : decode b_Mod_get 36 = .ok (.iload_n 1, 1) := by decide +kernel
theorem d_Mod_get_37 : decode b_Mod_get 37 = .ok (.aaload, 1) := by decide +kernel
theorem d_Mod_get_38 : decode b_Mod_get 38 = .ok (.iload_n 2, 1) := by decide +kernel
theorem d_Mod_get_39 : decode b_Mod_get 39 = .ok (.baload, 1) := by decide +kernel
theorem d_Mod_get_40 : decode b_Mod_get 40 = .ok (.invokevirtual 238, 3) := by decide +kernel
theorem d_Mod_get_43 : decode b_Mod_get 43 = .ok (.iinc 2 1, 3) := by decide +kernel
theorem d_Mod_get_46 : decode b_Mod_get 46 = .ok (.goto (-31), 3) := by decide +kernel
theorem d_Mod_get_49 : decode b_Mod_get 49 = .ok (.sipush 200, 3) := by decide +kernel
theorem d_Mod_get_52 : decode b_Mod_get 52 = .ok (.ireturn, 1) := by decide +kernel
theorem d_Mod_get_53 : decode b_Mod_get 53 = .ok (.aload_n 0, 1) := by decide +kernel
theorem d_Mod_get_54 : decode b_Mod_get 54 = .ok (.iconst (-1), 1) := by decide +kernel
theorem d_Mod_get_55 : decode b_Mod_get 55 = .ok (.aload_n 0, 1) := by decide +kernel
theorem d_Mod_get_56 : decode b_Mod_get 56 = .ok (.getfield 72, 3) := by decide +kernel
theorem d_Mod_get_59 : decode b_Mod_get 59 = .ok (.iconst 1, 1) := by decide +kernel
theorem d_Mod_get_60 : decode b_Mod_get 60 = .ok (.iconst 0, 1) := by decide +kernel
theorem d_Mod_get_61 : decode b_Mod_get 61 = .ok (.invokevirtual 242, 3) := by decide +kernel
theorem d_Mod_get_64 : decode b_Mod_get 64 = .ok (.istore_n 2, 1) := by decide +kernel
theorem d_Mod_get_65 : decode b_Mod_get 65 = .ok (.iload_n 2, 1) := by decide +kernel
theorem d_Mod_get_66 : decode b_Mod_get 66 = .ok (.ifCond .lt 74, 3) := by decide +kernel
theorem d_Mod_get_69 : decode b_Mod_get 69 = .ok (.aload_n 0, 1) := by decide +kernel
theorem d_Mod_get_70 : decode b_Mod_get 70 = .ok (.getfield 72, 3) := by decide +kernel
theorem d_Mod_get_73 : decode b_Mod_get 73 = .ok (.getfield 103, 3) := by decide +kernel
theorem d_Mod_get_76 : decode b_Mod_get 76 = .ok (.iconst 1, 1) := by decide +kernel
theorem d_Mod_get_77 : decode b_Mod_get 77 = .ok (.iadd, 1) := by decide +kernel
theorem d_Mod_get_78 : decode b_Mod_get 78 = .ok (.istore_n 3, 1) := by decide +kernel
theorem d_Mod_get_79 : decode b_Mod_get 79 = .ok (.iload_n 3, 1) := by decide +kernel
theorem d_Mod_get_80 : decode b_Mod_get 80 = .ok (.aload_n 0, 1) := by decide +kernel
theorem d_Mod_get_81 : decode b_Mod_get 81 = .ok (.getfield 10, 3) := by decide +kernel
theorem d_Mod_get_84 : decode b_Mod_get 84 = .ok (.getfield 216, 3) := by decide +kernel
theorem d_Mod_get_87 : decode b_Mod_get 87 = .ok (.iload_n 2, 1) := by decide +kernel
theorem d_Mod_get_88 : decode b_Mod_get 88 = .ok (.aaload, 1) := by decide +kernel
theorem d_Mod_get_89 : decode b_Mod_get 89 = .ok (.getfield 103, 3) := by decide +kernel
theorem d_Mod_get_92 : decode b_Mod_get 92 = .ok (.if_icmp .ge 27, 3) := by decide +kernel
theorem d_Mod_get_95 : decode b_Mod_get 95 = .ok (.aload_n 0, 1) := by decide +kernel
theorem d_Mod_get_96 : decode b_Mod_get 96 = .ok (.aload_n 0, 1) := by decide +kernel
theorem d_Mod_get_97 : decode b_Mod_get 97 = .ok (.getfield 10, 3) := by decide +kernel
theorem d_Mod_get_100 : decode b_Mod_get 100 = .ok (.getfield 216, 3) := by decide +kernel
theorem d_Mod_get_103 : decode b_Mod_get 103 = .ok (.iload_n 2, 1) := by decide +kernel
theorem d_Mod_get_104 : decode b_Mod_get 104 = .ok (.aaload, 1) := by decide +kernel
theorem d_Mod_get_105 : decode b_Mod_get 105 = .ok (.getfield 116, 3) := by decide +kernel
theorem d_Mod_get_108 : decode b_Mod_get 108 = .ok (.iload_n 3, 1) := by decide +kernel
theorem d_Mod_get_109 : decode b_Mod_get 109 = .ok (.baload, 1) := by decide +kernel
theorem d_Mod_get_110 : decode b_Mod_get 110 = .ok (.invokevirtual 238, 3) := by decide +kernel
theorem d_Mod_get_113 : decode b_Mod_get 113 = .ok (.iinc 3 1, 3) := by decide +kernel
theorem d_Mod_get_116 : decode b_Mod_get 116 = .ok (.goto (-37), 3) := by decide +kernel
theorem d_Mod_get_119 : decode b_Mod_get 119 = .ok (.aload_n 0, 1) := by decide +kernel
theorem d_Mod_get_120 : decode b_Mod_get 120 = .ok (.bipush 10, 2) := by decide +kernel
theorem d_Mod_get_122 : decode b_Mod_get 122 = .ok (.invokevirtual 238, 3) := by decide +kernel
theorem d_Mod_get_125 : decode b_Mod_get 125 = .ok (.aload_n 0, 1) := by decide +kernel
theorem d_Mod_get_126 : decode b_Mod_get 126 = .ok (.iload_n 2, 1) := by decide +kernel
theorem d_Mod_get_127 : decode b_Mod_get 127 = .ok (.aload_n 0, 1) := by decide +kernel
theorem d_Mod_get_128 : decode b_Mod_get 128 = .ok (.getfield 72, 3) := by decide +kernel
theorem d_Mod_get_131 : decode b_Mod_get 131 = .ok (.iconst 1, 1) := by decide +kernel
theorem d_Mod_get_132 : decode b_Mod_get 132 = .ok (.iconst 0, 1) := by decide +kernel
theorem d_Mod_get_133 : decode b_Mod_get 133 = .ok (.invokevirtual 242, 3) := by decide +kernel
theorem d_Mod_get_136 : decode b_Mod_get 136 = .ok (.istore_n 2, 1) := by decide +kernel
theorem d_Mod_get_137 : decode b_Mod_get 137 = .ok (.goto (-72), 3) := by decide +kernel
theorem d_Mod_get_140 : decode b_Mod_get 140 = .ok (.sipush 200, 3) := by decide +kernel
theorem d_Mod_get_143 : decode b_Mod_get 143 = .ok (.ireturn, 1) := by decide +kernel
theorem d_Mod_list_0 : decode b_Mod_list 0 = .ok (.aload_n 0, 1) := by decide +kernel
theorem d_Mod_list_1 : decode b_Mod_list 1 = .ok (.iconst 0, 1) := by decide +kernel
theorem d_Mod_list_2 : decode b_Mod_list 2 = .ok (.invokevirtual 168, 3) := by decide +kernel
theorem d_Mod_list_5 : decode b_Mod_list 5 = .ok (.ifCond .eq 16, 3) := by decide +kernel
theorem d_Mod_list_8 : decode b_Mod_list 8 = .ok (.aload_n 0, 1) := by decide +kernel
theorem d_Mod_list_9 : decode b_Mod_list 9 = .ok (.getfield 78, 3) := by decide +kernel
theorem d_Mod_list_12 : decode b_Mod_list 12 = .ok (.iconst 0, 1) := by decide +kernel
theorem d_Mod_list_13 : decode b_Mod_list 13 = .ok (.iaload, 1) := by decide +kernel
theorem d_Mod_list_14 : decode b_Mod_list 14 = .ok (.ifCond .ne 7, 3) := by decide +kernel
theorem d_Mod_list_17 : decode b_Mod_list 17 = .ok (.iconst 1, 1) := by decide +kernel
theorem d_Mod_list_18 : decode b_Mod_list 18 = .ok (.goto 4, 3) := by decide +kernel
theorem d_Mod_list_21 : decode b_Mod_list 21 = .ok (.iconst 0, 1) := by decide +kernel
theorem d_Mod_list_22 : decode b_Mod_list 22 = .ok (.istore_n 1, 1) := by decide +kernel
theorem d_Mod_list_23 : decode b_Mod_list 23 = .ok (.aload_n 0, 1) := by decide +kernel
theorem d_Mod_list_24 : decode b_Mod_list 24 = .ok (.iconst 0, 1) := by decide +kernel
theorem d_Mod_list_25 : decode b_Mod_list 25 = .ok (.invokevirtual 168, 3) := by decide +kernel
theorem d_Mod_list_28 : decode b_Mod_list 28 = .ok (.ifCond .eq 17, 3) := by decide +kernel
theorem d_Mod_list_31 : decode b_Mod_list 31 = .ok (.aload_n 0, 1) := by decide +kernel
theorem d_Mod_list_32 : decode b_Mod_list 32 = .ok (.getfield 78, 3) := by decide +kernel
theorem d_Mod_list_35 : decode b_Mod_list 35 = .ok (.iconst 0, 1) := by decide +kernel
theorem d_Mod_list_36 : decode b_Mod_list 36 = .ok (.iaload, 1) := by decide +kernel
theorem d_Mod_list_37 : decode b_Mod_list 37 = .ok (.iconst (-1), 1) := by decide +kernel
theorem d_Mod_list_38 : decode b_Mod_list 38 = .ok (.if_icmp .ne 7, 3) := by decide +kernel
theorem d_Mod_list_41 : decode b_Mod_list 41 = .ok (.iconst 1, 1) := by decide +kernel
theorem d_Mod_list_42 : decode b_Mod_list 42 = .ok (.goto 4, 3) := by decide +kernel
theorem d_Mod_list_45 : decode b_Mod_list 45 = .ok (.iconst 0, 1) := by decide +kernel
theorem d_Mod_list_46 : decode b_Mod_list 46 = .ok (.istore_n 2, 1) := by decide +kernel
theorem d_Mod_list_47 : decode b_Mod_list 47 = .ok (.aload_n 0, 1) := by decide +kernel
theorem d_Mod_list_48 : decode b_Mod_list 48 = .ok (.iconst (-1), 1) := by decide +kernel
theorem d_Mod_list_49 : decode b_Mod_list 49 = .ok (.aload_n 0, 1) := by decide +kernel
theorem d_Mod_list_50 : decode b_Mod_list 50 = .ok (.getfield 72, 3) := by decide +kernel
theorem d_Mod_list_53 : decode b_Mod_list 53 = .ok (.iload_n 2, 1) := by decide +kernel
theorem d_Mod_list_54 : decode b_Mod_list 54 = .ok (.ifCond .ne 7, 3) := by decide +kernel
theorem d_Mod_list_57 : decode b_Mod_list 57 = .ok (.iconst 1, 1) := by decide +kernel
theorem d_Mod_list_58 : decode b_Mod_list 58 = .ok (.goto 4, 3) := by decide +kernel
theorem d_Mod_list_61 : decode b_Mod_list 61 = .ok (.iconst 0, 1) := by decide +kernel
theorem d_Mod_list_62 : decode b_Mod_list 62 = .ok (.iconst 1, 1) := by decide +kernel
theorem d_Mod_list_63 : decode b_Mod_list 63 = .ok (.invokevirtual 242, 3) := by decide +kernel
theorem d_Mod_list_66 : decode b_Mod_list 66 = .ok (.istore_n 3, 1) := by decide +kernel
theorem d_Mod_list_67 : decode b_Mod_list 67 = .ok (.iload_n 3, 1) := by decide +kernel
theorem d_Mod_list_68 : decode b_Mod_list 68 = .ok (.ifCond .lt 146, 3) := by decide +kernel
theorem d_Mod_list_71 : decode b_Mod_list 71 = .ok (.iload_n 1, 1) := by decide +kernel
theorem d_Mod_list_72 : decode b_Mod_list 72 = .ok (.ifCond .eq 25, 3) := by decide +kernel
theorem d_Mod_list_75 : decode b_Mod_list 75 = .ok (.aload_n 0, 1) := by decide +kernel
theorem d_Mod_list_76 : decode b_Mod_list 76 = .ok (.getfield 10, 3) := by decide +kernel
theorem d_Mod_list_79 : decode b_Mod_list 79 = .ok (.getfield 216, 3) := by decide +kernel
theorem d_Mod_list_82 : decode b_Mod_list 82 = .ok (.iload_n 3, 1) := by decide +kernel
theorem d_Mod_list_83 : decode b_Mod_list 83 = .ok (.aaload, 1) := by decide +kernel
theorem d_Mod_list_84 : decode b_Mod_list 84 = .ok (.aload_n 0, 1) := by decide +kernel
theorem d_Mod_list_85 : decode b_Mod_list 85 = .ok (.getfield 72, 3) := by decide +kernel
theorem d_Mod_list_88 : decode b_Mod_list 88 = .ok (.invokevirtual 219, 3) := by decide +kernel
theorem d_Mod_list_91 : decode b_Mod_list 91 = .ok (.ifCond .ne 6, 3) := by decide +kernel
theorem d_Mod_list_94 : decode b_Mod_list 94 = .ok (.goto 97, 3) := by decide +kernel
theorem d_Mod_list_97 : decode b_Mod_list 97 = .ok (.aload_n 0, 1) := by decide +kernel
theorem d_Mod_list_98 : decode b_Mod_list 98 = .ok (.getfield 10, 3) := by decide +kernel
theorem d_Mod_list_101 : decode b_Mod_list 101 = .ok (.getfield 216, 3) := by decide +kernel
theorem d_Mod_list_104 : decode b_Mod_list 104 = .ok (.iload_n 3, 1) := by decide +kernel
theorem d_Mod_list_105 : decode b_Mod_list 105 = .ok (.aaload, 1) := by decide +kernel
theorem d_Mod_list_106 : decode b_Mod_list 106 = .ok (.getfield 103, 3) := by decide +kernel
theorem d_Mod_list_109 : decode b_Mod_list 109 = .ok (.iconst 1, 1) := by decide +kernel
theorem d_Mod_list_110 : decode b_Mod_list 110 = .ok (.invokestatic 246, 3) := by decide +kernel
theorem d_Mod_list_113 : decode b_Mod_list 113 = .ok (.istore 4, 2) := by decide +kernel
theorem d_Mod_list_115 : decode b_Mod_list 115 = .ok (.aload_n 0, 1) := by decide +kernel
theorem d_Mod_list_116 : decode b_Mod_list 116 = .ok (.getfield 170, 3) := by decide +kernel
theorem d_Mod_list_119 : decode b_Mod_list 119 = .ok (.iload 4, 2) := by decide +kernel
theorem d_Mod_list_121 : decode b_Mod_list 121 = .ok (.iadd, 1) := by decide +kernel
theorem d_Mod_list_122 : decode b_Mod_list 122 = .ok (.iconst 1, 1) := by decide +kernel
theorem d_Mod_list_123 : decode b_Mod_list 123 = .ok (.iadd, 1) := by decide +kernel
theorem d_Mod_list_124 : decode b_Mod_list 124 = .ok (.sipush 400, 3) := by decide +kernel
theorem d_Mod_list_127 : decode b_Mod_list 127 = .ok (.if_icmp .le 7, 3) := by decide +kernel
theorem d_Mod_list_130 : decode b_Mod_list 130 = .ok (.sipush 207, 3) := by decide +kernel
theorem d_Mod_list_133 : decode b_Mod_list 133 = .ok (.ireturn, 1) := by decide +kernel
theorem d_Mod_list_134 : decode b_Mod_list 134 = .ok (.aload_n 0, 1) := by decide +kernel
theorem d_Mod_list_135 : decode b_Mod_list 135 = .ok (.bipush 47, 2) := by decide +kernel
theorem d_Mod_list_137 : decode b_Mod_list 137 = .ok (.invokevirtual 238, 3) := by decide +kernel
theorem d_Mod_list_140 : decode b_Mod_list 140 = .ok (.iconst 1, 1) := by decide +kernel
theorem d_Mod_list_141 : decode b_Mod_list 141 = .ok (.istore 5, 2) := by decide +kernel
theorem d_Mod_list_143 : decode b_Mod_list 143 = .ok (.iload 5, 2) := by decide +kernel
theorem d_Mod_list_145 : decode b_Mod_list 145 = .ok (.aload_n 0, 1) := by decide +kernel
theorem d_Mod_list_146 : decode b_Mod_list 146 = .ok (.getfield 10, 3) := by decide +kernel
theorem d_Mod_list_149 : decode b_Mod_list 149 = .ok (.getfield 216, 3) := by decide +kernel
theorem d_Mod_list_152 : decode b_Mod_list 152 = .ok (.iload_n 3, 1) := by decide +kernel
theorem d_Mod_list_153 : decode b_Mod_list 153 = .ok (.aaload, 1) := by decide +kernel
theorem d_Mod_list_154 : decode b_Mod_list 154 = .ok (.getfield 103, 3) := by decide +kernel
theorem d_Mod_list_157 : decode b_Mod_list 157 = .ok (.if_icmp .ge 28, 3) := by decide +kernel
theorem d_Mod_list_160 : decode b_Mod_list 160 = .ok (.aload_n 0, 1) := by decide +kernel
theorem d_Mod_list_161 : decode b_Mod_list 161 = .ok (.aload_n 0, 1) := by decide +kernel
theorem d_Mod_list_162 : decode b_Mod_list 162 = .ok (.getfield 10, 3) := by decide +kernel
theorem d_Mod_list_165 : decode b_Mod_list 165 = .ok (.getfield 216, 3) := by decide +kernel
theorem d_Mod_list_168 : decode b_Mod_list 168 = .ok (.iload_n 3, 1) := by decide +kernel
theorem d_Mod_list_169 : decode b_Mod_list 169 = .ok (.aaload, 1) := by decide +kernel
theorem d_Mod_list_170 : decode b_Mod_list 170 = .ok (.getfield 116, 3) := by decide +kernel
theorem d_Mod_list_173 : decode b_Mod_list 173 = .ok (.iload 5, 2) := by decide +kernel
theorem d_Mod_list_175 : decode b_Mod_list 175 = .ok (.baload, 1) := by decide +kernel
theorem d_Mod_list_176 : decode b_Mod_list 176 = .ok (.invokevirtual 238, 3) := by decide +kernel
theorem d_Mod_list_179 : decode b_Mod_list 179 = .ok (.iinc 5 1, 3) := by decide +kernel
theorem d_Mod_list_182 : decode b_Mod_list 182 = .ok (.goto (-39), 3) := by decide +kernel
theorem d_Mod_list_185 : decode b_Mod_list 185 = .ok (.aload_n 0, 1) := by decide +kernel
theorem d_Mod_list_186 : decode b_Mod_list 186 = .ok (.bipush 10, 2) := by decide +kernel
theorem d_Mod_list_188 : decode b_Mod_list 188 = .ok (.invokevirtual 238, 3) := by decide +kernel
theorem d_Mod_list_191 : decode b_Mod_list 191 = .ok (.aload_n 0, 1) := by decide +kernel
theorem d_Mod_list_192 : decode b_Mod_list 192 = .ok (.iload_n 3, 1) := by decide +kernel
theorem d_Mod_list_193 : decode b_Mod_list 193 = .ok (.aload_n 0, 1) := by decide +kernel
theorem d_Mod_list_194 : decode b_Mod_list 194 = .ok (.getfield 72, 3) := by decide +kernel
theorem d_Mod_list_197 : decode b_Mod_list 197 = .ok (.iload_n 2, 1) := by decide +kernel
theorem d_Mod_list_198 : decode b_Mod_list 198 = .ok (.ifCond .ne 7, 3) := by decide +kernel
theorem d_Mod_list_201 : decode b_Mod_list 201 = .ok (.iconst 1, 1) := by decide +kernel
theorem d_Mod_list_202 : decode b_Mod_list 202 = .ok (.goto 4, 3) := by decide +kernel
theorem d_Mod_list_205 : decode b_Mod_list 205 = .ok (.iconst 0, 1) := by decide +kernel
theorem d_Mod_list_206 : decode b_Mod_list 206 = .ok (.iconst 1, 1) := by decide +kernel
theorem d_Mod_list_207 : decode b_Mod_list 207 = .ok (.invokevirtual 242, 3) := by decide +kernel
theorem d_Mod_list_210 : decode b_Mod_list 210 = .ok (.istore_n 3, 1) := by decide +kernel
theorem d_Mod_list_211 : decode b_Mod_list 211 = .ok (.goto (-144), 3) := by decide +kernel
theorem d_Mod_list_214 : decode b_Mod_list 214 = .ok (.sipush 207, 3) := by decide +kernel
theorem d_Mod_list_217 : decode b_Mod_list 217 = .ok (.ireturn, 1) := by decide +kernel
theorem d_Mod_isFree_0 : decode b_Mod_isFree 0 = .ok (.iconst 0, 1) := by decide +kernel
theorem d_Mod_isFree_1 : decode b_Mod_isFree 1 = .ok (.istore_n 2, 1) := by decide +kernel
theorem d_Mod_isFree_2 : decode b_Mod_isFree 2 = .ok (.iconst 0, 1) := by decide +kernel
theorem d_Mod_isFree_3 : decode b_Mod_isFree 3 = .ok (.istore_n 3, 1) := by decide +kernel
theorem d_Mod_isFree_4 : decode b_Mod_isFree 4 = .ok (.iload_n 3, 1) := by decide +kernel
theorem d_Mod_isFree_5 : decode b_Mod_isFree 5 = .ok (.aload_n 0, 1) := by decide +kernel
theorem d_Mod_isFree_6 : decode b_Mod_isFree 6 = .ok (.getfield 10, 3) := by decide +kernel
theorem d_Mod_isFree_9 : decode b_Mod_isFree 9 = .ok (.getfield 251, 3) := by decide +kernel
theorem d_Mod_isFree_12 : decode b_Mod_isFree 12 = .ok (.if_icmp .ge 54, 3) := by decide +kernel
theorem d_Mod_isFree_15 : decode b_Mod_isFree 15 = .ok (.aload_n 0, 1) := by decide +kernel
theorem d_Mod_isFree_16 : decode b_Mod_isFree 16 = .ok (.getfield 10, 3) := by decide +kernel
theorem d_Mod_isFree_19 : decode b_Mod_isFree 19 = .ok (.iload_n 3, 1) := by decide +kernel
theorem d_Mod_isFree_20 : decode b_Mod_isFree 20 = .ok (.aload_n 1, 1) := by decide +kernel
theorem d_Mod_isFree_21 : decode b_Mod_isFree 21 = .ok (.invokevirtual 254, 3) := by decide +kernel
theorem d_Mod_isFree_24 : decode b_Mod_isFree 24 = .ok (.ifCond .ne 6, 3) := by decide +kernel
theorem d_Mod_isFree_27 : decode b_Mod_isFree 27 = .ok (.goto 33, 3) := by decide +kernel
theorem d_Mod_isFree_30 : decode b_Mod_isFree 30 = .ok (.aload_n 0, 1) := by decide +kernel
theorem d_Mod_isFree_31 : decode b_Mod_isFree 31 = .ok (.iconst 5, 1) := by decide +kernel
theorem d_Mod_isFree_32 : decode b_Mod_isFree 32 = .ok (.invokevirtual 168, 3) := by decide +kernel
theorem d_Mod_isFree_35 : decode b_Mod_isFree 35 = .ok (.ifCond .eq 23, 3) := by decide +kernel
theorem d_Mod_isFree_38 : decode b_Mod_isFree 38 = .ok (.aload_n 0, 1) := by decide +kernel
theorem d_Mod_isFree_39 : decode b_Mod_isFree 39 = .ok (.getfield 10, 3) := by decide +kernel
theorem d_Mod_isFree_42 : decode b_Mod_isFree 42 = .ok (.getfield 258, 3) := by decide +kernel
theorem d_Mod_isFree_45 : decode b_Mod_isFree 45 = .ok (.iload_n 3, 1) := by decide +kernel
theorem d_Mod_isFree_46 : decode b_Mod_isFree 46 = .ok (.iaload, 1) := by decide +kernel
theorem d_Mod_isFree_47 : decode b_Mod_isFree 47 = .ok (.aload_n 0, 1) := by decide +kernel
theorem d_Mod_isFree_48 : decode b_Mod_isFree 48 = .ok (.getfield 78, 3) := by decide +kernel
theorem d_Mod_isFree_51 : decode b_Mod_isFree 51 = .ok (.iconst 5, 1) := by decide +kernel
theorem d_Mod_isFree_52 : decode b_Mod_isFree 52 = .ok (.iaload, 1) := by decide +kernel
theorem d_Mod_isFree_53 : decode b_Mod_isFree 53 = .ok (.if_icmp .ne 5, 3) := by decide +kernel
theorem d_Mod_isFree_56 : decode b_Mod_isFree 56 = .ok (.iconst 1, 1) := by decide +kernel
theorem d_Mod_isFree_57 : decode b_Mod_isFree 57 = .ok (.ireturn, 1) := by decide +kernel
theorem d_Mod_isFree_58 : decode b_Mod_isFree 58 = .ok (.iconst 1, 1) := by decide +kernel
theorem d_Mod_isFree_59 : decode b_Mod_isFree 59 = .ok (.istore_n 2, 1) := by decide +kernel
theorem d_Mod_isFree_60 : decode b_Mod_isFree 60 = .ok (.iinc 3 1, 3) := by decide +kernel
theorem d_Mod_isFree_63 : decode b_Mod_isFree 63 = .ok (.goto (-59), 3) := by decide +kernel
theorem d_Mod_isFree_66 : decode b_Mod_isFree 66 = .ok (.iload_n 2, 1) := by decide +kernel
theorem d_Mod_isFree_67 : decode b_Mod_isFree 67 = .ok (.ifCond .ne 7, 3) := by decide +kernel
theorem d_Mod_isFree_70 : decode b_Mod_isFree 70 = .ok (.iconst 1, 1) := by decide +kernel
theorem d_Mod_isFree_71 : decode b_Mod_isFree 71 = .ok (.goto 4, 3) := by decide +kernel
theorem d_Mod_isFree_74 : decode b_Mod_isFree 74 = .ok (.iconst 0, 1) := by decide +kernel
theorem d_Mod_isFree_75 : decode b_Mod_isFree 75 = .ok (.ireturn, 1) := by decide +kernel
theorem d_Mod_areFree_0 : decode b_Mod_areFree 0 = .ok (.iconst 0, 1) := by decide +kernel
theorem d_Mod_areFree_1 : decode b_Mod_areFree 1 = .ok (.istore_n 2, 1) := by decide +kernel
theorem d_Mod_areFree_2 : decode b_Mod_areFree 2 = .ok (.iload_n 2, 1) := by decide +kernel
theorem d_Mod_areFree_3 : decode b_Mod_areFree 3 = .ok (.aload_n 0, 1) := by decide +kernel
theorem d_Mod_areFree_4 : decode b_Mod_areFree 4 = .ok (.getfield 10, 3) := by decide +kernel
theorem d_Mod_areFree_7 : decode b_Mod_areFree 7 = .ok (.getfield 215, 3) := by decide +kernel
theorem d_Mod_areFree_10 : decode b_Mod_areFree 10 = .ok (.if_icmp .ge 59, 3) := by decide +kernel
theorem d_Mod_areFree_13 : decode b_Mod_areFree 13 = .ok (.aload_n 0, 1) := by decide +kernel
theorem d_Mod_areFree_14 : decode b_Mod_areFree 14 = .ok (.getfield 10, 3) := by decide +kernel
theorem d_Mod_areFree_17 : decode b_Mod_areFree 17 = .ok (.getfield 216, 3) := by decide +kernel
theorem d_Mod_areFree_20 : decode b_Mod_areFree 20 = .ok (.iload_n 2, 1) := by decide +kernel
theorem d_Mod_areFree_21 : decode b_Mod_areFree 21 = .ok (.aaload, 1) := by decide +kernel
theorem d_Mod_areFree_22 : decode b_Mod_areFree 22 = .ok (.aload_n 1, 1) := by decide +kernel
theorem d_Mod_areFree_23 : decode b_Mod_areFree 23 = .ok (.invokevirtual 219, 3) := by decide +kernel
theorem d_Mod_areFree_26 : decode b_Mod_areFree 26 = .ok (.ifCond .ne 19, 3) := by decide +kernel
theorem d_Mod_areFree_29 : decode b_Mod_areFree 29 = .ok (.aload_n 0, 1) := by decide +kernel
theorem d_Mod_areFree_30 : decode b_Mod_areFree 30 = .ok (.getfield 10, 3) := by decide +kernel
theorem d_Mod_areFree_33 : decode b_Mod_areFree 33 = .ok (.getfield 216, 3) := by decide +kernel
theorem d_Mod_areFree_36 : decode b_Mod_areFree 36 = .ok (.iload_n 2, 1) := by decide +kernel
theorem d_Mod_areFree_37 : decode b_Mod_areFree 37 = .ok (.aaload, 1) := by decide +kernel
theorem d_Mod_areFree_38 : decode b_Mod_areFree 38 = .ok (.aload_n 1, 1) := by decide +kernel
theorem d_Mod_areFree_39 : decode b_Mod_areFree 39 = .ok (.invokevirtual 226, 3) := by decide +kernel
theorem d_Mod_areFree_42 : decode b_Mod_areFree 42 = .ok (.ifCond .eq 21, 3) := by decide +kernel
theorem d_Mod_areFree_45 : decode b_Mod_areFree 45 = .ok (.aload_n 0, 1) := by decide +kernel
theorem d_Mod_areFree_46 : decode b_Mod_areFree 46 = .ok (.aload_n 0, 1) := by decide +kernel
theorem d_Mod_areFree_47 : decode b_Mod_areFree 47 = .ok (.getfield 10, 3) := by decide +kernel
theorem d_Mod_areFree_50 : decode b_Mod_areFree 50 = .ok (.getfield 216, 3) := by decide +kernel
theorem d_Mod_areFree_53 : decode b_Mod_areFree 53 = .ok (.iload_n 2, 1) := by decide +kernel
theorem d_Mod_areFree_54 : decode b_Mod_areFree 54 = .ok (.aaload, 1) := by decide +kernel
theorem d_Mod_areFree_55 : decode b_Mod_areFree 55 = .ok (.invokevirtual 260, 3) := by decide +kernel
theorem d_Mod_areFree_58 : decode b_Mod_areFree 58 = .ok (.ifCond .ne 5, 3) := by decide +kernel
theorem d_Mod_areFree_61 : decode b_Mod_areFree 61 = .ok (.iconst 0, 1) := by decide +kernel
theorem d_Mod_areFree_62 : decode b_Mod_areFree 62 = .ok (.ireturn, 1) := by decide +kernel
theorem d_Mod_areFree_63 : decode b_Mod_areFree 63 = .ok (.iinc 2 1, 3) := by decide +kernel
theorem d_Mod_areFree_66 : decode b_Mod_areFree 66 = .ok (.goto (-64), 3) := by decide +kernel
theorem d_Mod_areFree_69 : decode b_Mod_areFree 69 = .ok (.iconst 1, 1) := by decide +kernel
theorem d_Mod_areFree_70 : decode b_Mod_areFree 70 = .ok (.ireturn, 1) := by decide +kernel
theorem d_Mod_hasParent_0 : decode b_Mod_hasParent 0 = .ok (.aload_n 0, 1) := by decide +kernel
theorem d_Mod_hasParent_1 : decode b_Mod_hasParent 1 = .ok (.getfield 82, 3) := by decide +kernel
theorem d_Mod_hasParent_4 : decode b_Mod_hasParent 4 = .ok (.aload_n 1, 1) := by decide +kernel
theorem d_Mod_hasParent_5 : decode b_Mod_hasParent 5 = .ok (.invokevirtual 263, 3) := by decide +kernel
theorem d_Mod_hasParent_8 : decode b_Mod_hasParent 8 = .ok (.aload_n 0, 1) := by decide +kernel
theorem d_Mod_hasParent_9 : decode b_Mod_hasParent 9 = .ok (.getfield 10, 3) := by decide +kernel
theorem d_Mod_hasParent_12 : decode b_Mod_hasParent 12 = .ok (.aload_n 0, 1) := by decide +kernel
theorem d_Mod_hasParent_13 : decode b_Mod_hasParent 13 = .ok (.getfield 82, 3) := by decide +kernel
theorem d_Mod_hasParent_16 : decode b_Mod_hasParent 16 = .ok (.invokevirtual 180, 3) := by decide +kernel
theorem d_Mod_hasParent_19 : decode b_Mod_hasParent 19 = .ok (.istore_n 2, 1) := by decide +kernel
theorem d_Mod_hasParent_20 : decode b_Mod_hasParent 20 = .ok (.iload_n 2, 1) := by decide +kernel
theorem d_Mod_hasParent_21 : decode b_Mod_hasParent 21 = .ok (.ifCond .lt 20, 3) := by decide +kernel
theorem d_Mod_hasParent_24 : decode b_Mod_hasParent 24 = .ok (.aload_n 0, 1) := by decide +kernel
theorem d_Mod_hasParent_25 : decode b_Mod_hasParent 25 = .ok (.getfield 10, 3) := by decide +kernel
theorem d_Mod_hasParent_28 : decode b_Mod_hasParent 28 = .ok (.getfield 183, 3) := by decide +kernel
theorem d_Mod_hasParent_31 : decode b_Mod_hasParent 31 = .ok (.iload_n 2, 1) := by decide +kernel
theorem d_Mod_hasParent_32 : decode b_Mod_hasParent 32 = .ok (.iaload, 1) := by decide +kernel
theorem d_Mod_hasParent_33 : decode b_Mod_hasParent 33 = .ok (.iconst 2, 1) := by decide +kernel
theorem d_Mod_hasParent_34 : decode b_Mod_hasParent 34 = .ok (.if_icmp .ne 7, 3) := by decide +kernel
theorem d_Mod_hasParent_37 : decode b_Mod_hasParent 37 = .ok (.iconst 1, 1) := by decide +kernel
theorem d_Mod_hasParent_38 : decode b_Mod_hasParent 38 = .ok (.goto 4, 3) := by decide +kernel
theorem d_Mod_hasParent_41 : decode b_Mod_hasParent 41 = .ok (.iconst 0, 1) := by decide +kernel
theorem d_Mod_hasParent_42 : decode b_Mod_hasParent 42 = .ok (.ireturn, 1) := by decide +kernel
theorem d_Mod_fresh_0 : decode b_Mod_fresh 0 = .ok (.aload_n 0, 1) := by decide +kernel
theorem d_Mod_fresh_1 : decode b_Mod_fresh 1 = .ok (.getfield 10, 3) := by decide +kernel
theorem d_Mod_fresh_4 : decode b_Mod_fresh 4 = .ok (.getfield 215, 3) := by decide +kernel
theorem d_Mod_fresh_7 : decode b_Mod_fresh 7 = .ok (.istore_n 3, 1) := by decide +kernel
theorem d_Mod_fresh_8 : decode b_Mod_fresh 8 = .ok (.aload_n 0, 1) := by decide +kernel
theorem d_Mod_fresh_9 : decode b_Mod_fresh 9 = .ok (.getfield 10, 3) := by decide +kernel
theorem d_Mod_fresh_12 : decode b_Mod_fresh 12 = .ok (.dup, 1) := by decide +kernel
theorem d_Mod_fresh_13 : decode b_Mod_fresh 13 = .ok (.getfield 215, 3) := by decide +kernel
theorem d_Mod_fresh_16 : decode b_Mod_fresh 16 = .ok (.iconst 1, 1) := by decide +kernel
theorem d_Mod_fresh_17 : decode b_Mod_fresh 17 = .ok (.iadd, 1) := by decide +kernel
theorem d_Mod_fresh_18 : decode b_Mod_fresh 18 = .ok (.putfield 215, 3) := by decide +kernel
theorem d_Mod_fresh_21 : decode b_Mod_fresh 21 = .ok (.aload_n 0, 1) := by decide +kernel
theorem d_Mod_fresh_22 : decode b_Mod_fresh 22 = .ok (.getfield 10, 3) := by decide +kernel
theorem d_Mod_fresh_25 : decode b_Mod_fresh 25 = .ok (.getfield 216, 3) := by decide +kernel
theorem d_Mod_fresh_28 : decode b_Mod_fresh 28 = .ok (.iload_n 3, 1) := by decide +kernel
theorem d_Mod_fresh_29 : decode b_Mod_fresh 29 = .ok (.aaload, 1) := by decide +kernel
theorem d_Mod_fresh_30 : decode b_Mod_fresh 30 = .ok (.aload_n 1, 1) := by decide +kernel
theorem d_Mod_fresh_31 : decode b_Mod_fresh 31 = .ok (.invokevirtual 267, 3) := by decide +kernel
theorem d_Mod_fresh_34 : decode b_Mod_fresh 34 = .ok (.aload_n 0, 1) := by decide +kernel
theorem d_Mod_fresh_35 : decode b_Mod_fresh 35 = .ok (.getfield 10, 3) := by decide +kernel
theorem d_Mod_fresh_38 : decode b_Mod_fresh 38 = .ok (.getfield 183, 3) := by decide +kernel
theorem d_Mod_fresh_41 : decode b_Mod_fresh 41 = .ok (.iload_n 3, 1) := by decide +kernel
theorem d_Mod_fresh_42 : decode b_Mod_fresh 42 = .ok (.iload_n 2, 1) := by decide +kernel
theorem d_Mod_fresh_43 : decode b_Mod_fresh 43 = .ok (.iastore, 1) := by decide +kernel
theorem d_Mod_fresh_44 : decode b_Mod_fresh 44 = .ok (.aload_n 0, 1) := by decide +kernel
theorem d_Mod_fresh_45 : decode b_Mod_fresh 45 = .ok (.getfield 10, 3) := by decide +kernel
theorem d_Mod_fresh_48 : decode b_Mod_fresh 48 = .ok (.getfield 186, 3) := by decide +kernel
theorem d_Mod_fresh_51 : decode b_Mod_fresh 51 = .ok (.iload_n 3, 1) := by decide +kernel
theorem d_Mod_fresh_52 : decode b_Mod_fresh 52 = .ok (.iconst 0, 1) := by decide +kernel
theorem d_Mod_fresh_53 : decode b_Mod_fresh 53 = .ok (.iastore, 1) := by decide +kernel
theorem d_Mod_fresh_54 : decode b_Mod_fresh 54 = .ok (.aload_n 0, 1) := by decide +kernel
theorem d_Mod_fresh_55 : decode b_Mod_fresh 55 = .ok (.getfield 10, 3) := by decide +kernel
theorem d_Mod_fresh_58 : decode b_Mod_fresh 58 = .ok (.getfield 232, 3) := by decide +kernel
theorem d_Mod_fresh_61 : decode b_Mod_fresh 61 = .ok (.iload_n 3, 1) := by decide +kernel
theorem d_Mod_fresh_62 : decode b_Mod_fresh 62 = .ok (.iconst 0, 1) := by decide +kernel
theorem d_Mod_fresh_63 : decode b_Mod_fresh 63 = .ok (.iastore, 1) := by decide +kernel
theorem d_Mod_fresh_64 : decode b_Mod_fresh 64 = .ok (.iload_n 3, 1) := by decide +kernel
theorem d_Mod_fresh_65 : decode b_Mod_fresh 65 = .ok (.ireturn, 1) := by decide +kernel
theorem d_Mod_store_0 : decode b_Mod_store 0 = .ok (.iload_n 1, 1) := by decide +kernel
theorem d_Mod_store_1 : decode b_Mod_store 1 = .ok (.istore_n 2, 1) := by decide +kernel
theorem d_Mod_store_2 : decode b_Mod_store 2 = .ok (.iload_n 2, 1) := by decide +kernel
theorem d_Mod_store_3 : decode b_Mod_store 3 = .ok (.ifCond .lt 20, 3) := by decide +kernel
theorem d_Mod_store_6 : decode b_Mod_store 6 = .ok (.aload_n 0, 1) := by decide +kernel
theorem d_Mod_store_7 : decode b_Mod_store 7 = .ok (.getfield 10, 3) := by decide +kernel
theorem d_Mod_store_10 : decode b_Mod_store 10 = .ok (.getfield 183, 3) := by decide +kernel
theorem d_Mod_store_13 : decode b_Mod_store 13 = .ok (.iload_n 2, 1) := by decide +kernel
theorem d_Mod_store_14 : decode b_Mod_store 14 = .ok (.iaload, 1) := by decide +kernel
theorem d_Mod_store_15 : decode b_Mod_store 15 = .ok (.iconst 2, 1) := by decide +kernel
theorem d_Mod_store_16 : decode b_Mod_store 16 = .ok (.if_icmp .ne 7, 3) := by decide +kernel
theorem d_Mod_store_19 : decode b_Mod_store 19 = .ok (.sipush 405, 3) := by decide +kernel
theorem d_Mod_store_22 : decode b_Mod_store 22 = .ok (.ireturn, 1) := by decide +kernel
theorem d_Mod_store_23 : decode b_Mod_store 23 = .ok (.aload_n 0, 1) := by decide +kernel
theorem d_Mod_store_24 : decode b_Mod_store 24 = .ok (.aload_n 0, 1) := by decide +kernel
theorem d_Mod_store_25 : decode b_Mod_store 25 = .ok (.getfield 72, 3) := by decide +kernel
theorem d_Mod_store_28 : decode b_Mod_store 28 = .ok (.invokevirtual 270, 3) := by decide +kernel
theorem d_Mod_store_31 : decode b_Mod_store 31 = .ok (.ifCond .ne 7, 3) := by decide +kernel
theorem d_Mod_store_34 : decode b_Mod_store 34 = .ok (.sipush 409, 3) := by decide +kernel
theorem d_Mod_store_37 : decode b_Mod_store 37 = .ok (.ireturn, 1) := by decide +kernel
theorem d_Mod_store_38 : decode b_Mod_store 38 = .ok (.iload_n 2, 1) := by decide +kernel
theorem d_Mod_store_39 : decode b_Mod_store 39 = .ok (.ifCond .lt 17, 3) := by decide +kernel
theorem d_Mod_store_42 : decode b_Mod_store 42 = .ok (.aload_n 0, 1) := by decide +kernel
theorem d_Mod_store_43 : decode b_Mod_store 43 = .ok (.aload_n 0, 1) := by decide +kernel
theorem d_Mod_store_44 : decode b_Mod_store 44 = .ok (.getfield 72, 3) := by decide +kernel
theorem d_Mod_store_47 : decode b_Mod_store 47 = .ok (.invokevirtual 260, 3) := by decide +kernel
theorem d_Mod_store_50 : decode b_Mod_store 50 = .ok (.ifCond .ne 21, 3) := by decide +kernel
theorem d_Mod_store_53 : decode b_Mod_store 53 = .ok (.goto 14, 3) := by decide +kernel
theorem d_Mod_store_56 : decode b_Mod_store 56 = .ok (.aload_n 0, 1) := by decide +kernel
theorem d_Mod_store_57 : decode b_Mod_store 57 = .ok (.aload_n 0, 1) := by decide +kernel
theorem d_Mod_store_58 : decode b_Mod_store 58 = .ok (.getfield 82, 3) := by decide +kernel
theorem d_Mod_store_61 : decode b_Mod_store 61 = .ok (.invokevirtual 260, 3) := by decide +kernel
theorem d_Mod_store_64 : decode b_Mod_store 64 = .ok (.ifCond .ne 7, 3) := by decide +kernel
theorem d_Mod_store_67 : decode b_Mod_store 67 = .ok (.sipush 423, 3) := by decide +kernel
theorem d_Mod_store_70 : decode b_Mod_store 70 = .ok (.ireturn, 1) := by decide +kernel
theorem d_Mod_store_71 : decode b_Mod_store 71 = .ok (.iload_n 2, 1) := by decide +kernel
theorem d_Mod_store_72 : decode b_Mod_store 72 = .ok (.ifCond .ge 19, 3) := by decide +kernel
theorem d_Mod_store_75 : decode b_Mod_store 75 = .ok (.aload_n 0, 1) := by decide +kernel
theorem d_Mod_store_76 : decode b_Mod_store 76 = .ok (.getfield 10, 3) := by decide +kernel
theorem d_Mod_store_79 : decode b_Mod_store 79 = .ok (.getfield 215, 3) := by decide +kernel
theorem d_Mod_store_82 : decode b_Mod_store 82 = .ok (.bipush 41, 2) := by decide +kernel
theorem d_Mod_store_84 : decode b_Mod_store 84 = .ok (.if_icmp .ne 7, 3) := by decide +kernel
theorem d_Mod_store_87 : decode b_Mod_store 87 = .ok (.sipush 507, 3) := by decide +kernel
theorem d_Mod_store_90 : decode b_Mod_store 90 = .ok (.ireturn, 1) := by decide +kernel
theorem d_Mod_store_91 : decode b_Mod_store 91 = .ok (.iload_n 2, 1) := by decide +kernel
theorem d_Mod_store_92 : decode b_Mod_store 92 = .ok (.ifCond .ge 13, 3) := by decide +kernel
theorem d_Mod_store_95 : decode b_Mod_store 95 = .ok (.aload_n 0, 1) := by decide +kernel
theorem d_Mod_store_96 : decode b_Mod_store 96 = .ok (.aload_n 0, 1) := by decide +kernel
theorem d_Mod_store_97 : decode b_Mod_store 97 = .ok (.getfield 72, 3) := by decide +kernel
theorem d_Mod_store_100 : decode b_Mod_store 100 = .ok (.iconst 1, 1) := by decide +kernel
theorem d_Mod_store_101 : decode b_Mod_store 101 = .ok (.invokevirtual 273, 3) := by decide +kernel
theorem d_Mod_store_104 : decode b_Mod_store 104 = .ok (.istore_n 2, 1) := by decide +kernel
theorem d_Mod_store_105 : decode b_Mod_store 105 = .ok (.aload_n 0, 1) := by decide +kernel
theorem d_Mod_store_106 : decode b_Mod_store 106 = .ok (.dup, 1) := by decide +kernel
theorem d_Mod_store_107 : decode b_Mod_store 107 = .ok (.getfield 277, 3) := by decide +kernel
theorem d_Mod_store_110 : decode b_Mod_store 110 = .ok (.iconst 1, 1) := by decide +kernel
theorem d_Mod_store_111 : decode b_Mod_store 111 = .ok (.iadd, 1) := by decide +kernel
theorem d_Mod_store_112 : decode b_Mod_store 112 = .ok (.putfield 277, 3) := by decide +kernel
theorem d_Mod_store_115 : decode b_Mod_store 115 = .ok (.aload_n 0, 1) := by decide +kernel
theorem d_Mod_store_116 : decode b_Mod_store 116 = .ok (.getfield 10, 3) := by decide +kernel
theorem d_Mod_store_119 : decode b_Mod_store 119 = .ok (.getfield 186, 3) := by decide +kernel
theorem d_Mod_store_122 : decode b_Mod_store 122 = .ok (.iload_n 2, 1) := by decide +kernel
theorem d_Mod_store_123 : decode b_Mod_store 123 = .ok (.aload_n 0, 1) := by decide +kernel
theorem d_Mod_store_124 : decode b_Mod_store 124 = .ok (.getfield 277, 3) := by decide +kernel
theorem d_Mod_store_127 : decode b_Mod_store 127 = .ok (.iastore, 1) := by decide +kernel
theorem d_Mod_store_128 : decode b_Mod_store 128 = .ok (.aload_n 0, 1) := by decide +kernel
theorem d_Mod_store_129 : decode b_Mod_store 129 = .ok (.getfield 10, 3) := by decide +kernel
theorem d_Mod_store_132 : decode b_Mod_store 132 = .ok (.getfield 232, 3) := by decide +kernel
theorem d_Mod_store_135 : decode b_Mod_store 135 = .ok (.iload_n 2, 1) := by decide +kernel
theorem d_Mod_store_136 : decode b_Mod_store 136 = .ok (.aload_n 0, 1) := by decide +kernel
theorem d_Mod_store_137 : decode b_Mod_store 137 = .ok (.getfield 91, 3) := by decide +kernel
theorem d_Mod_store_140 : decode b_Mod_store 140 = .ok (.aload_n 0, 1) := by decide +kernel
theorem d_Mod_store_141 : decode b_Mod_store 141 = .ok (.getfield 162, 3) := by decide +kernel
theorem d_Mod_store_144 : decode b_Mod_store 144 = .ok (.isub, 1) := by decide +kernel
theorem d_Mod_store_145 : decode b_Mod_store 145 = .ok (.iastore, 1) := by decide +kernel
theorem d_Mod_store_146 : decode b_Mod_store 146 = .ok (.iconst 0, 1) := by decide +kernel
theorem d_Mod_store_147 : decode b_Mod_store 147 = .ok (.istore_n 3, 1) := by decide +kernel
theorem d_Mod_store_148 : decode b_Mod_store 148 = .ok (.iload_n 3, 1) := by decide +kernel
theorem d_Mod_store_149 : decode b_Mod_store 149 = .ok (.aload_n 0, 1) := by decide +kernel
theorem d_Mod_store_150 : decode b_Mod_store 150 = .ok (.getfield 91, 3) := by decide +kernel
theorem d_Mod_store_153 : decode b_Mod_store 153 = .ok (.aload_n 0, 1) := by decide +kernel
theorem d_Mod_store_154 : decode b_Mod_store 154 = .ok (.getfield 162, 3) := by decide +kernel
theorem d_Mod_store_157 : decode b_Mod_store 157 = .ok (.isub, 1) := by decide +kernel
theorem d_Mod_store_158 : decode b_Mod_store 158 = .ok (.if_icmp .ge 31, 3) := by decide +kernel
theorem d_Mod_store_161 : decode b_Mod_store 161 = .ok (.aload_n 0, 1) := by decide +kernel
theorem d_Mod_store_162 : decode b_Mod_store 162 = .ok (.getfield 10, 3) := by decide +kernel
theorem d_Mod_store_165 : decode b_Mod_store 165 = .ok (.getfield 234, 3) := by decide +kernel
theorem d_Mod_store_168 : decode b_Mod_store 168 = .ok (.iload_n 2, 1) := by decide +kernel
theorem d_Mod_store_169 : decode b_Mod_store 169 = .ok (.aaload, 1) := by decide +kernel
theorem d_Mod_store_170 : decode b_Mod_store 170 = .ok (.iload_n 3, 1) := by decide +kernel
theorem d_Mod_store_171 : decode b_Mod_store 171 = .ok (.aload_n 0, 1) := by decide +kernel
theorem d_Mod_store_172 : decode b_Mod_store 172 = .ok (.getfield 19, 3) := by decide +kernel
theorem d_Mod_store_175 : decode b_Mod_store 175 = .ok (.aload_n 0, 1) := by decide +kernel
theorem d_Mod_store_176 : decode b_Mod_store 176 = .ok (.getfield 162, 3) := by decide +kernel
theorem d_Mod_store_179 : decode b_Mod_store 179 = .ok (.iload_n 3, 1) := by decide +kernel
theorem d_Mod_store_180 : decode b_Mod_store 180 = .ok (.iadd, 1) := by decide +kernel
theorem d_Mod_store_181 : decode b_Mod_store 181 = .ok (.baload, 1) := by decide +kernel
theorem d_Mod_store_182 : decode b_Mod_store 182 = .ok (.bastore, 1) := by decide +kernel
theorem d_Mod_store_183 : decode b_Mod_store 183 = .ok (.iinc 3 1, 3) := by decide +kernel
theorem d_Mod_store_186 : decode b_Mod_store 186 = .ok (.goto (-38), 3) := by decide +kernel
theorem d_Mod_store_189 : decode b_Mod_store 189 = .ok (.iload_n 1, 1) := by decide +kernel
theorem d_Mod_store_190 : decode b_Mod_store 190 = .ok (.ifCond .ge 9, 3) := by decide +kernel
theorem d_Mod_store_193 : decode b_Mod_store 193 = .ok (.sipush 201, 3) := by decide +kernel
theorem d_Mod_store_196 : decode b_Mod_store 196 = .ok (.goto 6, 3) := by decide +kernel
theorem d_Mod_store_199 : decode b_Mod_store 199 = .ok (.sipush 204, 3) := by decide +kernel
theorem d_Mod_store_202 : decode b_Mod_store 202 = .ok (.ireturn, 1) := by decide +kernel
theorem d_Mod_make_0 : decode b_Mod_make 0 = .ok (.iload_n 1, 1) := by decide +kernel
theorem d_Mod_make_1 : decode b_Mod_make 1 = .ok (.ifCond .lt 7, 3) := by decide +kernel
theorem d_Mod_make_4 : decode b_Mod_make 4 = .ok (.sipush 405, 3) := by decide +kernel
theorem d_Mod_make_7 : decode b_Mod_make 7 = .ok (.ireturn, 1) := by decide +kernel
theorem d_Mod_make_8 : decode b_Mod_make 8 = .ok (.aload_n 0, 1) := by decide +kernel
theorem d_Mod_make_9 : decode b_Mod_make 9 = .ok (.aload_n 0, 1) := by decide +kernel
theorem d_Mod_make_10 : decode b_Mod_make 10 = .ok (.getfield 72, 3) := by decide +kernel
theorem d_Mod_make_13 : decode b_Mod_make 13 = .ok (.invokevirtual 270, 3) := by decide +kernel
theorem d_Mod_make_16 : decode b_Mod_make 16 = .ok (.ifCond .ne 7, 3) := by decide +kernel
theorem d_Mod_make_19 : decode b_Mod_make 19 = .ok (.sipush 409, 3) := by decide +kernel
theorem d_Mod_make_22 : decode b_Mod_make 22 = .ok (.ireturn, 1) := by decide +kernel
theorem d_Mod_make_23 : decode b_Mod_make 23 = .ok (.aload_n 0, 1) := by decide +kernel
theorem d_Mod_make_24 : decode b_Mod_make 24 = .ok (.aload_n 0, 1) := by decide +kernel
theorem d_Mod_make_25 : decode b_Mod_make 25 = .ok (.getfield 82, 3) := by decide +kernel
theorem d_Mod_make_28 : decode b_Mod_make 28 = .ok (.invokevirtual 260, 3) := by decide +kernel
theorem d_Mod_make_31 : decode b_Mod_make 31 = .ok (.ifCond .ne 7, 3) := by decide +kernel
theorem d_Mod_make_34 : decode b_Mod_make 34 = .ok (.sipush 423, 3) := by decide +kernel
theorem d_Mod_make_37 : decode b_Mod_make 37 = .ok (.ireturn, 1) := by decide +kernel
theorem d_Mod_make_38 : decode b_Mod_make 38 = .ok (.aload_n 0, 1) := by decide +kernel
theorem d_Mod_make_39 : decode b_Mod_make 39 = .ok (.getfield 10, 3) := by decide +kernel
theorem d_Mod_make_42 : decode b_Mod_make 42 = .ok (.getfield 215, 3) := by decide +kernel
theorem d_Mod_make_45 : decode b_Mod_make 45 = .ok (.bipush 41, 2) := by decide +kernel
theorem d_Mod_make_47 : decode b_Mod_make 47 = .ok (.if_icmp .ne 7, 3) := by decide +kernel
theorem d_Mod_make_50 : decode b_Mod_make 50 = .ok (.sipush 507, 3) := by decide +kernel
theorem d_Mod_make_53 : decode b_Mod_make 53 = .ok (.ireturn, 1) := by decide +kernel
theorem d_Mod_make_54 : decode b_Mod_make 54 = .ok (.aload_n 0, 1) := by decide +kernel
theorem d_Mod_make_55 : decode b_Mod_make 55 = .ok (.aload_n 0, 1) := by decide +kernel
theorem d_Mod_make_56 : decode b_Mod_make 56 = .ok (.getfield 72, 3) := by decide +kernel
theorem d_Mod_make_59 : decode b_Mod_make 59 = .ok (.iconst 2, 1) := by decide +kernel
theorem d_Mod_make_60 : decode b_Mod_make 60 = .ok (.invokevirtual 273, 3) := by decide +kernel
theorem d_Mod_make_63 : decode b_Mod_make 63 = .ok (.pop, 1) := by decide +kernel
theorem d_Mod_make_64 : decode b_Mod_make 64 = .ok (.sipush 201, 3) := by decide +kernel
theorem d_Mod_make_67 : decode b_Mod_make 67 = .ok (.ireturn, 1) := by decide +kernel
theorem d_Mod_delete_0 : decode b_Mod_delete 0 = .ok (.aload_n 0, 1) := by decide +kernel
theorem d_Mod_delete_1 : decode b_Mod_delete 1 = .ok (.getfield 82, 3) := by decide +kernel
theorem d_Mod_delete_4 : decode b_Mod_delete 4 = .ok (.aload_n 0, 1) := by decide +kernel
theorem d_Mod_delete_5 : decode b_Mod_delete 5 = .ok (.getfield 72, 3) := by decide +kernel
theorem d_Mod_delete_8 : decode b_Mod_delete 8 = .ok (.invokevirtual 263, 3) := by decide +kernel
theorem d_Mod_delete_11 : decode b_Mod_delete 11 = .ok (.aload_n 0, 1) := by decide +kernel
theorem d_Mod_delete_12 : decode b_Mod_delete 12 = .ok (.aload_n 0, 1) := by decide +kernel
theorem d_Mod_delete_13 : decode b_Mod_delete 13 = .ok (.getfield 72, 3) := by decide +kernel
theorem d_Mod_delete_16 : decode b_Mod_delete 16 = .ok (.invokevirtual 280, 3) := by decide +kernel
theorem d_Mod_delete_19 : decode b_Mod_delete 19 = .ok (.ifCond .eq 14, 3) := by decide +kernel
theorem d_Mod_delete_22 : decode b_Mod_delete 22 = .ok (.aload_n 0, 1) := by decide +kernel
theorem d_Mod_delete_23 : decode b_Mod_delete 23 = .ok (.aload_n 0, 1) := by decide +kernel
theorem d_Mod_delete_24 : decode b_Mod_delete 24 = .ok (.getfield 82, 3) := by decide +kernel
theorem d_Mod_delete_27 : decode b_Mod_delete 27 = .ok (.invokevirtual 260, 3) := by decide +kernel
theorem d_Mod_delete_30 : decode b_Mod_delete 30 = .ok (.ifCond .ne 7, 3) := by decide +kernel
theorem d_Mod_delete_33 : decode b_Mod_delete 33 = .ok (.sipush 423, 3) := by decide +kernel
theorem d_Mod_delete_36 : decode b_Mod_delete 36 = .ok (.ireturn, 1) := by decide +kernel
theorem d_Mod_delete_37 : decode b_Mod_delete 37 = .ok (.aload_n 0, 1) := by decide +kernel
theorem d_Mod_delete_38 : decode b_Mod_delete 38 = .ok (.getfield 10, 3) := by decide +kernel
theorem d_Mod_delete_41 : decode b_Mod_delete 41 = .ok (.aload_n 0, 1) := by decide +kernel
theorem d_Mod_delete_42 : decode b_Mod_delete 42 = .ok (.getfield 72, 3) := by decide +kernel
theorem d_Mod_delete_45 : decode b_Mod_delete 45 = .ok (.invokevirtual 283, 3) := by decide +kernel
theorem d_Mod_delete_48 : decode b_Mod_delete 48 = .ok (.sipush 204, 3) := by decide +kernel
theorem d_Mod_delete_51 : decode b_Mod_delete 51 = .ok (.ireturn, 1) := by decide +kernel
theorem d_Mod_target_0 : decode b_Mod_target 0 = .ok (.aload_n 0, 1) := by decide +kernel
theorem d_Mod_target_1 : decode b_Mod_target 1 = .ok (.getfield 88, 3) := by decide +kernel
theorem d_Mod_target_4 : decode b_Mod_target 4 = .ok (.iconst 0, 1) := by decide +kernel
theorem d_Mod_target_5 : decode b_Mod_target 5 = .ok (.putfield 103, 3) := by decide +kernel
theorem d_Mod_target_8 : decode b_Mod_target 8 = .ok (.iconst 0, 1) := by decide +kernel
theorem d_Mod_target_9 : decode b_Mod_target 9 = .ok (.istore_n 2, 1) := by decide +kernel
theorem d_Mod_target_10 : decode b_Mod_target 10 = .ok (.iload_n 2, 1) := by decide +kernel
theorem d_Mod_target_11 : decode b_Mod_target 11 = .ok (.aload_n 0, 1) := by decide +kernel
theorem d_Mod_target_12 : decode b_Mod_target 12 = .ok (.getfield 76, 3) := by decide +kernel
theorem d_Mod_target_15 : decode b_Mod_target 15 = .ok (.getfield 103, 3) := by decide +kernel
theorem d_Mod_target_18 : decode b_Mod_target 18 = .ok (.if_icmp .ge 27, 3) := by decide +kernel
theorem d_Mod_target_21 : decode b_Mod_target 21 = .ok (.aload_n 0, 1) := by decide +kernel
theorem d_Mod_target_22 : decode b_Mod_target 22 = .ok (.getfield 88, 3) := by decide +kernel
theorem d_Mod_target_25 : decode b_Mod_target 25 = .ok (.getfield 116, 3) := by decide +kernel
theorem d_Mod_target_28 : decode b_Mod_target 28 = .ok (.iload_n 2, 1) := by decide +kernel
theorem d_Mod_target_29 : decode b_Mod_target 29 = .ok (.aload_n 0, 1) := by decide +kernel
theorem d_Mod_target_30 : decode b_Mod_target 30 = .ok (.getfield 76, 3) := by decide +kernel
theorem d_Mod_target_33 : decode b_Mod_target 33 = .ok (.getfield 116, 3) := by decide +kernel
theorem d_Mod_target_36 : decode b_Mod_target 36 = .ok (.iload_n 2, 1) := by decide +kernel
theorem d_Mod_target_37 : decode b_Mod_target 37 = .ok (.baload, 1) := by decide +kernel
theorem d_Mod_target_38 : decode b_Mod_target 38 = .ok (.bastore, 1) := by decide +kernel
theorem d_Mod_target_39 : decode b_Mod_target 39 = .ok (.iinc 2 1, 3) := by decide +kernel
theorem d_Mod_target_42 : decode b_Mod_target 42 = .ok (.goto (-32), 3) := by decide +kernel
theorem d_Mod_target_45 : decode b_Mod_target 45 = .ok (.aload_n 0, 1) := by decide +kernel
theorem d_Mod_target_46 : decode b_Mod_target 46 = .ok (.getfield 72, 3) := by decide +kernel
theorem d_Mod_target_49 : decode b_Mod_target 49 = .ok (.getfield 103, 3) := by decide +kernel
theorem d_Mod_target_52 : decode b_Mod_target 52 = .ok (.istore_n 2, 1) := by decide +kernel
theorem d_Mod_target_53 : decode b_Mod_target 53 = .ok (.iload_n 2, 1) := by decide +kernel
theorem d_Mod_target_54 : decode b_Mod_target 54 = .ok (.aload_n 1, 1) := by decide +kernel
theorem d_Mod_target_55 : decode b_Mod_target 55 = .ok (.getfield 103, 3) := by decide +kernel
theorem d_Mod_target_58 : decode b_Mod_target 58 = .ok (.if_icmp .ge 40, 3) := by decide +kernel
theorem d_Mod_target_61 : decode b_Mod_target 61 = .ok (.aload_n 0, 1) := by decide +kernel
theorem d_Mod_target_62 : decode b_Mod_target 62 = .ok (.getfield 88, 3) := by decide +kernel
theorem d_Mod_target_65 : decode b_Mod_target 65 = .ok (.getfield 116, 3) := by decide +kernel
theorem d_Mod_target_68 : decode b_Mod_target 68 = .ok (.aload_n 0, 1) := by decide +kernel
theorem d_Mod_target_69 : decode b_Mod_target 69 = .ok (.getfield 76, 3) := by decide +kernel
theorem d_Mod_target_72 : decode b_Mod_target 72 = .ok (.getfield 103, 3) := by decide +kernel
theorem d_Mod_target_75 : decode b_Mod_target 75 = .ok (.iload_n 2, 1) := by decide +kernel
theorem d_Mod_target_76 : decode b_Mod_target 76 = .ok (.iadd, 1) := by decide +kernel
theorem d_Mod_target_77 : decode b_Mod_target 77 = .ok (.aload_n 0, 1) := by decide +kernel
theorem d_Mod_target_78 : decode b_Mod_target 78 = .ok (.getfield 72, 3) := by decide +kernel
theorem d_Mod_target_81 : decode b_Mod_target 81 = .ok (.getfield 103, 3) := by decide +kernel
theorem d_Mod_target_84 : decode b_Mod_target 84 = .ok (.isub, 1) := by decide +kernel
theorem d_Mod_target_85 : decode b_Mod_target 85 = .ok (.aload_n 1, 1) := by decide +kernel
theorem d_Mod_target_86 : decode b_Mod_target 86 = .ok (.getfield 116, 3) := by decide +kernel
theorem d_Mod_target_89 : decode b_Mod_target 89 = .ok (.iload_n 2, 1) := by decide +kernel
theorem d_Mod_target_90 : decode b_Mod_target 90 = .ok (.baload, 1) := by decide +kernel
theorem d_Mod_target_91 : decode b_Mod_target 91 = .ok (.bastore, 1) := by decide +kernel
theorem d_Mod_target_92 : decode b_Mod_target 92 = .ok (.iinc 2 1, 3) := by decide +kernel
theorem d_Mod_target_95 : decode b_Mod_target 95 = .ok (.goto (-42), 3) := by decide +kernel
theorem d_Mod_target_98 : decode b_Mod_target 98 = .ok (.aload_n 0, 1) := by decide +kernel
theorem d_Mod_target_99 : decode b_Mod_target 99 = .ok (.getfield 88, 3) := by decide +kernel
theorem d_Mod_target_102 : decode b_Mod_target 102 = .ok (.aload_n 0, 1) := by decide +kernel
theorem d_Mod_target_103 : decode b_Mod_target 103 = .ok (.getfield 76, 3) := by decide +kernel
theorem d_Mod_target_106 : decode b_Mod_target 106 = .ok (.getfield 103, 3) := by decide +kernel
theorem d_Mod_target_109 : decode b_Mod_target 109 = .ok (.aload_n 1, 1) := by decide +kernel
theorem d_Mod_target_110 : decode b_Mod_target 110 = .ok (.getfield 103, 3) := by decide +kernel
theorem d_Mod_target_113 : decode b_Mod_target 113 = .ok (.iadd, 1) := by decide +kernel
theorem d_Mod_target_114 : decode b_Mod_target 114 = .ok (.aload_n 0, 1) := by decide +kernel
theorem d_Mod_target_115 : decode b_Mod_target 115 = .ok (.getfield 72, 3) := by decide +kernel
theorem d_Mod_target_118 : decode b_Mod_target 118 = .ok (.getfield 103, 3) := by decide +kernel
theorem d_Mod_target_121 : decode b_Mod_target 121 = .ok (.isub, 1) := by decide +kernel
theorem d_Mod_target_122 : decode b_Mod_target 122 = .ok (.putfield 103, 3) := by decide +kernel
theorem d_Mod_target_125 : decode b_Mod_target 125 = .ok (.return_, 1) := by decide +kernel
theorem d_Mod_goes_0 : decode b_Mod_goes 0 = .ok (.aload_n 1, 1) := by decide +kernel
theorem d_Mod_goes_1 : decode b_Mod_goes 1 = .ok (.aload_n 0, 1) := by decide +kernel
theorem d_Mod_goes_2 : decode b_Mod_goes 2 = .ok (.getfield 72, 3) := by decide +kernel
theorem d_Mod_goes_5 : decode b_Mod_goes 5 = .ok (.invokevirtual 219, 3) := by decide +kernel
theorem d_Mod_goes_8 : decode b_Mod_goes 8 = .ok (.ifCond .ne 18, 3) := by decide +kernel
theorem d_Mod_goes_11 : decode b_Mod_goes 11 = .ok (.iload_n 2, 1) := by decide +kernel
theorem d_Mod_goes_12 : decode b_Mod_goes 12 = .ok (.ifCond .eq 18, 3) := by decide +kernel
theorem d_Mod_goes_15 : decode b_Mod_goes 15 = .ok (.aload_n 1, 1) := by decide +kernel
theorem d_Mod_goes_16 : decode b_Mod_goes 16 = .ok (.aload_n 0, 1) := by decide +kernel
theorem d_Mod_goes_17 : decode b_Mod_goes 17 = .ok (.getfield 72, 3) := by decide +kernel
theorem d_Mod_goes_20 : decode b_Mod_goes 20 = .ok (.invokevirtual 226, 3) := by decide +kernel
theorem d_Mod_goes_23 : decode b_Mod_goes 23 = .ok (.ifCond .eq 7, 3) := by decide +kernel
theorem d_Mod_goes_26 : decode b_Mod_goes 26 = .ok (.iconst 1, 1) := by decide +kernel
theorem d_Mod_goes_27 : decode b_Mod_goes 27 = .ok (.goto 4, 3) := by decide +kernel
theorem d_Mod_goes_30 : decode b_Mod_goes 30 = .ok (.iconst 0, 1) := by decide +kernel
theorem d_Mod_goes_31 : decode b_Mod_goes 31 = .ok (.ireturn, 1) := by decide +kernel
theorem d_Mod_transfer_0 : decode b_Mod_transfer 0 = .ok (.iload_n 2, 1) := by decide +kernel
theorem d_Mod_transfer_1 : decode b_Mod_transfer 1 = .ok (.ifCond .ne 20, 3) := by decide +kernel
theorem d_Mod_transfer_4 : decode b_Mod_transfer 4 = .ok (.aload_n 0, 1) := by decide +kernel
theorem d_Mod_transfer_5 : decode b_Mod_transfer 5 = .ok (.iconst 0, 1) := by decide +kernel
theorem d_Mod_transfer_6 : decode b_Mod_transfer 6 = .ok (.invokevirtual 168, 3) := by decide +kernel
theorem d_Mod_transfer_9 : decode b_Mod_transfer 9 = .ok (.ifCond .eq 12, 3) := by decide +kernel
theorem d_Mod_transfer_12 : decode b_Mod_transfer 12 = .ok (.aload_n 0, 1) := by decide +kernel
theorem d_Mod_transfer_13 : decode b_Mod_transfer 13 = .ok (.getfield 78, 3) := by decide +kernel
theorem d_Mod_transfer_16 : decode b_Mod_transfer 16 = .ok (.iconst 0, 1) := by decide +kernel
theorem d_Mod_transfer_17 : decode b_Mod_transfer 17 = .ok (.iaload, 1) := by decide +kernel
theorem d_Mod_transfer_18 : decode b_Mod_transfer 18 = .ok (.ifCond .eq 7, 3) := by decide +kernel
theorem d_Mod_transfer_21 : decode b_Mod_transfer 21 = .ok (.iconst 1, 1) := by decide +kernel
theorem d_Mod_transfer_22 : decode b_Mod_transfer 22 = .ok (.goto 4, 3) := by decide +kernel
theorem d_Mod_transfer_25 : decode b_Mod_transfer 25 = .ok (.iconst 0, 1) := by decide +kernel
theorem d_Mod_transfer_26 : decode b_Mod_transfer 26 = .ok (.istore_n 3, 1) := by decide +kernel
theorem d_Mod_transfer_27 : decode b_Mod_transfer 27 = .ok (.aload_n 0, 1) := by decide +kernel
theorem d_Mod_transfer_28 : decode b_Mod_transfer 28 = .ok (.getfield 76, 3) := by decide +kernel
theorem d_Mod_transfer_31 : decode b_Mod_transfer 31 = .ok (.getfield 103, 3) := by decide +kernel
theorem d_Mod_transfer_34 : decode b_Mod_transfer 34 = .ok (.ifCond .eq 45, 3) := by decide +kernel
theorem d_Mod_transfer_37 : decode b_Mod_transfer 37 = .ok (.aload_n 0, 1) := by decide +kernel
theorem d_Mod_transfer_38 : decode b_Mod_transfer 38 = .ok (.getfield 76, 3) := by decide +kernel
theorem d_Mod_transfer_41 : decode b_Mod_transfer 41 = .ok (.aload_n 0, 1) := by decide +kernel
theorem d_Mod_transfer_42 : decode b_Mod_transfer 42 = .ok (.getfield 72, 3) := by decide +kernel
theorem d_Mod_transfer_45 : decode b_Mod_transfer 45 = .ok (.invokevirtual 219, 3) := by decide +kernel
theorem d_Mod_transfer_48 : decode b_Mod_transfer 48 = .ok (.ifCond .ne 31, 3) := by decide +kernel
theorem d_Mod_transfer_51 : decode b_Mod_transfer 51 = .ok (.aload_n 0, 1) := by decide +kernel
theorem d_Mod_transfer_52 : decode b_Mod_transfer 52 = .ok (.getfield 76, 3) := by decide +kernel
theorem d_Mod_transfer_55 : decode b_Mod_transfer 55 = .ok (.aload_n 0, 1) := by decide +kernel
theorem d_Mod_transfer_56 : decode b_Mod_transfer 56 = .ok (.getfield 72, 3) := by decide +kernel
theorem d_Mod_transfer_59 : decode b_Mod_transfer 59 = .ok (.invokevirtual 226, 3) := by decide +kernel
theorem d_Mod_transfer_62 : decode b_Mod_transfer 62 = .ok (.ifCond .ne 17, 3) := by decide +kernel
theorem d_Mod_transfer_65 : decode b_Mod_transfer 65 = .ok (.aload_n 0, 1) := by decide +kernel
theorem d_Mod_transfer_66 : decode b_Mod_transfer 66 = .ok (.getfield 72, 3) := by decide +kernel
theorem d_Mod_transfer_69 : decode b_Mod_transfer 69 = .ok (.aload_n 0, 1) := by decide +kernel
theorem d_Mod_transfer_70 : decode b_Mod_transfer 70 = .ok (.getfield 76, 3) := by decide +kernel
theorem d_Mod_transfer_73 : decode b_Mod_transfer 73 = .ok (.invokevirtual 226, 3) := by decide +kernel
theorem d_Mod_transfer_76 : decode b_Mod_transfer 76 = .ok (.ifCond .eq 7, 3) := by decide +kernel
theorem d_Mod_transfer_79 : decode b_Mod_transfer 79 = .ok (.sipush 403, 3) := by decide +kernel
theorem d_Mod_transfer_82 : decode b_Mod_transfer 82 = .ok (.ireturn, 1) := by decide +kernel
theorem d_Mod_transfer_83 : decode b_Mod_transfer 83 = .ok (.aload_n 0, 1) := by decide +kernel
theorem d_Mod_transfer_84 : decode b_Mod_transfer 84 = .ok (.aload_n 0, 1) := by decide +kernel
theorem d_Mod_transfer_85 : decode b_Mod_transfer 85 = .ok (.getfield 76, 3) := by decide +kernel
theorem d_Mod_transfer_88 : decode b_Mod_transfer 88 = .ok (.invokevirtual 270, 3) := by decide +kernel
theorem d_Mod_transfer_91 : decode b_Mod_transfer 91 = .ok (.ifCond .ne 7, 3) := by decide +kernel
theorem d_Mod_transfer_94 : decode b_Mod_transfer 94 = .ok (.sipush 409, 3) := by decide +kernel
theorem d_Mod_transfer_97 : decode b_Mod_transfer 97 = .ok (.ireturn, 1) := by decide +kernel
theorem d_Mod_transfer_98 : decode b_Mod_transfer 98 = .ok (.iconst 0, 1) := by decide +kernel
theorem d_Mod_transfer_99 : decode b_Mod_transfer 99 = .ok (.istore 4, 2) := by decide +kernel
theorem d_Mod_transfer_101 : decode b_Mod_transfer 101 = .ok (.iconst 0, 1) := by decide +kernel
theorem d_Mod_transfer_102 : decode b_Mod_transfer 102 = .ok (.istore 5, 2) := by decide +kernel
theorem d_Mod_transfer_104 : decode b_Mod_transfer 104 = .ok (.iload 5, 2) := by decide +kernel
theorem d_Mod_transfer_106 : decode b_Mod_transfer 106 = .ok (.aload_n 0, 1) := by decide +kernel
theorem d_Mod_transfer_107 : decode b_Mod_transfer 107 = .ok (.getfield 10, 3) := by decide +kernel
theorem d_Mod_transfer_110 : decode b_Mod_transfer 110 = .ok (.getfield 215, 3) := by decide +kernel
theorem d_Mod_transfer_113 : decode b_Mod_transfer 113 = .ok (.if_icmp .ge 70, 3) := by decide +kernel
theorem d_Mod_transfer_116 : decode b_Mod_transfer 116 = .ok (.aload_n 0, 1) := by decide +kernel
theorem d_Mod_transfer_117 : decode b_Mod_transfer 117 = .ok (.aload_n 0, 1) := by decide +kernel
theorem d_Mod_transfer_118 : decode b_Mod_transfer 118 = .ok (.getfield 10, 3) := by decide +kernel
theorem d_Mod_transfer_121 : decode b_Mod_transfer 121 = .ok (.getfield 216, 3) := by decide +kernel
theorem d_Mod_transfer_124 : decode b_Mod_transfer 124 = .ok (.iload 5, 2) := by decide +kernel
theorem d_Mod_transfer_126 : decode b_Mod_transfer 126 = .ok (.aaload, 1) := by decide +kernel
theorem d_Mod_transfer_127 : decode b_Mod_transfer 127 = .ok (.iload_n 3, 1) := by decide +kernel
theorem d_Mod_transfer_128 : decode b_Mod_transfer 128 = .ok (.invokevirtual 286, 3) := by decide +kernel
theorem d_Mod_transfer_131 : decode b_Mod_transfer 131 = .ok (.ifCond .ne 6, 3) := by decide +kernel
theorem d_Mod_transfer_134 : decode b_Mod_transfer 134 = .ok (.goto 43, 3) := by decide +kernel
theorem d_Mod_transfer_137 : decode b_Mod_transfer 137 = .ok (.iinc 4 1, 3) := by decide +kernel
theorem d_Mod_transfer_140 : decode b_Mod_transfer 140 = .ok (.aload_n 0, 1) := by decide +kernel
theorem d_Mod_transfer_141 : decode b_Mod_transfer 141 = .ok (.getfield 76, 3) := by decide +kernel
theorem d_Mod_transfer_144 : decode b_Mod_transfer 144 = .ok (.invokevirtual 290, 3) := by decide +kernel
theorem d_Mod_transfer_147 : decode b_Mod_transfer 147 = .ok (.aload_n 0, 1) := by decide +kernel
theorem d_Mod_transfer_148 : decode b_Mod_transfer 148 = .ok (.getfield 10, 3) := by decide +kernel
theorem d_Mod_transfer_151 : decode b_Mod_transfer 151 = .ok (.getfield 216, 3) := by decide +kernel
theorem d_Mod_transfer_154 : decode b_Mod_transfer 154 = .ok (.iload 5, 2) := by decide +kernel
theorem d_Mod_transfer_156 : decode b_Mod_transfer 156 = .ok (.aaload, 1) := by decide +kernel
theorem d_Mod_transfer_157 : decode b_Mod_transfer 157 = .ok (.invokevirtual 290, 3) := by decide +kernel
theorem d_Mod_transfer_160 : decode b_Mod_transfer 160 = .ok (.iadd, 1) := by decide +kernel
theorem d_Mod_transfer_161 : decode b_Mod_transfer 161 = .ok (.aload_n 0, 1) := by decide +kernel
theorem d_Mod_transfer_162 : decode b_Mod_transfer 162 = .ok (.getfield 72, 3) := by decide +kernel
theorem d_Mod_transfer_165 : decode b_Mod_transfer 165 = .ok (.invokevirtual 290, 3) := by decide +kernel
theorem d_Mod_transfer_168 : decode b_Mod_transfer 168 = .ok (.isub, 1) := by decide +kernel
theorem d_Mod_transfer_169 : decode b_Mod_transfer 169 = .ok (.iconst 5, 1) := by decide +kernel
theorem d_Mod_transfer_170 : decode b_Mod_transfer 170 = .ok (.if_icmp .le 7, 3) := by decide +kernel
theorem d_Mod_transfer_173 : decode b_Mod_transfer 173 = .ok (.sipush 409, 3) := by decide +kernel
theorem d_Mod_transfer_176 : decode b_Mod_transfer 176 = .ok (.ireturn, 1) := by decide +kernel
theorem d_Mod_transfer_177 : decode b_Mod_transfer 177 = .ok (.iinc 5 1, 3) := by decide +kernel
theorem d_Mod_transfer_180 : decode b_Mod_transfer 180 = .ok (.goto (-76), 3) := by decide +kernel
theorem d_Mod_transfer_183 : decode b_Mod_transfer 183 = .ok (.aload_n 0, 1) := by decide +kernel
theorem d_Mod_transfer_184 : decode b_Mod_transfer 184 = .ok (.getfield 10, 3) := by decide +kernel
theorem d_Mod_transfer_187 : decode b_Mod_transfer 187 = .ok (.aload_n 0, 1) := by decide +kernel
theorem d_Mod_transfer_188 : decode b_Mod_transfer 188 = .ok (.getfield 76, 3) := by decide +kernel
theorem d_Mod_transfer_191 : decode b_Mod_transfer 191 = .ok (.invokevirtual 180, 3) := by decide +kernel
theorem d_Mod_transfer_194 : decode b_Mod_transfer 194 = .ok (.istore 5, 2) := by decide +kernel
theorem d_Mod_transfer_196 : decode b_Mod_transfer 196 = .ok (.iload 5, 2) := by decide +kernel
theorem d_Mod_transfer_198 : decode b_Mod_transfer 198 = .ok (.ifCond .lt 24, 3) := by decide +kernel
theorem d_Mod_transfer_201 : decode b_Mod_transfer 201 = .ok (.aload_n 0, 1) := by decide +kernel
theorem d_Mod_transfer_202 : decode b_Mod_transfer 202 = .ok (.iconst 2, 1) := by decide +kernel
theorem d_Mod_transfer_203 : decode b_Mod_transfer 203 = .ok (.invokevirtual 168, 3) := by decide +kernel
theorem d_Mod_transfer_206 : decode b_Mod_transfer 206 = .ok (.ifCond .eq 16, 3) := by decide +kernel
theorem d_Mod_transfer_209 : decode b_Mod_transfer 209 = .ok (.aload_n 0, 1) := by decide +kernel
theorem d_Mod_transfer_210 : decode b_Mod_transfer 210 = .ok (.getfield 78, 3) := by decide +kernel
theorem d_Mod_transfer_213 : decode b_Mod_transfer 213 = .ok (.iconst 2, 1) := by decide +kernel
theorem d_Mod_transfer_214 : decode b_Mod_transfer 214 = .ok (.iaload, 1) := by decide +kernel
theorem d_Mod_transfer_215 : decode b_Mod_transfer 215 = .ok (.ifCond .ne 7, 3) := by decide +kernel
theorem d_Mod_transfer_218 : decode b_Mod_transfer 218 = .ok (.sipush 412, 3) := by decide +kernel
theorem d_Mod_transfer_221 : decode b_Mod_transfer 221 = .ok (.ireturn, 1) := by decide +kernel
theorem d_Mod_transfer_222 : decode b_Mod_transfer 222 = .ok (.iload 5, 2) := by decide +kernel
theorem d_Mod_transfer_224 : decode b_Mod_transfer 224 = .ok (.ifCond .lt 17, 3) := by decide +kernel
theorem d_Mod_transfer_227 : decode b_Mod_transfer 227 = .ok (.aload_n 0, 1) := by decide +kernel
theorem d_Mod_transfer_228 : decode b_Mod_transfer 228 = .ok (.aload_n 0, 1) := by decide +kernel
theorem d_Mod_transfer_229 : decode b_Mod_transfer 229 = .ok (.getfield 76, 3) := by decide +kernel
theorem d_Mod_transfer_232 : decode b_Mod_transfer 232 = .ok (.invokevirtual 280, 3) := by decide +kernel
theorem d_Mod_transfer_235 : decode b_Mod_transfer 235 = .ok (.ifCond .ne 21, 3) := by decide +kernel
theorem d_Mod_transfer_238 : decode b_Mod_transfer 238 = .ok (.goto 14, 3) := by decide +kernel
theorem d_Mod_transfer_241 : decode b_Mod_transfer 241 = .ok (.aload_n 0, 1) := by decide +kernel
theorem d_Mod_transfer_242 : decode b_Mod_transfer 242 = .ok (.aload_n 0, 1) := by decide +kernel
theorem d_Mod_transfer_243 : decode b_Mod_transfer 243 = .ok (.getfield 82, 3) := by decide +kernel
theorem d_Mod_transfer_246 : decode b_Mod_transfer 246 = .ok (.invokevirtual 260, 3) := by decide +kernel
theorem d_Mod_transfer_249 : decode b_Mod_transfer 249 = .ok (.ifCond .ne 7, 3) := by decide +kernel
theorem d_Mod_transfer_252 : decode b_Mod_transfer 252 = .ok (.sipush 423, 3) := by decide +kernel
theorem d_Mod_transfer_255 : decode b_Mod_transfer 255 = .ok (.ireturn, 1) := by decide +kernel
theorem d_Mod_transfer_256 : decode b_Mod_transfer 256 = .ok (.iload_n 2, 1) := by decide +kernel
theorem d_Mod_transfer_257 : decode b_Mod_transfer 257 = .ok (.ifCond .eq 40, 3) := by decide +kernel
theorem d_Mod_transfer_260 : decode b_Mod_transfer 260 = .ok (.aload_n 0, 1) := by decide +kernel
theorem d_Mod_transfer_261 : decode b_Mod_transfer 261 = .ok (.getfield 82, 3) := by decide +kernel
theorem d_Mod_transfer_264 : decode b_Mod_transfer 264 = .ok (.aload_n 0, 1) := by decide +kernel
theorem d_Mod_transfer_265 : decode b_Mod_transfer 265 = .ok (.getfield 72, 3) := by decide +kernel
theorem d_Mod_transfer_268 : decode b_Mod_transfer 268 = .ok (.invokevirtual 263, 3) := by decide +kernel
theorem d_Mod_transfer_271 : decode b_Mod_transfer 271 = .ok (.aload_n 0, 1) := by decide +kernel
theorem d_Mod_transfer_272 : decode b_Mod_transfer 272 = .ok (.aload_n 0, 1) := by decide +kernel
theorem d_Mod_transfer_273 : decode b_Mod_transfer 273 = .ok (.getfield 72, 3) := by decide +kernel
theorem d_Mod_transfer_276 : decode b_Mod_transfer 276 = .ok (.invokevirtual 280, 3) := by decide +kernel
theorem d_Mod_transfer_279 : decode b_Mod_transfer 279 = .ok (.ifCond .eq 14, 3) := by decide +kernel
theorem d_Mod_transfer_282 : decode b_Mod_transfer 282 = .ok (.aload_n 0, 1) := by decide +kernel
theorem d_Mod_transfer_283 : decode b_Mod_transfer 283 = .ok (.aload_n 0, 1) := by decide +kernel
theorem d_Mod_transfer_284 : decode b_Mod_transfer 284 = .ok (.getfield 82, 3) := by decide +kernel
theorem d_Mod_transfer_287 : decode b_Mod_transfer 287 = .ok (.invokevirtual 260, 3) := by decide +kernel
theorem d_Mod_transfer_290 : decode b_Mod_transfer 290 = .ok (.ifCond .ne 7, 3) := by decide +kernel
theorem d_Mod_transfer_293 : decode b_Mod_transfer 293 = .ok (.sipush 423, 3) := by decide +kernel
theorem d_Mod_transfer_296 : decode b_Mod_transfer 296 = .ok (.ireturn, 1) := by decide +kernel
theorem d_Mod_transfer_297 : decode b_Mod_transfer 297 = .ok (.iconst 0, 1) := by decide +kernel
theorem d_Mod_transfer_298 : decode b_Mod_transfer 298 = .ok (.istore 6, 2) := by decide +kernel
theorem d_Mod_transfer_300 : decode b_Mod_transfer 300 = .ok (.iconst 0, 1) := by decide +kernel
theorem d_Mod_transfer_301 : decode b_Mod_transfer 301 = .ok (.istore 7, 2) := by decide +kernel
theorem d_Mod_transfer_303 : decode b_Mod_transfer 303 = .ok (.iload 7, 2) := by decide +kernel
theorem d_Mod_transfer_305 : decode b_Mod_transfer 305 = .ok (.aload_n 0, 1) := by decide +kernel
theorem d_Mod_transfer_306 : decode b_Mod_transfer 306 = .ok (.getfield 10, 3) := by decide +kernel
theorem d_Mod_transfer_309 : decode b_Mod_transfer 309 = .ok (.getfield 215, 3) := by decide +kernel
theorem d_Mod_transfer_312 : decode b_Mod_transfer 312 = .ok (.if_icmp .ge 59, 3) := by decide +kernel
theorem d_Mod_transfer_315 : decode b_Mod_transfer 315 = .ok (.iload 6, 2) := by decide +kernel
theorem d_Mod_transfer_317 : decode b_Mod_transfer 317 = .ok (.aload_n 0, 1) := by decide +kernel
theorem d_Mod_transfer_318 : decode b_Mod_transfer 318 = .ok (.getfield 10, 3) := by decide +kernel
theorem d_Mod_transfer_321 : decode b_Mod_transfer 321 = .ok (.getfield 216, 3) := by decide +kernel
theorem d_Mod_transfer_324 : decode b_Mod_transfer 324 = .ok (.iload 7, 2) := by decide +kernel
theorem d_Mod_transfer_326 : decode b_Mod_transfer 326 = .ok (.aaload, 1) := by decide +kernel
theorem d_Mod_transfer_327 : decode b_Mod_transfer 327 = .ok (.aload_n 0, 1) := by decide +kernel
theorem d_Mod_transfer_328 : decode b_Mod_transfer 328 = .ok (.getfield 76, 3) := by decide +kernel
theorem d_Mod_transfer_331 : decode b_Mod_transfer 331 = .ok (.invokevirtual 219, 3) := by decide +kernel
theorem d_Mod_transfer_334 : decode b_Mod_transfer 334 = .ok (.ifCond .ne 23, 3) := by decide +kernel
theorem d_Mod_transfer_337 : decode b_Mod_transfer 337 = .ok (.aload_n 0, 1) := by decide +kernel
theorem d_Mod_transfer_338 : decode b_Mod_transfer 338 = .ok (.getfield 10, 3) := by decide +kernel
theorem d_Mod_transfer_341 : decode b_Mod_transfer 341 = .ok (.getfield 216, 3) := by decide +kernel
theorem d_Mod_transfer_344 : decode b_Mod_transfer 344 = .ok (.iload 7, 2) := by decide +kernel
theorem d_Mod_transfer_346 : decode b_Mod_transfer 346 = .ok (.aaload, 1) := by decide +kernel
theorem d_Mod_transfer_347 : decode b_Mod_transfer 347 = .ok (.aload_n 0, 1) := by decide +kernel
theorem d_Mod_transfer_348 : decode b_Mod_transfer 348 = .ok (.getfield 76, 3) := by decide +kernel
theorem d_Mod_transfer_351 : decode b_Mod_transfer 351 = .ok (.invokevirtual 226, 3) := by decide +kernel
theorem d_Mod_transfer_354 : decode b_Mod_transfer 354 = .ok (.ifCond .eq 7, 3) := by decide +kernel
theorem d_Mod_transfer_357 : decode b_Mod_transfer 357 = .ok (.iconst 1, 1) := by decide +kernel
theorem d_Mod_transfer_358 : decode b_Mod_transfer 358 = .ok (.goto 4, 3) := by decide +kernel
theorem d_Mod_transfer_361 : decode b_Mod_transfer 361 = .ok (.iconst 0, 1) := by decide +kernel
theorem d_Mod_transfer_362 : decode b_Mod_transfer 362 = .ok (.iadd, 1) := by decide +kernel
theorem d_Mod_transfer_363 : decode b_Mod_transfer 363 = .ok (.istore 6, 2) := by decide +kernel
theorem d_Mod_transfer_365 : decode b_Mod_transfer 365 = .ok (.iinc 7 1, 3) := by decide +kernel
theorem d_Mod_transfer_368 : decode b_Mod_transfer 368 = .ok (.goto (-65), 3) := by decide +kernel
theorem d_Mod_transfer_371 : decode b_Mod_transfer 371 = .ok (.iload_n 2, 1) := by decide +kernel
theorem d_Mod_transfer_372 : decode b_Mod_transfer 372 = .ok (.ifCond .ne 25, 3) := by decide +kernel
theorem d_Mod_transfer_375 : decode b_Mod_transfer 375 = .ok (.aload_n 0, 1) := by decide +kernel
theorem d_Mod_transfer_376 : decode b_Mod_transfer 376 = .ok (.getfield 10, 3) := by decide +kernel
theorem d_Mod_transfer_379 : decode b_Mod_transfer 379 = .ok (.getfield 215, 3) := by decide +kernel
theorem d_Mod_transfer_382 : decode b_Mod_transfer 382 = .ok (.iload 6, 2) := by decide +kernel
theorem d_Mod_transfer_384 : decode b_Mod_transfer 384 = .ok (.isub, 1) := by decide +kernel
theorem d_Mod_transfer_385 : decode b_Mod_transfer 385 = .ok (.iload 4, 2) := by decide +kernel
theorem d_Mod_transfer_387 : decode b_Mod_transfer 387 = .ok (.iadd, 1) := by decide +kernel
theorem d_Mod_transfer_388 : decode b_Mod_transfer 388 = .ok (.bipush 41, 2) := by decide +kernel
theorem d_Mod_transfer_390 : decode b_Mod_transfer 390 = .ok (.if_icmp .le 7, 3) := by decide +kernel
theorem d_Mod_transfer_393 : decode b_Mod_transfer 393 = .ok (.sipush 507, 3) := by decide +kernel
theorem d_Mod_transfer_396 : decode b_Mod_transfer 396 = .ok (.ireturn, 1) := by decide +kernel
theorem d_Mod_transfer_397 : decode b_Mod_transfer 397 = .ok (.aload_n 0, 1) := by decide +kernel
theorem d_Mod_transfer_398 : decode b_Mod_transfer 398 = .ok (.getfield 10, 3) := by decide +kernel
theorem d_Mod_transfer_401 : decode b_Mod_transfer 401 = .ok (.aload_n 0, 1) := by decide +kernel
theorem d_Mod_transfer_402 : decode b_Mod_transfer 402 = .ok (.getfield 76, 3) := by decide +kernel
theorem d_Mod_transfer_405 : decode b_Mod_transfer 405 = .ok (.invokevirtual 283, 3) := by decide +kernel
theorem d_Mod_transfer_408 : decode b_Mod_transfer 408 = .ok (.aload_n 0, 1) := by decide +kernel
theorem d_Mod_transfer_409 : decode b_Mod_transfer 409 = .ok (.getfield 85, 3) := by decide +kernel
theorem d_Mod_transfer_412 : decode b_Mod_transfer 412 = .ok (.aload_n 0, 1) := by decide +kernel
theorem d_Mod_transfer_413 : decode b_Mod_transfer 413 = .ok (.getfield 10, 3) := by decide +kernel
theorem d_Mod_transfer_416 : decode b_Mod_transfer 416 = .ok (.invokevirtual 293, 3) := by decide +kernel
theorem d_Mod_transfer_419 : decode b_Mod_transfer 419 = .ok (.iload_n 2, 1) := by decide +kernel
theorem d_Mod_transfer_420 : decode b_Mod_transfer 420 = .ok (.ifCond .eq 14, 3) := by decide +kernel
theorem d_Mod_transfer_423 : decode b_Mod_transfer 423 = .ok (.aload_n 0, 1) := by decide +kernel
theorem d_Mod_transfer_424 : decode b_Mod_transfer 424 = .ok (.getfield 10, 3) := by decide +kernel
theorem d_Mod_transfer_427 : decode b_Mod_transfer 427 = .ok (.aload_n 0, 1) := by decide +kernel
theorem d_Mod_transfer_428 : decode b_Mod_transfer 428 = .ok (.getfield 72, 3) := by decide +kernel
theorem d_Mod_transfer_431 : decode b_Mod_transfer 431 = .ok (.invokevirtual 283, 3) := by decide +kernel
theorem d_Mod_transfer_434 : decode b_Mod_transfer 434 = .ok (.iconst (-1), 1) := by decide +kernel
theorem d_Mod_transfer_435 : decode b_Mod_transfer 435 = .ok (.istore 7, 2) := by decide +kernel
theorem d_Mod_transfer_437 : decode b_Mod_transfer 437 = .ok (.iconst 0, 1) := by decide +kernel
theorem d_Mod_transfer_438 : decode b_Mod_transfer 438 = .ok (.istore 8, 2) := by decide +kernel
theorem d_Mod_transfer_440 : decode b_Mod_transfer 440 = .ok (.iload 8, 2) := by decide +kernel
theorem d_Mod_transfer_442 : decode b_Mod_transfer 442 = .ok (.iload 4, 2) := by decide +kernel
theorem d_Mod_transfer_444 : decode b_Mod_transfer 444 = .ok (.if_icmp .ge 234, 3) := by decide +kernel
theorem d_Mod_transfer_447 : decode b_Mod_transfer 447 = .ok (.iconst (-1), 1) := by decide +kernel
theorem d_Mod_transfer_448 : decode b_Mod_transfer 448 = .ok (.istore 9, 2) := by decide +kernel
theorem d_Mod_transfer_450 : decode b_Mod_transfer 450 = .ok (.iconst 0, 1) := by decide +kernel
theorem d_Mod_transfer_451 : decode b_Mod_transfer 451 = .ok (.istore 10, 2) := by decide +kernel
theorem d_Mod_transfer_453 : decode b_Mod_transfer 453 = .ok (.iload 10, 2) := by decide +kernel
theorem d_Mod_transfer_455 : decode b_Mod_transfer 455 = .ok (.aload_n 0, 1) := by decide +kernel
theorem d_Mod_transfer_456 : decode b_Mod_transfer 456 = .ok (.getfield 85, 3) := by decide +kernel
theorem d_Mod_transfer_459 : decode b_Mod_transfer 459 = .ok (.getfield 215, 3) := by decide +kernel
theorem d_Mod_transfer_462 : decode b_Mod_transfer 462 = .ok (.if_icmp .ge 96, 3) := by decide +kernel
theorem d_Mod_transfer_465 : decode b_Mod_transfer 465 = .ok (.aload_n 0, 1) := by decide +kernel
theorem d_Mod_transfer_466 : decode b_Mod_transfer 466 = .ok (.aload_n 0, 1) := by decide +kernel
theorem d_Mod_transfer_467 : decode b_Mod_transfer 467 = .ok (.getfield 85, 3) := by decide +kernel
theorem d_Mod_transfer_470 : decode b_Mod_transfer 470 = .ok (.getfield 216, 3) := by decide +kernel
theorem d_Mod_transfer_473 : decode b_Mod_transfer 473 = .ok (.iload 10, 2) := by decide +kernel
theorem d_Mod_transfer_475 : decode b_Mod_transfer 475 = .ok (.aaload, 1) := by decide +kernel
theorem d_Mod_transfer_476 : decode b_Mod_transfer 476 = .ok (.iload_n 3, 1) := by decide +kernel
theorem d_Mod_transfer_477 : decode b_Mod_transfer 477 = .ok (.invokevirtual 286, 3) := by decide +kernel
theorem d_Mod_transfer_480 : decode b_Mod_transfer 480 = .ok (.ifCond .eq 72, 3) := by decide +kernel
theorem d_Mod_transfer_483 : decode b_Mod_transfer 483 = .ok (.iload 7, 2) := by decide +kernel
theorem d_Mod_transfer_485 : decode b_Mod_transfer 485 = .ok (.ifCond .lt 32, 3) := by decide +kernel
theorem d_Mod_transfer_488 : decode b_Mod_transfer 488 = .ok (.aload_n 0, 1) := by decide +kernel
theorem d_Mod_transfer_489 : decode b_Mod_transfer 489 = .ok (.getfield 85, 3) := by decide +kernel
theorem d_Mod_transfer_492 : decode b_Mod_transfer 492 = .ok (.getfield 216, 3) := by decide +kernel
theorem d_Mod_transfer_495 : decode b_Mod_transfer 495 = .ok (.iload 7, 2) := by decide +kernel
theorem d_Mod_transfer_497 : decode b_Mod_transfer 497 = .ok (.aaload, 1) := by decide +kernel
theorem d_Mod_transfer_498 : decode b_Mod_transfer 498 = .ok (.aload_n 0, 1) := by decide +kernel
theorem d_Mod_transfer_499 : decode b_Mod_transfer 499 = .ok (.getfield 85, 3) := by decide +kernel
theorem d_Mod_transfer_502 : decode b_Mod_transfer 502 = .ok (.getfield 216, 3) := by decide +kernel
theorem d_Mod_transfer_505 : decode b_Mod_transfer 505 = .ok (.iload 10, 2) := by decide +kernel
theorem d_Mod_transfer_507 : decode b_Mod_transfer 507 = .ok (.aaload, 1) := by decide +kernel
theorem d_Mod_transfer_508 : decode b_Mod_transfer 508 = .ok (.invokevirtual 229, 3) := by decide +kernel
theorem d_Mod_transfer_511 : decode b_Mod_transfer 511 = .ok (.ifCond .ne 6, 3) := by decide +kernel
theorem d_Mod_transfer_514 : decode b_Mod_transfer 514 = .ok (.goto 38, 3) := by decide +kernel
theorem d_Mod_transfer_517 : decode b_Mod_transfer 517 = .ok (.iload 9, 2) := by decide +kernel
theorem d_Mod_transfer_519 : decode b_Mod_transfer 519 = .ok (.ifCond .lt 29, 3) := by decide +kernel
theorem d_Mod_transfer_522 : decode b_Mod_transfer 522 = .ok (.aload_n 0, 1) := by decide +kernel
theorem d_Mod_transfer_523 : decode b_Mod_transfer 523 = .ok (.getfield 85, 3) := by decide +kernel
theorem d_Mod_transfer_526 : decode b_Mod_transfer 526 = .ok (.getfield 216, 3) := by decide +kernel
theorem d_Mod_transfer_529 : decode b_Mod_transfer 529 = .ok (.iload 10, 2) := by decide +kernel
theorem d_Mod_transfer_531 : decode b_Mod_transfer 531 = .ok (.aaload, 1) := by decide +kernel
theorem d_Mod_transfer_532 : decode b_Mod_transfer 532 = .ok (.aload_n 0, 1) := by decide +kernel
theorem d_Mod_transfer_533 : decode b_Mod_transfer 533 = .ok (.getfield 85, 3) := by decide +kernel
theorem d_Mod_transfer_536 : decode b_Mod_transfer 536 = .ok (.getfield 216, 3) := by decide +kernel
theorem d_Mod_transfer_539 : decode b_Mod_transfer 539 = .ok (.iload 9, 2) := by decide +kernel
theorem d_Mod_transfer_541 : decode b_Mod_transfer 541 = .ok (.aaload, 1) := by decide +kernel
theorem d_Mod_transfer_542 : decode b_Mod_transfer 542 = .ok (.invokevirtual 229, 3) := by decide +kernel
theorem d_Mod_transfer_545 : decode b_Mod_transfer 545 = .ok (.ifCond .eq 7, 3) := by decide +kernel
theorem d_Mod_transfer_548 : decode b_Mod_transfer 548 = .ok (.iload 10, 2) := by decide +kernel
theorem d_Mod_transfer_550 : decode b_Mod_transfer 550 = .ok (.istore 9, 2) := by decide +kernel
theorem d_Mod_transfer_552 : decode b_Mod_transfer 552 = .ok (.iinc 10 1, 3) := by decide +kernel
theorem d_Mod_transfer_555 : decode b_Mod_transfer 555 = .ok (.goto (-102), 3) := by decide +kernel
theorem d_Mod_transfer_558 : decode b_Mod_transfer 558 = .ok (.aload_n 0, 1) := by decide +kernel
theorem d_Mod_transfer_559 : decode b_Mod_transfer 559 = .ok (.getfield 10, 3) := by decide +kernel
theorem d_Mod_transfer_562 : decode b_Mod_transfer 562 = .ok (.getfield 215, 3) := by decide +kernel
theorem d_Mod_transfer_565 : decode b_Mod_transfer 565 = .ok (.istore 10, 2) := by decide +kernel
theorem d_Mod_transfer_567 : decode b_Mod_transfer 567 = .ok (.aload_n 0, 1) := by decide +kernel
theorem d_Mod_transfer_568 : decode b_Mod_transfer 568 = .ok (.getfield 10, 3) := by decide +kernel
theorem d_Mod_transfer_571 : decode b_Mod_transfer 571 = .ok (.dup, 1) := by decide +kernel
theorem d_Mod_transfer_572 : decode b_Mod_transfer 572 = .ok (.getfield 215, 3) := by decide +kernel
theorem d_Mod_transfer_575 : decode b_Mod_transfer 575 = .ok (.iconst 1, 1) := by decide +kernel
theorem d_Mod_transfer_576 : decode b_Mod_transfer 576 = .ok (.iadd, 1) := by decide +kernel
theorem d_Mod_transfer_577 : decode b_Mod_transfer 577 = .ok (.putfield 215, 3) := by decide +kernel
theorem d_Mod_transfer_580 : decode b_Mod_transfer 580 = .ok (.aload_n 0, 1) := by decide +kernel
theorem d_Mod_transfer_581 : decode b_Mod_transfer 581 = .ok (.getfield 10, 3) := by decide +kernel
theorem d_Mod_transfer_584 : decode b_Mod_transfer 584 = .ok (.aload_n 0, 1) := by decide +kernel
theorem d_Mod_transfer_585 : decode b_Mod_transfer 585 = .ok (.getfield 85, 3) := by decide +kernel
theorem d_Mod_transfer_588 : decode b_Mod_transfer 588 = .ok (.iload 9, 2) := by decide +kernel
theorem d_Mod_transfer_590 : decode b_Mod_transfer 590 = .ok (.iload 10, 2) := by decide +kernel
theorem d_Mod_transfer_592 : decode b_Mod_transfer 592 = .ok (.invokevirtual 296, 3) := by decide +kernel
theorem d_Mod_transfer_595 : decode b_Mod_transfer 595 = .ok (.aload_n 0, 1) := by decide +kernel
theorem d_Mod_transfer_596 : decode b_Mod_transfer 596 = .ok (.aload_n 0, 1) := by decide +kernel
theorem d_Mod_transfer_597 : decode b_Mod_transfer 597 = .ok (.getfield 85, 3) := by decide +kernel
theorem d_Mod_transfer_600 : decode b_Mod_transfer 600 = .ok (.getfield 216, 3) := by decide +kernel
theorem d_Mod_transfer_603 : decode b_Mod_transfer 603 = .ok (.iload 9, 2) := by decide +kernel
theorem d_Mod_transfer_605 : decode b_Mod_transfer 605 = .ok (.aaload, 1) := by decide +kernel
theorem d_Mod_transfer_606 : decode b_Mod_transfer 606 = .ok (.invokevirtual 300, 3) := by decide +kernel
theorem d_Mod_transfer_609 : decode b_Mod_transfer 609 = .ok (.aload_n 0, 1) := by decide +kernel
theorem d_Mod_transfer_610 : decode b_Mod_transfer 610 = .ok (.getfield 10, 3) := by decide +kernel
theorem d_Mod_transfer_613 : decode b_Mod_transfer 613 = .ok (.getfield 216, 3) := by decide +kernel
theorem d_Mod_transfer_616 : decode b_Mod_transfer 616 = .ok (.iload 10, 2) := by decide +kernel
theorem d_Mod_transfer_618 : decode b_Mod_transfer 618 = .ok (.aaload, 1) := by decide +kernel
theorem d_Mod_transfer_619 : decode b_Mod_transfer 619 = .ok (.aload_n 0, 1) := by decide +kernel
theorem d_Mod_transfer_620 : decode b_Mod_transfer 620 = .ok (.getfield 88, 3) := by decide +kernel
theorem d_Mod_transfer_623 : decode b_Mod_transfer 623 = .ok (.invokevirtual 267, 3) := by decide +kernel
theorem d_Mod_transfer_626 : decode b_Mod_transfer 626 = .ok (.iload_n 2, 1) := by decide +kernel
theorem d_Mod_transfer_627 : decode b_Mod_transfer 627 = .ok (.ifCond .ne 41, 3) := by decide +kernel
theorem d_Mod_transfer_630 : decode b_Mod_transfer 630 = .ok (.aload_n 0, 1) := by decide +kernel
theorem d_Mod_transfer_631 : decode b_Mod_transfer 631 = .ok (.getfield 10, 3) := by decide +kernel
theorem d_Mod_transfer_634 : decode b_Mod_transfer 634 = .ok (.getfield 183, 3) := by decide +kernel
theorem d_Mod_transfer_637 : decode b_Mod_transfer 637 = .ok (.iload 10, 2) := by decide +kernel
theorem d_Mod_transfer_639 : decode b_Mod_transfer 639 = .ok (.iaload, 1) := by decide +kernel
theorem d_Mod_transfer_640 : decode b_Mod_transfer 640 = .ok (.iconst 1, 1) := by decide +kernel
theorem d_Mod_transfer_641 : decode b_Mod_transfer 641 = .ok (.if_icmp .ne 27, 3) := by decide +kernel
theorem d_Mod_transfer_644 : decode b_Mod_transfer 644 = .ok (.aload_n 0, 1) := by decide +kernel
theorem d_Mod_transfer_645 : decode b_Mod_transfer 645 = .ok (.dup, 1) := by decide +kernel
theorem d_Mod_transfer_646 : decode b_Mod_transfer 646 = .ok (.getfield 277, 3) := by decide +kernel
theorem d_Mod_transfer_649 : decode b_Mod_transfer 649 = .ok (.iconst 1, 1) := by decide +kernel
theorem d_Mod_transfer_650 : decode b_Mod_transfer 650 = .ok (.iadd, 1) := by decide +kernel
theorem d_Mod_transfer_651 : decode b_Mod_transfer 651 = .ok (.putfield 277, 3) := by decide +kernel
theorem d_Mod_transfer_654 : decode b_Mod_transfer 654 = .ok (.aload_n 0, 1) := by decide +kernel
theorem d_Mod_transfer_655 : decode b_Mod_transfer 655 = .ok (.getfield 10, 3) := by decide +kernel
theorem d_Mod_transfer_658 : decode b_Mod_transfer 658 = .ok (.getfield 186, 3) := by decide +kernel
theorem d_Mod_transfer_661 : decode b_Mod_transfer 661 = .ok (.iload 10, 2) := by decide +kernel
theorem d_Mod_transfer_663 : decode b_Mod_transfer 663 = .ok (.aload_n 0, 1) := by decide +kernel
theorem d_Mod_transfer_664 : decode b_Mod_transfer 664 = .ok (.getfield 277, 3) := by decide +kernel
theorem d_Mod_transfer_667 : decode b_Mod_transfer 667 = .ok (.iastore, 1) := by decide +kernel
theorem d_Mod_transfer_668 : decode b_Mod_transfer 668 = .ok (.iload 9, 2) := by decide +kernel
theorem d_Mod_transfer_670 : decode b_Mod_transfer 670 = .ok (.istore 7, 2) := by decide +kernel
theorem d_Mod_transfer_672 : decode b_Mod_transfer 672 = .ok (.iinc 8 1, 3) := by decide +kernel
theorem d_Mod_transfer_675 : decode b_Mod_transfer 675 = .ok (.goto (-235), 3) := by decide +kernel
theorem d_Mod_transfer_678 : decode b_Mod_transfer 678 = .ok (.iload 5, 2) := by decide +kernel
theorem d_Mod_transfer_680 : decode b_Mod_transfer 680 = .ok (.ifCond .ge 9, 3) := by decide +kernel
theorem d_Mod_transfer_683 : decode b_Mod_transfer 683 = .ok (.sipush 201, 3) := by decide +kernel
theorem d_Mod_transfer_686 : decode b_Mod_transfer 686 = .ok (.goto 6, 3) := by decide +kernel
theorem d_Mod_transfer_689 : decode b_Mod_transfer 689 = .ok (.sipush 204, 3) := by decide +kernel
theorem d_Mod_transfer_692 : decode b_Mod_transfer 692 = .ok (.ireturn, 1) := by decide +kernel
theorem d_Mod_held_0 : decode b_Mod_held 0 = .ok (.iconst 0, 1) := by decide +kernel
theorem d_Mod_held_1 : decode b_Mod_held 1 = .ok (.istore_n 1, 1) := by decide +kernel
theorem d_Mod_held_2 : decode b_Mod_held 2 = .ok (.iload_n 1, 1) := by decide +kernel
theorem d_Mod_held_3 : decode b_Mod_held 3 = .ok (.aload_n 0, 1) := by decide +kernel
theorem d_Mod_held_4 : decode b_Mod_held 4 = .ok (.getfield 10, 3) := by decide +kernel
theorem d_Mod_held_7 : decode b_Mod_held 7 = .ok (.getfield 251, 3) := by decide +kernel
theorem d_Mod_held_10 : decode b_Mod_held 10 = .ok (.if_icmp .ge 44, 3) := by decide +kernel
theorem d_Mod_held_13 : decode b_Mod_held 13 = .ok (.aload_n 0, 1) := by decide +kernel
theorem d_Mod_held_14 : decode b_Mod_held 14 = .ok (.getfield 10, 3) := by decide +kernel
theorem d_Mod_held_17 : decode b_Mod_held 17 = .ok (.getfield 258, 3) := by decide +kernel
theorem d_Mod_held_20 : decode b_Mod_held 20 = .ok (.iload_n 1, 1) := by decide +kernel
theorem d_Mod_held_21 : decode b_Mod_held 21 = .ok (.iaload, 1) := by decide +kernel
theorem d_Mod_held_22 : decode b_Mod_held 22 = .ok (.aload_n 0, 1) := by decide +kernel
theorem d_Mod_held_23 : decode b_Mod_held 23 = .ok (.getfield 78, 3) := by decide +kernel
theorem d_Mod_held_26 : decode b_Mod_held 26 = .ok (.iconst 5, 1) := by decide +kernel
theorem d_Mod_held_27 : decode b_Mod_held 27 = .ok (.iaload, 1) := by decide +kernel
theorem d_Mod_held_28 : decode b_Mod_held 28 = .ok (.if_icmp .ne 20, 3) := by decide +kernel
theorem d_Mod_held_31 : decode b_Mod_held 31 = .ok (.aload_n 0, 1) := by decide +kernel
theorem d_Mod_held_32 : decode b_Mod_held 32 = .ok (.getfield 10, 3) := by decide +kernel
theorem d_Mod_held_35 : decode b_Mod_held 35 = .ok (.iload_n 1, 1) := by decide +kernel
theorem d_Mod_held_36 : decode b_Mod_held 36 = .ok (.aload_n 0, 1) := by decide +kernel
theorem d_Mod_held_37 : decode b_Mod_held 37 = .ok (.getfield 72, 3) := by decide +kernel
theorem d_Mod_held_40 : decode b_Mod_held 40 = .ok (.invokevirtual 254, 3) := by decide +kernel
theorem d_Mod_held_43 : decode b_Mod_held 43 = .ok (.ifCond .eq 5, 3) := by decide +kernel
theorem d_Mod_held_46 : decode b_Mod_held 46 = .ok (.iload_n 1, 1) := by decide +kernel
theorem d_Mod_held_47 : decode b_Mod_held 47 = .ok (.ireturn, 1) := by decide +kernel
theorem d_Mod_held_48 : decode b_Mod_held 48 = .ok (.iinc 1 1, 3) := by decide +kernel
theorem d_Mod_held_51 : decode b_Mod_held 51 = .ok (.goto (-49), 3) := by decide +kernel
theorem d_Mod_held_54 : decode b_Mod_held 54 = .ok (.iconst (-1), 1) := by decide +kernel
theorem d_Mod_held_55 : decode b_Mod_held 55 = .ok (.ireturn, 1) := by decide +kernel
theorem d_Mod_putNumber_0 : decode b_Mod_putNumber 0 = .ok (.iload_n 1, 1) := by decide +kernel
theorem d_Mod_putNumber_1 : decode b_Mod_putNumber 1 = .ok (.bipush 9, 2) := by decide +kernel
theorem d_Mod_putNumber_3 : decode b_Mod_putNumber 3 = .ok (.if_icmp .le 11, 3) := by decide +kernel
theorem d_Mod_putNumber_6 : decode b_Mod_putNumber 6 = .ok (.aload_n 0, 1) := by decide +kernel
theorem d_Mod_putNumber_7 : decode b_Mod_putNumber 7 = .ok (.iload_n 1, 1) := by decide +kernel
theorem d_Mod_putNumber_8 : decode b_Mod_putNumber 8 = .ok (.bipush 10, 2) := by decide +kernel
theorem d_Mod_putNumber_10 : decode b_Mod_putNumber 10 = .ok (.idiv, 1) := by decide +kernel
theorem d_Mod_putNumber_11 : decode b_Mod_putNumber 11 = .ok (.invokevirtual 303, 3) := by decide +kernel
theorem d_Mod_putNumber_14 : decode b_Mod_putNumber 14 = .ok (.aload_n 0, 1) := by decide +kernel
theorem d_Mod_putNumber_15 : decode b_Mod_putNumber 15 = .ok (.bipush 48, 2) := by decide +kernel
theorem d_Mod_putNumber_17 : decode b_Mod_putNumber 17 = .ok (.iload_n 1, 1) := by decide +kernel
theorem d_Mod_putNumber_18 : decode b_Mod_putNumber 18 = .ok (.bipush 10, 2) := by decide +kernel
theorem d_Mod_putNumber_20 : decode b_Mod_putNumber 20 = .ok (.irem, 1) := by decide +kernel
theorem d_Mod_putNumber_21 : decode b_Mod_putNumber 21 = .ok (.iadd, 1) := by decide +kernel
theorem d_Mod_putNumber_22 : decode b_Mod_putNumber 22 = .ok (.invokevirtual 238, 3) := by decide +kernel
theorem d_Mod_putNumber_25 : decode b_Mod_putNumber 25 = .ok (.return_, 1) := by decide +kernel
theorem d_Mod_lockIt_0 : decode b_Mod_lockIt 0 = .ok (.aload_n 0, 1) := by decide +kernel
theorem d_Mod_lockIt_1 : decode b_Mod_lockIt 1 = .ok (.getfield 306, 3) := by decide +kernel
theorem d_Mod_lockIt_4 : decode b_Mod_lockIt 4 = .ok (.aload_n 0, 1) := by decide +kernel
theorem d_Mod_lockIt_5 : decode b_Mod_lockIt 5 = .ok (.bipush 6, 2) := by decide +kernel
theorem d_Mod_lockIt_7 : decode b_Mod_lockIt 7 = .ok (.invokevirtual 168, 3) := by decide +kernel
theorem d_Mod_lockIt_10 : decode b_Mod_lockIt 10 = .ok (.ifCond .eq 13, 3) := by decide +kernel
theorem d_Mod_lockIt_13 : decode b_Mod_lockIt 13 = .ok (.aload_n 0, 1) := by decide +kernel
theorem d_Mod_lockIt_14 : decode b_Mod_lockIt 14 = .ok (.getfield 78, 3) := by decide +kernel
theorem d_Mod_lockIt_17 : decode b_Mod_lockIt 17 = .ok (.bipush 6, 2) := by decide +kernel
theorem d_Mod_lockIt_19 : decode b_Mod_lockIt 19 = .ok (.iaload, 1) := by decide +kernel
theorem d_Mod_lockIt_20 : decode b_Mod_lockIt 20 = .ok (.goto 5, 3) := by decide +kernel
theorem d_Mod_lockIt_23 : decode b_Mod_lockIt 23 = .ok (.bipush 100, 2) := by decide +kernel
theorem d_Mod_lockIt_25 : decode b_Mod_lockIt 25 = .ok (.iadd, 1) := by decide +kernel
theorem d_Mod_lockIt_26 : decode b_Mod_lockIt 26 = .ok (.istore_n 1, 1) := by decide +kernel
theorem d_Mod_lockIt_27 : decode b_Mod_lockIt 27 = .ok (.aload_n 0, 1) := by decide +kernel
theorem d_Mod_lockIt_28 : decode b_Mod_lockIt 28 = .ok (.iconst 5, 1) := by decide +kernel
theorem d_Mod_lockIt_29 : decode b_Mod_lockIt 29 = .ok (.invokevirtual 168, 3) := by decide +kernel
theorem d_Mod_lockIt_32 : decode b_Mod_lockIt 32 = .ok (.ifCond .eq 49, 3) := by decide +kernel
theorem d_Mod_lockIt_35 : decode b_Mod_lockIt 35 = .ok (.aload_n 0, 1) := by decide +kernel
theorem d_Mod_lockIt_36 : decode b_Mod_lockIt 36 = .ok (.invokevirtual 309, 3) := by decide +kernel
theorem d_Mod_lockIt_39 : decode b_Mod_lockIt 39 = .ok (.istore_n 2, 1) := by decide +kernel
theorem d_Mod_lockIt_40 : decode b_Mod_lockIt 40 = .ok (.iload_n 2, 1) := by decide +kernel
theorem d_Mod_lockIt_41 : decode b_Mod_lockIt 41 = .ok (.ifCond .ge 7, 3) := by decide +kernel
theorem d_Mod_lockIt_44 : decode b_Mod_lockIt 44 = .ok (.sipush 412, 3) := by decide +kernel
theorem d_Mod_lockIt_47 : decode b_Mod_lockIt 47 = .ok (.ireturn, 1) := by decide +kernel
theorem d_Mod_lockIt_48 : decode b_Mod_lockIt 48 = .ok (.aload_n 0, 1) := by decide +kernel
theorem d_Mod_lockIt_49 : decode b_Mod_lockIt 49 = .ok (.getfield 10, 3) := by decide +kernel
theorem d_Mod_lockIt_52 : decode b_Mod_lockIt 52 = .ok (.getfield 312, 3) := by decide +kernel
theorem d_Mod_lockIt_55 : decode b_Mod_lockIt 55 = .ok (.iload_n 2, 1) := by decide +kernel
theorem d_Mod_lockIt_56 : decode b_Mod_lockIt 56 = .ok (.iload_n 1, 1) := by decide +kernel
theorem d_Mod_lockIt_57 : decode b_Mod_lockIt 57 = .ok (.iastore, 1) := by decide +kernel
theorem d_Mod_lockIt_58 : decode b_Mod_lockIt 58 = .ok (.aload_n 0, 1) := by decide +kernel
theorem d_Mod_lockIt_59 : decode b_Mod_lockIt 59 = .ok (.aload_n 0, 1) := by decide +kernel
theorem d_Mod_lockIt_60 : decode b_Mod_lockIt 60 = .ok (.getfield 10, 3) := by decide +kernel
theorem d_Mod_lockIt_63 : decode b_Mod_lockIt 63 = .ok (.getfield 258, 3) := by decide +kernel
theorem d_Mod_lockIt_66 : decode b_Mod_lockIt 66 = .ok (.iload_n 2, 1) := by decide +kernel
theorem d_Mod_lockIt_67 : decode b_Mod_lockIt 67 = .ok (.iaload, 1) := by decide +kernel
theorem d_Mod_lockIt_68 : decode b_Mod_lockIt 68 = .ok (.invokevirtual 303, 3) := by decide +kernel
theorem d_Mod_lockIt_71 : decode b_Mod_lockIt 71 = .ok (.aload_n 0, 1) := by decide +kernel
theorem d_Mod_lockIt_72 : decode b_Mod_lockIt 72 = .ok (.bipush 10, 2) := by decide +kernel
theorem d_Mod_lockIt_74 : decode b_Mod_lockIt 74 = .ok (.invokevirtual 238, 3) := by decide +kernel
theorem d_Mod_lockIt_77 : decode b_Mod_lockIt 77 = .ok (.sipush 200, 3) := by decide +kernel
theorem d_Mod_lockIt_80 : decode b_Mod_lockIt 80 = .ok (.ireturn, 1) := by decide +kernel
theorem d_Mod_lockIt_81 : decode b_Mod_lockIt 81 = .ok (.aload_n 0, 1) := by decide +kernel
theorem d_Mod_lockIt_82 : decode b_Mod_lockIt 82 = .ok (.iconst 0, 1) := by decide +kernel
theorem d_Mod_lockIt_83 : decode b_Mod_lockIt 83 = .ok (.invokevirtual 168, 3) := by decide +kernel
theorem d_Mod_lockIt_86 : decode b_Mod_lockIt 86 = .ok (.ifCond .eq 13, 3) := by decide +kernel
theorem d_Mod_lockIt_89 : decode b_Mod_lockIt 89 = .ok (.aload_n 0, 1) := by decide +kernel
theorem d_Mod_lockIt_90 : decode b_Mod_lockIt 90 = .ok (.getfield 78, 3) := by decide +kernel
theorem d_Mod_lockIt_93 : decode b_Mod_lockIt 93 = .ok (.iconst 0, 1) := by decide +kernel
theorem d_Mod_lockIt_94 : decode b_Mod_lockIt 94 = .ok (.iaload, 1) := by decide +kernel
theorem d_Mod_lockIt_95 : decode b_Mod_lockIt 95 = .ok (.iconst (-1), 1) := by decide +kernel
theorem d_Mod_lockIt_96 : decode b_Mod_lockIt 96 = .ok (.if_icmp .ne 7, 3) := by decide +kernel
theorem d_Mod_lockIt_99 : decode b_Mod_lockIt 99 = .ok (.iconst 1, 1) := by decide +kernel
theorem d_Mod_lockIt_100 : decode b_Mod_lockIt 100 = .ok (.goto 4, 3) := by decide +kernel
theorem d_Mod_lockIt_103 : decode b_Mod_lockIt 103 = .ok (.iconst 0, 1) := by decide +kernel
theorem d_Mod_lockIt_104 : decode b_Mod_lockIt 104 = .ok (.istore_n 2, 1) := by decide +kernel
theorem d_Mod_lockIt_105 : decode b_Mod_lockIt 105 = .ok (.aload_n 0, 1) := by decide +kernel
theorem d_Mod_lockIt_106 : decode b_Mod_lockIt 106 = .ok (.bipush 7, 2) := by decide +kernel
theorem d_Mod_lockIt_108 : decode b_Mod_lockIt 108 = .ok (.invokevirtual 168, 3) := by decide +kernel
theorem d_Mod_lockIt_111 : decode b_Mod_lockIt 111 = .ok (.ifCond .eq 14, 3) := by decide +kernel
theorem d_Mod_lockIt_114 : decode b_Mod_lockIt 114 = .ok (.aload_n 0, 1) := by decide +kernel
theorem d_Mod_lockIt_115 : decode b_Mod_lockIt 115 = .ok (.getfield 78, 3) := by decide +kernel
theorem d_Mod_lockIt_118 : decode b_Mod_lockIt 118 = .ok (.bipush 7, 2) := by decide +kernel
theorem d_Mod_lockIt_120 : decode b_Mod_lockIt 120 = .ok (.iaload, 1) := by decide +kernel
theorem d_Mod_lockIt_121 : decode b_Mod_lockIt 121 = .ok (.iconst 1, 1) := by decide +kernel
theorem d_Mod_lockIt_122 : decode b_Mod_lockIt 122 = .ok (.if_icmp .ne 7, 3) := by decide +kernel
theorem d_Mod_lockIt_125 : decode b_Mod_lockIt 125 = .ok (.iconst 1, 1) := by decide +kernel
theorem d_Mod_lockIt_126 : decode b_Mod_lockIt 126 = .ok (.goto 4, 3) := by decide +kernel
theorem d_Mod_lockIt_129 : decode b_Mod_lockIt 129 = .ok (.iconst 0, 1) := by decide +kernel
theorem d_Mod_lockIt_130 : decode b_Mod_lockIt 130 = .ok (.istore_n 3, 1) := by decide +kernel
theorem d_Mod_lockIt_131 : decode b_Mod_lockIt 131 = .ok (.iconst 0, 1) := by decide +kernel
theorem d_Mod_lockIt_132 : decode b_Mod_lockIt 132 = .ok (.istore 4, 2) := by decide +kernel
theorem d_Mod_lockIt_134 : decode b_Mod_lockIt 134 = .ok (.iload 4, 2) := by decide +kernel
theorem d_Mod_lockIt_136 : decode b_Mod_lockIt 136 = .ok (.aload_n 0, 1) := by decide +kernel
theorem d_Mod_lockIt_137 : decode b_Mod_lockIt 137 = .ok (.getfield 10, 3) := by decide +kernel
theorem d_Mod_lockIt_140 : decode b_Mod_lockIt 140 = .ok (.getfield 251, 3) := by decide +kernel
theorem d_Mod_lockIt_143 : decode b_Mod_lockIt 143 = .ok (.if_icmp .ge 82, 3) := by decide +kernel
theorem d_Mod_lockIt_146 : decode b_Mod_lockIt 146 = .ok (.aload_n 0, 1) := by decide +kernel
theorem d_Mod_lockIt_147 : decode b_Mod_lockIt 147 = .ok (.getfield 10, 3) := by decide +kernel
theorem d_Mod_lockIt_150 : decode b_Mod_lockIt 150 = .ok (.iload 4, 2) := by decide +kernel
theorem d_Mod_lockIt_152 : decode b_Mod_lockIt 152 = .ok (.aload_n 0, 1) := by decide +kernel
theorem d_Mod_lockIt_153 : decode b_Mod_lockIt 153 = .ok (.getfield 72, 3) := by decide +kernel
theorem d_Mod_lockIt_156 : decode b_Mod_lockIt 156 = .ok (.invokevirtual 254, 3) := by decide +kernel
theorem d_Mod_lockIt_159 : decode b_Mod_lockIt 159 = .ok (.ifCond .ne 27, 3) := by decide +kernel
theorem d_Mod_lockIt_162 : decode b_Mod_lockIt 162 = .ok (.iload_n 2, 1) := by decide +kernel
theorem d_Mod_lockIt_163 : decode b_Mod_lockIt 163 = .ok (.ifCond .eq 27, 3) := by decide +kernel
theorem d_Mod_lockIt_166 : decode b_Mod_lockIt 166 = .ok (.aload_n 0, 1) := by decide +kernel
theorem d_Mod_lockIt_167 : decode b_Mod_lockIt 167 = .ok (.getfield 10, 3) := by decide +kernel
theorem d_Mod_lockIt_170 : decode b_Mod_lockIt 170 = .ok (.getfield 315, 3) := by decide +kernel
theorem d_Mod_lockIt_173 : decode b_Mod_lockIt 173 = .ok (.iload 4, 2) := by decide +kernel
theorem d_Mod_lockIt_175 : decode b_Mod_lockIt 175 = .ok (.aaload, 1) := by decide +kernel
theorem d_Mod_lockIt_176 : decode b_Mod_lockIt 176 = .ok (.aload_n 0, 1) := by decide +kernel
theorem d_Mod_lockIt_177 : decode b_Mod_lockIt 177 = .ok (.getfield 72, 3) := by decide +kernel
theorem d_Mod_lockIt_180 : decode b_Mod_lockIt 180 = .ok (.invokevirtual 226, 3) := by decide +kernel
theorem d_Mod_lockIt_183 : decode b_Mod_lockIt 183 = .ok (.ifCond .eq 7, 3) := by decide +kernel
theorem d_Mod_lockIt_186 : decode b_Mod_lockIt 186 = .ok (.iconst 1, 1) := by decide +kernel
theorem d_Mod_lockIt_187 : decode b_Mod_lockIt 187 = .ok (.goto 4, 3) := by decide +kernel
theorem d_Mod_lockIt_190 : decode b_Mod_lockIt 190 = .ok (.iconst 0, 1) := by decide +kernel
theorem d_Mod_lockIt_191 : decode b_Mod_lockIt 191 = .ok (.istore 5, 2) := by decide +kernel
theorem d_Mod_lockIt_193 : decode b_Mod_lockIt 193 = .ok (.iload 5, 2) := by decide +kernel
theorem d_Mod_lockIt_195 : decode b_Mod_lockIt 195 = .ok (.ifCond .eq 24, 3) := by decide +kernel
theorem d_Mod_lockIt_198 : decode b_Mod_lockIt 198 = .ok (.iload_n 3, 1) := by decide +kernel
theorem d_Mod_lockIt_199 : decode b_Mod_lockIt 199 = .ok (.ifCond .ne 16, 3) := by decide +kernel
theorem d_Mod_lockIt_202 : decode b_Mod_lockIt 202 = .ok (.aload_n 0, 1) := by decide +kernel
theorem d_Mod_lockIt_203 : decode b_Mod_lockIt 203 = .ok (.getfield 10, 3) := by decide +kernel
theorem d_Mod_lockIt_206 : decode b_Mod_lockIt 206 = .ok (.getfield 318, 3) := by decide +kernel
theorem d_Mod_lockIt_209 : decode b_Mod_lockIt 209 = .ok (.iload 4, 2) := by decide +kernel
theorem d_Mod_lockIt_211 : decode b_Mod_lockIt 211 = .ok (.baload, 1) := by decide +kernel
theorem d_Mod_lockIt_212 : decode b_Mod_lockIt 212 = .ok (.ifCond .eq 7, 3) := by decide +kernel
theorem d_Mod_lockIt_215 : decode b_Mod_lockIt 215 = .ok (.sipush 423, 3) := by decide +kernel
theorem d_Mod_lockIt_218 : decode b_Mod_lockIt 218 = .ok (.ireturn, 1) := by decide +kernel
theorem d_Mod_lockIt_219 : decode b_Mod_lockIt 219 = .ok (.iinc 4 1, 3) := by decide +kernel
theorem d_Mod_lockIt_222 : decode b_Mod_lockIt 222 = .ok (.goto (-88), 3) := by decide +kernel
theorem d_Mod_lockIt_225 : decode b_Mod_lockIt 225 = .ok (.aload_n 0, 1) := by decide +kernel
theorem d_Mod_lockIt_226 : decode b_Mod_lockIt 226 = .ok (.getfield 10, 3) := by decide +kernel
theorem d_Mod_lockIt_229 : decode b_Mod_lockIt 229 = .ok (.getfield 251, 3) := by decide +kernel
theorem d_Mod_lockIt_232 : decode b_Mod_lockIt 232 = .ok (.bipush 10, 2) := by decide +kernel
theorem d_Mod_lockIt_234 : decode b_Mod_lockIt 234 = .ok (.if_icmp .ne 7, 3) := by decide +kernel
theorem d_Mod_lockIt_237 : decode b_Mod_lockIt 237 = .ok (.sipush 507, 3) := by decide +kernel
theorem d_Mod_lockIt_240 : decode b_Mod_lockIt 240 = .ok (.ireturn, 1) := by decide +kernel
theorem d_Mod_lockIt_241 : decode b_Mod_lockIt 241 = .ok (.aload_n 0, 1) := by decide +kernel
theorem d_Mod_lockIt_242 : decode b_Mod_lockIt 242 = .ok (.dup, 1) := by decide +kernel
theorem d_Mod_lockIt_243 : decode b_Mod_lockIt 243 = .ok (.getfield 321, 3) := by decide +kernel
theorem d_Mod_lockIt_246 : decode b_Mod_lockIt 246 = .ok (.iconst 1, 1) := by decide +kernel
theorem d_Mod_lockIt_247 : decode b_Mod_lockIt 247 = .ok (.iadd, 1) := by decide +kernel
theorem d_Mod_lockIt_248 : decode b_Mod_lockIt 248 = .ok (.putfield 321, 3) := by decide +kernel
theorem d_Mod_lockIt_251 : decode b_Mod_lockIt 251 = .ok (.aload_n 0, 1) := by decide +kernel
theorem d_Mod_lockIt_252 : decode b_Mod_lockIt 252 = .ok (.getfield 10, 3) := by decide +kernel
theorem d_Mod_lockIt_255 : decode b_Mod_lockIt 255 = .ok (.getfield 315, 3) := by decide +kernel
theorem d_Mod_lockIt_258 : decode b_Mod_lockIt 258 = .ok (.aload_n 0, 1) := by decide +kernel
theorem d_Mod_lockIt_259 : decode b_Mod_lockIt 259 = .ok (.getfield 10, 3) := by decide +kernel
theorem d_Mod_lockIt_262 : decode b_Mod_lockIt 262 = .ok (.getfield 251, 3) := by decide +kernel
theorem d_Mod_lockIt_265 : decode b_Mod_lockIt 265 = .ok (.aaload, 1) := by decide +kernel
theorem d_Mod_lockIt_266 : decode b_Mod_lockIt 266 = .ok (.aload_n 0, 1) := by decide +kernel
theorem d_Mod_lockIt_267 : decode b_Mod_lockIt 267 = .ok (.getfield 72, 3) := by decide +kernel
theorem d_Mod_lockIt_270 : decode b_Mod_lockIt 270 = .ok (.invokevirtual 267, 3) := by decide +kernel
theorem d_Mod_lockIt_273 : decode b_Mod_lockIt 273 = .ok (.aload_n 0, 1) := by decide +kernel
theorem d_Mod_lockIt_274 : decode b_Mod_lockIt 274 = .ok (.getfield 10, 3) := by decide +kernel
theorem d_Mod_lockIt_277 : decode b_Mod_lockIt 277 = .ok (.getfield 258, 3) := by decide +kernel
theorem d_Mod_lockIt_280 : decode b_Mod_lockIt 280 = .ok (.aload_n 0, 1) := by decide +kernel
theorem d_Mod_lockIt_281 : decode b_Mod_lockIt 281 = .ok (.getfield 10, 3) := by decide +kernel
theorem d_Mod_lockIt_284 : decode b_Mod_lockIt 284 = .ok (.getfield 251, 3) := by decide +kernel
theorem d_Mod_lockIt_287 : decode b_Mod_lockIt 287 = .ok (.aload_n 0, 1) := by decide +kernel
theorem d_Mod_lockIt_288 : decode b_Mod_lockIt 288 = .ok (.getfield 321, 3) := by decide +kernel
theorem d_Mod_lockIt_291 : decode b_Mod_lockIt 291 = .ok (.iastore, 1) := by decide +kernel
theorem d_Mod_lockIt_292 : decode b_Mod_lockIt 292 = .ok (.aload_n 0, 1) := by decide +kernel
theorem d_Mod_lockIt_293 : decode b_Mod_lockIt 293 = .ok (.getfield 10, 3) := by decide +kernel
theorem d_Mod_lockIt_296 : decode b_Mod_lockIt 296 = .ok (.getfield 324, 3) := by decide +kernel
theorem d_Mod_lockIt_299 : decode b_Mod_lockIt 299 = .ok (.aload_n 0, 1) := by decide +kernel
theorem d_Mod_lockIt_300 : decode b_Mod_lockIt 300 = .ok (.getfield 10, 3) := by decide +kernel
theorem d_Mod_lockIt_303 : decode b_Mod_lockIt 303 = .ok (.getfield 251, 3) := by decide +kernel
theorem d_Mod_lockIt_306 : decode b_Mod_lockIt 306 = .ok (.iload_n 2, 1) := by decide +kernel
theorem d_Mod_lockIt_307 : decode b_Mod_lockIt 307 = .ok (.bastore, 1) := by decide +kernel
theorem d_Mod_lockIt_308 : decode b_Mod_lockIt 308 = .ok (.aload_n 0, 1) := by decide +kernel
theorem d_Mod_lockIt_309 : decode b_Mod_lockIt 309 = .ok (.getfield 10, 3) := by decide +kernel
theorem d_Mod_lockIt_312 : decode b_Mod_lockIt 312 = .ok (.getfield 318, 3) := by decide +kernel
theorem d_Mod_lockIt_315 : decode b_Mod_lockIt 315 = .ok (.aload_n 0, 1) := by decide +kernel
theorem d_Mod_lockIt_316 : decode b_Mod_lockIt 316 = .ok (.getfield 10, 3) := by decide +kernel
theorem d_Mod_lockIt_319 : decode b_Mod_lockIt 319 = .ok (.getfield 251, 3) := by decide +kernel
theorem d_Mod_lockIt_322 : decode b_Mod_lockIt 322 = .ok (.iload_n 3, 1) := by decide +kernel
theorem d_Mod_lockIt_323 : decode b_Mod_lockIt 323 = .ok (.bastore, 1) := by decide +kernel
theorem d_Mod_lockIt_324 : decode b_Mod_lockIt 324 = .ok (.aload_n 0, 1) := by decide +kernel
theorem d_Mod_lockIt_325 : decode b_Mod_lockIt 325 = .ok (.getfield 10, 3) := by decide +kernel
theorem d_Mod_lockIt_328 : decode b_Mod_lockIt 328 = .ok (.getfield 312, 3) := by decide +kernel
theorem d_Mod_lockIt_331 : decode b_Mod_lockIt 331 = .ok (.aload_n 0, 1) := by decide +kernel
theorem d_Mod_lockIt_332 : decode b_Mod_lockIt 332 = .ok (.getfield 10, 3) := by decide +kernel
theorem d_Mod_lockIt_335 : decode b_Mod_lockIt 335 = .ok (.getfield 251, 3) := by decide +kernel
theorem d_Mod_lockIt_338 : decode b_Mod_lockIt 338 = .ok (.iload_n 1, 1) := by decide +kernel
theorem d_Mod_lockIt_339 : decode b_Mod_lockIt 339 = .ok (.iastore, 1) := by decide +kernel
theorem d_Mod_lockIt_340 : decode b_Mod_lockIt 340 = .ok (.aload_n 0, 1) := by decide +kernel
theorem d_Mod_lockIt_341 : decode b_Mod_lockIt 341 = .ok (.getfield 10, 3) := by decide +kernel
theorem d_Mod_lockIt_344 : decode b_Mod_lockIt 344 = .ok (.dup, 1) := by decide +kernel
theorem d_Mod_lockIt_345 : decode b_Mod_lockIt 345 = .ok (.getfield 251, 3) := by decide +kernel
theorem d_Mod_lockIt_348 : decode b_Mod_lockIt 348 = .ok (.iconst 1, 1) := by decide +kernel
theorem d_Mod_lockIt_349 : decode b_Mod_lockIt 349 = .ok (.iadd, 1) := by decide +kernel
theorem d_Mod_lockIt_350 : decode b_Mod_lockIt 350 = .ok (.putfield 251, 3) := by decide +kernel
theorem d_Mod_lockIt_353 : decode b_Mod_lockIt 353 = .ok (.aload_n 0, 1) := by decide +kernel
theorem d_Mod_lockIt_354 : decode b_Mod_lockIt 354 = .ok (.aload_n 0, 1) := by decide +kernel
theorem d_Mod_lockIt_355 : decode b_Mod_lockIt 355 = .ok (.getfield 321, 3) := by decide +kernel
theorem d_Mod_lockIt_358 : decode b_Mod_lockIt 358 = .ok (.invokevirtual 303, 3) := by decide +kernel
theorem d_Mod_lockIt_361 : decode b_Mod_lockIt 361 = .ok (.aload_n 0, 1) := by decide +kernel
theorem d_Mod_lockIt_362 : decode b_Mod_lockIt 362 = .ok (.bipush 10, 2) := by decide +kernel
theorem d_Mod_lockIt_364 : decode b_Mod_lockIt 364 = .ok (.invokevirtual 238, 3) := by decide +kernel
theorem d_Mod_lockIt_367 : decode b_Mod_lockIt 367 = .ok (.sipush 201, 3) := by decide +kernel
theorem d_Mod_lockIt_370 : decode b_Mod_lockIt 370 = .ok (.ireturn, 1) := by decide +kernel
theorem d_Mod_unlock_0 : decode b_Mod_unlock 0 = .ok (.aload_n 0, 1) := by decide +kernel
theorem d_Mod_unlock_1 : decode b_Mod_unlock 1 = .ok (.invokevirtual 309, 3) := by decide +kernel
theorem d_Mod_unlock_4 : decode b_Mod_unlock 4 = .ok (.istore_n 1, 1) := by decide +kernel
theorem d_Mod_unlock_5 : decode b_Mod_unlock 5 = .ok (.iload_n 1, 1) := by decide +kernel
theorem d_Mod_unlock_6 : decode b_Mod_unlock 6 = .ok (.ifCond .ge 7, 3) := by decide +kernel
theorem d_Mod_unlock_9 : decode b_Mod_unlock 9 = .ok (.sipush 412, 3) := by decide +kernel
theorem d_Mod_unlock_12 : decode b_Mod_unlock 12 = .ok (.ireturn, 1) := by decide +kernel
theorem d_Mod_unlock_13 : decode b_Mod_unlock 13 = .ok (.aload_n 0, 1) := by decide +kernel
theorem d_Mod_unlock_14 : decode b_Mod_unlock 14 = .ok (.getfield 10, 3) := by decide +kernel
theorem d_Mod_unlock_17 : decode b_Mod_unlock 17 = .ok (.iload_n 1, 1) := by decide +kernel
theorem d_Mod_unlock_18 : decode b_Mod_unlock 18 = .ok (.invokevirtual 327, 3) := by decide +kernel
theorem d_Mod_unlock_21 : decode b_Mod_unlock 21 = .ok (.sipush 204, 3) := by decide +kernel
theorem d_Mod_unlock_24 : decode b_Mod_unlock 24 = .ok (.ireturn, 1) := by decide +kernel
theorem d_Mod_octet_0 : decode b_Mod_octet 0 = .ok (.iload_n 1, 1) := by decide +kernel
theorem d_Mod_octet_1 : decode b_Mod_octet 1 = .ok (.iconst (-1), 1) := by decide +kernel
theorem d_Mod_octet_2 : decode b_Mod_octet 2 = .ok (.if_icmp .ne 8, 3) := by decide +kernel
theorem d_Mod_octet_5 : decode b_Mod_octet 5 = .ok (.aload_n 0, 1) := by decide +kernel
theorem d_Mod_octet_6 : decode b_Mod_octet 6 = .ok (.getfield 170, 3) := by decide +kernel
theorem d_Mod_octet_9 : decode b_Mod_octet 9 = .ok (.ireturn, 1) := by decide +kernel
theorem d_Mod_octet_10 : decode b_Mod_octet 10 = .ok (.iload_n 1, 1) := by decide +kernel
theorem d_Mod_octet_11 : decode b_Mod_octet 11 = .ok (.ifCond .lt 11, 3) := by decide +kernel
theorem d_Mod_octet_14 : decode b_Mod_octet 14 = .ok (.iload_n 1, 1) := by decide +kernel
theorem d_Mod_octet_15 : decode b_Mod_octet 15 = .ok (.aload_n 0, 1) := by decide +kernel
theorem d_Mod_octet_16 : decode b_Mod_octet 16 = .ok (.getfield 170, 3) := by decide +kernel
theorem d_Mod_octet_19 : decode b_Mod_octet 19 = .ok (.if_icmp .lt 8, 3) := by decide +kernel
theorem d_Mod_octet_22 : decode b_Mod_octet 22 = .ok (.bipush (-2), 2) := by decide +kernel
theorem d_Mod_octet_24 : decode b_Mod_octet 24 = .ok (.goto 13, 3) := by decide +kernel
theorem d_Mod_octet_27 : decode b_Mod_octet 27 = .ok (.aload_n 0, 1) := by decide +kernel
theorem d_Mod_octet_28 : decode b_Mod_octet 28 = .ok (.getfield 23, 3) := by decide +kernel
theorem d_Mod_octet_31 : decode b_Mod_octet 31 = .ok (.iload_n 1, 1) := by decide +kernel
theorem d_Mod_octet_32 : decode b_Mod_octet 32 = .ok (.baload, 1) := by decide +kernel
theorem d_Mod_octet_33 : decode b_Mod_octet 33 = .ok (.sipush 255, 3) := by decide +kernel
theorem d_Mod_octet_36 : decode b_Mod_octet 36 = .ok (.iand, 1) := by decide +kernel
theorem d_Mod_octet_37 : decode b_Mod_octet 37 = .ok (.ireturn, 1) := by decide +kernel
theorem d_Mod_tick_0 : decode b_Mod_tick 0 = .ok (.iload_n 1, 1) := by decide +kernel
theorem d_Mod_tick_1 : decode b_Mod_tick 1 = .ok (.ifCond .lt 10, 3) := by decide +kernel
theorem d_Mod_tick_4 : decode b_Mod_tick 4 = .ok (.iload_n 1, 1) := by decide +kernel
theorem d_Mod_tick_5 : decode b_Mod_tick 5 = .ok (.sipush 1000, 3) := by decide +kernel
theorem d_Mod_tick_8 : decode b_Mod_tick 8 = .ok (.if_icmp .le 5, 3) := by decide +kernel
theorem d_Mod_tick_11 : decode b_Mod_tick 11 = .ok (.iconst (-1), 1) := by decide +kernel
theorem d_Mod_tick_12 : decode b_Mod_tick 12 = .ok (.ireturn, 1) := by decide +kernel
theorem d_Mod_tick_13 : decode b_Mod_tick 13 = .ok (.aload_n 0, 1) := by decide +kernel
theorem d_Mod_tick_14 : decode b_Mod_tick 14 = .ok (.dup, 1) := by decide +kernel
theorem d_Mod_tick_15 : decode b_Mod_tick 15 = .ok (.getfield 306, 3) := by decide +kernel
theorem d_Mod_tick_18 : decode b_Mod_tick 18 = .ok (.iload_n 1, 1) := by decide +kernel
theorem d_Mod_tick_19 : decode b_Mod_tick 19 = .ok (.iadd, 1) := by decide +kernel
theorem d_Mod_tick_20 : decode b_Mod_tick 20 = .ok (.putfield 306, 3) := by decide +kernel
theorem d_Mod_tick_23 : decode b_Mod_tick 23 = .ok (.aload_n 0, 1) := by decide +kernel
theorem d_Mod_tick_24 : decode b_Mod_tick 24 = .ok (.getfield 10, 3) := by decide +kernel
theorem d_Mod_tick_27 : decode b_Mod_tick 27 = .ok (.aload_n 0, 1) := by decide +kernel
theorem d_Mod_tick_28 : decode b_Mod_tick 28 = .ok (.getfield 306, 3) := by decide +kernel
theorem d_Mod_tick_31 : decode b_Mod_tick 31 = .ok (.invokevirtual 330, 3) := by decide +kernel
theorem d_Mod_tick_34 : decode b_Mod_tick 34 = .ok (.ireturn, 1) := by decide +kernel
theorem d_Mod_keep_0 : decode b_Mod_keep 0 = .ok (.aload_n 0, 1) := by decide +kernel
theorem d_Mod_keep_1 : decode b_Mod_keep 1 = .ok (.getfield 16, 3) := by decide +kernel
theorem d_Mod_keep_4 : decode b_Mod_keep 4 = .ok (.aload_n 0, 1) := by decide +kernel
theorem d_Mod_keep_5 : decode b_Mod_keep 5 = .ok (.getfield 10, 3) := by decide +kernel
theorem d_Mod_keep_8 : decode b_Mod_keep 8 = .ok (.invokevirtual 293, 3) := by decide +kernel
theorem d_Mod_keep_11 : decode b_Mod_keep 11 = .ok (.aload_n 0, 1) := by decide +kernel
theorem d_Mod_keep_12 : decode b_Mod_keep 12 = .ok (.getfield 10, 3) := by decide +kernel
theorem d_Mod_keep_15 : decode b_Mod_keep 15 = .ok (.getfield 215, 3) := by decide +kernel
theorem d_Mod_keep_18 : decode b_Mod_keep 18 = .ok (.iconst 1, 1) := by decide +kernel
theorem d_Mod_keep_19 : decode b_Mod_keep 19 = .ok (.isub, 1) := by decide +kernel
theorem d_Mod_keep_20 : decode b_Mod_keep 20 = .ok (.ireturn, 1) := by decide +kernel
theorem d_Mod_crash_0 : decode b_Mod_crash 0 = .ok (.aload_n 0, 1) := by decide +kernel
theorem d_Mod_crash_1 : decode b_Mod_crash 1 = .ok (.getfield 10, 3) := by decide +kernel
theorem d_Mod_crash_4 : decode b_Mod_crash 4 = .ok (.aload_n 0, 1) := by decide +kernel
theorem d_Mod_crash_5 : decode b_Mod_crash 5 = .ok (.getfield 16, 3) := by decide +kernel
theorem d_Mod_crash_8 : decode b_Mod_crash 8 = .ok (.invokevirtual 293, 3) := by decide +kernel
theorem d_Mod_crash_11 : decode b_Mod_crash 11 = .ok (.aload_n 0, 1) := by decide +kernel
theorem d_Mod_crash_12 : decode b_Mod_crash 12 = .ok (.getfield 10, 3) := by decide +kernel
theorem d_Mod_crash_15 : decode b_Mod_crash 15 = .ok (.aload_n 0, 1) := by decide +kernel
theorem d_Mod_crash_16 : decode b_Mod_crash 16 = .ok (.getfield 306, 3) := by decide +kernel
theorem d_Mod_crash_19 : decode b_Mod_crash 19 = .ok (.invokevirtual 330, 3) := by decide +kernel
theorem d_Mod_crash_22 : decode b_Mod_crash 22 = .ok (.pop, 1) := by decide +kernel
theorem d_Mod_crash_23 : decode b_Mod_crash 23 = .ok (.aload_n 0, 1) := by decide +kernel
theorem d_Mod_crash_24 : decode b_Mod_crash 24 = .ok (.getfield 10, 3) := by decide +kernel
theorem d_Mod_crash_27 : decode b_Mod_crash 27 = .ok (.getfield 215, 3) := by decide +kernel
theorem d_Mod_crash_30 : decode b_Mod_crash 30 = .ok (.iconst 1, 1) := by decide +kernel
theorem d_Mod_crash_31 : decode b_Mod_crash 31 = .ok (.isub, 1) := by decide +kernel
theorem d_Mod_crash_32 : decode b_Mod_crash 32 = .ok (.ireturn, 1) := by decide +kernel
theorem d_Mod_inside_0 : decode b_Mod_inside 0 = .ok (.iconst 0, 1) := by decide +kernel
theorem d_Mod_inside_1 : decode b_Mod_inside 1 = .ok (.istore_n 2, 1) := by decide +kernel
theorem d_Mod_inside_2 : decode b_Mod_inside 2 = .ok (.iconst 0, 1) := by decide +kernel
theorem d_Mod_inside_3 : decode b_Mod_inside 3 = .ok (.istore_n 3, 1) := by decide +kernel
theorem d_Mod_inside_4 : decode b_Mod_inside 4 = .ok (.iload_n 3, 1) := by decide +kernel
theorem d_Mod_inside_5 : decode b_Mod_inside 5 = .ok (.aload_n 0, 1) := by decide +kernel
theorem d_Mod_inside_6 : decode b_Mod_inside 6 = .ok (.getfield 10, 3) := by decide +kernel
theorem d_Mod_inside_9 : decode b_Mod_inside 9 = .ok (.getfield 215, 3) := by decide +kernel
theorem d_Mod_inside_12 : decode b_Mod_inside 12 = .ok (.if_icmp .ge 33, 3) := by decide +kernel
theorem d_Mod_inside_15 : decode b_Mod_inside 15 = .ok (.iload_n 2, 1) := by decide +kernel
theorem d_Mod_inside_16 : decode b_Mod_inside 16 = .ok (.aload_n 0, 1) := by decide +kernel
theorem d_Mod_inside_17 : decode b_Mod_inside 17 = .ok (.getfield 10, 3) := by decide +kernel
theorem d_Mod_inside_20 : decode b_Mod_inside 20 = .ok (.getfield 216, 3) := by decide +kernel
theorem d_Mod_inside_23 : decode b_Mod_inside 23 = .ok (.iload_n 3, 1) := by decide +kernel
theorem d_Mod_inside_24 : decode b_Mod_inside 24 = .ok (.aaload, 1) := by decide +kernel
theorem d_Mod_inside_25 : decode b_Mod_inside 25 = .ok (.aload_n 1, 1) := by decide +kernel
theorem d_Mod_inside_26 : decode b_Mod_inside 26 = .ok (.invokevirtual 226, 3) := by decide +kernel
theorem d_Mod_inside_29 : decode b_Mod_inside 29 = .ok (.ifCond .eq 7, 3) := by decide +kernel
theorem d_Mod_inside_32 : decode b_Mod_inside 32 = .ok (.iconst 1, 1) := by decide +kernel
theorem d_Mod_inside_33 : decode b_Mod_inside 33 = .ok (.goto 4, 3) := by decide +kernel
theorem d_Mod_inside_36 : decode b_Mod_inside 36 = .ok (.iconst 0, 1) := by decide +kernel
theorem d_Mod_inside_37 : decode b_Mod_inside 37 = .ok (.iadd, 1) := by decide +kernel
theorem d_Mod_inside_38 : decode b_Mod_inside 38 = .ok (.istore_n 2, 1) := by decide +kernel
theorem d_Mod_inside_39 : decode b_Mod_inside 39 = .ok (.iinc 3 1, 3) := by decide +kernel
theorem d_Mod_inside_42 : decode b_Mod_inside 42 = .ok (.goto (-38), 3) := by decide +kernel
theorem d_Mod_inside_45 : decode b_Mod_inside 45 = .ok (.iload_n 2, 1) := by decide +kernel
theorem d_Mod_inside_46 : decode b_Mod_inside 46 = .ok (.ireturn, 1) := by decide +kernel
theorem d_Mod_look_0 : decode b_Mod_look 0 = .ok (.iload_n 1, 1) := by decide +kernel
theorem d_Mod_look_1 : decode b_Mod_look 1 = .ok (.ifCond .lt 8, 3) := by decide +kernel
theorem d_Mod_look_4 : decode b_Mod_look 4 = .ok (.iload_n 1, 1) := by decide +kernel
theorem d_Mod_look_5 : decode b_Mod_look 5 = .ok (.iconst 3, 1) := by decide +kernel
theorem d_Mod_look_6 : decode b_Mod_look 6 = .ok (.if_icmp .le 5, 3) := by decide +kernel
theorem d_Mod_look_9 : decode b_Mod_look 9 = .ok (.iconst (-1), 1) := by decide +kernel
theorem d_Mod_look_10 : decode b_Mod_look 10 = .ok (.ireturn, 1) := by decide +kernel
theorem d_Mod_look_11 : decode b_Mod_look 11 = .ok (.aload_n 0, 1) := by decide +kernel
theorem d_Mod_look_12 : decode b_Mod_look 12 = .ok (.iconst 0, 1) := by decide +kernel
theorem d_Mod_look_13 : decode b_Mod_look 13 = .ok (.aload_n 0, 1) := by decide +kernel
theorem d_Mod_look_14 : decode b_Mod_look 14 = .ok (.getfield 91, 3) := by decide +kernel
theorem d_Mod_look_17 : decode b_Mod_look 17 = .ok (.aload_n 0, 1) := by decide +kernel
theorem d_Mod_look_18 : decode b_Mod_look 18 = .ok (.getfield 72, 3) := by decide +kernel
theorem d_Mod_look_21 : decode b_Mod_look 21 = .ok (.invokevirtual 125, 3) := by decide +kernel
theorem d_Mod_look_24 : decode b_Mod_look 24 = .ok (.istore_n 2, 1) := by decide +kernel
theorem d_Mod_look_25 : decode b_Mod_look 25 = .ok (.aload_n 0, 1) := by decide +kernel
theorem d_Mod_look_26 : decode b_Mod_look 26 = .ok (.iconst 0, 1) := by decide +kernel
theorem d_Mod_look_27 : decode b_Mod_look 27 = .ok (.putfield 91, 3) := by decide +kernel
theorem d_Mod_look_30 : decode b_Mod_look 30 = .ok (.iload_n 2, 1) := by decide +kernel
theorem d_Mod_look_31 : decode b_Mod_look 31 = .ok (.ifCond .eq 17, 3) := by decide +kernel
theorem d_Mod_look_34 : decode b_Mod_look 34 = .ok (.aload_n 0, 1) := by decide +kernel
theorem d_Mod_look_35 : decode b_Mod_look 35 = .ok (.getfield 10, 3) := by decide +kernel
theorem d_Mod_look_38 : decode b_Mod_look 38 = .ok (.aload_n 0, 1) := by decide +kernel
theorem d_Mod_look_39 : decode b_Mod_look 39 = .ok (.getfield 72, 3) := by decide +kernel
theorem d_Mod_look_42 : decode b_Mod_look 42 = .ok (.invokevirtual 180, 3) := by decide +kernel
theorem d_Mod_look_45 : decode b_Mod_look 45 = .ok (.goto 4, 3) := by decide +kernel
theorem d_Mod_look_48 : decode b_Mod_look 48 = .ok (.iconst (-1), 1) := by decide +kernel
theorem d_Mod_look_49 : decode b_Mod_look 49 = .ok (.istore_n 3, 1) := by decide +kernel
theorem d_Mod_look_50 : decode b_Mod_look 50 = .ok (.iload_n 3, 1) := by decide +kernel
theorem d_Mod_look_51 : decode b_Mod_look 51 = .ok (.ifCond .ge 6, 3) := by decide +kernel
theorem d_Mod_look_54 : decode b_Mod_look 54 = .ok (.bipush (-2), 2) := by decide +kernel
theorem d_Mod_look_56 : decode b_Mod_look 56 = .ok (.ireturn, 1) := by decide +kernel
theorem d_Mod_look_57 : decode b_Mod_look 57 = .ok (.iload_n 1, 1) := by decide +kernel
theorem d_Mod_look_58 : decode b_Mod_look 58 = .ok (.ifCond .ne 13, 3) := by decide +kernel
theorem d_Mod_look_61 : decode b_Mod_look 61 = .ok (.aload_n 0, 1) := by decide +kernel
theorem d_Mod_look_62 : decode b_Mod_look 62 = .ok (.getfield 10, 3) := by decide +kernel
theorem d_Mod_look_65 : decode b_Mod_look 65 = .ok (.getfield 183, 3) := by decide +kernel
theorem d_Mod_look_68 : decode b_Mod_look 68 = .ok (.iload_n 3, 1) := by decide +kernel
theorem d_Mod_look_69 : decode b_Mod_look 69 = .ok (.iaload, 1) := by decide +kernel
theorem d_Mod_look_70 : decode b_Mod_look 70 = .ok (.ireturn, 1) := by decide +kernel
theorem d_Mod_look_71 : decode b_Mod_look 71 = .ok (.iload_n 1, 1) := by decide +kernel
theorem d_Mod_look_72 : decode b_Mod_look 72 = .ok (.iconst 1, 1) := by decide +kernel
theorem d_Mod_look_73 : decode b_Mod_look 73 = .ok (.if_icmp .ne 13, 3) := by decide +kernel
theorem d_Mod_look_76 : decode b_Mod_look 76 = .ok (.aload_n 0, 1) := by decide +kernel
theorem d_Mod_look_77 : decode b_Mod_look 77 = .ok (.getfield 10, 3) := by decide +kernel
theorem d_Mod_look_80 : decode b_Mod_look 80 = .ok (.getfield 186, 3) := by decide +kernel
theorem d_Mod_look_83 : decode b_Mod_look 83 = .ok (.iload_n 3, 1) := by decide +kernel
theorem d_Mod_look_84 : decode b_Mod_look 84 = .ok (.iaload, 1) := by decide +kernel
theorem d_Mod_look_85 : decode b_Mod_look 85 = .ok (.ireturn, 1) := by decide +kernel
theorem d_Mod_look_86 : decode b_Mod_look 86 = .ok (.iload_n 1, 1) := by decide +kernel
theorem d_Mod_look_87 : decode b_Mod_look 87 = .ok (.iconst 2, 1) := by decide +kernel
theorem d_Mod_look_88 : decode b_Mod_look 88 = .ok (.if_icmp .ne 37, 3) := by decide +kernel
theorem d_Mod_look_91 : decode b_Mod_look 91 = .ok (.aload_n 0, 1) := by decide +kernel
theorem d_Mod_look_92 : decode b_Mod_look 92 = .ok (.getfield 10, 3) := by decide +kernel
theorem d_Mod_look_95 : decode b_Mod_look 95 = .ok (.getfield 183, 3) := by decide +kernel
theorem d_Mod_look_98 : decode b_Mod_look 98 = .ok (.iload_n 3, 1) := by decide +kernel
theorem d_Mod_look_99 : decode b_Mod_look 99 = .ok (.iaload, 1) := by decide +kernel
theorem d_Mod_look_100 : decode b_Mod_look 100 = .ok (.iconst 1, 1) := by decide +kernel
theorem d_Mod_look_101 : decode b_Mod_look 101 = .ok (.if_icmp .ne 15, 3) := by decide +kernel
theorem d_Mod_look_104 : decode b_Mod_look 104 = .ok (.aload_n 0, 1) := by decide +kernel
theorem d_Mod_look_105 : decode b_Mod_look 105 = .ok (.getfield 10, 3) := by decide +kernel
theorem d_Mod_look_108 : decode b_Mod_look 108 = .ok (.getfield 232, 3) := by decide +kernel
theorem d_Mod_look_111 : decode b_Mod_look 111 = .ok (.iload_n 3, 1) := by decide +kernel
theorem d_Mod_look_112 : decode b_Mod_look 112 = .ok (.iaload, 1) := by decide +kernel
theorem d_Mod_look_113 : decode b_Mod_look 113 = .ok (.goto 11, 3) := by decide +kernel
theorem d_Mod_look_116 : decode b_Mod_look 116 = .ok (.aload_n 0, 1) := by decide +kernel
theorem d_Mod_look_117 : decode b_Mod_look 117 = .ok (.aload_n 0, 1) := by decide +kernel
theorem d_Mod_look_118 : decode b_Mod_look 118 = .ok (.getfield 72, 3) := by decide +kernel
theorem d_Mod_look_121 : decode b_Mod_look 121 = .ok (.invokevirtual 333, 3) := by decide +kernel
theorem d_Mod_look_124 : decode b_Mod_look 124 = .ok (.ireturn, 1) := by decide +kernel
theorem d_Mod_look_125 : decode b_Mod_look 125 = .ok (.iconst 0, 1) := by decide +kernel
theorem d_Mod_look_126 : decode b_Mod_look 126 = .ok (.istore 4, 2) := by decide +kernel
theorem d_Mod_look_128 : decode b_Mod_look 128 = .ok (.iconst 0, 1) := by decide +kernel
theorem d_Mod_look_129 : decode b_Mod_look 129 = .ok (.istore 5, 2) := by decide +kernel
theorem d_Mod_look_131 : decode b_Mod_look 131 = .ok (.iload 5, 2) := by decide +kernel
theorem d_Mod_look_133 : decode b_Mod_look 133 = .ok (.aload_n 0, 1) := by decide +kernel
theorem d_Mod_look_134 : decode b_Mod_look 134 = .ok (.getfield 10, 3) := by decide +kernel
theorem d_Mod_look_137 : decode b_Mod_look 137 = .ok (.getfield 251, 3) := by decide +kernel
theorem d_Mod_look_140 : decode b_Mod_look 140 = .ok (.if_icmp .ge 35, 3) := by decide +kernel
theorem d_Mod_look_143 : decode b_Mod_look 143 = .ok (.iload 4, 2) := by decide +kernel
theorem d_Mod_look_145 : decode b_Mod_look 145 = .ok (.aload_n 0, 1) := by decide +kernel
theorem d_Mod_look_146 : decode b_Mod_look 146 = .ok (.getfield 10, 3) := by decide +kernel
theorem d_Mod_look_149 : decode b_Mod_look 149 = .ok (.iload 5, 2) := by decide +kernel
theorem d_Mod_look_151 : decode b_Mod_look 151 = .ok (.aload_n 0, 1) := by decide +kernel
theorem d_Mod_look_152 : decode b_Mod_look 152 = .ok (.getfield 72, 3) := by decide +kernel
theorem d_Mod_look_155 : decode b_Mod_look 155 = .ok (.invokevirtual 254, 3) := by decide +kernel
theorem d_Mod_look_158 : decode b_Mod_look 158 = .ok (.ifCond .eq 7, 3) := by decide +kernel
theorem d_Mod_look_161 : decode b_Mod_look 161 = .ok (.iconst 1, 1) := by decide +kernel
theorem d_Mod_look_162 : decode b_Mod_look 162 = .ok (.goto 4, 3) := by decide +kernel
theorem d_Mod_look_165 : decode b_Mod_look 165 = .ok (.iconst 0, 1) := by decide +kernel
theorem d_Mod_look_166 : decode b_Mod_look 166 = .ok (.iadd, 1) := by decide +kernel
theorem d_Mod_look_167 : decode b_Mod_look 167 = .ok (.istore 4, 2) := by decide +kernel
theorem d_Mod_look_169 : decode b_Mod_look 169 = .ok (.iinc 5 1, 3) := by decide +kernel
theorem d_Mod_look_172 : decode b_Mod_look 172 = .ok (.goto (-41), 3) := by decide +kernel
theorem d_Mod_look_175 : decode b_Mod_look 175 = .ok (.iload 4, 2) := by decide +kernel
theorem d_Mod_look_177 : decode b_Mod_look 177 = .ok (.ireturn, 1) := by decide +kernel
theorem d_Mod_lock_0 : decode b_Mod_lock 0 = .ok (.iload_n 2, 1) := by decide +kernel
theorem d_Mod_lock_1 : decode b_Mod_lock 1 = .ok (.ifCond .lt 8, 3) := by decide +kernel
theorem d_Mod_lock_4 : decode b_Mod_lock 4 = .ok (.iload_n 2, 1) := by decide +kernel
theorem d_Mod_lock_5 : decode b_Mod_lock 5 = .ok (.iconst 4, 1) := by decide +kernel
theorem d_Mod_lock_6 : decode b_Mod_lock 6 = .ok (.if_icmp .le 5, 3) := by decide +kernel
theorem d_Mod_lock_9 : decode b_Mod_lock 9 = .ok (.iconst (-1), 1) := by decide +kernel
theorem d_Mod_lock_10 : decode b_Mod_lock 10 = .ok (.ireturn, 1) := by decide +kernel
theorem d_Mod_lock_11 : decode b_Mod_lock 11 = .ok (.iload_n 1, 1) := by decide +kernel
theorem d_Mod_lock_12 : decode b_Mod_lock 12 = .ok (.ifCond .lt 14, 3) := by decide +kernel
theorem d_Mod_lock_15 : decode b_Mod_lock 15 = .ok (.iload_n 1, 1) := by decide +kernel
theorem d_Mod_lock_16 : decode b_Mod_lock 16 = .ok (.aload_n 0, 1) := by decide +kernel
theorem d_Mod_lock_17 : decode b_Mod_lock 17 = .ok (.getfield 10, 3) := by decide +kernel
theorem d_Mod_lock_20 : decode b_Mod_lock 20 = .ok (.getfield 251, 3) := by decide +kernel
theorem d_Mod_lock_23 : decode b_Mod_lock 23 = .ok (.if_icmp .lt 6, 3) := by decide +kernel
theorem d_Mod_lock_26 : decode b_Mod_lock 26 = .ok (.bipush (-2), 2) := by decide +kernel
theorem d_Mod_lock_28 : decode b_Mod_lock 28 = .ok (.ireturn, 1) := by decide +kernel
theorem d_Mod_lock_29 : decode b_Mod_lock 29 = .ok (.iload_n 2, 1) := by decide +kernel
theorem d_Mod_lock_30 : decode b_Mod_lock 30 = .ok (.ifCond .ne 13, 3) := by decide +kernel
theorem d_Mod_lock_33 : decode b_Mod_lock 33 = .ok (.aload_n 0, 1) := by decide +kernel
theorem d_Mod_lock_34 : decode b_Mod_lock 34 = .ok (.getfield 10, 3) := by decide +kernel
theorem d_Mod_lock_37 : decode b_Mod_lock 37 = .ok (.getfield 258, 3) := by decide +kernel
theorem d_Mod_lock_40 : decode b_Mod_lock 40 = .ok (.iload_n 1, 1) := by decide +kernel
theorem d_Mod_lock_41 : decode b_Mod_lock 41 = .ok (.iaload, 1) := by decide +kernel
theorem d_Mod_lock_42 : decode b_Mod_lock 42 = .ok (.ireturn, 1) := by decide +kernel
theorem d_Mod_lock_43 : decode b_Mod_lock 43 = .ok (.iload_n 2, 1) := by decide +kernel
theorem d_Mod_lock_44 : decode b_Mod_lock 44 = .ok (.iconst 1, 1) := by decide +kernel
theorem d_Mod_lock_45 : decode b_Mod_lock 45 = .ok (.if_icmp .ne 13, 3) := by decide +kernel
theorem d_Mod_lock_48 : decode b_Mod_lock 48 = .ok (.aload_n 0, 1) := by decide +kernel
theorem d_Mod_lock_49 : decode b_Mod_lock 49 = .ok (.getfield 10, 3) := by decide +kernel
theorem d_Mod_lock_52 : decode b_Mod_lock 52 = .ok (.getfield 312, 3) := by decide +kernel
theorem d_Mod_lock_55 : decode b_Mod_lock 55 = .ok (.iload_n 1, 1) := by decide +kernel
theorem d_Mod_lock_56 : decode b_Mod_lock 56 = .ok (.iaload, 1) := by decide +kernel
theorem d_Mod_lock_57 : decode b_Mod_lock 57 = .ok (.ireturn, 1) := by decide +kernel
theorem d_Mod_lock_58 : decode b_Mod_lock 58 = .ok (.iload_n 2, 1) := by decide +kernel
theorem d_Mod_lock_59 : decode b_Mod_lock 59 = .ok (.iconst 2, 1) := by decide +kernel
theorem d_Mod_lock_60 : decode b_Mod_lock 60 = .ok (.if_icmp .ne 21, 3) := by decide +kernel
theorem d_Mod_lock_63 : decode b_Mod_lock 63 = .ok (.aload_n 0, 1) := by decide +kernel
theorem d_Mod_lock_64 : decode b_Mod_lock 64 = .ok (.getfield 10, 3) := by decide +kernel
theorem d_Mod_lock_67 : decode b_Mod_lock 67 = .ok (.getfield 324, 3) := by decide +kernel
theorem d_Mod_lock_70 : decode b_Mod_lock 70 = .ok (.iload_n 1, 1) := by decide +kernel
theorem d_Mod_lock_71 : decode b_Mod_lock 71 = .ok (.baload, 1) := by decide +kernel
theorem d_Mod_lock_72 : decode b_Mod_lock 72 = .ok (.ifCond .eq 7, 3) := by decide +kernel
theorem d_Mod_lock_75 : decode b_Mod_lock 75 = .ok (.iconst 1, 1) := by decide +kernel
theorem d_Mod_lock_76 : decode b_Mod_lock 76 = .ok (.goto 4, 3) := by decide +kernel
theorem d_Mod_lock_79 : decode b_Mod_lock 79 = .ok (.iconst 0, 1) := by decide +kernel
theorem d_Mod_lock_80 : decode b_Mod_lock 80 = .ok (.ireturn, 1) := by decide +kernel
theorem d_Mod_lock_81 : decode b_Mod_lock 81 = .ok (.iload_n 2, 1) := by decide +kernel
theorem d_Mod_lock_82 : decode b_Mod_lock 82 = .ok (.iconst 3, 1) := by decide +kernel
theorem d_Mod_lock_83 : decode b_Mod_lock 83 = .ok (.if_icmp .ne 21, 3) := by decide +kernel
theorem d_Mod_lock_86 : decode b_Mod_lock 86 = .ok (.aload_n 0, 1) := by decide +kernel
theorem d_Mod_lock_87 : decode b_Mod_lock 87 = .ok (.getfield 10, 3) := by decide +kernel
theorem d_Mod_lock_90 : decode b_Mod_lock 90 = .ok (.getfield 318, 3) := by decide +kernel
theorem d_Mod_lock_93 : decode b_Mod_lock 93 = .ok (.iload_n 1, 1) := by decide +kernel
theorem d_Mod_lock_94 : decode b_Mod_lock 94 = .ok (.baload, 1) := by decide +kernel
theorem d_Mod_lock_95 : decode b_Mod_lock 95 = .ok (.ifCond .eq 7, 3) := by decide +kernel
theorem d_Mod_lock_98 : decode b_Mod_lock 98 = .ok (.iconst 1, 1) := by decide +kernel
theorem d_Mod_lock_99 : decode b_Mod_lock 99 = .ok (.goto 4, 3) := by decide +kernel
theorem d_Mod_lock_102 : decode b_Mod_lock 102 = .ok (.iconst 0, 1) := by decide +kernel
theorem d_Mod_lock_103 : decode b_Mod_lock 103 = .ok (.ireturn, 1) := by decide +kernel
theorem d_Mod_lock_104 : decode b_Mod_lock 104 = .ok (.iconst 0, 1) := by decide +kernel
theorem d_Mod_lock_105 : decode b_Mod_lock 105 = .ok (.istore_n 3, 1) := by decide +kernel
theorem d_Mod_lock_106 : decode b_Mod_lock 106 = .ok (.iconst 0, 1) := by decide +kernel
theorem d_Mod_lock_107 : decode b_Mod_lock 107 = .ok (.istore 4, 2) := by decide +kernel
theorem d_Mod_lock_109 : decode b_Mod_lock 109 = .ok (.iload 4, 2) := by decide +kernel
theorem d_Mod_lock_111 : decode b_Mod_lock 111 = .ok (.aload_n 0, 1) := by decide +kernel
theorem d_Mod_lock_112 : decode b_Mod_lock 112 = .ok (.getfield 10, 3) := by decide +kernel
theorem d_Mod_lock_115 : decode b_Mod_lock 115 = .ok (.getfield 215, 3) := by decide +kernel
theorem d_Mod_lock_118 : decode b_Mod_lock 118 = .ok (.if_icmp .ge 38, 3) := by decide +kernel
theorem d_Mod_lock_121 : decode b_Mod_lock 121 = .ok (.iload_n 3, 1) := by decide +kernel
theorem d_Mod_lock_122 : decode b_Mod_lock 122 = .ok (.aload_n 0, 1) := by decide +kernel
theorem d_Mod_lock_123 : decode b_Mod_lock 123 = .ok (.getfield 10, 3) := by decide +kernel
theorem d_Mod_lock_126 : decode b_Mod_lock 126 = .ok (.iload_n 1, 1) := by decide +kernel
theorem d_Mod_lock_127 : decode b_Mod_lock 127 = .ok (.aload_n 0, 1) := by decide +kernel
theorem d_Mod_lock_128 : decode b_Mod_lock 128 = .ok (.getfield 10, 3) := by decide +kernel
theorem d_Mod_lock_131 : decode b_Mod_lock 131 = .ok (.getfield 216, 3) := by decide +kernel
theorem d_Mod_lock_134 : decode b_Mod_lock 134 = .ok (.iload 4, 2) := by decide +kernel
theorem d_Mod_lock_136 : decode b_Mod_lock 136 = .ok (.aaload, 1) := by decide +kernel
theorem d_Mod_lock_137 : decode b_Mod_lock 137 = .ok (.invokevirtual 254, 3) := by decide +kernel
theorem d_Mod_lock_140 : decode b_Mod_lock 140 = .ok (.ifCond .eq 7, 3) := by decide +kernel
theorem d_Mod_lock_143 : decode b_Mod_lock 143 = .ok (.iconst 1, 1) := by decide +kernel
theorem d_Mod_lock_144 : decode b_Mod_lock 144 = .ok (.goto 4, 3) := by decide +kernel
theorem d_Mod_lock_147 : decode b_Mod_lock 147 = .ok (.iconst 0, 1) := by decide +kernel
theorem d_Mod_lock_148 : decode b_Mod_lock 148 = .ok (.iadd, 1) := by decide +kernel
theorem d_Mod_lock_149 : decode b_Mod_lock 149 = .ok (.istore_n 3, 1) := by decide +kernel
theorem d_Mod_lock_150 : decode b_Mod_lock 150 = .ok (.iinc 4 1, 3) := by decide +kernel
theorem d_Mod_lock_153 : decode b_Mod_lock 153 = .ok (.goto (-44), 3) := by decide +kernel
theorem d_Mod_lock_156 : decode b_Mod_lock 156 = .ok (.iload_n 3, 1) := by decide +kernel
theorem d_Mod_lock_157 : decode b_Mod_lock 157 = .ok (.ireturn, 1) := by decide +kernel
theorem d_Mod_count_0 : decode b_Mod_count 0 = .ok (.iconst 0, 1) := by decide +kernel
theorem d_Mod_count_1 : decode b_Mod_count 1 = .ok (.istore_n 2, 1) := by decide +kernel
theorem d_Mod_count_2 : decode b_Mod_count 2 = .ok (.iconst 0, 1) := by decide +kernel
theorem d_Mod_count_3 : decode b_Mod_count 3 = .ok (.istore_n 3, 1) := by decide +kernel
theorem d_Mod_count_4 : decode b_Mod_count 4 = .ok (.iconst 0, 1) := by decide +kernel
theorem d_Mod_count_5 : decode b_Mod_count 5 = .ok (.istore 4, 2) := by decide +kernel
theorem d_Mod_count_7 : decode b_Mod_count 7 = .ok (.iload 4, 2) := by decide +kernel
theorem d_Mod_count_9 : decode b_Mod_count 9 = .ok (.aload_n 0, 1) := by decide +kernel
theorem d_Mod_count_10 : decode b_Mod_count 10 = .ok (.getfield 10, 3) := by decide +kernel
theorem d_Mod_count_13 : decode b_Mod_count 13 = .ok (.getfield 215, 3) := by decide +kernel
theorem d_Mod_count_16 : decode b_Mod_count 16 = .ok (.if_icmp .ge 42, 3) := by decide +kernel
theorem d_Mod_count_19 : decode b_Mod_count 19 = .ok (.aload_n 0, 1) := by decide +kernel
theorem d_Mod_count_20 : decode b_Mod_count 20 = .ok (.getfield 10, 3) := by decide +kernel
theorem d_Mod_count_23 : decode b_Mod_count 23 = .ok (.getfield 183, 3) := by decide +kernel
theorem d_Mod_count_26 : decode b_Mod_count 26 = .ok (.iload 4, 2) := by decide +kernel
theorem d_Mod_count_28 : decode b_Mod_count 28 = .ok (.iaload, 1) := by decide +kernel
theorem d_Mod_count_29 : decode b_Mod_count 29 = .ok (.iconst 1, 1) := by decide +kernel
theorem d_Mod_count_30 : decode b_Mod_count 30 = .ok (.if_icmp .eq 6, 3) := by decide +kernel
theorem d_Mod_count_33 : decode b_Mod_count 33 = .ok (.goto 19, 3) := by decide +kernel
theorem d_Mod_count_36 : decode b_Mod_count 36 = .ok (.iinc 2 1, 3) := by decide +kernel
theorem d_Mod_count_39 : decode b_Mod_count 39 = .ok (.iload_n 3, 1) := by decide +kernel
theorem d_Mod_count_40 : decode b_Mod_count 40 = .ok (.aload_n 0, 1) := by decide +kernel
theorem d_Mod_count_41 : decode b_Mod_count 41 = .ok (.getfield 10, 3) := by decide +kernel
theorem d_Mod_count_44 : decode b_Mod_count 44 = .ok (.getfield 232, 3) := by decide +kernel
theorem d_Mod_count_47 : decode b_Mod_count 47 = .ok (.iload 4, 2) := by decide +kernel
theorem d_Mod_count_49 : decode b_Mod_count 49 = .ok (.iaload, 1) := by decide +kernel
theorem d_Mod_count_50 : decode b_Mod_count 50 = .ok (.iadd, 1) := by decide +kernel
theorem d_Mod_count_51 : decode b_Mod_count 51 = .ok (.istore_n 3, 1) := by decide +kernel
theorem d_Mod_count_52 : decode b_Mod_count 52 = .ok (.iinc 4 1, 3) := by decide +kernel
theorem d_Mod_count_55 : decode b_Mod_count 55 = .ok (.goto (-48), 3) := by decide +kernel
theorem d_Mod_count_58 : decode b_Mod_count 58 = .ok (.iload_n 1, 1) := by decide +kernel
theorem d_Mod_count_59 : decode b_Mod_count 59 = .ok (.tableswitch 60 0 4 #[33, 38, 48, 50, 58], 33) := by decide +kernel
theorem d_Mod_count_92 : decode b_Mod_count 92 = .ok (.aload_n 0, 1) := by decide +kernel
theorem d_Mod_count_93 : decode b_Mod_count 93 = .ok (.getfield 306, 3) := by decide +kernel
theorem d_Mod_count_96 : decode b_Mod_count 96 = .ok (.ireturn, 1) := by decide +kernel
theorem d_Mod_count_97 : decode b_Mod_count 97 = .ok (.aload_n 0, 1) := by decide +kernel
theorem d_Mod_count_98 : decode b_Mod_count 98 = .ok (.getfield 10, 3) := by decide +kernel
theorem d_Mod_count_101 : decode b_Mod_count 101 = .ok (.getfield 215, 3) := by decide +kernel
theorem d_Mod_count_104 : decode b_Mod_count 104 = .ok (.iconst 1, 1) := by decide +kernel
theorem d_Mod_count_105 : decode b_Mod_count 105 = .ok (.isub, 1) := by decide +kernel
theorem d_Mod_count_106 : decode b_Mod_count 106 = .ok (.ireturn, 1) := by decide +kernel
theorem d_Mod_count_107 : decode b_Mod_count 107 = .ok (.iload_n 2, 1) := by decide +kernel
theorem d_Mod_count_108 : decode b_Mod_count 108 = .ok (.ireturn, 1) := by decide +kernel
theorem d_Mod_count_109 : decode b_Mod_count 109 = .ok (.aload_n 0, 1) := by decide +kernel
theorem d_Mod_count_110 : decode b_Mod_count 110 = .ok (.getfield 10, 3) := by decide +kernel
theorem d_Mod_count_113 : decode b_Mod_count 113 = .ok (.getfield 251, 3) := by decide +kernel
theorem d_Mod_count_116 : decode b_Mod_count 116 = .ok (.ireturn, 1) := by decide +kernel
theorem d_Mod_count_117 : decode b_Mod_count 117 = .ok (.iload_n 3, 1) := by decide +kernel
theorem d_Mod_count_118 : decode b_Mod_count 118 = .ok (.ireturn, 1) := by decide +kernel
theorem d_Mod_count_119 : decode b_Mod_count 119 = .ok (.iconst (-1), 1) := by decide +kernel
theorem d_Mod_count_120 : decode b_Mod_count 120 = .ok (.ireturn, 1) := by decide +kernel