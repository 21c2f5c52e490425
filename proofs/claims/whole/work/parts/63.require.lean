/-! the places that throw: what they need beyond the words -/
def exS : List String := ["java/lang/RuntimeException", "java/lang/Exception"]
def exI : List String := ["java/lang/IndexOutOfBoundsException", "java/lang/RuntimeException", "java/lang/Exception"]
abbrev nIOB : String := "java/lang/IndexOutOfBoundsException"
abbrev nIAE : String := "java/lang/IllegalArgumentException"
abbrev nUOE : String := "java/lang/UnsupportedOperationException"
abbrev nAIO : String := "java/lang/ArrayIndexOutOfBoundsException"
def bwS (ic : Nat) (cls : String) (names : List String) : List Cond := (vx_atS RX9 ic cls names).filter (fun w => !goodWord w)
def bwA : List Cond := bwS 241 nIOB exS ++ (bwS 246 nIAE exS ++ (bwS 251 nUOE exS ++ bwS 194 nAIO exI))
def pz_Ey (l : Launch) (B : Nat → Prop) (U : State) (J : Heap) : Prop := l.stackTraces = false ∧ (∀ w ∈ bwA, va_Nw w U) ∧ (∃ a, vk_R RX9 239 "there is no such line, stop or place" a U) ∧ (∃ a, vk_R RX9 244 "a number is not as said" a U) ∧ (∃ a, vk_R RX9 249 "there is no room" a U) ∧ (∃ a, vk_R RX9 192 "there is no such month" a U) ∧ vx_Zq Bundle.tN "UNASSIGNED_STACK" Bundle.steD B U J ∧ vx_Zq Bundle.tN "SUPPRESSED_SENTINEL" Bundle.listD B U J
def pz_O3 (G : pz_Gx) (sa md mi : Nat) : Prop := pz_O2 G sa md mi ∧ ∀ (B : Nat → Prop) (U : State) (J : Heap), G.2.2.2 B U J → pz_Ey G.1 B U J
theorem bw_ot : ∀ w ∈ bwA, w.onTables = true := by decide +kernel
theorem st_of {X : pz_C} {cc : ByteArray} {nL ik is ic pc : Nat} {cls text : String} {names : List String} {G : pz_Gx} {sa md mi : Nat} (hX : pz_X X cc nL RX9) (hGX : pz_GX X G) (hO : pz_O3 G sa md mi) (f1 : Bundle.fit cls = true) (f2 : ∀ n ∈ names, Bundle.fit n = true) (w1 : Cond.classLink RX9 ik cls ∈ pz_W) (w2 : Cond.initialized cls ∈ pz_W) (w3 : ∀ w ∈ (vx_atS RX9 ic cls names).filter goodWord, w ∈ pz_W) (w4 : ∀ w ∈ bwS ic cls names, w ∈ bwA) (w5 : ∀ w ∈ Cond.classLink RX9 ik cls :: Cond.initialized cls :: vx_atS RX9 ic cls names, vx_ot w = true) (hs : ∀ (B : Nat → Prop) (U : State) (J : Heap), pz_Ey G.1 B U J → ∃ a, vk_R RX9 is text a U) (d0 : decode cc pc = .ok (.new ik, 3)) (d3 : decode cc (pc + 3) = .ok (.dup, 1)) (d4 : decode cc (pc + 4) = .ok (.ldc is, 2)) (d6 : decode cc (pc + 6) = .ok (.invokespecial ic, 3)) (d9 : decode cc (pc + 9) = .ok (.athrow, 1)) : pz_site X cc RX9 cls text names ik is ic pc := by
  obtain ⟨p, l, e, R, s, m, args, below, meth, c, Q, D, cy, A, En⟩ := X
  obtain ⟨hx, hb, hml, hown, hts, hK, hA, hOk, hEn⟩ := hX
  cases hGX
  have hE := hO.2 _ _ _ hEn
  obtain ⟨a, ha⟩ := hs _ _ _ hE
  obtain ⟨h1, h2, -, -, -, -, h7, h8⟩ := hE
  refine ⟨a, h1, f1, f2, hts _ w1, hts _ w2, ha, ?_, w5, h7, h8, d0, d3, d4, d6, d9⟩
  exact vx_hat (B := bwA) (fun w hw => hts _ (w3 w hw)) w4 (fun w hw => va_Nw.use (bw_ot w hw) (h2 w hw))
theorem w3_ix : ∀ w ∈ (vx_atS RX9 241 nIOB exS).filter goodWord, w ∈ pz_W := fun w h => pz_in ((by decide +kernel : ∀ w ∈ (vx_atS RX9 241 nIOB exS).filter goodWord, w ∈ lw_tbl) w h) (List.mem_filter.mp h).2
