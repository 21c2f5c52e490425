abbrev vwCl : List vw_C := [(RJx00060, TJx00060, 6), (RJx4a65c, TJx4a65c, 3), (RX0, TX0, 3), (RX1, TX1, 4), (RX2, TX2, 3), (RX3, TX3, 11), (RX4, TX4, 5), (RX5, TX5, 3), (RX6, TX6, 6), (RX7, TX7, 2), (RX8, TX8, 3), (RX9, TX9, 7), (RX10, TX10, 37)]
/-! the pool: what the heap holds, by address, with a label of ours on each cell -/
abbrev pz_V : Type := Int32 ⊕ (Int64 ⊕ Option Nat)
def pz_v : pz_V → Value
  | .inl x => .int x
  | .inr (.inl x) => .long x
  | .inr (.inr r) => va_rf r
abbrev pz_E : Type := (Nat × vp_A) ⊕ (Nat × List pz_V)
abbrev pz_H : Type := Nat → Option (List Nat × pz_E)
def pz_e (cy : Nat → ClassId) : pz_E → va_E
  | .inl q => .inl (cy q.1, q.2)
  | .inr q => .inr (q.1, q.2.map pz_v)
def pz_g (cy : Nat → ClassId) (g : pz_H) (a : Nat) : va_E := match g a with
  | some q => pz_e cy q.2
  | none => .inr (0, [])
abbrev pz_ty (cy : Nat → ClassId) : List (ClassId × FieldType) := [(cy 0, .int), (cy 1, .long), (cy 2, .boolean), (cy 3, .char), (cy 4, .object "LineTimes$Place"), (cy 5, .object "java/lang/Object"), (cy 6, .array .int)]
def pz_P (D : va_G) (cy : Nat → ClassId) (A : Nat → Prop) (g : pz_H) (H : Heap) : Prop := ∃ L : List Nat, (∀ a, a ∈ L ↔ (g a).isSome = true) ∧ va_P D vwCl (va_pl L (pz_g cy g)) H ∧ va_D A (va_pl L (pz_g cy g))
theorem pz_g_up (cy : Nat → ClassId) (g : pz_H) (a : Nat) (b : List Nat) (e : pz_E) : pz_g cy (va_up g a (some (b, e))) = va_up (pz_g cy g) a (pz_e cy e) := by
  funext x
  by_cases h : x = a
  · subst h; simp [pz_g, va_up]
  · simp [pz_g, va_up, h]
theorem pz_at {cy : Nat → ClassId} {g : pz_H} {L : List Nat} (hL : ∀ a, a ∈ L ↔ (g a).isSome = true) {a : Nat} {b : List Nat} {e : pz_E} (ha : g a = some (b, e)) : a ∈ L ∧ pz_g cy g a = pz_e cy e ∧ ∃ k : Nat, (va_pl L (pz_g cy g))[k]? = some (a, pz_e cy e) := by
  have hm : a ∈ L := (hL a).mpr (by rw [ha]; rfl)
  have he : pz_g cy g a = pz_e cy e := by simp [pz_g, ha]
  obtain ⟨k, hk⟩ := va_pl_get (X := []) (f := pz_g cy g) hm
  rw [he] at hk
  exact ⟨hm, he, k, hk⟩
theorem pz_set {D : va_G} {cy : Nat → ClassId} {A : Nat → Prop} {g : pz_H} {L : List Nat} {H1 : Heap} (hL : ∀ a, a ∈ L ↔ (g a).isSome = true) (hD0 : va_D A (va_pl L (pz_g cy g))) {a k : Nat} {b b' : List Nat} {e0 e : pz_E} (ha : g a = some (b, e0)) (hk : (va_pl L (pz_g cy g))[k]? = some (a, pz_e cy e0)) (hP : va_P D vwCl ((va_pl L (pz_g cy g)).set k (a, pz_e cy e)) H1) (hD : va_D A ((va_pl L (pz_g cy g)).set k (a, pz_e cy e))) : pz_P D cy A (va_up g a (some (b', e))) H1 := by
  obtain ⟨hm, he, -⟩ := pz_at (cy := cy) hL ha
  have hk' : ([] ++ va_pl L (pz_g cy g))[k]? = some (a, pz_g cy g a) := by rw [he]; exact hk
  have hs : (va_pl L (pz_g cy g)).set k (a, pz_e cy e) = va_pl L (pz_g cy (va_up g a (some (b', e)))) := by
    have := va_pl_set (X := []) (e := pz_e cy e) hD0 hm hk'
    rw [pz_g_up]
    exact this
  rw [hs] at hP hD
  refine ⟨L, fun x => ?_, hP, hD⟩
  by_cases h : x = a
  · subst h; simp [va_up, hm]
  · simp [va_up, h, hL x]
theorem pz_push {D : va_G} {cy : Nat → ClassId} {A : Nat → Prop} {g : pz_H} {L : List Nat} {H1 : Heap} (hL : ∀ a, a ∈ L ↔ (g a).isSome = true) {q : Nat} (b : List Nat) {e : pz_E} (hP : va_P D vwCl (va_pl L (pz_g cy g) ++ [(q, pz_e cy e)]) H1) (hD : va_D A (va_pl L (pz_g cy g) ++ [(q, pz_e cy e)])) : g q = none ∧ pz_P D cy A (va_up g q (some (b, e))) H1 := by
  have hn : q ∉ L := va_pl_fresh2 (X := []) hD
  have hg : g q = none := by
    cases hq : g q with
    | none => rfl
    | some z => exact absurd ((hL q).mpr (by rw [hq]; rfl)) hn
  rw [va_pl_push hn, ← pz_g_up cy g q b e] at hP hD
  refine ⟨hg, L ++ [q], fun x => ?_, hP, hD⟩
  by_cases h : x = q
  · subst h; simp [va_up]
  · simp [va_up, h, hL x]
theorem pz_P.mem {D : va_G} {cy : Nat → ClassId} {A : Nat → Prop} {g : pz_H} {H : Heap} (h : pz_P D cy A g H) {a : Nat} {q : List Nat × pz_E} (ha : g a = some q) : A a ∧ a < H.size := by
  obtain ⟨L, hL, hP, hD⟩ := h
  obtain ⟨-, -, k, hk⟩ := pz_at (cy := cy) (b := q.1) (e := q.2) hL ha
  exact ⟨hD.2 k _ hk, (hP k _ hk).lt⟩
theorem pz_P.weaken {D : va_G} {cy : Nat → ClassId} {A B : Nat → Prop} {g : pz_H} {H : Heap} (h : pz_P D cy A g H) (hAB : ∀ a q, g a = some q → A a → B a) : pz_P D cy B g H := by
  obtain ⟨L, hL, hP, hD⟩ := h
  refine ⟨L, hL, hP, hD.weaken (fun k q hk hA => ?_)⟩
  obtain ⟨a, ha, rfl⟩ := List.mem_map.mp (List.mem_of_getElem? hk)
  have := (hL a).mp ha
  cases hq : g a with
  | none => rw [hq] at this; cases this
  | some z => exact hAB a z hq hA
/-! the words that every method may use -/
def pz_W : List Cond := lw_tbl.filter goodWord
theorem pz_in {w : Cond} (h : w ∈ lw_tbl) (hg : goodWord w = true) : w ∈ pz_W := List.mem_filter.mpr ⟨h, hg⟩
theorem pz_good {w : Cond} (h : w ∈ pz_W) : goodWord w = true := (List.mem_filter.mp h).2
/-! a method's body under way -/
abbrev pz_C : Type := Program × Launch × Env × Room × State × MethodId × Array Value × List Frame × Method × Code × (State → Prop) × va_G × (Nat → ClassId) × (Nat → Prop) × ((Nat → Prop) → State → Heap → Prop)
/-- what is known of the statics and the tables beyond the words: kept by all that leaves the rest of the heap alone -/
def pz_Ok (En : (Nat → Prop) → State → Heap → Prop) : Prop := ∀ (A B : Nat → Prop) (U V : State) (H K : Heap), En A U H → U.WarmedH V.vm → (∀ q, B q → A q) → (∀ a : Nat, a < H.size → ¬ A a → K[a]? = H[a]?) → En B V K
abbrev pz_L : Type := List (Nat × pz_V)
abbrev pz_K : Type := Nat → pz_L → List pz_V → pz_H → Nat → Nat → Prop
def pz_lv (lv : pz_L) : List (Nat × Value) := lv.map (fun q => (q.1, pz_v q.2))
def pz_Z (X : pz_C) (nL : Nat) : pz_K := fun pc lv st g cells slots => match X with
  | (p, l, e, R, s, m, args, below, meth, c, Q, D, cy, A, En) => ∀ (ls : Array Slot) (H : Heap) (locs : List Loc), lv_has ls nL (pz_lv lv) → pz_P D cy A g H → va_S A s.heap H locs → W p l e R s m args below meth c H locs cells slots Q (F0 m pc ls (st.map pz_v))
def pz_X (X : pz_C) (cc : ByteArray) (nL : Nat) (own : String) : Prop := match X with
  | (p, l, e, R, s, m, args, below, meth, c, Q, D, cy, A, En) => p.tables.exec = Jvm.exec ∧ c.code = cc ∧ c.maxLocals = nL ∧ s.vm.findClass own = some m.cls ∧ (∀ w ∈ pz_W, w.before args s = true) ∧ va_K D vwCl (pz_ty cy) s ∧ (∀ q, s.heap.size ≤ q → A q) ∧ pz_Ok En ∧ En A s s.heap
def pz_f : pz_L → Nat → Option pz_V
  | [], _ => none
  | (j, v) :: l, i => if j = i then some v else pz_f l i
def pz_2 : pz_V → Bool
  | .inr (.inl _) => true
  | _ => false
def pz_s (i : Nat) (v : pz_V) (lv : pz_L) : pz_L := (i, v) :: lv.filter (fun q => !(q.1 == i) && !(q.1 + 1 == i && pz_2 q.2))
def pz_s2 (i : Nat) (v : pz_V) (lv : pz_L) : pz_L := (i, v) :: lv.filter (fun q => !(q.1 == i) && (!(q.1 == i + 1) && !(q.1 + 1 == i && pz_2 q.2)))
theorem pz_cat (v : pz_V) : ((pz_v v).category == 2) = pz_2 v := by
  rcases v with x | x | r
  · rfl
  · rfl
  · cases r <;> rfl
theorem pz_cat1 {v : pz_V} (h : pz_2 v = false) : (pz_v v).category = 1 := by
  rcases v with x | x | r
  · rfl
  · cases h
  · cases r <;> rfl
theorem pz_lv_s (i : Nat) (v : pz_V) (lv : pz_L) : (i, pz_v v) :: (pz_lv lv).filter (fun q => !(q.1 == i) && !(q.1 + 1 == i && q.2.category == 2)) = pz_lv (pz_s i v lv) := by
  simp only [pz_lv, pz_s, List.map_cons, List.filter_map, Function.comp_def, pz_cat]
theorem pz_lv_s2 (i : Nat) (v : pz_V) (lv : pz_L) : (i, pz_v v) :: (pz_lv lv).filter (fun q => !(q.1 == i) && (!(q.1 == i + 1) && !(q.1 + 1 == i && q.2.category == 2))) = pz_lv (pz_s2 i v lv) := by
  simp only [pz_lv, pz_s2, List.map_cons, List.filter_map, Function.comp_def, pz_cat]
theorem pz_fa {lv : pz_L} {i : Nat} {v : pz_V} (h : pz_f lv i = some v) : ∃ k : Nat, (pz_lv lv)[k]? = some (i, pz_v v) := by
  induction lv with
  | nil => cases h
  | cons q l ih =>
    obtain ⟨j, u⟩ := q
    unfold pz_f at h
    split at h
    · rename_i hj
      cases h
      exact ⟨0, by rw [hj]; rfl⟩
    · obtain ⟨k, hk⟩ := ih h
      exact ⟨k + 1, hk⟩
theorem pz_ls {lv : pz_L} {ls : Array Slot} {nL i : Nat} {v : pz_V} (hl : lv_has ls nL (pz_lv lv)) (h : pz_f lv i = some v) : ls[i]? = some (.val (pz_v v)) := by
  obtain ⟨k, hk⟩ := pz_fa h
  exact lv_at hl k hk
