def pz_N (X : pz_C) : Prop := match X with
  | (_, _, _, _, _, _, _, _, meth, _) => meth.name = "<init>"
def pz_rm (X : pz_C) : Room := X.2.2.2.1
theorem pz_tyIx {cy : Nat → ClassId} {t : Nat} (h : t < 7) : ∃ ty, (pz_ty cy)[t]? = some (cy t, ty) := by
  match t, h with
  | 0, _ => exact ⟨_, rfl⟩
  | 1, _ => exact ⟨_, rfl⟩
  | 2, _ => exact ⟨_, rfl⟩
  | 3, _ => exact ⟨_, rfl⟩
  | 4, _ => exact ⟨_, rfl⟩
  | 5, _ => exact ⟨_, rfl⟩
  | 6, _ => exact ⟨_, rfl⟩
theorem pz_mset (fs : List pz_V) (k : Nat) (v : pz_V) : (fs.map pz_v).set k (pz_v v) = (fs.set k v).map pz_v := by simp
theorem pz_nref {ty : FieldType} (h : ty.isReference = true) (q : Option Nat) : narrow ty (va_rf q) = va_rf q ∧ fits ty (va_rf q) = true := by
  cases ty <;> first | (cases h; done) | (cases q <;> exact ⟨rfl, rfl⟩)
def zo_get (ci k : Nat) (K : pz_K) : pz_K := fun pc lv st g c s => match st with
  | .inr (.inr (some a)) :: r => ∃ (b : List Nat) (fs : List pz_V) (v : pz_V), g a = some (b, .inr (ci, fs)) ∧ fs[k]? = some v ∧ K (pc + 3) lv (v :: r) g c s
  | _ => False
theorem zs_get {X : pz_C} {cc : ByteArray} {nL : Nat} {own : String} {K : pz_K} {pc : Nat} (hX : pz_X X cc nL own) {C : String} {T : u_T} {N ci k ix : Nat} (hc : vwCl[ci]? = some (C, T, N)) (hin : ∀ w ∈ u_ws C T N, w ∈ pz_W) (hkN : k < N) (hw : Cond.fieldLink own ix (T k).1 (T k).2.1 (T k).2.2.1 ∈ pz_W) (hd : decode cc pc = .ok (.getfield ix, 3)) (hk : ∀ lv st g c s, K (pc + 3) lv st g c s → pz_Z X nL (pc + 3) lv st g c s) : ∀ lv st g c s, zo_get ci k K pc lv st g c s → pz_Z X nL pc lv st g c s := by
  obtain ⟨p, l, e, R, s, m, args, below, meth, c, Q, D, cy, A, En⟩ := X
  obtain ⟨hx, hb, hml, hown, hts, hK, hA, hOk, hEn⟩ := hX
  intro lv st g c0 s0 h ls H locs hl hP hS
  unfold zo_get at h
  split at h
  · rename_i a r
    obtain ⟨b, fs, v, ha, hv, h⟩ := h
    obtain ⟨L, hL, hPP, hD⟩ := id hP
    obtain ⟨-, -, k0, hk0⟩ := pz_at (cy := cy) hL ha
    exact va_get (D := D) (v := pz_v v) hx hb hts hin hown hK hPP k0 hk0 hc k hkN (hts _ hw) (fun _ h9 => h9) (by rw [List.getElem?_map, hv]; rfl) hd (hk _ _ _ _ _ h ls H locs hl hP hS)
  · exact h.elim
def zo_puti (ci k : Nat) (K : pz_K) : pz_K := fun pc lv st g c s => match st with
  | .inl x :: .inr (.inr (some a)) :: r => ∃ (b : List Nat) (fs : List pz_V), g a = some (b, .inr (ci, fs)) ∧ k < fs.length ∧ K (pc + 3) lv r (va_up g a (some (b, .inr (ci, fs.set k (.inl x))))) c s
  | _ => False
theorem zs_puti {X : pz_C} {cc : ByteArray} {nL : Nat} {own : String} {K : pz_K} {pc : Nat} (hX : pz_X X cc nL own) {C : String} {T : u_T} {N ci k ix : Nat} (hc : vwCl[ci]? = some (C, T, N)) (hin : ∀ w ∈ u_ws C T N, w ∈ pz_W) (hkN : k < N) (hw : Cond.fieldLink own ix (T k).1 (T k).2.1 (T k).2.2.1 ∈ pz_W) (ty0 : Nat → FieldType) (hty : ∀ k, k < N → parseFieldDescriptor (T k).2.2.1 = some (ty0 k)) (hnm : ∀ a, a < N → ∀ b, b < N → a ≠ b → (T a).2.1 ≠ (T b).2.1) (hfd : parseFieldDescriptor (T k).2.2.1 = some .int) (hfin : (T k).2.2.2 = false) (hd : decode cc pc = .ok (.putfield ix, 3)) (hk : ∀ lv st g c s, K (pc + 3) lv st g c s → pz_Z X nL (pc + 3) lv st g c s) : ∀ lv st g c s, zo_puti ci k K pc lv st g c s → pz_Z X nL pc lv st g c s := by
  obtain ⟨p, l, e, R, s, m, args, below, meth, c, Q, D, cy, A, En⟩ := X
  obtain ⟨hx, hb, hml, hown, hts, hK, hA, hOk, hEn⟩ := hX
  intro lv st g c0 s0 h ls H locs hl hP hS
  unfold zo_puti at h
  split at h
  · rename_i x a r
    obtain ⟨b, fs, ha, hkl, h⟩ := h
    obtain ⟨L, hL, hPP, hD⟩ := id hP
    obtain ⟨-, -, k0, hk0⟩ := pz_at (cy := cy) hL ha
    refine va_put (D := D) (v := pz_v (.inl x)) (ty := .int) hx hb hts hin ty0 hty hnm hown hK hPP hD hS k0 hk0 hc k hkN (hts _ hw) (fun _ h9 => h9) hfin hfd rfl rfl (by rw [List.length_map]; exact hkl) hd (fun H1 locs1 hP1 hD1 hS1 => ?_)
    rw [pz_mset] at hP1 hD1
    exact hk _ _ _ _ _ h ls H1 locs1 hl (pz_set (e := .inr (ci, fs.set k (.inl x))) hL hD ha hk0 hP1 hD1) hS1
  · exact h.elim
theorem zs_putiF {X : pz_C} {cc : ByteArray} {nL : Nat} {own : String} {K : pz_K} {pc : Nat} (hX : pz_X X cc nL own) {C : String} {T : u_T} {N ci k ix : Nat} (hc : vwCl[ci]? = some (C, T, N)) (hin : ∀ w ∈ u_ws C T N, w ∈ pz_W) (hkN : k < N) (hw : Cond.fieldLink own ix (T k).1 (T k).2.1 (T k).2.2.1 ∈ pz_W) (ty0 : Nat → FieldType) (hty : ∀ k, k < N → parseFieldDescriptor (T k).2.2.1 = some (ty0 k)) (hnm : ∀ a, a < N → ∀ b, b < N → a ≠ b → (T a).2.1 ≠ (T b).2.1) (hfd : parseFieldDescriptor (T k).2.2.1 = some .int) (hfin : (T k).2.2.2 = true) (hN : pz_N X) (hdc : (T k).1 = own) (hd : decode cc pc = .ok (.putfield ix, 3)) (hk : ∀ lv st g c s, K (pc + 3) lv st g c s → pz_Z X nL (pc + 3) lv st g c s) : ∀ lv st g c s, zo_puti ci k K pc lv st g c s → pz_Z X nL pc lv st g c s := by
  obtain ⟨p, l, e, R, s, m, args, below, meth, c, Q, D, cy, A, En⟩ := X
  obtain ⟨hx, hb, hml, hown, hts, hK, hA, hOk, hEn⟩ := hX
  intro lv st g c0 s0 h ls H locs hl hP hS
  unfold zo_puti at h
  split at h
  · rename_i x a r
    obtain ⟨b, fs, ha, hkl, h⟩ := h
    obtain ⟨L, hL, hPP, hD⟩ := id hP
    obtain ⟨-, -, k0, hk0⟩ := pz_at (cy := cy) hL ha
    refine va_putF (D := D) (v := pz_v (.inl x)) (ty := .int) hx hb hts hin ty0 hty hnm hown hK hPP hD hS k0 hk0 hc k hkN (hts _ hw) (fun _ h9 => h9) hfin hN hdc hfd rfl rfl (by rw [List.length_map]; exact hkl) hd (fun H1 locs1 hP1 hD1 hS1 => ?_)
    rw [pz_mset] at hP1 hD1
    exact hk _ _ _ _ _ h ls H1 locs1 hl (pz_set (e := .inr (ci, fs.set k (.inl x))) hL hD ha hk0 hP1 hD1) hS1
  · exact h.elim
def zo_putz (ci k : Nat) (K : pz_K) : pz_K := fun pc lv st g c s => match st with
  | .inl x :: .inr (.inr (some a)) :: r => (x = 0 ∨ x = 1) ∧ ∃ (b : List Nat) (fs : List pz_V), g a = some (b, .inr (ci, fs)) ∧ k < fs.length ∧ K (pc + 3) lv r (va_up g a (some (b, .inr (ci, fs.set k (.inl x))))) c s
  | _ => False
theorem zs_putz {X : pz_C} {cc : ByteArray} {nL : Nat} {own : String} {K : pz_K} {pc : Nat} (hX : pz_X X cc nL own) {C : String} {T : u_T} {N ci k ix : Nat} (hc : vwCl[ci]? = some (C, T, N)) (hin : ∀ w ∈ u_ws C T N, w ∈ pz_W) (hkN : k < N) (hw : Cond.fieldLink own ix (T k).1 (T k).2.1 (T k).2.2.1 ∈ pz_W) (ty0 : Nat → FieldType) (hty : ∀ k, k < N → parseFieldDescriptor (T k).2.2.1 = some (ty0 k)) (hnm : ∀ a, a < N → ∀ b, b < N → a ≠ b → (T a).2.1 ≠ (T b).2.1) (hfd : parseFieldDescriptor (T k).2.2.1 = some .boolean) (hfin : (T k).2.2.2 = false) (hd : decode cc pc = .ok (.putfield ix, 3)) (hk : ∀ lv st g c s, K (pc + 3) lv st g c s → pz_Z X nL (pc + 3) lv st g c s) : ∀ lv st g c s, zo_putz ci k K pc lv st g c s → pz_Z X nL pc lv st g c s := by
  obtain ⟨p, l, e, R, s, m, args, below, meth, c, Q, D, cy, A, En⟩ := X
  obtain ⟨hx, hb, hml, hown, hts, hK, hA, hOk, hEn⟩ := hX
  intro lv st g c0 s0 h ls H locs hl hP hS
  unfold zo_putz at h
  split at h
  · rename_i x a r
    obtain ⟨hz, b, fs, ha, hkl, h⟩ := h
    obtain ⟨L, hL, hPP, hD⟩ := id hP
    obtain ⟨-, -, k0, hk0⟩ := pz_at (cy := cy) hL ha
    refine va_put (D := D) (v := pz_v (.inl x)) (ty := .boolean) hx hb hts hin ty0 hty hnm hown hK hPP hD hS k0 hk0 hc k hkN (hts _ hw) (fun _ h9 => h9) hfin hfd (by rcases hz with rfl | rfl <;> rfl) (by rcases hz with rfl | rfl <;> rfl) (by rw [List.length_map]; exact hkl) hd (fun H1 locs1 hP1 hD1 hS1 => ?_)
    rw [pz_mset] at hP1 hD1
    exact hk _ _ _ _ _ h ls H1 locs1 hl (pz_set (e := .inr (ci, fs.set k (.inl x))) hL hD ha hk0 hP1 hD1) hS1
  · exact h.elim
theorem zs_putzF {X : pz_C} {cc : ByteArray} {nL : Nat} {own : String} {K : pz_K} {pc : Nat} (hX : pz_X X cc nL own) {C : String} {T : u_T} {N ci k ix : Nat} (hc : vwCl[ci]? = some (C, T, N)) (hin : ∀ w ∈ u_ws C T N, w ∈ pz_W) (hkN : k < N) (hw : Cond.fieldLink own ix (T k).1 (T k).2.1 (T k).2.2.1 ∈ pz_W) (ty0 : Nat → FieldType) (hty : ∀ k, k < N → parseFieldDescriptor (T k).2.2.1 = some (ty0 k)) (hnm : ∀ a, a < N → ∀ b, b < N → a ≠ b → (T a).2.1 ≠ (T b).2.1) (hfd : parseFieldDescriptor (T k).2.2.1 = some .boolean) (hfin : (T k).2.2.2 = true) (hN : pz_N X) (hdc : (T k).1 = own) (hd : decode cc pc = .ok (.putfield ix, 3)) (hk : ∀ lv st g c s, K (pc + 3) lv st g c s → pz_Z X nL (pc + 3) lv st g c s) : ∀ lv st g c s, zo_putz ci k K pc lv st g c s → pz_Z X nL pc lv st g c s := by
  obtain ⟨p, l, e, R, s, m, args, below, meth, c, Q, D, cy, A, En⟩ := X
  obtain ⟨hx, hb, hml, hown, hts, hK, hA, hOk, hEn⟩ := hX
  intro lv st g c0 s0 h ls H locs hl hP hS
  unfold zo_putz at h
  split at h
  · rename_i x a r
    obtain ⟨hz, b, fs, ha, hkl, h⟩ := h
    obtain ⟨L, hL, hPP, hD⟩ := id hP
    obtain ⟨-, -, k0, hk0⟩ := pz_at (cy := cy) hL ha
    refine va_putF (D := D) (v := pz_v (.inl x)) (ty := .boolean) hx hb hts hin ty0 hty hnm hown hK hPP hD hS k0 hk0 hc k hkN (hts _ hw) (fun _ h9 => h9) hfin hN hdc hfd (by rcases hz with rfl | rfl <;> rfl) (by rcases hz with rfl | rfl <;> rfl) (by rw [List.length_map]; exact hkl) hd (fun H1 locs1 hP1 hD1 hS1 => ?_)
    rw [pz_mset] at hP1 hD1
    exact hk _ _ _ _ _ h ls H1 locs1 hl (pz_set (e := .inr (ci, fs.set k (.inl x))) hL hD ha hk0 hP1 hD1) hS1
  · exact h.elim
def zo_putr (ci k : Nat) (K : pz_K) : pz_K := fun pc lv st g c s => match st with
  | .inr (.inr x) :: .inr (.inr (some a)) :: r => ∃ (b : List Nat) (fs : List pz_V), g a = some (b, .inr (ci, fs)) ∧ k < fs.length ∧ K (pc + 3) lv r (va_up g a (some (b, .inr (ci, fs.set k (.inr (.inr x)))))) c s
  | _ => False
theorem zs_putr {X : pz_C} {cc : ByteArray} {nL : Nat} {own : String} {K : pz_K} {pc : Nat} (hX : pz_X X cc nL own) {C : String} {T : u_T} {N ci k ix : Nat} (hc : vwCl[ci]? = some (C, T, N)) (hin : ∀ w ∈ u_ws C T N, w ∈ pz_W) (hkN : k < N) (hw : Cond.fieldLink own ix (T k).1 (T k).2.1 (T k).2.2.1 ∈ pz_W) (ty0 : Nat → FieldType) (hty : ∀ k, k < N → parseFieldDescriptor (T k).2.2.1 = some (ty0 k)) (hnm : ∀ a, a < N → ∀ b, b < N → a ≠ b → (T a).2.1 ≠ (T b).2.1) {ty : FieldType} (hfd : parseFieldDescriptor (T k).2.2.1 = some ty) (hrf : ty.isReference = true) (hfin : (T k).2.2.2 = false) (hd : decode cc pc = .ok (.putfield ix, 3)) (hk : ∀ lv st g c s, K (pc + 3) lv st g c s → pz_Z X nL (pc + 3) lv st g c s) : ∀ lv st g c s, zo_putr ci k K pc lv st g c s → pz_Z X nL pc lv st g c s := by
  obtain ⟨p, l, e, R, s, m, args, below, meth, c, Q, D, cy, A, En⟩ := X
  obtain ⟨hx, hb, hml, hown, hts, hK, hA, hOk, hEn⟩ := hX
  intro lv st g c0 s0 h ls H locs hl hP hS
  unfold zo_putr at h
  split at h
  · rename_i x a r
    obtain ⟨b, fs, ha, hkl, h⟩ := h
    obtain ⟨L, hL, hPP, hD⟩ := id hP
    obtain ⟨-, -, k0, hk0⟩ := pz_at (cy := cy) hL ha
    refine va_put (D := D) (v := pz_v (.inr (.inr x))) (ty := ty) hx hb hts hin ty0 hty hnm hown hK hPP hD hS k0 hk0 hc k hkN (hts _ hw) (fun _ h9 => h9) hfin hfd (pz_nref hrf x).1 (pz_nref hrf x).2 (by rw [List.length_map]; exact hkl) hd (fun H1 locs1 hP1 hD1 hS1 => ?_)
    rw [pz_mset] at hP1 hD1
    exact hk _ _ _ _ _ h ls H1 locs1 hl (pz_set (e := .inr (ci, fs.set k (.inr (.inr x)))) hL hD ha hk0 hP1 hD1) hS1
  · exact h.elim
theorem zs_putrF {X : pz_C} {cc : ByteArray} {nL : Nat} {own : String} {K : pz_K} {pc : Nat} (hX : pz_X X cc nL own) {C : String} {T : u_T} {N ci k ix : Nat} (hc : vwCl[ci]? = some (C, T, N)) (hin : ∀ w ∈ u_ws C T N, w ∈ pz_W) (hkN : k < N) (hw : Cond.fieldLink own ix (T k).1 (T k).2.1 (T k).2.2.1 ∈ pz_W) (ty0 : Nat → FieldType) (hty : ∀ k, k < N → parseFieldDescriptor (T k).2.2.1 = some (ty0 k)) (hnm : ∀ a, a < N → ∀ b, b < N → a ≠ b → (T a).2.1 ≠ (T b).2.1) {ty : FieldType} (hfd : parseFieldDescriptor (T k).2.2.1 = some ty) (hrf : ty.isReference = true) (hfin : (T k).2.2.2 = true) (hN : pz_N X) (hdc : (T k).1 = own) (hd : decode cc pc = .ok (.putfield ix, 3)) (hk : ∀ lv st g c s, K (pc + 3) lv st g c s → pz_Z X nL (pc + 3) lv st g c s) : ∀ lv st g c s, zo_putr ci k K pc lv st g c s → pz_Z X nL pc lv st g c s := by
  obtain ⟨p, l, e, R, s, m, args, below, meth, c, Q, D, cy, A, En⟩ := X
  obtain ⟨hx, hb, hml, hown, hts, hK, hA, hOk, hEn⟩ := hX
  intro lv st g c0 s0 h ls H locs hl hP hS
  unfold zo_putr at h
  split at h
  · rename_i x a r
    obtain ⟨b, fs, ha, hkl, h⟩ := h
    obtain ⟨L, hL, hPP, hD⟩ := id hP
    obtain ⟨-, -, k0, hk0⟩ := pz_at (cy := cy) hL ha
    refine va_putF (D := D) (v := pz_v (.inr (.inr x))) (ty := ty) hx hb hts hin ty0 hty hnm hown hK hPP hD hS k0 hk0 hc k hkN (hts _ hw) (fun _ h9 => h9) hfin hN hdc hfd (pz_nref hrf x).1 (pz_nref hrf x).2 (by rw [List.length_map]; exact hkl) hd (fun H1 locs1 hP1 hD1 hS1 => ?_)
    rw [pz_mset] at hP1 hD1
    exact hk _ _ _ _ _ h ls H1 locs1 hl (pz_set (e := .inr (ci, fs.set k (.inr (.inr x)))) hL hD ha hk0 hP1 hD1) hS1
  · exact h.elim
def zo_iald (K : pz_K) : pz_K := fun pc lv st g c s => match st with
  | .inl i :: .inr (.inr (some a)) :: r => ∃ (b : List Nat) (n : Nat) (f : Nat → Int32), g a = some (b, .inl (0, n, .inl f)) ∧ vp_in i n ∧ K (pc + 1) lv (.inl (f i.toNatClampNeg) :: r) g c s
  | _ => False
theorem zs_iald {X : pz_C} {cc : ByteArray} {nL : Nat} {own : String} {K : pz_K} {pc : Nat} (hX : pz_X X cc nL own) (hd : decode cc pc = .ok (.iaload, 1)) (hk : ∀ lv st g c s, K (pc + 1) lv st g c s → pz_Z X nL (pc + 1) lv st g c s) : ∀ lv st g c s, zo_iald K pc lv st g c s → pz_Z X nL pc lv st g c s := by
  obtain ⟨p, l, e, R, s, m, args, below, meth, c, Q, D, cy, A, En⟩ := X
  obtain ⟨hx, hb, hml, hown, hts, hK, hA, hOk, hEn⟩ := hX
  intro lv st g c0 s0 h ls H locs hl hP hS
  unfold zo_iald at h
  split at h
  · rename_i i a r
    obtain ⟨b, n, f, ha, hi, h⟩ := h
    obtain ⟨L, hL, hPP, hD⟩ := id hP
    obtain ⟨-, -, k0, hk0⟩ := pz_at (cy := cy) hL ha
    exact va_iald hx hb hK hPP k0 0 hk0 rfl hi hd (hk _ _ _ _ _ h ls H locs hl hP hS)
  · exact h.elim
def zo_zald (K : pz_K) : pz_K := fun pc lv st g c s => match st with
  | .inl i :: .inr (.inr (some a)) :: r => ∃ (b : List Nat) (n : Nat) (f : Nat → Int32), g a = some (b, .inl (2, n, .inl f)) ∧ vp_in i n ∧ K (pc + 1) lv (.inl (f i.toNatClampNeg) :: r) g c s
  | _ => False
theorem zs_zald {X : pz_C} {cc : ByteArray} {nL : Nat} {own : String} {K : pz_K} {pc : Nat} (hX : pz_X X cc nL own) (hd : decode cc pc = .ok (.baload, 1)) (hk : ∀ lv st g c s, K (pc + 1) lv st g c s → pz_Z X nL (pc + 1) lv st g c s) : ∀ lv st g c s, zo_zald K pc lv st g c s → pz_Z X nL pc lv st g c s := by
  obtain ⟨p, l, e, R, s, m, args, below, meth, c, Q, D, cy, A, En⟩ := X
  obtain ⟨hx, hb, hml, hown, hts, hK, hA, hOk, hEn⟩ := hX
  intro lv st g c0 s0 h ls H locs hl hP hS
  unfold zo_zald at h
  split at h
  · rename_i i a r
    obtain ⟨b, n, f, ha, hi, h⟩ := h
    obtain ⟨L, hL, hPP, hD⟩ := id hP
    obtain ⟨-, -, k0, hk0⟩ := pz_at (cy := cy) hL ha
    exact va_zald hx hb hK hPP k0 2 hk0 rfl hi hd (hk _ _ _ _ _ h ls H locs hl hP hS)
  · exact h.elim
def zo_cald (K : pz_K) : pz_K := fun pc lv st g c s => match st with
  | .inl i :: .inr (.inr (some a)) :: r => ∃ (b : List Nat) (n : Nat) (f : Nat → Int32), g a = some (b, .inl (3, n, .inl f)) ∧ vp_in i n ∧ K (pc + 1) lv (.inl (f i.toNatClampNeg) :: r) g c s
  | _ => False
theorem zs_cald {X : pz_C} {cc : ByteArray} {nL : Nat} {own : String} {K : pz_K} {pc : Nat} (hX : pz_X X cc nL own) (hd : decode cc pc = .ok (.caload, 1)) (hk : ∀ lv st g c s, K (pc + 1) lv st g c s → pz_Z X nL (pc + 1) lv st g c s) : ∀ lv st g c s, zo_cald K pc lv st g c s → pz_Z X nL pc lv st g c s := by
  obtain ⟨p, l, e, R, s, m, args, below, meth, c, Q, D, cy, A, En⟩ := X
  obtain ⟨hx, hb, hml, hown, hts, hK, hA, hOk, hEn⟩ := hX
  intro lv st g c0 s0 h ls H locs hl hP hS
  unfold zo_cald at h
  split at h
  · rename_i i a r
    obtain ⟨b, n, f, ha, hi, h⟩ := h
    obtain ⟨L, hL, hPP, hD⟩ := id hP
    obtain ⟨-, -, k0, hk0⟩ := pz_at (cy := cy) hL ha
    exact va_cald hx hb hK hPP k0 3 hk0 rfl hi hd (hk _ _ _ _ _ h ls H locs hl hP hS)
  · exact h.elim
def zo_lald (K : pz_K) : pz_K := fun pc lv st g c s => match st with
  | .inl i :: .inr (.inr (some a)) :: r => ∃ (b : List Nat) (n : Nat) (f : Nat → Int64), g a = some (b, .inl (1, n, .inr (.inl f))) ∧ vp_in i n ∧ K (pc + 1) lv (.inr (.inl (f i.toNatClampNeg)) :: r) g c s
  | _ => False
theorem zs_lald {X : pz_C} {cc : ByteArray} {nL : Nat} {own : String} {K : pz_K} {pc : Nat} (hX : pz_X X cc nL own) (hd : decode cc pc = .ok (.laload, 1)) (hk : ∀ lv st g c s, K (pc + 1) lv st g c s → pz_Z X nL (pc + 1) lv st g c s) : ∀ lv st g c s, zo_lald K pc lv st g c s → pz_Z X nL pc lv st g c s := by
  obtain ⟨p, l, e, R, s, m, args, below, meth, c, Q, D, cy, A, En⟩ := X
  obtain ⟨hx, hb, hml, hown, hts, hK, hA, hOk, hEn⟩ := hX
  intro lv st g c0 s0 h ls H locs hl hP hS
  unfold zo_lald at h
  split at h
  · rename_i i a r
    obtain ⟨b, n, f, ha, hi, h⟩ := h
    obtain ⟨L, hL, hPP, hD⟩ := id hP
    obtain ⟨-, -, k0, hk0⟩ := pz_at (cy := cy) hL ha
    exact va_lald hx hb hK hPP k0 1 hk0 rfl hi hd (hk _ _ _ _ _ h ls H locs hl hP hS)
  · exact h.elim
def zo_aald (t : Nat) (K : pz_K) : pz_K := fun pc lv st g c s => match st with
  | .inl i :: .inr (.inr (some a)) :: r => ∃ (b : List Nat) (n : Nat) (f : Nat → Option Nat), g a = some (b, .inl (t, n, .inr (.inr (.inr (.inr f))))) ∧ vp_in i n ∧ K (pc + 1) lv (.inr (.inr (f i.toNatClampNeg)) :: r) g c s
  | _ => False
theorem zs_aald {X : pz_C} {cc : ByteArray} {nL : Nat} {own : String} {K : pz_K} {pc : Nat} (hX : pz_X X cc nL own) {t : Nat} {ty : FieldType} (ht : ∀ cy : Nat → ClassId, (pz_ty cy)[t]? = some (cy t, ty)) (hrf : ty.isReference = true) (hd : decode cc pc = .ok (.aaload, 1)) (hk : ∀ lv st g c s, K (pc + 1) lv st g c s → pz_Z X nL (pc + 1) lv st g c s) : ∀ lv st g c s, zo_aald t K pc lv st g c s → pz_Z X nL pc lv st g c s := by
  obtain ⟨p, l, e, R, s, m, args, below, meth, c, Q, D, cy, A, En⟩ := X
  obtain ⟨hx, hb, hml, hown, hts, hK, hA, hOk, hEn⟩ := hX
  intro lv st g c0 s0 h ls H locs hl hP hS
  unfold zo_aald at h
  split at h
  · rename_i i a r
    obtain ⟨b, n, f, ha, hi, h⟩ := h
    obtain ⟨L, hL, hPP, hD⟩ := id hP
    obtain ⟨-, -, k0, hk0⟩ := pz_at (cy := cy) hL ha
    have hlt : i.toNatClampNeg < n := Nat.not_le.mp fun q => hi (Or.inr q)
    exact W.aald (v := va_rf (f i.toNatClampNeg)) (ty := ty) hx hb (hPP k0 _ hk0) ((hK.2 t _ (ht cy)).1 n (fun j => va_rf (f j))) hrf (fun q => by cases q) (by show ¬ (i < 0 ∨ (arrV _ _ _).slots.size ≤ _); rw [arrV_size]; exact hi) (by show (arrV _ _ _).slots[_]? = _; rw [arrV_read _ _ hlt]) rfl rfl hd (hk _ _ _ _ _ h ls H locs hl hP hS)
  · exact h.elim
def zo_iast (K : pz_K) : pz_K := fun pc lv st g c s => match st with
  | .inl x :: .inl i :: .inr (.inr (some a)) :: r => ∃ (b : List Nat) (n : Nat) (f : Nat → Int32), g a = some (b, .inl (0, n, .inl f)) ∧ vp_in i n ∧ K (pc + 1) lv r (va_up g a (some (b, .inl (0, n, .inl (upd f i.toNatClampNeg x))))) c s
  | _ => False
theorem zs_iast {X : pz_C} {cc : ByteArray} {nL : Nat} {own : String} {K : pz_K} {pc : Nat} (hX : pz_X X cc nL own) (hd : decode cc pc = .ok (.iastore, 1)) (hk : ∀ lv st g c s, K (pc + 1) lv st g c s → pz_Z X nL (pc + 1) lv st g c s) : ∀ lv st g c s, zo_iast K pc lv st g c s → pz_Z X nL pc lv st g c s := by
  obtain ⟨p, l, e, R, s, m, args, below, meth, c, Q, D, cy, A, En⟩ := X
  obtain ⟨hx, hb, hml, hown, hts, hK, hA, hOk, hEn⟩ := hX
  intro lv st g c0 s0 h ls H locs hl hP hS
  unfold zo_iast at h
  split at h
  · rename_i x i a r
    obtain ⟨b, n, f, ha, hi, h⟩ := h
    obtain ⟨L, hL, hPP, hD⟩ := id hP
    obtain ⟨-, -, k0, hk0⟩ := pz_at (cy := cy) hL ha
    exact va_iast hx hb hK hPP hD hS k0 0 hk0 rfl hi hd (fun H1 locs1 hP1 hD1 hS1 => hk _ _ _ _ _ h ls H1 locs1 hl (pz_set (e := .inl (0, n, .inl (upd f i.toNatClampNeg x))) hL hD ha hk0 hP1 hD1) hS1)
  · exact h.elim
def zo_zast (K : pz_K) : pz_K := fun pc lv st g c s => match st with
  | .inl x :: .inl i :: .inr (.inr (some a)) :: r => ∃ (b : List Nat) (n : Nat) (f : Nat → Int32), g a = some (b, .inl (2, n, .inl f)) ∧ vp_in i n ∧ K (pc + 1) lv r (va_up g a (some (b, .inl (2, n, .inl (upd f i.toNatClampNeg (vp_nar .boolean x)))))) c s
  | _ => False
theorem zs_zast {X : pz_C} {cc : ByteArray} {nL : Nat} {own : String} {K : pz_K} {pc : Nat} (hX : pz_X X cc nL own) (hd : decode cc pc = .ok (.bastore, 1)) (hk : ∀ lv st g c s, K (pc + 1) lv st g c s → pz_Z X nL (pc + 1) lv st g c s) : ∀ lv st g c s, zo_zast K pc lv st g c s → pz_Z X nL pc lv st g c s := by
  obtain ⟨p, l, e, R, s, m, args, below, meth, c, Q, D, cy, A, En⟩ := X
  obtain ⟨hx, hb, hml, hown, hts, hK, hA, hOk, hEn⟩ := hX
  intro lv st g c0 s0 h ls H locs hl hP hS
  unfold zo_zast at h
  split at h
  · rename_i x i a r
    obtain ⟨b, n, f, ha, hi, h⟩ := h
    obtain ⟨L, hL, hPP, hD⟩ := id hP
    obtain ⟨-, -, k0, hk0⟩ := pz_at (cy := cy) hL ha
    exact va_zast hx hb hK hPP hD hS k0 2 hk0 rfl hi hd (fun H1 locs1 hP1 hD1 hS1 => hk _ _ _ _ _ h ls H1 locs1 hl (pz_set (e := .inl (2, n, .inl (upd f i.toNatClampNeg (vp_nar .boolean x)))) hL hD ha hk0 hP1 hD1) hS1)
  · exact h.elim
def zo_cast (K : pz_K) : pz_K := fun pc lv st g c s => match st with
  | .inl x :: .inl i :: .inr (.inr (some a)) :: r => ∃ (b : List Nat) (n : Nat) (f : Nat → Int32), g a = some (b, .inl (3, n, .inl f)) ∧ vp_in i n ∧ K (pc + 1) lv r (va_up g a (some (b, .inl (3, n, .inl (upd f i.toNatClampNeg (vp_nar .char x)))))) c s
  | _ => False
theorem zs_cast {X : pz_C} {cc : ByteArray} {nL : Nat} {own : String} {K : pz_K} {pc : Nat} (hX : pz_X X cc nL own) (hd : decode cc pc = .ok (.castore, 1)) (hk : ∀ lv st g c s, K (pc + 1) lv st g c s → pz_Z X nL (pc + 1) lv st g c s) : ∀ lv st g c s, zo_cast K pc lv st g c s → pz_Z X nL pc lv st g c s := by
  obtain ⟨p, l, e, R, s, m, args, below, meth, c, Q, D, cy, A, En⟩ := X
  obtain ⟨hx, hb, hml, hown, hts, hK, hA, hOk, hEn⟩ := hX
  intro lv st g c0 s0 h ls H locs hl hP hS
  unfold zo_cast at h
  split at h
  · rename_i x i a r
    obtain ⟨b, n, f, ha, hi, h⟩ := h
    obtain ⟨L, hL, hPP, hD⟩ := id hP
    obtain ⟨-, -, k0, hk0⟩ := pz_at (cy := cy) hL ha
    exact va_cast hx hb hK hPP hD hS k0 3 hk0 rfl hi hd (fun H1 locs1 hP1 hD1 hS1 => hk _ _ _ _ _ h ls H1 locs1 hl (pz_set (e := .inl (3, n, .inl (upd f i.toNatClampNeg (vp_nar .char x)))) hL hD ha hk0 hP1 hD1) hS1)
  · exact h.elim
def zo_last (K : pz_K) : pz_K := fun pc lv st g c s => match st with
  | .inr (.inl x) :: .inl i :: .inr (.inr (some a)) :: r => ∃ (b : List Nat) (n : Nat) (f : Nat → Int64), g a = some (b, .inl (1, n, .inr (.inl f))) ∧ vp_in i n ∧ K (pc + 1) lv r (va_up g a (some (b, .inl (1, n, .inr (.inl (vp_updL f i.toNatClampNeg x)))))) c s
  | _ => False
theorem zs_last {X : pz_C} {cc : ByteArray} {nL : Nat} {own : String} {K : pz_K} {pc : Nat} (hX : pz_X X cc nL own) (hd : decode cc pc = .ok (.lastore, 1)) (hk : ∀ lv st g c s, K (pc + 1) lv st g c s → pz_Z X nL (pc + 1) lv st g c s) : ∀ lv st g c s, zo_last K pc lv st g c s → pz_Z X nL pc lv st g c s := by
  obtain ⟨p, l, e, R, s, m, args, below, meth, c, Q, D, cy, A, En⟩ := X
  obtain ⟨hx, hb, hml, hown, hts, hK, hA, hOk, hEn⟩ := hX
  intro lv st g c0 s0 h ls H locs hl hP hS
  unfold zo_last at h
  split at h
  · rename_i x i a r
    obtain ⟨b, n, f, ha, hi, h⟩ := h
    obtain ⟨L, hL, hPP, hD⟩ := id hP
    obtain ⟨-, -, k0, hk0⟩ := pz_at (cy := cy) hL ha
    exact va_last hx hb hK hPP hD hS k0 1 hk0 rfl hi hd (fun H1 locs1 hP1 hD1 hS1 => hk _ _ _ _ _ h ls H1 locs1 hl (pz_set (e := .inl (1, n, .inr (.inl (vp_updL f i.toNatClampNeg x)))) hL hD ha hk0 hP1 hD1) hS1)
  · exact h.elim
def zo_alen (K : pz_K) : pz_K := fun pc lv st g c s => match st with
  | .inr (.inr (some a)) :: r => ∃ (b : List Nat) (t : Nat) (x : vp_A), g a = some (b, .inl (t, x)) ∧ t < 7 ∧ K (pc + 1) lv (.inl (Int32.ofNat x.1) :: r) g c s
  | _ => False
theorem zs_alen {X : pz_C} {cc : ByteArray} {nL : Nat} {own : String} {K : pz_K} {pc : Nat} (hX : pz_X X cc nL own) (hd : decode cc pc = .ok (.arraylength, 1)) (hk : ∀ lv st g c s, K (pc + 1) lv st g c s → pz_Z X nL (pc + 1) lv st g c s) : ∀ lv st g c s, zo_alen K pc lv st g c s → pz_Z X nL pc lv st g c s := by
  obtain ⟨p, l, e, R, s, m, args, below, meth, c, Q, D, cy, A, En⟩ := X
  obtain ⟨hx, hb, hml, hown, hts, hK, hA, hOk, hEn⟩ := hX
  intro lv st g c0 s0 h ls H locs hl hP hS
  unfold zo_alen at h
  split at h
  · rename_i a r
    obtain ⟨b, t, x, ha, ht, h⟩ := h
    obtain ⟨L, hL, hPP, hD⟩ := id hP
    obtain ⟨-, -, k0, hk0⟩ := pz_at (cy := cy) hL ha
    obtain ⟨ty, hty⟩ := pz_tyIx (cy := cy) ht
    exact va_alen hx hb hK hPP k0 t hk0 hty rfl hd (hk _ _ _ _ _ h ls H locs hl hP hS)
  · exact h.elim
def zo_new (R : Room) (ci N : Nat) (fs : List pz_V) (K : pz_K) : pz_K := fun pc lv st g c s => c + 1 ≤ R.cells ∧ s + N ≤ R.slots ∧ ∃ b : List Nat, ∀ q : Nat, g q = none → K (pc + 3) lv (.inr (.inr (some q)) :: st) (va_up g q (some (b, .inr (ci, fs)))) (c + 1) (s + N)
theorem zs_new {X : pz_C} {cc : ByteArray} {nL : Nat} {own : String} {K : pz_K} {pc : Nat} (hX : pz_X X cc nL own) {C : String} {T : u_T} {N ci ix : Nat} {fs : List pz_V} (hc : vwCl[ci]? = some (C, T, N)) (hin : ∀ w ∈ u_ws C T N, w ∈ pz_W) (ty0 : Nat → FieldType) (hty : ∀ k, k < N → parseFieldDescriptor (T k).2.2.1 = some (ty0 k)) (hw1 : Cond.classLink own ix C ∈ pz_W) (hw2 : Cond.instantiable C N ∈ pz_W) (hw3 : Cond.initialized C ∈ pz_W) (hfs : ∀ j, j < N → defaultValue (ty0 j) = vp_V (fs.map pz_v) j) (hd : decode cc pc = .ok (.new ix, 3)) (hk : ∀ lv st g c s, K (pc + 3) lv st g c s → pz_Z X nL (pc + 3) lv st g c s) : ∀ lv st g c s, zo_new (pz_rm X) ci N fs K pc lv st g c s → pz_Z X nL pc lv st g c s := by
  obtain ⟨p, l, e, R, s, m, args, below, meth, c, Q, D, cy, A, En⟩ := X
  obtain ⟨hx, hb, hml, hown, hts, hK, hA, hOk, hEn⟩ := hX
  intro lv st g c0 s0 h ls H locs hl hP hS
  obtain ⟨h1, h2, b, h⟩ := h
  obtain ⟨L, hL, hPP, hD⟩ := id hP
  refine va_new (D := D) (fs := fs.map pz_v) hx hb hts hin ty0 hty hown (hts _ hw1) (hts _ hw2) (hts _ hw3) hK hPP hD hS hA hc hfs h1 h2 hd (fun q H1 hP1 hD1 hS1 => ?_)
  obtain ⟨hq, hp⟩ := pz_push (cy := cy) (e := .inr (ci, fs)) hL b hP1 hD1
  exact hk _ _ _ _ _ (h q hq) ls H1 locs hl hp hS1
def zo_newa (R : Room) (t : Nat) (z : (Nat → Int32) ⊕ (Nat → Int64) ⊕ (Nat → UInt32) ⊕ (Nat → UInt64) ⊕ (Nat → Option Nat)) (K : pz_K) : pz_K := fun pc lv st g c s => match st with
  | .inl n :: r => ¬ n < 0 ∧ n.toNatClampNeg ≤ 1000000 ∧ c + 1 ≤ R.cells ∧ s + n.toNatClampNeg ≤ R.slots ∧ ∃ b : List Nat, ∀ q : Nat, g q = none → K (pc + 2) lv (.inr (.inr (some q)) :: r) (va_up g q (some (b, .inl (t, n.toNatClampNeg, z)))) (c + 1) (s + n.toNatClampNeg)
  | _ => False
theorem zs_newI {X : pz_C} {cc : ByteArray} {nL : Nat} {own : String} {K : pz_K} {pc : Nat} (hX : pz_X X cc nL own) (hw : Cond.arrayClass .int ∈ pz_W) (hd : decode cc pc = .ok (.newarray .int, 2)) (hk : ∀ lv st g c s, K (pc + 2) lv st g c s → pz_Z X nL (pc + 2) lv st g c s) : ∀ lv st g c s, zo_newa (pz_rm X) 0 (.inl (fun _ => 0)) K pc lv st g c s → pz_Z X nL pc lv st g c s := by
  obtain ⟨p, l, e, R, s, m, args, below, meth, c, Q, D, cy, A, En⟩ := X
  obtain ⟨hx, hb, hml, hown, hts, hK, hA, hOk, hEn⟩ := hX
  intro lv st g c0 s0 h ls H locs hl hP hS
  unfold zo_newa at h
  split at h
  · rename_i n r
    obtain ⟨h0, h00, h1, h2, b, h⟩ := h
    obtain ⟨L, hL, hPP, hD⟩ := id hP
    refine va_newa (D := D) (atype := .int) (ty := .int) (a0 := (n.toNatClampNeg, .inl (fun _ => 0))) hx hb (hts _ hw) rfl hK hPP hD hS hA (fun _ => rfl) h0 rfl (Nat.le_trans (Nat.mul_le_mul_right _ h00) (by decide)) h1 h2 hd (fun q cA H1 hK1 hP1 hD1 hS1 => ?_)
    have e1 : s.vm.findClass ("[" ++ FieldType.toString .int) = some (cy 0) := (hK.2 0 _ rfl).2
    have e2 : s.vm.findClass ("[" ++ FieldType.toString .int) = some cA := (hK1.2 7 _ rfl).2
    have e3 : cy 0 = cA := Option.some.inj (e1.symm.trans e2)
    subst e3
    obtain ⟨hq, hp⟩ := pz_push (cy := cy) (e := .inl (0, n.toNatClampNeg, .inl (fun _ => 0))) hL b hP1 hD1
    exact hk _ _ _ _ _ (h q hq) ls H1 locs hl hp hS1
  · exact h.elim
theorem zs_newJ {X : pz_C} {cc : ByteArray} {nL : Nat} {own : String} {K : pz_K} {pc : Nat} (hX : pz_X X cc nL own) (hw : Cond.arrayClass .long ∈ pz_W) (hd : decode cc pc = .ok (.newarray .long, 2)) (hk : ∀ lv st g c s, K (pc + 2) lv st g c s → pz_Z X nL (pc + 2) lv st g c s) : ∀ lv st g c s, zo_newa (pz_rm X) 1 (.inr (.inl (fun _ => 0))) K pc lv st g c s → pz_Z X nL pc lv st g c s := by
  obtain ⟨p, l, e, R, s, m, args, below, meth, c, Q, D, cy, A, En⟩ := X
  obtain ⟨hx, hb, hml, hown, hts, hK, hA, hOk, hEn⟩ := hX
  intro lv st g c0 s0 h ls H locs hl hP hS
  unfold zo_newa at h
  split at h
  · rename_i n r
    obtain ⟨h0, h00, h1, h2, b, h⟩ := h
    obtain ⟨L, hL, hPP, hD⟩ := id hP
    refine va_newa (D := D) (atype := .long) (ty := .long) (a0 := (n.toNatClampNeg, .inr (.inl (fun _ => 0)))) hx hb (hts _ hw) rfl hK hPP hD hS hA (fun _ => rfl) h0 rfl (Nat.le_trans (Nat.mul_le_mul_right _ h00) (by decide)) h1 h2 hd (fun q cA H1 hK1 hP1 hD1 hS1 => ?_)
    have e1 : s.vm.findClass ("[" ++ FieldType.toString .long) = some (cy 1) := (hK.2 1 _ rfl).2
    have e2 : s.vm.findClass ("[" ++ FieldType.toString .long) = some cA := (hK1.2 7 _ rfl).2
    have e3 : cy 1 = cA := Option.some.inj (e1.symm.trans e2)
    subst e3
    obtain ⟨hq, hp⟩ := pz_push (cy := cy) (e := .inl (1, n.toNatClampNeg, .inr (.inl (fun _ => 0)))) hL b hP1 hD1
    exact hk _ _ _ _ _ (h q hq) ls H1 locs hl hp hS1
  · exact h.elim
theorem zs_newZ {X : pz_C} {cc : ByteArray} {nL : Nat} {own : String} {K : pz_K} {pc : Nat} (hX : pz_X X cc nL own) (hw : Cond.arrayClass .boolean ∈ pz_W) (hd : decode cc pc = .ok (.newarray .boolean, 2)) (hk : ∀ lv st g c s, K (pc + 2) lv st g c s → pz_Z X nL (pc + 2) lv st g c s) : ∀ lv st g c s, zo_newa (pz_rm X) 2 (.inl (fun _ => 0)) K pc lv st g c s → pz_Z X nL pc lv st g c s := by
  obtain ⟨p, l, e, R, s, m, args, below, meth, c, Q, D, cy, A, En⟩ := X
  obtain ⟨hx, hb, hml, hown, hts, hK, hA, hOk, hEn⟩ := hX
  intro lv st g c0 s0 h ls H locs hl hP hS
  unfold zo_newa at h
  split at h
  · rename_i n r
    obtain ⟨h0, h00, h1, h2, b, h⟩ := h
    obtain ⟨L, hL, hPP, hD⟩ := id hP
    refine va_newa (D := D) (atype := .boolean) (ty := .boolean) (a0 := (n.toNatClampNeg, .inl (fun _ => 0))) hx hb (hts _ hw) rfl hK hPP hD hS hA (fun _ => rfl) h0 rfl (Nat.le_trans (Nat.mul_le_mul_right _ h00) (by decide)) h1 h2 hd (fun q cA H1 hK1 hP1 hD1 hS1 => ?_)
    have e1 : s.vm.findClass ("[" ++ FieldType.toString .boolean) = some (cy 2) := (hK.2 2 _ rfl).2
    have e2 : s.vm.findClass ("[" ++ FieldType.toString .boolean) = some cA := (hK1.2 7 _ rfl).2
    have e3 : cy 2 = cA := Option.some.inj (e1.symm.trans e2)
    subst e3
    obtain ⟨hq, hp⟩ := pz_push (cy := cy) (e := .inl (2, n.toNatClampNeg, .inl (fun _ => 0))) hL b hP1 hD1
    exact hk _ _ _ _ _ (h q hq) ls H1 locs hl hp hS1
  · exact h.elim
theorem zs_newC {X : pz_C} {cc : ByteArray} {nL : Nat} {own : String} {K : pz_K} {pc : Nat} (hX : pz_X X cc nL own) (hw : Cond.arrayClass .char ∈ pz_W) (hd : decode cc pc = .ok (.newarray .char, 2)) (hk : ∀ lv st g c s, K (pc + 2) lv st g c s → pz_Z X nL (pc + 2) lv st g c s) : ∀ lv st g c s, zo_newa (pz_rm X) 3 (.inl (fun _ => 0)) K pc lv st g c s → pz_Z X nL pc lv st g c s := by
  obtain ⟨p, l, e, R, s, m, args, below, meth, c, Q, D, cy, A, En⟩ := X
  obtain ⟨hx, hb, hml, hown, hts, hK, hA, hOk, hEn⟩ := hX
  intro lv st g c0 s0 h ls H locs hl hP hS
  unfold zo_newa at h
  split at h
  · rename_i n r
    obtain ⟨h0, h00, h1, h2, b, h⟩ := h
    obtain ⟨L, hL, hPP, hD⟩ := id hP
    refine va_newa (D := D) (atype := .char) (ty := .char) (a0 := (n.toNatClampNeg, .inl (fun _ => 0))) hx hb (hts _ hw) rfl hK hPP hD hS hA (fun _ => rfl) h0 rfl (Nat.le_trans (Nat.mul_le_mul_right _ h00) (by decide)) h1 h2 hd (fun q cA H1 hK1 hP1 hD1 hS1 => ?_)
    have e1 : s.vm.findClass ("[" ++ FieldType.toString .char) = some (cy 3) := (hK.2 3 _ rfl).2
    have e2 : s.vm.findClass ("[" ++ FieldType.toString .char) = some cA := (hK1.2 7 _ rfl).2
    have e3 : cy 3 = cA := Option.some.inj (e1.symm.trans e2)
    subst e3
    obtain ⟨hq, hp⟩ := pz_push (cy := cy) (e := .inl (3, n.toNatClampNeg, .inl (fun _ => 0))) hL b hP1 hD1
    exact hk _ _ _ _ _ (h q hq) ls H1 locs hl hp hS1
  · exact h.elim
def zo_cast1 (ci : Nat) (K : pz_K) : pz_K := fun pc lv st g c s => match st with
  | .inr (.inr (some a)) :: r => ∃ (b : List Nat) (fs : List pz_V), g a = some (b, .inr (ci, fs)) ∧ K (pc + 3) lv (.inr (.inr (some a)) :: r) g c s
  | _ => False
theorem zs_cast1 {X : pz_C} {cc : ByteArray} {nL : Nat} {own : String} {K : pz_K} {pc : Nat} (hX : pz_X X cc nL own) {C : String} {T : u_T} {N ci ix : Nat} (hc : vwCl[ci]? = some (C, T, N)) (hw : Cond.classLink own ix C ∈ pz_W) (hd : decode cc pc = .ok (.checkcast ix, 3)) (hk : ∀ lv st g c s, K (pc + 3) lv st g c s → pz_Z X nL (pc + 3) lv st g c s) : ∀ lv st g c s, zo_cast1 ci K pc lv st g c s → pz_Z X nL pc lv st g c s := by
  obtain ⟨p, l, e, R, s, m, args, below, meth, c, Q, D, cy, A, En⟩ := X
  obtain ⟨hx, hb, hml, hown, hts, hK, hA, hOk, hEn⟩ := hX
  intro lv st g c0 s0 h ls H locs hl hP hS
  unfold zo_cast1 at h
  split at h
  · rename_i a r
    obtain ⟨b, fs, ha, h⟩ := h
    obtain ⟨L, hL, hPP, hD⟩ := id hP
    obtain ⟨-, -, k0, hk0⟩ := pz_at (cy := cy) hL ha
    exact va_castS hx hb hown (hts _ hw) (hK.1 ci _ hc).2 (va_recv hK hPP hc hk0) hd (hk _ _ _ _ _ h ls H locs hl hP hS)
  · exact h.elim
def zo_oin (R : Room) (K : pz_K) : pz_K := fun pc lv st g c s => match st with
  | .inr (.inr (some a)) :: r => 1 ≤ R.frames ∧ (r.map fun v => (pz_v v).category).sum + 12 ≤ R.locals ∧ K (pc + 3) lv r g c s
  | _ => False
theorem zs_oin {X : pz_C} {cc : ByteArray} {nL : Nat} {own : String} {K : pz_K} {pc : Nat} (hX : pz_X X cc nL own) {ix : Nat} (hw1 : Cond.methodLink own ix objectInit ∈ pz_W) (hw2 : Cond.instanceMethod objectInit ∈ pz_W) (hw3 : Cond.code objectInit ⟨#[0xb1]⟩ 1 none ∈ pz_W) (hd : decode cc pc = .ok (.invokespecial ix, 3)) (hk : ∀ lv st g c s, K (pc + 3) lv st g c s → pz_Z X nL (pc + 3) lv st g c s) : ∀ lv st g c s, zo_oin (pz_rm X) K pc lv st g c s → pz_Z X nL pc lv st g c s := by
  obtain ⟨p, l, e, R, s, m, args, below, meth, c, Q, D, cy, A, En⟩ := X
  obtain ⟨hx, hb, hml, hown, hts, hK, hA, hOk, hEn⟩ := hX
  intro lv st g c0 s0 h ls H locs hl hP hS
  unfold zo_oin at h
  split at h
  · rename_i a r
    obtain ⟨h1, h2, h⟩ := h
    refine W.objInit hx hb hown (hts _ hw1) (hts _ hw2) (hts _ hw3) (g := F0 m pc ls (.ref a :: r.map pz_v)) rfl (by rw [hml]; exact hl.1) rfl hd h1 ?_ ?_
    · have e9 : (2 * (F0 m pc ls (.ref a :: r.map pz_v)).monitorRoom) = 0 := rfl
      rw [e9, List.map_map, Nat.zero_add]
      exact h2
    · exact hk _ _ _ _ _ h ls H locs hl hP hS
  · exact h.elim
