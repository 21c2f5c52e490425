def zo_ic (n : Nat) (v : Int32) (K : pz_K) : pz_K := fun pc lv st g c s => K (pc + n) lv (.inl v :: st) g c s
theorem zs_iconst {X : pz_C} {cc : ByteArray} {nL : Nat} {own : String} {K : pz_K} {pc : Nat} (hX : pz_X X cc nL own) {n : Int} {v : Int32} (hd : decode cc pc = .ok (.iconst n, 1)) (hv : Int32.ofInt n = v) (hk : ∀ lv st g c s, K (pc + 1) lv st g c s → pz_Z X nL (pc + 1) lv st g c s) : ∀ lv st g c s, zo_ic 1 v K pc lv st g c s → pz_Z X nL pc lv st g c s := by
  obtain ⟨p, l, e, R, s, m, args, below, meth, c, Q, D, cy, A, En⟩ := X
  obtain ⟨hx, hb, hml, hown, hts, hK, hA, hOk, hEn⟩ := hX
  intro lv st g c0 s0 h ls H locs hl hP hS
  exact lv_iconst hx hb hd hv (hk _ _ _ _ _ h ls H locs hl hP hS)
theorem zs_bipush {X : pz_C} {cc : ByteArray} {nL : Nat} {own : String} {K : pz_K} {pc : Nat} (hX : pz_X X cc nL own) {n : Int} {v : Int32} (hd : decode cc pc = .ok (.bipush n, 2)) (hv : (Int8.ofInt n).toInt32 = v) (hk : ∀ lv st g c s, K (pc + 2) lv st g c s → pz_Z X nL (pc + 2) lv st g c s) : ∀ lv st g c s, zo_ic 2 v K pc lv st g c s → pz_Z X nL pc lv st g c s := by
  obtain ⟨p, l, e, R, s, m, args, below, meth, c, Q, D, cy, A, En⟩ := X
  obtain ⟨hx, hb, hml, hown, hts, hK, hA, hOk, hEn⟩ := hX
  intro lv st g c0 s0 h ls H locs hl hP hS
  exact lv_bipush hx hb hd hv (hk _ _ _ _ _ h ls H locs hl hP hS)
theorem zs_sipush {X : pz_C} {cc : ByteArray} {nL : Nat} {own : String} {K : pz_K} {pc : Nat} (hX : pz_X X cc nL own) {n : Int} {v : Int32} (hd : decode cc pc = .ok (.sipush n, 3)) (hv : (Int16.ofInt n).toInt32 = v) (hk : ∀ lv st g c s, K (pc + 3) lv st g c s → pz_Z X nL (pc + 3) lv st g c s) : ∀ lv st g c s, zo_ic 3 v K pc lv st g c s → pz_Z X nL pc lv st g c s := by
  obtain ⟨p, l, e, R, s, m, args, below, meth, c, Q, D, cy, A, En⟩ := X
  obtain ⟨hx, hb, hml, hown, hts, hK, hA, hOk, hEn⟩ := hX
  intro lv st g c0 s0 h ls H locs hl hP hS
  exact lv_sipush hx hb hd hv (hk _ _ _ _ _ h ls H locs hl hP hS)
theorem zs_ldc {X : pz_C} {cc : ByteArray} {nL : Nat} {own : String} {K : pz_K} {pc : Nat} (hX : pz_X X cc nL own) {ix : Nat} {v : Int32} (hd : decode cc pc = .ok (.ldc ix, 2)) (hw : Cond.constant own ix v ∈ pz_W) (hk : ∀ lv st g c s, K (pc + 2) lv st g c s → pz_Z X nL (pc + 2) lv st g c s) : ∀ lv st g c s, zo_ic 2 v K pc lv st g c s → pz_Z X nL pc lv st g c s := by
  obtain ⟨p, l, e, R, s, m, args, below, meth, c, Q, D, cy, A, En⟩ := X
  obtain ⟨hx, hb, hml, hown, hts, hK, hA, hOk, hEn⟩ := hX
  intro lv st g c0 s0 h ls H locs hl hP hS
  exact lv_ldc hx hb hown (hts _ hw) hd (hk _ _ _ _ _ h ls H locs hl hP hS)
def zo_lc (n : Nat) (v : Int64) (K : pz_K) : pz_K := fun pc lv st g c s => K (pc + n) lv (.inr (.inl v) :: st) g c s
theorem zs_lconst {X : pz_C} {cc : ByteArray} {nL : Nat} {own : String} {K : pz_K} {pc : Nat} (hX : pz_X X cc nL own) {n : Fin 2} {v : Int64} (hd : decode cc pc = .ok (.lconst n, 1)) (hv : Int64.ofNat (n : Nat) = v) (hk : ∀ lv st g c s, K (pc + 1) lv st g c s → pz_Z X nL (pc + 1) lv st g c s) : ∀ lv st g c s, zo_lc 1 v K pc lv st g c s → pz_Z X nL pc lv st g c s := by
  obtain ⟨p, l, e, R, s, m, args, below, meth, c, Q, D, cy, A, En⟩ := X
  obtain ⟨hx, hb, hml, hown, hts, hK, hA, hOk, hEn⟩ := hX
  intro lv st g c0 s0 h ls H locs hl hP hS
  exact lv_lconst hx hb hd hv (hk _ _ _ _ _ h ls H locs hl hP hS)
theorem zs_ldc2 {X : pz_C} {cc : ByteArray} {nL : Nat} {own : String} {K : pz_K} {pc : Nat} (hX : pz_X X cc nL own) {ix : Nat} {v : Int64} (hd : decode cc pc = .ok (.ldc2_w ix, 3)) (hw : Cond.constantLong own ix v ∈ pz_W) (hk : ∀ lv st g c s, K (pc + 3) lv st g c s → pz_Z X nL (pc + 3) lv st g c s) : ∀ lv st g c s, zo_lc 3 v K pc lv st g c s → pz_Z X nL pc lv st g c s := by
  obtain ⟨p, l, e, R, s, m, args, below, meth, c, Q, D, cy, A, En⟩ := X
  obtain ⟨hx, hb, hml, hown, hts, hK, hA, hOk, hEn⟩ := hX
  intro lv st g c0 s0 h ls H locs hl hP hS
  exact lv_ldc2 hx hb hown (hts _ hw) hd (hk _ _ _ _ _ h ls H locs hl hP hS)
def zo_null (K : pz_K) : pz_K := fun pc lv st g c s => K (pc + 1) lv (.inr (.inr none) :: st) g c s
theorem zs_null {X : pz_C} {cc : ByteArray} {nL : Nat} {own : String} {K : pz_K} {pc : Nat} (hX : pz_X X cc nL own) (hd : decode cc pc = .ok (.aconst_null, 1)) (hk : ∀ lv st g c s, K (pc + 1) lv st g c s → pz_Z X nL (pc + 1) lv st g c s) : ∀ lv st g c s, zo_null K pc lv st g c s → pz_Z X nL pc lv st g c s := by
  obtain ⟨p, l, e, R, s, m, args, below, meth, c, Q, D, cy, A, En⟩ := X
  obtain ⟨hx, hb, hml, hown, hts, hK, hA, hOk, hEn⟩ := hX
  intro lv st g c0 s0 h ls H locs hl hP hS
  exact lv_null hx hb hd (hk _ _ _ _ _ h ls H locs hl hP hS)
def zo_il (n i : Nat) (K : pz_K) : pz_K := fun pc lv st g c s => match pz_f lv i with
  | some (.inl x) => K (pc + n) lv (.inl x :: st) g c s
  | _ => False
theorem zs_iload {X : pz_C} {cc : ByteArray} {nL : Nat} {own : String} {K : pz_K} {pc : Nat} (hX : pz_X X cc nL own) {i : Nat} (hd : decode cc pc = .ok (.iload i, 2)) (hk : ∀ lv st g c s, K (pc + 2) lv st g c s → pz_Z X nL (pc + 2) lv st g c s) : ∀ lv st g c s, zo_il 2 i K pc lv st g c s → pz_Z X nL pc lv st g c s := by
  obtain ⟨p, l, e, R, s, m, args, below, meth, c, Q, D, cy, A, En⟩ := X
  obtain ⟨hx, hb, hml, hown, hts, hK, hA, hOk, hEn⟩ := hX
  intro lv st g c0 s0 h ls H locs hl hP hS
  unfold zo_il at h
  split at h
  · rename_i x hf
    exact lv_iload hx hb hd (pz_ls hl hf) (hk _ _ _ _ _ h ls H locs hl hP hS)
  · exact h.elim
theorem zs_iload_n {X : pz_C} {cc : ByteArray} {nL : Nat} {own : String} {K : pz_K} {pc : Nat} (hX : pz_X X cc nL own) {k : Fin 4} {i : Nat} (hd : decode cc pc = .ok (.iload_n k, 1)) (hi : (k : Nat) = i) (hk : ∀ lv st g c s, K (pc + 1) lv st g c s → pz_Z X nL (pc + 1) lv st g c s) : ∀ lv st g c s, zo_il 1 i K pc lv st g c s → pz_Z X nL pc lv st g c s := by
  obtain ⟨p, l, e, R, s, m, args, below, meth, c, Q, D, cy, A, En⟩ := X
  obtain ⟨hx, hb, hml, hown, hts, hK, hA, hOk, hEn⟩ := hX
  intro lv st g c0 s0 h ls H locs hl hP hS
  unfold zo_il at h
  split at h
  · rename_i x hf
    exact lv_iload_n hx hb hd hi (pz_ls hl hf) (hk _ _ _ _ _ h ls H locs hl hP hS)
  · exact h.elim
def zo_ll (n i : Nat) (K : pz_K) : pz_K := fun pc lv st g c s => match pz_f lv i with
  | some (.inr (.inl x)) => K (pc + n) lv (.inr (.inl x) :: st) g c s
  | _ => False
theorem zs_lload {X : pz_C} {cc : ByteArray} {nL : Nat} {own : String} {K : pz_K} {pc : Nat} (hX : pz_X X cc nL own) {i : Nat} (hd : decode cc pc = .ok (.lload i, 2)) (hk : ∀ lv st g c s, K (pc + 2) lv st g c s → pz_Z X nL (pc + 2) lv st g c s) : ∀ lv st g c s, zo_ll 2 i K pc lv st g c s → pz_Z X nL pc lv st g c s := by
  obtain ⟨p, l, e, R, s, m, args, below, meth, c, Q, D, cy, A, En⟩ := X
  obtain ⟨hx, hb, hml, hown, hts, hK, hA, hOk, hEn⟩ := hX
  intro lv st g c0 s0 h ls H locs hl hP hS
  unfold zo_ll at h
  split at h
  · rename_i x hf
    exact lv_lload hx hb hd (pz_ls hl hf) (hk _ _ _ _ _ h ls H locs hl hP hS)
  · exact h.elim
theorem zs_lload_n {X : pz_C} {cc : ByteArray} {nL : Nat} {own : String} {K : pz_K} {pc : Nat} (hX : pz_X X cc nL own) {k : Fin 4} {i : Nat} (hd : decode cc pc = .ok (.lload_n k, 1)) (hi : (k : Nat) = i) (hk : ∀ lv st g c s, K (pc + 1) lv st g c s → pz_Z X nL (pc + 1) lv st g c s) : ∀ lv st g c s, zo_ll 1 i K pc lv st g c s → pz_Z X nL pc lv st g c s := by
  obtain ⟨p, l, e, R, s, m, args, below, meth, c, Q, D, cy, A, En⟩ := X
  obtain ⟨hx, hb, hml, hown, hts, hK, hA, hOk, hEn⟩ := hX
  intro lv st g c0 s0 h ls H locs hl hP hS
  unfold zo_ll at h
  split at h
  · rename_i x hf
    exact lv_lload_n hx hb hd hi (pz_ls hl hf) (hk _ _ _ _ _ h ls H locs hl hP hS)
  · exact h.elim
def zo_al (n i : Nat) (K : pz_K) : pz_K := fun pc lv st g c s => match pz_f lv i with
  | some (.inr (.inr r)) => K (pc + n) lv (.inr (.inr r) :: st) g c s
  | _ => False
theorem zs_aload {X : pz_C} {cc : ByteArray} {nL : Nat} {own : String} {K : pz_K} {pc : Nat} (hX : pz_X X cc nL own) {i : Nat} (hd : decode cc pc = .ok (.aload i, 2)) (hk : ∀ lv st g c s, K (pc + 2) lv st g c s → pz_Z X nL (pc + 2) lv st g c s) : ∀ lv st g c s, zo_al 2 i K pc lv st g c s → pz_Z X nL pc lv st g c s := by
  obtain ⟨p, l, e, R, s, m, args, below, meth, c, Q, D, cy, A, En⟩ := X
  obtain ⟨hx, hb, hml, hown, hts, hK, hA, hOk, hEn⟩ := hX
  intro lv st g c0 s0 h ls H locs hl hP hS
  unfold zo_al at h
  split at h
  · rename_i r hf
    cases r with
    | none => exact lv_aloadN hx hb hd (pz_ls hl hf) (hk _ _ _ _ _ h ls H locs hl hP hS)
    | some a => exact lv_aload hx hb hd (pz_ls hl hf) (hk _ _ _ _ _ h ls H locs hl hP hS)
  · exact h.elim
theorem zs_aload_n {X : pz_C} {cc : ByteArray} {nL : Nat} {own : String} {K : pz_K} {pc : Nat} (hX : pz_X X cc nL own) {k : Fin 4} {i : Nat} (hd : decode cc pc = .ok (.aload_n k, 1)) (hi : (k : Nat) = i) (hk : ∀ lv st g c s, K (pc + 1) lv st g c s → pz_Z X nL (pc + 1) lv st g c s) : ∀ lv st g c s, zo_al 1 i K pc lv st g c s → pz_Z X nL pc lv st g c s := by
  obtain ⟨p, l, e, R, s, m, args, below, meth, c, Q, D, cy, A, En⟩ := X
  obtain ⟨hx, hb, hml, hown, hts, hK, hA, hOk, hEn⟩ := hX
  intro lv st g c0 s0 h ls H locs hl hP hS
  unfold zo_al at h
  split at h
  · rename_i r hf
    cases r with
    | none => exact lv_aload_nN hx hb hd hi (pz_ls hl hf) (hk _ _ _ _ _ h ls H locs hl hP hS)
    | some a => exact lv_aload_n hx hb hd hi (pz_ls hl hf) (hk _ _ _ _ _ h ls H locs hl hP hS)
  · exact h.elim
def zo_is (n i : Nat) (K : pz_K) : pz_K := fun pc lv st g c s => match st with
  | .inl x :: r => K (pc + n) (pz_s i (.inl x) lv) r g c s
  | _ => False
theorem zs_istore {X : pz_C} {cc : ByteArray} {nL : Nat} {own : String} {K : pz_K} {pc : Nat} (hX : pz_X X cc nL own) {i : Nat} (hd : decode cc pc = .ok (.istore i, 2)) (hn : i < nL) (hk : ∀ lv st g c s, K (pc + 2) lv st g c s → pz_Z X nL (pc + 2) lv st g c s) : ∀ lv st g c s, zo_is 2 i K pc lv st g c s → pz_Z X nL pc lv st g c s := by
  obtain ⟨p, l, e, R, s, m, args, below, meth, c, Q, D, cy, A, En⟩ := X
  obtain ⟨hx, hb, hml, hown, hts, hK, hA, hOk, hEn⟩ := hX
  intro lv st g c0 s0 h ls H locs hl hP hS
  unfold zo_is at h
  split at h
  · rename_i x r
    exact lv_istore hx hb hd hl hn (pz_lv_s i (.inl x) lv) (fun ls2 hl2 => hk _ _ _ _ _ h ls2 H locs hl2 hP hS)
  · exact h.elim
theorem zs_istore_n {X : pz_C} {cc : ByteArray} {nL : Nat} {own : String} {K : pz_K} {pc : Nat} (hX : pz_X X cc nL own) {k : Fin 4} {i : Nat} (hd : decode cc pc = .ok (.istore_n k, 1)) (hi : (k : Nat) = i) (hn : i < nL) (hk : ∀ lv st g c s, K (pc + 1) lv st g c s → pz_Z X nL (pc + 1) lv st g c s) : ∀ lv st g c s, zo_is 1 i K pc lv st g c s → pz_Z X nL pc lv st g c s := by
  obtain ⟨p, l, e, R, s, m, args, below, meth, c, Q, D, cy, A, En⟩ := X
  obtain ⟨hx, hb, hml, hown, hts, hK, hA, hOk, hEn⟩ := hX
  intro lv st g c0 s0 h ls H locs hl hP hS
  unfold zo_is at h
  split at h
  · rename_i x r
    exact lv_istore_n hx hb hd hi hl hn (pz_lv_s i (.inl x) lv) (fun ls2 hl2 => hk _ _ _ _ _ h ls2 H locs hl2 hP hS)
  · exact h.elim
def zo_lst (n i : Nat) (K : pz_K) : pz_K := fun pc lv st g c s => match st with
  | .inr (.inl x) :: r => K (pc + n) (pz_s2 i (.inr (.inl x)) lv) r g c s
  | _ => False
theorem zs_lstore {X : pz_C} {cc : ByteArray} {nL : Nat} {own : String} {K : pz_K} {pc : Nat} (hX : pz_X X cc nL own) {i : Nat} (hd : decode cc pc = .ok (.lstore i, 2)) (hn : i + 1 < nL) (hk : ∀ lv st g c s, K (pc + 2) lv st g c s → pz_Z X nL (pc + 2) lv st g c s) : ∀ lv st g c s, zo_lst 2 i K pc lv st g c s → pz_Z X nL pc lv st g c s := by
  obtain ⟨p, l, e, R, s, m, args, below, meth, c, Q, D, cy, A, En⟩ := X
  obtain ⟨hx, hb, hml, hown, hts, hK, hA, hOk, hEn⟩ := hX
  intro lv st g c0 s0 h ls H locs hl hP hS
  unfold zo_lst at h
  split at h
  · rename_i x r
    exact lv_lstore hx hb hd hl hn (pz_lv_s2 i (.inr (.inl x)) lv) (fun ls2 hl2 => hk _ _ _ _ _ h ls2 H locs hl2 hP hS)
  · exact h.elim
theorem zs_lstore_n {X : pz_C} {cc : ByteArray} {nL : Nat} {own : String} {K : pz_K} {pc : Nat} (hX : pz_X X cc nL own) {k : Fin 4} {i : Nat} (hd : decode cc pc = .ok (.lstore_n k, 1)) (hi : (k : Nat) = i) (hn : i + 1 < nL) (hk : ∀ lv st g c s, K (pc + 1) lv st g c s → pz_Z X nL (pc + 1) lv st g c s) : ∀ lv st g c s, zo_lst 1 i K pc lv st g c s → pz_Z X nL pc lv st g c s := by
  obtain ⟨p, l, e, R, s, m, args, below, meth, c, Q, D, cy, A, En⟩ := X
  obtain ⟨hx, hb, hml, hown, hts, hK, hA, hOk, hEn⟩ := hX
  intro lv st g c0 s0 h ls H locs hl hP hS
  unfold zo_lst at h
  split at h
  · rename_i x r
    exact lv_lstore_n hx hb hd hi hl hn (pz_lv_s2 i (.inr (.inl x)) lv) (fun ls2 hl2 => hk _ _ _ _ _ h ls2 H locs hl2 hP hS)
  · exact h.elim
def zo_as (n i : Nat) (K : pz_K) : pz_K := fun pc lv st g c s => match st with
  | .inr (.inr x) :: r => K (pc + n) (pz_s i (.inr (.inr x)) lv) r g c s
  | _ => False
theorem zs_astore {X : pz_C} {cc : ByteArray} {nL : Nat} {own : String} {K : pz_K} {pc : Nat} (hX : pz_X X cc nL own) {i : Nat} (hd : decode cc pc = .ok (.astore i, 2)) (hn : i < nL) (hk : ∀ lv st g c s, K (pc + 2) lv st g c s → pz_Z X nL (pc + 2) lv st g c s) : ∀ lv st g c s, zo_as 2 i K pc lv st g c s → pz_Z X nL pc lv st g c s := by
  obtain ⟨p, l, e, R, s, m, args, below, meth, c, Q, D, cy, A, En⟩ := X
  obtain ⟨hx, hb, hml, hown, hts, hK, hA, hOk, hEn⟩ := hX
  intro lv st g c0 s0 h ls H locs hl hP hS
  unfold zo_as at h
  split at h
  · rename_i x r
    cases x with
    | none => exact lv_astoreN hx hb hd hl hn (pz_lv_s i (.inr (.inr none)) lv) (fun ls2 hl2 => hk _ _ _ _ _ h ls2 H locs hl2 hP hS)
    | some a => exact lv_astore hx hb hd hl hn (pz_lv_s i (.inr (.inr (some a))) lv) (fun ls2 hl2 => hk _ _ _ _ _ h ls2 H locs hl2 hP hS)
  · exact h.elim
theorem zs_astore_n {X : pz_C} {cc : ByteArray} {nL : Nat} {own : String} {K : pz_K} {pc : Nat} (hX : pz_X X cc nL own) {k : Fin 4} {i : Nat} (hd : decode cc pc = .ok (.astore_n k, 1)) (hi : (k : Nat) = i) (hn : i < nL) (hk : ∀ lv st g c s, K (pc + 1) lv st g c s → pz_Z X nL (pc + 1) lv st g c s) : ∀ lv st g c s, zo_as 1 i K pc lv st g c s → pz_Z X nL pc lv st g c s := by
  obtain ⟨p, l, e, R, s, m, args, below, meth, c, Q, D, cy, A, En⟩ := X
  obtain ⟨hx, hb, hml, hown, hts, hK, hA, hOk, hEn⟩ := hX
  intro lv st g c0 s0 h ls H locs hl hP hS
  unfold zo_as at h
  split at h
  · rename_i x r
    cases x with
    | none => exact lv_astore_nN hx hb hd hi hl hn (pz_lv_s i (.inr (.inr none)) lv) (fun ls2 hl2 => hk _ _ _ _ _ h ls2 H locs hl2 hP hS)
    | some a => exact lv_astore_n hx hb hd hi hl hn (pz_lv_s i (.inr (.inr (some a))) lv) (fun ls2 hl2 => hk _ _ _ _ _ h ls2 H locs hl2 hP hS)
  · exact h.elim
def zo_inc (i : Nat) (k : Int32) (K : pz_K) : pz_K := fun pc lv st g c s => match pz_f lv i with
  | some (.inl x) => K (pc + 3) (pz_s i (.inl (x + k)) lv) st g c s
  | _ => False
theorem zs_iinc {X : pz_C} {cc : ByteArray} {nL : Nat} {own : String} {K : pz_K} {pc : Nat} (hX : pz_X X cc nL own) {i : Nat} {n : Int} {v : Int32} (hd : decode cc pc = .ok (.iinc i n, 3)) (hv : Int32.ofInt n = v) (hn : i < nL) (hk : ∀ lv st g c s, K (pc + 3) lv st g c s → pz_Z X nL (pc + 3) lv st g c s) : ∀ lv st g c s, zo_inc i v K pc lv st g c s → pz_Z X nL pc lv st g c s := by
  obtain ⟨p, l, e, R, s, m, args, below, meth, c, Q, D, cy, A, En⟩ := X
  obtain ⟨hx, hb, hml, hown, hts, hK, hA, hOk, hEn⟩ := hX
  intro lv st g c0 s0 h ls H locs hl hP hS
  unfold zo_inc at h
  split at h
  · rename_i x hf
    obtain ⟨k, hk0⟩ := pz_fa hf
    exact lv_iinc (v := x + v) hx hb hd hl hk0 (by rw [hv]) hn (pz_lv_s i (.inl (x + v)) lv) (fun ls2 hl2 => hk _ _ _ _ _ h ls2 H locs hl2 hP hS)
  · exact h.elim
def zo_iadd (K : pz_K) : pz_K := fun pc lv st g c s => match st with
  | .inl y :: .inl x :: r => K (pc + 1) lv (.inl (x + y) :: r) g c s
  | _ => False
theorem zs_iadd {X : pz_C} {cc : ByteArray} {nL : Nat} {own : String} {K : pz_K} {pc : Nat} (hX : pz_X X cc nL own) (hd : decode cc pc = .ok (.iadd, 1)) (hk : ∀ lv st g c s, K (pc + 1) lv st g c s → pz_Z X nL (pc + 1) lv st g c s) : ∀ lv st g c s, zo_iadd K pc lv st g c s → pz_Z X nL pc lv st g c s := by
  obtain ⟨p, l, e, R, s, m, args, below, meth, c, Q, D, cy, A, En⟩ := X
  obtain ⟨hx, hb, hml, hown, hts, hK, hA, hOk, hEn⟩ := hX
  intro lv st g c0 s0 h ls H locs hl hP hS
  unfold zo_iadd at h
  split at h
  · rename_i y x r
    exact lv_iadd hx hb hd (hk _ _ _ _ _ h ls H locs hl hP hS)
  · exact h.elim
def zo_isub (K : pz_K) : pz_K := fun pc lv st g c s => match st with
  | .inl y :: .inl x :: r => K (pc + 1) lv (.inl (x - y) :: r) g c s
  | _ => False
theorem zs_isub {X : pz_C} {cc : ByteArray} {nL : Nat} {own : String} {K : pz_K} {pc : Nat} (hX : pz_X X cc nL own) (hd : decode cc pc = .ok (.isub, 1)) (hk : ∀ lv st g c s, K (pc + 1) lv st g c s → pz_Z X nL (pc + 1) lv st g c s) : ∀ lv st g c s, zo_isub K pc lv st g c s → pz_Z X nL pc lv st g c s := by
  obtain ⟨p, l, e, R, s, m, args, below, meth, c, Q, D, cy, A, En⟩ := X
  obtain ⟨hx, hb, hml, hown, hts, hK, hA, hOk, hEn⟩ := hX
  intro lv st g c0 s0 h ls H locs hl hP hS
  unfold zo_isub at h
  split at h
  · rename_i y x r
    exact lv_isub hx hb hd (hk _ _ _ _ _ h ls H locs hl hP hS)
  · exact h.elim
def zo_imul (K : pz_K) : pz_K := fun pc lv st g c s => match st with
  | .inl y :: .inl x :: r => K (pc + 1) lv (.inl (x * y) :: r) g c s
  | _ => False
theorem zs_imul {X : pz_C} {cc : ByteArray} {nL : Nat} {own : String} {K : pz_K} {pc : Nat} (hX : pz_X X cc nL own) (hd : decode cc pc = .ok (.imul, 1)) (hk : ∀ lv st g c s, K (pc + 1) lv st g c s → pz_Z X nL (pc + 1) lv st g c s) : ∀ lv st g c s, zo_imul K pc lv st g c s → pz_Z X nL pc lv st g c s := by
  obtain ⟨p, l, e, R, s, m, args, below, meth, c, Q, D, cy, A, En⟩ := X
  obtain ⟨hx, hb, hml, hown, hts, hK, hA, hOk, hEn⟩ := hX
  intro lv st g c0 s0 h ls H locs hl hP hS
  unfold zo_imul at h
  split at h
  · rename_i y x r
    exact lv_imul hx hb hd (hk _ _ _ _ _ h ls H locs hl hP hS)
  · exact h.elim
def zo_iand (K : pz_K) : pz_K := fun pc lv st g c s => match st with
  | .inl y :: .inl x :: r => K (pc + 1) lv (.inl (x &&& y) :: r) g c s
  | _ => False
theorem zs_iand {X : pz_C} {cc : ByteArray} {nL : Nat} {own : String} {K : pz_K} {pc : Nat} (hX : pz_X X cc nL own) (hd : decode cc pc = .ok (.iand, 1)) (hk : ∀ lv st g c s, K (pc + 1) lv st g c s → pz_Z X nL (pc + 1) lv st g c s) : ∀ lv st g c s, zo_iand K pc lv st g c s → pz_Z X nL pc lv st g c s := by
  obtain ⟨p, l, e, R, s, m, args, below, meth, c, Q, D, cy, A, En⟩ := X
  obtain ⟨hx, hb, hml, hown, hts, hK, hA, hOk, hEn⟩ := hX
  intro lv st g c0 s0 h ls H locs hl hP hS
  unfold zo_iand at h
  split at h
  · rename_i y x r
    exact lv_iand hx hb hd (hk _ _ _ _ _ h ls H locs hl hP hS)
  · exact h.elim
def zo_ior (K : pz_K) : pz_K := fun pc lv st g c s => match st with
  | .inl y :: .inl x :: r => K (pc + 1) lv (.inl (x ||| y) :: r) g c s
  | _ => False
theorem zs_ior {X : pz_C} {cc : ByteArray} {nL : Nat} {own : String} {K : pz_K} {pc : Nat} (hX : pz_X X cc nL own) (hd : decode cc pc = .ok (.ior, 1)) (hk : ∀ lv st g c s, K (pc + 1) lv st g c s → pz_Z X nL (pc + 1) lv st g c s) : ∀ lv st g c s, zo_ior K pc lv st g c s → pz_Z X nL pc lv st g c s := by
  obtain ⟨p, l, e, R, s, m, args, below, meth, c, Q, D, cy, A, En⟩ := X
  obtain ⟨hx, hb, hml, hown, hts, hK, hA, hOk, hEn⟩ := hX
  intro lv st g c0 s0 h ls H locs hl hP hS
  unfold zo_ior at h
  split at h
  · rename_i y x r
    exact lv_ior hx hb hd (hk _ _ _ _ _ h ls H locs hl hP hS)
  · exact h.elim
def zo_ishr (K : pz_K) : pz_K := fun pc lv st g c s => match st with
  | .inl y :: .inl x :: r => K (pc + 1) lv (.inl (x >>> (y &&& 31)) :: r) g c s
  | _ => False
theorem zs_ishr {X : pz_C} {cc : ByteArray} {nL : Nat} {own : String} {K : pz_K} {pc : Nat} (hX : pz_X X cc nL own) (hd : decode cc pc = .ok (.ishr, 1)) (hk : ∀ lv st g c s, K (pc + 1) lv st g c s → pz_Z X nL (pc + 1) lv st g c s) : ∀ lv st g c s, zo_ishr K pc lv st g c s → pz_Z X nL pc lv st g c s := by
  obtain ⟨p, l, e, R, s, m, args, below, meth, c, Q, D, cy, A, En⟩ := X
  obtain ⟨hx, hb, hml, hown, hts, hK, hA, hOk, hEn⟩ := hX
  intro lv st g c0 s0 h ls H locs hl hP hS
  unfold zo_ishr at h
  split at h
  · rename_i y x r
    exact lv_ishr hx hb hd (hk _ _ _ _ _ h ls H locs hl hP hS)
  · exact h.elim
def zo_ishl (K : pz_K) : pz_K := fun pc lv st g c s => match st with
  | .inl y :: .inl x :: r => K (pc + 1) lv (.inl (x <<< (y &&& 31)) :: r) g c s
  | _ => False
theorem zs_ishl {X : pz_C} {cc : ByteArray} {nL : Nat} {own : String} {K : pz_K} {pc : Nat} (hX : pz_X X cc nL own) (hd : decode cc pc = .ok (.ishl, 1)) (hk : ∀ lv st g c s, K (pc + 1) lv st g c s → pz_Z X nL (pc + 1) lv st g c s) : ∀ lv st g c s, zo_ishl K pc lv st g c s → pz_Z X nL pc lv st g c s := by
  obtain ⟨p, l, e, R, s, m, args, below, meth, c, Q, D, cy, A, En⟩ := X
  obtain ⟨hx, hb, hml, hown, hts, hK, hA, hOk, hEn⟩ := hX
  intro lv st g c0 s0 h ls H locs hl hP hS
  unfold zo_ishl at h
  split at h
  · rename_i y x r
    exact lv_ishl hx hb hd (hk _ _ _ _ _ h ls H locs hl hP hS)
  · exact h.elim
def zo_ladd (K : pz_K) : pz_K := fun pc lv st g c s => match st with
  | .inr (.inl y) :: .inr (.inl x) :: r => K (pc + 1) lv (.inr (.inl (x + y)) :: r) g c s
  | _ => False
theorem zs_ladd {X : pz_C} {cc : ByteArray} {nL : Nat} {own : String} {K : pz_K} {pc : Nat} (hX : pz_X X cc nL own) (hd : decode cc pc = .ok (.ladd, 1)) (hk : ∀ lv st g c s, K (pc + 1) lv st g c s → pz_Z X nL (pc + 1) lv st g c s) : ∀ lv st g c s, zo_ladd K pc lv st g c s → pz_Z X nL pc lv st g c s := by
  obtain ⟨p, l, e, R, s, m, args, below, meth, c, Q, D, cy, A, En⟩ := X
  obtain ⟨hx, hb, hml, hown, hts, hK, hA, hOk, hEn⟩ := hX
  intro lv st g c0 s0 h ls H locs hl hP hS
  unfold zo_ladd at h
  split at h
  · rename_i y x r
    exact lv_ladd hx hb hd (hk _ _ _ _ _ h ls H locs hl hP hS)
  · exact h.elim
def zo_lsub (K : pz_K) : pz_K := fun pc lv st g c s => match st with
  | .inr (.inl y) :: .inr (.inl x) :: r => K (pc + 1) lv (.inr (.inl (x - y)) :: r) g c s
  | _ => False
theorem zs_lsub {X : pz_C} {cc : ByteArray} {nL : Nat} {own : String} {K : pz_K} {pc : Nat} (hX : pz_X X cc nL own) (hd : decode cc pc = .ok (.lsub, 1)) (hk : ∀ lv st g c s, K (pc + 1) lv st g c s → pz_Z X nL (pc + 1) lv st g c s) : ∀ lv st g c s, zo_lsub K pc lv st g c s → pz_Z X nL pc lv st g c s := by
  obtain ⟨p, l, e, R, s, m, args, below, meth, c, Q, D, cy, A, En⟩ := X
  obtain ⟨hx, hb, hml, hown, hts, hK, hA, hOk, hEn⟩ := hX
  intro lv st g c0 s0 h ls H locs hl hP hS
  unfold zo_lsub at h
  split at h
  · rename_i y x r
    exact lv_lsub hx hb hd (hk _ _ _ _ _ h ls H locs hl hP hS)
  · exact h.elim
def zo_lmul (K : pz_K) : pz_K := fun pc lv st g c s => match st with
  | .inr (.inl y) :: .inr (.inl x) :: r => K (pc + 1) lv (.inr (.inl (x * y)) :: r) g c s
  | _ => False
theorem zs_lmul {X : pz_C} {cc : ByteArray} {nL : Nat} {own : String} {K : pz_K} {pc : Nat} (hX : pz_X X cc nL own) (hd : decode cc pc = .ok (.lmul, 1)) (hk : ∀ lv st g c s, K (pc + 1) lv st g c s → pz_Z X nL (pc + 1) lv st g c s) : ∀ lv st g c s, zo_lmul K pc lv st g c s → pz_Z X nL pc lv st g c s := by
  obtain ⟨p, l, e, R, s, m, args, below, meth, c, Q, D, cy, A, En⟩ := X
  obtain ⟨hx, hb, hml, hown, hts, hK, hA, hOk, hEn⟩ := hX
  intro lv st g c0 s0 h ls H locs hl hP hS
  unfold zo_lmul at h
  split at h
  · rename_i y x r
    exact lv_lmul hx hb hd (hk _ _ _ _ _ h ls H locs hl hP hS)
  · exact h.elim
def zo_land (K : pz_K) : pz_K := fun pc lv st g c s => match st with
  | .inr (.inl y) :: .inr (.inl x) :: r => K (pc + 1) lv (.inr (.inl (x &&& y)) :: r) g c s
  | _ => False
theorem zs_land {X : pz_C} {cc : ByteArray} {nL : Nat} {own : String} {K : pz_K} {pc : Nat} (hX : pz_X X cc nL own) (hd : decode cc pc = .ok (.land, 1)) (hk : ∀ lv st g c s, K (pc + 1) lv st g c s → pz_Z X nL (pc + 1) lv st g c s) : ∀ lv st g c s, zo_land K pc lv st g c s → pz_Z X nL pc lv st g c s := by
  obtain ⟨p, l, e, R, s, m, args, below, meth, c, Q, D, cy, A, En⟩ := X
  obtain ⟨hx, hb, hml, hown, hts, hK, hA, hOk, hEn⟩ := hX
  intro lv st g c0 s0 h ls H locs hl hP hS
  unfold zo_land at h
  split at h
  · rename_i y x r
    exact lv_land hx hb hd (hk _ _ _ _ _ h ls H locs hl hP hS)
  · exact h.elim
def zo_lor (K : pz_K) : pz_K := fun pc lv st g c s => match st with
  | .inr (.inl y) :: .inr (.inl x) :: r => K (pc + 1) lv (.inr (.inl (x ||| y)) :: r) g c s
  | _ => False
theorem zs_lor {X : pz_C} {cc : ByteArray} {nL : Nat} {own : String} {K : pz_K} {pc : Nat} (hX : pz_X X cc nL own) (hd : decode cc pc = .ok (.lor, 1)) (hk : ∀ lv st g c s, K (pc + 1) lv st g c s → pz_Z X nL (pc + 1) lv st g c s) : ∀ lv st g c s, zo_lor K pc lv st g c s → pz_Z X nL pc lv st g c s := by
  obtain ⟨p, l, e, R, s, m, args, below, meth, c, Q, D, cy, A, En⟩ := X
  obtain ⟨hx, hb, hml, hown, hts, hK, hA, hOk, hEn⟩ := hX
  intro lv st g c0 s0 h ls H locs hl hP hS
  unfold zo_lor at h
  split at h
  · rename_i y x r
    exact lv_lor hx hb hd (hk _ _ _ _ _ h ls H locs hl hP hS)
  · exact h.elim
def zo_idiv (K : pz_K) : pz_K := fun pc lv st g c s => match st with
  | .inl y :: .inl x :: r => ¬ y = 0 ∧ K (pc + 1) lv (.inl (x / y) :: r) g c s
  | _ => False
theorem zs_idiv {X : pz_C} {cc : ByteArray} {nL : Nat} {own : String} {K : pz_K} {pc : Nat} (hX : pz_X X cc nL own) (hd : decode cc pc = .ok (.idiv, 1)) (hk : ∀ lv st g c s, K (pc + 1) lv st g c s → pz_Z X nL (pc + 1) lv st g c s) : ∀ lv st g c s, zo_idiv K pc lv st g c s → pz_Z X nL pc lv st g c s := by
  obtain ⟨p, l, e, R, s, m, args, below, meth, c, Q, D, cy, A, En⟩ := X
  obtain ⟨hx, hb, hml, hown, hts, hK, hA, hOk, hEn⟩ := hX
  intro lv st g c0 s0 h ls H locs hl hP hS
  unfold zo_idiv at h
  split at h
  · rename_i y x r
    obtain ⟨h0, h⟩ := h
    exact lv_idiv hx hb hd h0 (hk _ _ _ _ _ h ls H locs hl hP hS)
  · exact h.elim
def zo_irem (K : pz_K) : pz_K := fun pc lv st g c s => match st with
  | .inl y :: .inl x :: r => ¬ y = 0 ∧ K (pc + 1) lv (.inl (x - x / y * y) :: r) g c s
  | _ => False
theorem zs_irem {X : pz_C} {cc : ByteArray} {nL : Nat} {own : String} {K : pz_K} {pc : Nat} (hX : pz_X X cc nL own) (hd : decode cc pc = .ok (.irem, 1)) (hk : ∀ lv st g c s, K (pc + 1) lv st g c s → pz_Z X nL (pc + 1) lv st g c s) : ∀ lv st g c s, zo_irem K pc lv st g c s → pz_Z X nL pc lv st g c s := by
  obtain ⟨p, l, e, R, s, m, args, below, meth, c, Q, D, cy, A, En⟩ := X
  obtain ⟨hx, hb, hml, hown, hts, hK, hA, hOk, hEn⟩ := hX
  intro lv st g c0 s0 h ls H locs hl hP hS
  unfold zo_irem at h
  split at h
  · rename_i y x r
    obtain ⟨h0, h⟩ := h
    exact lv_irem hx hb hd h0 (hk _ _ _ _ _ h ls H locs hl hP hS)
  · exact h.elim
def zo_ldiv (K : pz_K) : pz_K := fun pc lv st g c s => match st with
  | .inr (.inl y) :: .inr (.inl x) :: r => ¬ y = 0 ∧ K (pc + 1) lv (.inr (.inl (x / y)) :: r) g c s
  | _ => False
theorem zs_ldiv {X : pz_C} {cc : ByteArray} {nL : Nat} {own : String} {K : pz_K} {pc : Nat} (hX : pz_X X cc nL own) (hd : decode cc pc = .ok (.ldiv, 1)) (hk : ∀ lv st g c s, K (pc + 1) lv st g c s → pz_Z X nL (pc + 1) lv st g c s) : ∀ lv st g c s, zo_ldiv K pc lv st g c s → pz_Z X nL pc lv st g c s := by
  obtain ⟨p, l, e, R, s, m, args, below, meth, c, Q, D, cy, A, En⟩ := X
  obtain ⟨hx, hb, hml, hown, hts, hK, hA, hOk, hEn⟩ := hX
  intro lv st g c0 s0 h ls H locs hl hP hS
  unfold zo_ldiv at h
  split at h
  · rename_i y x r
    obtain ⟨h0, h⟩ := h
    exact lv_ldiv hx hb hd h0 (hk _ _ _ _ _ h ls H locs hl hP hS)
  · exact h.elim
def zo_lrem (K : pz_K) : pz_K := fun pc lv st g c s => match st with
  | .inr (.inl y) :: .inr (.inl x) :: r => ¬ y = 0 ∧ K (pc + 1) lv (.inr (.inl (x - x / y * y)) :: r) g c s
  | _ => False
theorem zs_lrem {X : pz_C} {cc : ByteArray} {nL : Nat} {own : String} {K : pz_K} {pc : Nat} (hX : pz_X X cc nL own) (hd : decode cc pc = .ok (.lrem, 1)) (hk : ∀ lv st g c s, K (pc + 1) lv st g c s → pz_Z X nL (pc + 1) lv st g c s) : ∀ lv st g c s, zo_lrem K pc lv st g c s → pz_Z X nL pc lv st g c s := by
  obtain ⟨p, l, e, R, s, m, args, below, meth, c, Q, D, cy, A, En⟩ := X
  obtain ⟨hx, hb, hml, hown, hts, hK, hA, hOk, hEn⟩ := hX
  intro lv st g c0 s0 h ls H locs hl hP hS
  unfold zo_lrem at h
  split at h
  · rename_i y x r
    obtain ⟨h0, h⟩ := h
    exact lv_lrem hx hb hd h0 (hk _ _ _ _ _ h ls H locs hl hP hS)
  · exact h.elim
def zo_lshl (K : pz_K) : pz_K := fun pc lv st g c s => match st with
  | .inl y :: .inr (.inl x) :: r => K (pc + 1) lv (.inr (.inl (x <<< (y.toInt64 &&& 63))) :: r) g c s
  | _ => False
theorem zs_lshl {X : pz_C} {cc : ByteArray} {nL : Nat} {own : String} {K : pz_K} {pc : Nat} (hX : pz_X X cc nL own) (hd : decode cc pc = .ok (.lshl, 1)) (hk : ∀ lv st g c s, K (pc + 1) lv st g c s → pz_Z X nL (pc + 1) lv st g c s) : ∀ lv st g c s, zo_lshl K pc lv st g c s → pz_Z X nL pc lv st g c s := by
  obtain ⟨p, l, e, R, s, m, args, below, meth, c, Q, D, cy, A, En⟩ := X
  obtain ⟨hx, hb, hml, hown, hts, hK, hA, hOk, hEn⟩ := hX
  intro lv st g c0 s0 h ls H locs hl hP hS
  unfold zo_lshl at h
  split at h
  · rename_i y x r
    exact lv_lshl hx hb hd rfl (hk _ _ _ _ _ h ls H locs hl hP hS)
  · exact h.elim
def zo_lcmp (K : pz_K) : pz_K := fun pc lv st g c s => match st with
  | .inr (.inl y) :: .inr (.inl x) :: r => K (pc + 1) lv (.inl (lg_cmp x y) :: r) g c s
  | _ => False
theorem zs_lcmp {X : pz_C} {cc : ByteArray} {nL : Nat} {own : String} {K : pz_K} {pc : Nat} (hX : pz_X X cc nL own) (hd : decode cc pc = .ok (.lcmp, 1)) (hk : ∀ lv st g c s, K (pc + 1) lv st g c s → pz_Z X nL (pc + 1) lv st g c s) : ∀ lv st g c s, zo_lcmp K pc lv st g c s → pz_Z X nL pc lv st g c s := by
  obtain ⟨p, l, e, R, s, m, args, below, meth, c, Q, D, cy, A, En⟩ := X
  obtain ⟨hx, hb, hml, hown, hts, hK, hA, hOk, hEn⟩ := hX
  intro lv st g c0 s0 h ls H locs hl hP hS
  unfold zo_lcmp at h
  split at h
  · rename_i y x r
    exact W.lcmp hx hb hd (hk _ _ _ _ _ h ls H locs hl hP hS)
  · exact h.elim
def zo_i2l (K : pz_K) : pz_K := fun pc lv st g c s => match st with
  | .inl x :: r => K (pc + 1) lv (.inr (.inl (x.toInt64)) :: r) g c s
  | _ => False
theorem zs_i2l {X : pz_C} {cc : ByteArray} {nL : Nat} {own : String} {K : pz_K} {pc : Nat} (hX : pz_X X cc nL own) (hd : decode cc pc = .ok (.i2l, 1)) (hk : ∀ lv st g c s, K (pc + 1) lv st g c s → pz_Z X nL (pc + 1) lv st g c s) : ∀ lv st g c s, zo_i2l K pc lv st g c s → pz_Z X nL pc lv st g c s := by
  obtain ⟨p, l, e, R, s, m, args, below, meth, c, Q, D, cy, A, En⟩ := X
  obtain ⟨hx, hb, hml, hown, hts, hK, hA, hOk, hEn⟩ := hX
  intro lv st g c0 s0 h ls H locs hl hP hS
  unfold zo_i2l at h
  split at h
  · rename_i x r
    exact lv_i2l hx hb hd rfl (hk _ _ _ _ _ h ls H locs hl hP hS)
  · exact h.elim
def zo_l2i (K : pz_K) : pz_K := fun pc lv st g c s => match st with
  | .inr (.inl x) :: r => K (pc + 1) lv (.inl (x.toInt32) :: r) g c s
  | _ => False
theorem zs_l2i {X : pz_C} {cc : ByteArray} {nL : Nat} {own : String} {K : pz_K} {pc : Nat} (hX : pz_X X cc nL own) (hd : decode cc pc = .ok (.l2i, 1)) (hk : ∀ lv st g c s, K (pc + 1) lv st g c s → pz_Z X nL (pc + 1) lv st g c s) : ∀ lv st g c s, zo_l2i K pc lv st g c s → pz_Z X nL pc lv st g c s := by
  obtain ⟨p, l, e, R, s, m, args, below, meth, c, Q, D, cy, A, En⟩ := X
  obtain ⟨hx, hb, hml, hown, hts, hK, hA, hOk, hEn⟩ := hX
  intro lv st g c0 s0 h ls H locs hl hP hS
  unfold zo_l2i at h
  split at h
  · rename_i x r
    exact lv_l2i hx hb hd rfl (hk _ _ _ _ _ h ls H locs hl hP hS)
  · exact h.elim
def zo_i2c (K : pz_K) : pz_K := fun pc lv st g c s => match st with
  | .inl x :: r => K (pc + 1) lv (.inl ((x.toUInt32 % 65536).toInt32) :: r) g c s
  | _ => False
theorem zs_i2c {X : pz_C} {cc : ByteArray} {nL : Nat} {own : String} {K : pz_K} {pc : Nat} (hX : pz_X X cc nL own) (hd : decode cc pc = .ok (.i2c, 1)) (hk : ∀ lv st g c s, K (pc + 1) lv st g c s → pz_Z X nL (pc + 1) lv st g c s) : ∀ lv st g c s, zo_i2c K pc lv st g c s → pz_Z X nL pc lv st g c s := by
  obtain ⟨p, l, e, R, s, m, args, below, meth, c, Q, D, cy, A, En⟩ := X
  obtain ⟨hx, hb, hml, hown, hts, hK, hA, hOk, hEn⟩ := hX
  intro lv st g c0 s0 h ls H locs hl hP hS
  unfold zo_i2c at h
  split at h
  · rename_i x r
    exact lv_i2c hx hb hd rfl (hk _ _ _ _ _ h ls H locs hl hP hS)
  · exact h.elim
def zo_pop (K : pz_K) : pz_K := fun pc lv st g c s => match st with
  | v :: r => pz_2 v = false ∧ K (pc + 1) lv r g c s
  | _ => False
theorem zs_pop {X : pz_C} {cc : ByteArray} {nL : Nat} {own : String} {K : pz_K} {pc : Nat} (hX : pz_X X cc nL own) (hd : decode cc pc = .ok (.pop, 1)) (hk : ∀ lv st g c s, K (pc + 1) lv st g c s → pz_Z X nL (pc + 1) lv st g c s) : ∀ lv st g c s, zo_pop K pc lv st g c s → pz_Z X nL pc lv st g c s := by
  obtain ⟨p, l, e, R, s, m, args, below, meth, c, Q, D, cy, A, En⟩ := X
  obtain ⟨hx, hb, hml, hown, hts, hK, hA, hOk, hEn⟩ := hX
  intro lv st g c0 s0 h ls H locs hl hP hS
  unfold zo_pop at h
  split at h
  · rename_i v r
    obtain ⟨h0, h⟩ := h
    exact lv_pop hx hb hd (pz_cat1 h0) (hk _ _ _ _ _ h ls H locs hl hP hS)
  · exact h.elim
def zo_dup (K : pz_K) : pz_K := fun pc lv st g c s => match st with
  | v :: r => pz_2 v = false ∧ K (pc + 1) lv (v :: v :: r) g c s
  | _ => False
theorem zs_dup {X : pz_C} {cc : ByteArray} {nL : Nat} {own : String} {K : pz_K} {pc : Nat} (hX : pz_X X cc nL own) (hd : decode cc pc = .ok (.dup, 1)) (hk : ∀ lv st g c s, K (pc + 1) lv st g c s → pz_Z X nL (pc + 1) lv st g c s) : ∀ lv st g c s, zo_dup K pc lv st g c s → pz_Z X nL pc lv st g c s := by
  obtain ⟨p, l, e, R, s, m, args, below, meth, c, Q, D, cy, A, En⟩ := X
  obtain ⟨hx, hb, hml, hown, hts, hK, hA, hOk, hEn⟩ := hX
  intro lv st g c0 s0 h ls H locs hl hP hS
  unfold zo_dup at h
  split at h
  · rename_i v r
    obtain ⟨h0, h⟩ := h
    exact lv_dup hx hb hd (pz_cat1 h0) (hk _ _ _ _ _ h ls H locs hl hP hS)
  · exact h.elim
def zo_dup2 (K : pz_K) : pz_K := fun pc lv st g c s => match st with
  | v :: u :: r => pz_2 v = false ∧ pz_2 u = false ∧ K (pc + 1) lv (v :: u :: v :: u :: r) g c s
  | _ => False
theorem zs_dup2 {X : pz_C} {cc : ByteArray} {nL : Nat} {own : String} {K : pz_K} {pc : Nat} (hX : pz_X X cc nL own) (hd : decode cc pc = .ok (.dup2, 1)) (hk : ∀ lv st g c s, K (pc + 1) lv st g c s → pz_Z X nL (pc + 1) lv st g c s) : ∀ lv st g c s, zo_dup2 K pc lv st g c s → pz_Z X nL pc lv st g c s := by
  obtain ⟨p, l, e, R, s, m, args, below, meth, c, Q, D, cy, A, En⟩ := X
  obtain ⟨hx, hb, hml, hown, hts, hK, hA, hOk, hEn⟩ := hX
  intro lv st g c0 s0 h ls H locs hl hP hS
  unfold zo_dup2 at h
  split at h
  · rename_i v u r
    obtain ⟨h0, h1, h⟩ := h
    exact lv_dup2_11 hx hb hd (pz_cat1 h0) (pz_cat1 h1) (hk _ _ _ _ _ h ls H locs hl hP hS)
  · exact h.elim
def zo_if_eq (t : Nat) (K : pz_K) : pz_K := fun pc lv st g c s => match st with
  | .inl x :: r => (x = 0 → K t lv r g c s) ∧ (¬ x = 0 → K (pc + 3) lv r g c s)
  | _ => False
theorem zs_if_eq {X : pz_C} {cc : ByteArray} {nL : Nat} {own : String} {K : pz_K} {pc : Nat} (hX : pz_X X cc nL own) {off : Int} {t : Nat} (hd : decode cc pc = .ok (.ifCond .eq off, 3)) (ht : (pc : Int) + off = (t : Int)) (hk : ∀ pc lv st g c s, K pc lv st g c s → pz_Z X nL pc lv st g c s) : ∀ lv st g c s, zo_if_eq t K pc lv st g c s → pz_Z X nL pc lv st g c s := by
  obtain ⟨p, l, e, R, s, m, args, below, meth, c, Q, D, cy, A, En⟩ := X
  obtain ⟨hx, hb, hml, hown, hts, hK, hA, hOk, hEn⟩ := hX
  intro lv st g c0 s0 h ls H locs hl hP hS
  unfold zo_if_eq at h
  split at h
  · rename_i x r
    exact lv_if_eq hx hb hd ht (fun q => hk _ _ _ _ _ _ (h.1 q) ls H locs hl hP hS) (fun q => hk _ _ _ _ _ _ (h.2 q) ls H locs hl hP hS)
  · exact h.elim
def zo_if_ne (t : Nat) (K : pz_K) : pz_K := fun pc lv st g c s => match st with
  | .inl x :: r => (¬ x = 0 → K t lv r g c s) ∧ (x = 0 → K (pc + 3) lv r g c s)
  | _ => False
theorem zs_if_ne {X : pz_C} {cc : ByteArray} {nL : Nat} {own : String} {K : pz_K} {pc : Nat} (hX : pz_X X cc nL own) {off : Int} {t : Nat} (hd : decode cc pc = .ok (.ifCond .ne off, 3)) (ht : (pc : Int) + off = (t : Int)) (hk : ∀ pc lv st g c s, K pc lv st g c s → pz_Z X nL pc lv st g c s) : ∀ lv st g c s, zo_if_ne t K pc lv st g c s → pz_Z X nL pc lv st g c s := by
  obtain ⟨p, l, e, R, s, m, args, below, meth, c, Q, D, cy, A, En⟩ := X
  obtain ⟨hx, hb, hml, hown, hts, hK, hA, hOk, hEn⟩ := hX
  intro lv st g c0 s0 h ls H locs hl hP hS
  unfold zo_if_ne at h
  split at h
  · rename_i x r
    exact lv_if_ne hx hb hd ht (fun q => hk _ _ _ _ _ _ (h.1 q) ls H locs hl hP hS) (fun q => hk _ _ _ _ _ _ (h.2 q) ls H locs hl hP hS)
  · exact h.elim
def zo_if_lt (t : Nat) (K : pz_K) : pz_K := fun pc lv st g c s => match st with
  | .inl x :: r => (x < 0 → K t lv r g c s) ∧ (¬ x < 0 → K (pc + 3) lv r g c s)
  | _ => False
theorem zs_if_lt {X : pz_C} {cc : ByteArray} {nL : Nat} {own : String} {K : pz_K} {pc : Nat} (hX : pz_X X cc nL own) {off : Int} {t : Nat} (hd : decode cc pc = .ok (.ifCond .lt off, 3)) (ht : (pc : Int) + off = (t : Int)) (hk : ∀ pc lv st g c s, K pc lv st g c s → pz_Z X nL pc lv st g c s) : ∀ lv st g c s, zo_if_lt t K pc lv st g c s → pz_Z X nL pc lv st g c s := by
  obtain ⟨p, l, e, R, s, m, args, below, meth, c, Q, D, cy, A, En⟩ := X
  obtain ⟨hx, hb, hml, hown, hts, hK, hA, hOk, hEn⟩ := hX
  intro lv st g c0 s0 h ls H locs hl hP hS
  unfold zo_if_lt at h
  split at h
  · rename_i x r
    exact lv_if_lt hx hb hd ht (fun q => hk _ _ _ _ _ _ (h.1 q) ls H locs hl hP hS) (fun q => hk _ _ _ _ _ _ (h.2 q) ls H locs hl hP hS)
  · exact h.elim
def zo_if_ge (t : Nat) (K : pz_K) : pz_K := fun pc lv st g c s => match st with
  | .inl x :: r => (0 ≤ x → K t lv r g c s) ∧ (¬ 0 ≤ x → K (pc + 3) lv r g c s)
  | _ => False
theorem zs_if_ge {X : pz_C} {cc : ByteArray} {nL : Nat} {own : String} {K : pz_K} {pc : Nat} (hX : pz_X X cc nL own) {off : Int} {t : Nat} (hd : decode cc pc = .ok (.ifCond .ge off, 3)) (ht : (pc : Int) + off = (t : Int)) (hk : ∀ pc lv st g c s, K pc lv st g c s → pz_Z X nL pc lv st g c s) : ∀ lv st g c s, zo_if_ge t K pc lv st g c s → pz_Z X nL pc lv st g c s := by
  obtain ⟨p, l, e, R, s, m, args, below, meth, c, Q, D, cy, A, En⟩ := X
  obtain ⟨hx, hb, hml, hown, hts, hK, hA, hOk, hEn⟩ := hX
  intro lv st g c0 s0 h ls H locs hl hP hS
  unfold zo_if_ge at h
  split at h
  · rename_i x r
    exact lv_if_ge hx hb hd ht (fun q => hk _ _ _ _ _ _ (h.1 q) ls H locs hl hP hS) (fun q => hk _ _ _ _ _ _ (h.2 q) ls H locs hl hP hS)
  · exact h.elim
def zo_if_gt (t : Nat) (K : pz_K) : pz_K := fun pc lv st g c s => match st with
  | .inl x :: r => (0 < x → K t lv r g c s) ∧ (¬ 0 < x → K (pc + 3) lv r g c s)
  | _ => False
theorem zs_if_gt {X : pz_C} {cc : ByteArray} {nL : Nat} {own : String} {K : pz_K} {pc : Nat} (hX : pz_X X cc nL own) {off : Int} {t : Nat} (hd : decode cc pc = .ok (.ifCond .gt off, 3)) (ht : (pc : Int) + off = (t : Int)) (hk : ∀ pc lv st g c s, K pc lv st g c s → pz_Z X nL pc lv st g c s) : ∀ lv st g c s, zo_if_gt t K pc lv st g c s → pz_Z X nL pc lv st g c s := by
  obtain ⟨p, l, e, R, s, m, args, below, meth, c, Q, D, cy, A, En⟩ := X
  obtain ⟨hx, hb, hml, hown, hts, hK, hA, hOk, hEn⟩ := hX
  intro lv st g c0 s0 h ls H locs hl hP hS
  unfold zo_if_gt at h
  split at h
  · rename_i x r
    exact lv_if_gt hx hb hd ht (fun q => hk _ _ _ _ _ _ (h.1 q) ls H locs hl hP hS) (fun q => hk _ _ _ _ _ _ (h.2 q) ls H locs hl hP hS)
  · exact h.elim
def zo_if_le (t : Nat) (K : pz_K) : pz_K := fun pc lv st g c s => match st with
  | .inl x :: r => (x ≤ 0 → K t lv r g c s) ∧ (¬ x ≤ 0 → K (pc + 3) lv r g c s)
  | _ => False
theorem zs_if_le {X : pz_C} {cc : ByteArray} {nL : Nat} {own : String} {K : pz_K} {pc : Nat} (hX : pz_X X cc nL own) {off : Int} {t : Nat} (hd : decode cc pc = .ok (.ifCond .le off, 3)) (ht : (pc : Int) + off = (t : Int)) (hk : ∀ pc lv st g c s, K pc lv st g c s → pz_Z X nL pc lv st g c s) : ∀ lv st g c s, zo_if_le t K pc lv st g c s → pz_Z X nL pc lv st g c s := by
  obtain ⟨p, l, e, R, s, m, args, below, meth, c, Q, D, cy, A, En⟩ := X
  obtain ⟨hx, hb, hml, hown, hts, hK, hA, hOk, hEn⟩ := hX
  intro lv st g c0 s0 h ls H locs hl hP hS
  unfold zo_if_le at h
  split at h
  · rename_i x r
    exact lv_if_le hx hb hd ht (fun q => hk _ _ _ _ _ _ (h.1 q) ls H locs hl hP hS) (fun q => hk _ _ _ _ _ _ (h.2 q) ls H locs hl hP hS)
  · exact h.elim
def zo_ic_eq (t : Nat) (K : pz_K) : pz_K := fun pc lv st g c s => match st with
  | .inl y :: .inl x :: r => (x = y → K t lv r g c s) ∧ (¬ x = y → K (pc + 3) lv r g c s)
  | _ => False
theorem zs_ic_eq {X : pz_C} {cc : ByteArray} {nL : Nat} {own : String} {K : pz_K} {pc : Nat} (hX : pz_X X cc nL own) {off : Int} {t : Nat} (hd : decode cc pc = .ok (.if_icmp .eq off, 3)) (ht : (pc : Int) + off = (t : Int)) (hk : ∀ pc lv st g c s, K pc lv st g c s → pz_Z X nL pc lv st g c s) : ∀ lv st g c s, zo_ic_eq t K pc lv st g c s → pz_Z X nL pc lv st g c s := by
  obtain ⟨p, l, e, R, s, m, args, below, meth, c, Q, D, cy, A, En⟩ := X
  obtain ⟨hx, hb, hml, hown, hts, hK, hA, hOk, hEn⟩ := hX
  intro lv st g c0 s0 h ls H locs hl hP hS
  unfold zo_ic_eq at h
  split at h
  · rename_i y x r
    exact lv_icmp_eq hx hb hd ht (fun q => hk _ _ _ _ _ _ (h.1 q) ls H locs hl hP hS) (fun q => hk _ _ _ _ _ _ (h.2 q) ls H locs hl hP hS)
  · exact h.elim
def zo_ic_ne (t : Nat) (K : pz_K) : pz_K := fun pc lv st g c s => match st with
  | .inl y :: .inl x :: r => (¬ x = y → K t lv r g c s) ∧ (x = y → K (pc + 3) lv r g c s)
  | _ => False
theorem zs_ic_ne {X : pz_C} {cc : ByteArray} {nL : Nat} {own : String} {K : pz_K} {pc : Nat} (hX : pz_X X cc nL own) {off : Int} {t : Nat} (hd : decode cc pc = .ok (.if_icmp .ne off, 3)) (ht : (pc : Int) + off = (t : Int)) (hk : ∀ pc lv st g c s, K pc lv st g c s → pz_Z X nL pc lv st g c s) : ∀ lv st g c s, zo_ic_ne t K pc lv st g c s → pz_Z X nL pc lv st g c s := by
  obtain ⟨p, l, e, R, s, m, args, below, meth, c, Q, D, cy, A, En⟩ := X
  obtain ⟨hx, hb, hml, hown, hts, hK, hA, hOk, hEn⟩ := hX
  intro lv st g c0 s0 h ls H locs hl hP hS
  unfold zo_ic_ne at h
  split at h
  · rename_i y x r
    exact lv_icmp_ne hx hb hd ht (fun q => hk _ _ _ _ _ _ (h.1 q) ls H locs hl hP hS) (fun q => hk _ _ _ _ _ _ (h.2 q) ls H locs hl hP hS)
  · exact h.elim
def zo_ic_lt (t : Nat) (K : pz_K) : pz_K := fun pc lv st g c s => match st with
  | .inl y :: .inl x :: r => (x < y → K t lv r g c s) ∧ (¬ x < y → K (pc + 3) lv r g c s)
  | _ => False
theorem zs_ic_lt {X : pz_C} {cc : ByteArray} {nL : Nat} {own : String} {K : pz_K} {pc : Nat} (hX : pz_X X cc nL own) {off : Int} {t : Nat} (hd : decode cc pc = .ok (.if_icmp .lt off, 3)) (ht : (pc : Int) + off = (t : Int)) (hk : ∀ pc lv st g c s, K pc lv st g c s → pz_Z X nL pc lv st g c s) : ∀ lv st g c s, zo_ic_lt t K pc lv st g c s → pz_Z X nL pc lv st g c s := by
  obtain ⟨p, l, e, R, s, m, args, below, meth, c, Q, D, cy, A, En⟩ := X
  obtain ⟨hx, hb, hml, hown, hts, hK, hA, hOk, hEn⟩ := hX
  intro lv st g c0 s0 h ls H locs hl hP hS
  unfold zo_ic_lt at h
  split at h
  · rename_i y x r
    exact lv_icmp_lt hx hb hd ht (fun q => hk _ _ _ _ _ _ (h.1 q) ls H locs hl hP hS) (fun q => hk _ _ _ _ _ _ (h.2 q) ls H locs hl hP hS)
  · exact h.elim
def zo_ic_ge (t : Nat) (K : pz_K) : pz_K := fun pc lv st g c s => match st with
  | .inl y :: .inl x :: r => (y ≤ x → K t lv r g c s) ∧ (¬ y ≤ x → K (pc + 3) lv r g c s)
  | _ => False
theorem zs_ic_ge {X : pz_C} {cc : ByteArray} {nL : Nat} {own : String} {K : pz_K} {pc : Nat} (hX : pz_X X cc nL own) {off : Int} {t : Nat} (hd : decode cc pc = .ok (.if_icmp .ge off, 3)) (ht : (pc : Int) + off = (t : Int)) (hk : ∀ pc lv st g c s, K pc lv st g c s → pz_Z X nL pc lv st g c s) : ∀ lv st g c s, zo_ic_ge t K pc lv st g c s → pz_Z X nL pc lv st g c s := by
  obtain ⟨p, l, e, R, s, m, args, below, meth, c, Q, D, cy, A, En⟩ := X
  obtain ⟨hx, hb, hml, hown, hts, hK, hA, hOk, hEn⟩ := hX
  intro lv st g c0 s0 h ls H locs hl hP hS
  unfold zo_ic_ge at h
  split at h
  · rename_i y x r
    exact lv_icmp_ge hx hb hd ht (fun q => hk _ _ _ _ _ _ (h.1 q) ls H locs hl hP hS) (fun q => hk _ _ _ _ _ _ (h.2 q) ls H locs hl hP hS)
  · exact h.elim
def zo_ic_gt (t : Nat) (K : pz_K) : pz_K := fun pc lv st g c s => match st with
  | .inl y :: .inl x :: r => (y < x → K t lv r g c s) ∧ (¬ y < x → K (pc + 3) lv r g c s)
  | _ => False
theorem zs_ic_gt {X : pz_C} {cc : ByteArray} {nL : Nat} {own : String} {K : pz_K} {pc : Nat} (hX : pz_X X cc nL own) {off : Int} {t : Nat} (hd : decode cc pc = .ok (.if_icmp .gt off, 3)) (ht : (pc : Int) + off = (t : Int)) (hk : ∀ pc lv st g c s, K pc lv st g c s → pz_Z X nL pc lv st g c s) : ∀ lv st g c s, zo_ic_gt t K pc lv st g c s → pz_Z X nL pc lv st g c s := by
  obtain ⟨p, l, e, R, s, m, args, below, meth, c, Q, D, cy, A, En⟩ := X
  obtain ⟨hx, hb, hml, hown, hts, hK, hA, hOk, hEn⟩ := hX
  intro lv st g c0 s0 h ls H locs hl hP hS
  unfold zo_ic_gt at h
  split at h
  · rename_i y x r
    exact lv_icmp_gt hx hb hd ht (fun q => hk _ _ _ _ _ _ (h.1 q) ls H locs hl hP hS) (fun q => hk _ _ _ _ _ _ (h.2 q) ls H locs hl hP hS)
  · exact h.elim
def zo_ic_le (t : Nat) (K : pz_K) : pz_K := fun pc lv st g c s => match st with
  | .inl y :: .inl x :: r => (x ≤ y → K t lv r g c s) ∧ (¬ x ≤ y → K (pc + 3) lv r g c s)
  | _ => False
theorem zs_ic_le {X : pz_C} {cc : ByteArray} {nL : Nat} {own : String} {K : pz_K} {pc : Nat} (hX : pz_X X cc nL own) {off : Int} {t : Nat} (hd : decode cc pc = .ok (.if_icmp .le off, 3)) (ht : (pc : Int) + off = (t : Int)) (hk : ∀ pc lv st g c s, K pc lv st g c s → pz_Z X nL pc lv st g c s) : ∀ lv st g c s, zo_ic_le t K pc lv st g c s → pz_Z X nL pc lv st g c s := by
  obtain ⟨p, l, e, R, s, m, args, below, meth, c, Q, D, cy, A, En⟩ := X
  obtain ⟨hx, hb, hml, hown, hts, hK, hA, hOk, hEn⟩ := hX
  intro lv st g c0 s0 h ls H locs hl hP hS
  unfold zo_ic_le at h
  split at h
  · rename_i y x r
    exact lv_icmp_le hx hb hd ht (fun q => hk _ _ _ _ _ _ (h.1 q) ls H locs hl hP hS) (fun q => hk _ _ _ _ _ _ (h.2 q) ls H locs hl hP hS)
  · exact h.elim
def zo_goto (t : Nat) (K : pz_K) : pz_K := fun pc lv st g c s => K t lv st g c s
theorem zs_goto {X : pz_C} {cc : ByteArray} {nL : Nat} {own : String} {K : pz_K} {pc : Nat} (hX : pz_X X cc nL own) {off : Int} {t : Nat} (hd : decode cc pc = .ok (.goto off, 3)) (ht : (pc : Int) + off = (t : Int)) (hk : ∀ pc lv st g c s, K pc lv st g c s → pz_Z X nL pc lv st g c s) : ∀ lv st g c s, zo_goto t K pc lv st g c s → pz_Z X nL pc lv st g c s := by
  obtain ⟨p, l, e, R, s, m, args, below, meth, c, Q, D, cy, A, En⟩ := X
  obtain ⟨hx, hb, hml, hown, hts, hK, hA, hOk, hEn⟩ := hX
  intro lv st g c0 s0 h ls H locs hl hP hS
  exact lv_goto hx hb hd ht (hk _ _ _ _ _ _ h ls H locs hl hP hS)
def zo_ifnull (t : Nat) (K : pz_K) : pz_K := fun pc lv st g c s => match st with
  | .inr (.inr x) :: r => (x = none → K t lv r g c s) ∧ (∀ a, x = some a → K (pc + 3) lv r g c s)
  | _ => False
theorem zs_ifnull {X : pz_C} {cc : ByteArray} {nL : Nat} {own : String} {K : pz_K} {pc : Nat} (hX : pz_X X cc nL own) {off : Int} {t : Nat} (hd : decode cc pc = .ok (.ifnull off, 3)) (ht : (pc : Int) + off = (t : Int)) (hk : ∀ pc lv st g c s, K pc lv st g c s → pz_Z X nL pc lv st g c s) : ∀ lv st g c s, zo_ifnull t K pc lv st g c s → pz_Z X nL pc lv st g c s := by
  obtain ⟨p, l, e, R, s, m, args, below, meth, c, Q, D, cy, A, En⟩ := X
  obtain ⟨hx, hb, hml, hown, hts, hK, hA, hOk, hEn⟩ := hX
  intro lv st g c0 s0 h ls H locs hl hP hS
  unfold zo_ifnull at h
  split at h
  · rename_i x r
    cases x with
    | none => exact lv_ifnullN hx hb hd ht (hk _ _ _ _ _ _ (h.1 rfl) ls H locs hl hP hS)
    | some a => exact lv_ifnull hx hb hd (hk _ _ _ _ _ _ (h.2 a rfl) ls H locs hl hP hS)
  · exact h.elim
def zo_ifnonnull (t : Nat) (K : pz_K) : pz_K := fun pc lv st g c s => match st with
  | .inr (.inr x) :: r => (∀ a, x = some a → K t lv r g c s) ∧ (x = none → K (pc + 3) lv r g c s)
  | _ => False
theorem zs_ifnonnull {X : pz_C} {cc : ByteArray} {nL : Nat} {own : String} {K : pz_K} {pc : Nat} (hX : pz_X X cc nL own) {off : Int} {t : Nat} (hd : decode cc pc = .ok (.ifnonnull off, 3)) (ht : (pc : Int) + off = (t : Int)) (hk : ∀ pc lv st g c s, K pc lv st g c s → pz_Z X nL pc lv st g c s) : ∀ lv st g c s, zo_ifnonnull t K pc lv st g c s → pz_Z X nL pc lv st g c s := by
  obtain ⟨p, l, e, R, s, m, args, below, meth, c, Q, D, cy, A, En⟩ := X
  obtain ⟨hx, hb, hml, hown, hts, hK, hA, hOk, hEn⟩ := hX
  intro lv st g c0 s0 h ls H locs hl hP hS
  unfold zo_ifnonnull at h
  split at h
  · rename_i x r
    cases x with
    | none => exact lv_ifnonnullN hx hb hd (hk _ _ _ _ _ _ (h.2 rfl) ls H locs hl hP hS)
    | some a => exact lv_ifnonnull hx hb hd ht (hk _ _ _ _ _ _ (h.1 a rfl) ls H locs hl hP hS)
  · exact h.elim
