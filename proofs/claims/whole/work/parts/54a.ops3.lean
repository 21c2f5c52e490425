/-! arrays of references, statics, inherited fields -/
def zo_newq (R : Room) (t : Nat) (K : pz_K) : pz_K := fun pc lv st g c s => match st with
  | .inl n :: r => ¬ n < 0 ∧ n.toNatClampNeg ≤ 1000000 ∧ c + 1 ≤ R.cells ∧ s + n.toNatClampNeg ≤ R.slots ∧ ∃ b : List Nat, ∀ q : Nat, g q = none → K (pc + 3) lv (.inr (.inr (some q)) :: r) (va_up g q (some (b, .inl (t, n.toNatClampNeg, .inr (.inr (.inr (.inr (fun _ => none)))))))) (c + 1) (s + n.toNatClampNeg)
  | _ => False
theorem zs_newq {X : pz_C} {cc : ByteArray} {nL : Nat} {own C : String} {K : pz_K} {pc ix t : Nat} {G : pz_Gx} (hX : pz_X X cc nL own) (hGX : pz_GX X G) (hO : ∀ (B : Nat → Prop) (U : State) (J : Heap), G.2.2.2 B U J → va_AO C U) (ht : ∀ cy : Nat → ClassId, (pz_ty cy)[t]? = some (cy t, .object C)) (hw1 : Cond.classLink own ix C ∈ pz_W) (hd : decode cc pc = .ok (.anewarray ix, 3)) (hk : ∀ lv st g c s, K (pc + 3) lv st g c s → pz_Z X nL (pc + 3) lv st g c s) : ∀ lv st g c s, zo_newq (pz_rm X) t K pc lv st g c s → pz_Z X nL pc lv st g c s := by
  obtain ⟨p, l, e, R, s, m, args, below, meth, c, Q, D, cy, A, En⟩ := X
  obtain ⟨hx, hb, hml, hown, hts, hK, hA, hOk, hEn⟩ := hX
  cases hGX
  have hover := hO _ _ _ hEn
  intro lv st g c0 s0 h ls H locs hl hP hS
  unfold zo_newq at h
  split at h
  · rename_i n r
    obtain ⟨h0, h00, h1, h2, b, h⟩ := h
    obtain ⟨L, hL, hPP, hD⟩ := id hP
    refine va_newq (D := D) (C := C) hx hb hown (hts _ hw1) hover hK hPP hD hS hA h0 rfl (by omega) h1 h2 hd (fun q cA H1 hK1 hP1 hD1 hS1 => ?_)
    obtain ⟨_, _, _, _, _, e1⟩ := (hK.2 t _ (ht cy)).2
    obtain ⟨_, _, _, _, _, e2⟩ := (hK1.2 7 _ rfl).2
    have e3 : cy t = cA := Option.some.inj (e1.symm.trans e2)
    subst e3
    obtain ⟨hq, hp⟩ := pz_push (cy := cy) (e := .inl (t, n.toNatClampNeg, .inr (.inr (.inr (.inr (fun _ => none)))))) hL b hP1 hD1
    exact hk _ _ _ _ _ (h q hq) ls H1 locs hl hp hS1
  · exact h.elim
def zo_astq (t ci : Nat) (K : pz_K) : pz_K := fun pc lv st g c s => match st with
  | .inr (.inr (some v)) :: .inl i :: .inr (.inr (some a)) :: r => ∃ (b : List Nat) (n : Nat) (f : Nat → Option Nat) (bv : List Nat) (fs : List pz_V), g a = some (b, .inl (t, n, .inr (.inr (.inr (.inr f))))) ∧ g v = some (bv, .inr (ci, fs)) ∧ vp_in i n ∧ K (pc + 1) lv r (va_up g a (some (b, .inl (t, n, .inr (.inr (.inr (.inr (va_up f i.toNatClampNeg (some v))))))))) c s
  | _ => False
theorem zs_astq {X : pz_C} {cc : ByteArray} {nL : Nat} {own C E : String} {T : u_T} {N ci : Nat} {K : pz_K} {pc t : Nat} {G : pz_Gx} (hX : pz_X X cc nL own) (hGX : pz_GX X G) (ht : ∀ cy : Nat → ClassId, (pz_ty cy)[t]? = some (cy t, .object E)) (hc : vwCl[ci]? = some (C, T, N)) (hw : ∀ (B : Nat → Prop) (U : State) (J : Heap), G.2.2.2 B U J → va_Nw (.castable C E) U) (hd : decode cc pc = .ok (.aastore, 1)) (hk : ∀ lv st g c s, K (pc + 1) lv st g c s → pz_Z X nL (pc + 1) lv st g c s) : ∀ lv st g c s, zo_astq t ci K pc lv st g c s → pz_Z X nL pc lv st g c s := by
  obtain ⟨p, l, e, R, s, m, args, below, meth, c, Q, D, cy, A, En⟩ := X
  obtain ⟨hx, hb, hml, hown, hts, hK, hA, hOk, hEn⟩ := hX
  cases hGX
  intro lv st g c0 s0 h ls H locs hl hP hS
  unfold zo_astq at h
  split at h
  · rename_i v i a r
    obtain ⟨b, n, f, bv, fs, ha, hv, hi, h⟩ := h
    obtain ⟨L, hL, hPP, hD⟩ := id hP
    obtain ⟨-, -, k0, hk0⟩ := pz_at (cy := cy) hL ha
    obtain ⟨-, -, k1, hk1⟩ := pz_at (cy := cy) hL hv
    exact va_astqO hx hb hK hPP hD hS k0 t k1 ci hk0 (ht cy) (hw _ _ _ hEn) hk1 hc hi hd (fun H1 locs1 hP1 hD1 hS1 => hk _ _ _ _ _ h ls H1 locs1 hl (pz_set (e := .inl (t, n, .inr (.inr (.inr (.inr (va_up f i.toNatClampNeg (some v))))))) hL hD ha hk0 hP1 hD1) hS1)
  · exact h.elim
theorem zs_astp {X : pz_C} {cc : ByteArray} {nL : Nat} {own C : String} {T : u_T} {N ci : Nat} {K : pz_K} {pc t : Nat} (hX : pz_X X cc nL own) (ht : ∀ cy : Nat → ClassId, (pz_ty cy)[t]? = some (cy t, .object C)) (hc : vwCl[ci]? = some (C, T, N)) (hd : decode cc pc = .ok (.aastore, 1)) (hk : ∀ lv st g c s, K (pc + 1) lv st g c s → pz_Z X nL (pc + 1) lv st g c s) : ∀ lv st g c s, zo_astq t ci K pc lv st g c s → pz_Z X nL pc lv st g c s := by
  obtain ⟨p, l, e, R, s, m, args, below, meth, c, Q, D, cy, A, En⟩ := X
  obtain ⟨hx, hb, hml, hown, hts, hK, hA, hOk, hEn⟩ := hX
  intro lv st g c0 s0 h ls H locs hl hP hS
  unfold zo_astq at h
  split at h
  · rename_i v i a r
    obtain ⟨b, n, f, bv, fs, ha, hv, hi, h⟩ := h
    obtain ⟨L, hL, hPP, hD⟩ := id hP
    obtain ⟨-, -, k0, hk0⟩ := pz_at (cy := cy) hL ha
    obtain ⟨-, -, k1, hk1⟩ := pz_at (cy := cy) hL hv
    exact va_astq hx hb hK hPP hD hS k0 t k1 ci (r := (C, T, N)) hk0 (ht cy) hk1 hc hi hd (fun H1 locs1 hP1 hD1 hS1 => hk _ _ _ _ _ h ls H1 locs1 hl (pz_set (e := .inl (t, n, .inr (.inr (.inr (.inr (va_up f i.toNatClampNeg (some v))))))) hL hD ha hk0 hP1 hD1) hS1)
  · exact h.elim
def zo_astN (t : Nat) (K : pz_K) : pz_K := fun pc lv st g c s => match st with
  | .inr (.inr none) :: .inl i :: .inr (.inr (some a)) :: r => ∃ (b : List Nat) (n : Nat) (f : Nat → Option Nat), g a = some (b, .inl (t, n, .inr (.inr (.inr (.inr f))))) ∧ vp_in i n ∧ K (pc + 1) lv r (va_up g a (some (b, .inl (t, n, .inr (.inr (.inr (.inr (va_up f i.toNatClampNeg none)))))))) c s
  | _ => False
theorem zs_astN {X : pz_C} {cc : ByteArray} {nL : Nat} {own C : String} {K : pz_K} {pc t : Nat} (hX : pz_X X cc nL own) (ht : ∀ cy : Nat → ClassId, (pz_ty cy)[t]? = some (cy t, .object C)) (hd : decode cc pc = .ok (.aastore, 1)) (hk : ∀ lv st g c s, K (pc + 1) lv st g c s → pz_Z X nL (pc + 1) lv st g c s) : ∀ lv st g c s, zo_astN t K pc lv st g c s → pz_Z X nL pc lv st g c s := by
  obtain ⟨p, l, e, R, s, m, args, below, meth, c, Q, D, cy, A, En⟩ := X
  obtain ⟨hx, hb, hml, hown, hts, hK, hA, hOk, hEn⟩ := hX
  intro lv st g c0 s0 h ls H locs hl hP hS
  unfold zo_astN at h
  split at h
  · rename_i i a r
    obtain ⟨b, n, f, ha, hi, h⟩ := h
    obtain ⟨L, hL, hPP, hD⟩ := id hP
    obtain ⟨-, -, k0, hk0⟩ := pz_at (cy := cy) hL ha
    exact va_astqN hx hb hK hPP hD hS k0 t hk0 (ht cy) hi hd (fun H1 locs1 hP1 hD1 hS1 => hk _ _ _ _ _ h ls H1 locs1 hl (pz_set (e := .inl (t, n, .inr (.inr (.inr (.inr (va_up f i.toNatClampNeg none)))))) hL hD ha hk0 hP1 hD1) hS1)
  · exact h.elim
def zo_gst (a : Nat) (K : pz_K) : pz_K := fun pc lv st g c s => K (pc + 3) lv (.inr (.inr (some a)) :: st) g c s
theorem zs_gst {X : pz_C} {cc : ByteArray} {nL : Nat} {own C n d : String} {K : pz_K} {pc ix a : Nat} {G : pz_Gx} (hX : pz_X X cc nL own) (hGX : pz_GX X G) (hO : ∀ (B : Nat → Prop) (U : State) (J : Heap), G.2.2.2 B U J → va_Z C n d (.ref a) B U J) (hw1 : Cond.fieldLink own ix C n d ∈ pz_W) (hd : decode cc pc = .ok (.getstatic ix, 3)) (hk : ∀ lv st g c s, K (pc + 3) lv st g c s → pz_Z X nL (pc + 3) lv st g c s) : ∀ lv st g c s, zo_gst a K pc lv st g c s → pz_Z X nL pc lv st g c s := by
  obtain ⟨p, l, e, R, s, m, args, below, meth, c, Q, D, cy, A, En⟩ := X
  obtain ⟨hx, hb, hml, hown, hts, hK, hA, hOk, hEn⟩ := hX
  cases hGX
  intro lv st g c0 s0 h ls H locs hl hP hS
  exact va_gets hx hb (hO _ _ _ hEn) hS hown (hts _ hw1) (fun _ h => h) hd (hk _ _ _ _ _ h ls H locs hl hP hS)
def zo_ac_eq (t : Nat) (K : pz_K) : pz_K := fun pc lv st g c s => match st with
  | .inr (.inr y) :: .inr (.inr x) :: r => (x = y → K t lv r g c s) ∧ (¬ x = y → K (pc + 3) lv r g c s)
  | _ => False
theorem zs_ac_eq {X : pz_C} {cc : ByteArray} {nL : Nat} {own : String} {K : pz_K} {pc : Nat} (hX : pz_X X cc nL own) {off : Int} {t : Nat} (hd : decode cc pc = .ok (.if_acmp .eq off, 3)) (ht : (pc : Int) + off = (t : Int)) (hk : ∀ pc lv st g c s, K pc lv st g c s → pz_Z X nL pc lv st g c s) : ∀ lv st g c s, zo_ac_eq t K pc lv st g c s → pz_Z X nL pc lv st g c s := by
  obtain ⟨p, l, e, R, s, m, args, below, meth, c, Q, D, cy, A, En⟩ := X
  obtain ⟨hx, hb, hml, hown, hts, hK, hA, hOk, hEn⟩ := hX
  intro lv st g c0 s0 h ls H locs hl hP hS
  unfold zo_ac_eq at h
  split at h
  · exact lv_acmp_eq hx hb hd ht (fun q => hk _ _ _ _ _ _ (h.1 q) ls H locs hl hP hS) (fun q => hk _ _ _ _ _ _ (h.2 q) ls H locs hl hP hS)
  · exact h.elim
def zo_dupx1 (K : pz_K) : pz_K := fun pc lv st g c s => match st with
  | a :: b :: r => pz_2 a = false ∧ pz_2 b = false ∧ K (pc + 1) lv (a :: b :: a :: r) g c s
  | _ => False
theorem zs_dupx1 {X : pz_C} {cc : ByteArray} {nL : Nat} {own : String} {K : pz_K} {pc : Nat} (hX : pz_X X cc nL own) (hd : decode cc pc = .ok (.dup_x1, 1)) (hk : ∀ lv st g c s, K (pc + 1) lv st g c s → pz_Z X nL (pc + 1) lv st g c s) : ∀ lv st g c s, zo_dupx1 K pc lv st g c s → pz_Z X nL pc lv st g c s := by
  obtain ⟨p, l, e, R, s, m, args, below, meth, c, Q, D, cy, A, En⟩ := X
  obtain ⟨hx, hb, hml, hown, hts, hK, hA, hOk, hEn⟩ := hX
  intro lv st g c0 s0 h ls H locs hl hP hS
  unfold zo_dupx1 at h
  split at h
  · obtain ⟨h0, h1, h⟩ := h
    exact lv_dup_x1 hx hb hd (pz_cat1 h0) (pz_cat1 h1) (hk _ _ _ _ _ h ls H locs hl hP hS)
  · exact h.elim
theorem zs_getS {X : pz_C} {cc : ByteArray} {nL : Nat} {own : String} {K : pz_K} {pc : Nat} (hX : pz_X X cc nL own) {C ref : String} {T : u_T} {N ci k ix : Nat} (hc : vwCl[ci]? = some (C, T, N)) (hin : ∀ w ∈ u_ws C T N, w ∈ pz_W) (hkN : k < N) (hw : Cond.fieldLink own ix ref (T k).2.1 (T k).2.2.1 ∈ pz_W) (hws : Cond.sameField ref (T k).1 (T k).2.1 (T k).2.2.1 ∈ pz_W) (hd : decode cc pc = .ok (.getfield ix, 3)) (hk : ∀ lv st g c s, K (pc + 3) lv st g c s → pz_Z X nL (pc + 3) lv st g c s) : ∀ lv st g c s, zo_get ci k K pc lv st g c s → pz_Z X nL pc lv st g c s := by
  obtain ⟨p, l, e, R, s, m, args, below, meth, c, Q, D, cy, A, En⟩ := X
  obtain ⟨hx, hb, hml, hown, hts, hK, hA, hOk, hEn⟩ := hX
  intro lv st g c0 s0 h ls H locs hl hP hS
  unfold zo_get at h
  split at h
  · rename_i a r
    obtain ⟨b, fs, v, ha, hv, h⟩ := h
    obtain ⟨L, hL, hPP, hD⟩ := id hP
    obtain ⟨-, -, k0, hk0⟩ := pz_at (cy := cy) hL ha
    exact va_get (D := D) (v := pz_v v) hx hb hts hin hown hK hPP k0 hk0 hc k hkN (hts _ hw) (fun x h9 => u_same (hts _ hws) x h9) (by rw [List.getElem?_map, hv]; rfl) hd (hk _ _ _ _ _ h ls H locs hl hP hS)
  · exact h.elim
theorem zs_putiS {X : pz_C} {cc : ByteArray} {nL : Nat} {own : String} {K : pz_K} {pc : Nat} (hX : pz_X X cc nL own) {C ref : String} {T : u_T} {N ci k ix : Nat} (hc : vwCl[ci]? = some (C, T, N)) (hin : ∀ w ∈ u_ws C T N, w ∈ pz_W) (hkN : k < N) (hw : Cond.fieldLink own ix ref (T k).2.1 (T k).2.2.1 ∈ pz_W) (hws : Cond.sameField ref (T k).1 (T k).2.1 (T k).2.2.1 ∈ pz_W) (ty0 : Nat → FieldType) (hty : ∀ k, k < N → parseFieldDescriptor (T k).2.2.1 = some (ty0 k)) (hnm : ∀ a, a < N → ∀ b, b < N → a ≠ b → (T a).2.1 ≠ (T b).2.1) (hfd : parseFieldDescriptor (T k).2.2.1 = some .int) (hfin : (T k).2.2.2 = false) (hd : decode cc pc = .ok (.putfield ix, 3)) (hk : ∀ lv st g c s, K (pc + 3) lv st g c s → pz_Z X nL (pc + 3) lv st g c s) : ∀ lv st g c s, zo_puti ci k K pc lv st g c s → pz_Z X nL pc lv st g c s := by
  obtain ⟨p, l, e, R, s, m, args, below, meth, c, Q, D, cy, A, En⟩ := X
  obtain ⟨hx, hb, hml, hown, hts, hK, hA, hOk, hEn⟩ := hX
  intro lv st g c0 s0 h ls H locs hl hP hS
  unfold zo_puti at h
  split at h
  · rename_i x a r
    obtain ⟨b, fs, ha, hkl, h⟩ := h
    obtain ⟨L, hL, hPP, hD⟩ := id hP
    obtain ⟨-, -, k0, hk0⟩ := pz_at (cy := cy) hL ha
    refine va_put (D := D) (v := pz_v (.inl x)) (ty := .int) hx hb hts hin ty0 hty hnm hown hK hPP hD hS k0 hk0 hc k hkN (hts _ hw) (fun x h9 => u_same (hts _ hws) x h9) hfin hfd rfl rfl (by rw [List.length_map]; exact hkl) hd (fun H1 locs1 hP1 hD1 hS1 => ?_)
    rw [pz_mset] at hP1 hD1
    exact hk _ _ _ _ _ h ls H1 locs1 hl (pz_set (e := .inr (ci, fs.set k (.inl x))) hL hD ha hk0 hP1 hD1) hS1
  · exact h.elim
/-! ArrayList's empty array and MONTH_DAYS lie outside the pool -/
def zo_lenS (sa : Nat) (K : pz_K) : pz_K := fun pc lv st g c s => match st with
  | .inr (.inr (some a)) :: r => (a = sa ∧ K (pc + 1) lv (.inl 0 :: r) g c s) ∨ zo_alen K pc lv st g c s
  | _ => False
theorem zs_lenS {X : pz_C} {cc : ByteArray} {nL : Nat} {own : String} {K : pz_K} {pc sa : Nat} {G : pz_Gx} (hX : pz_X X cc nL own) (hGX : pz_GX X G) (hT : ∀ (B : Nat → Prop) (U : State) (J : Heap), G.2.2.2 B U J → va_T (.object "java/lang/Object") sa 0 (fun _ => .null) B U J) (hd : decode cc pc = .ok (.arraylength, 1)) (hk : ∀ lv st g c s, K (pc + 1) lv st g c s → pz_Z X nL (pc + 1) lv st g c s) : ∀ lv st g c s, zo_lenS sa K pc lv st g c s → pz_Z X nL pc lv st g c s := by
  intro lv st g c0 s0 h
  unfold zo_lenS at h
  split at h
  · rename_i a r
    rcases h with ⟨rfl, h⟩ | h
    · obtain ⟨p, l, e, R, s, m, args, below, meth, c, Q, D, cy, A, En⟩ := X
      obtain ⟨hx, hb, hml, hown, hts, hK, hA, hOk, hEn⟩ := hX
      cases hGX
      intro ls H locs hl hP hS
      exact va_tlen hx hb (hT _ _ _ hEn) hS (v := 0) rfl hd (hk _ _ _ _ _ h ls H locs hl hP hS)
    · exact zs_alen hX hd hk _ _ _ _ _ h
  · exact h.elim
def zo_lenT (md : Nat) (K : pz_K) : pz_K := fun pc lv st g c s => match st with
  | .inr (.inr (some a)) :: r => a = md ∧ K (pc + 1) lv (.inl 12 :: r) g c s
  | _ => False
theorem zs_lenT {X : pz_C} {cc : ByteArray} {nL : Nat} {own : String} {K : pz_K} {pc md : Nat} {G : pz_Gx} (hX : pz_X X cc nL own) (hGX : pz_GX X G) (hT : ∀ (B : Nat → Prop) (U : State) (J : Heap), G.2.2.2 B U J → va_T .int md 12 (fun i => .int (mdF i)) B U J) (hd : decode cc pc = .ok (.arraylength, 1)) (hk : ∀ lv st g c s, K (pc + 1) lv st g c s → pz_Z X nL (pc + 1) lv st g c s) : ∀ lv st g c s, zo_lenT md K pc lv st g c s → pz_Z X nL pc lv st g c s := by
  obtain ⟨p, l, e, R, s, m, args, below, meth, c, Q, D, cy, A, En⟩ := X
  obtain ⟨hx, hb, hml, hown, hts, hK, hA, hOk, hEn⟩ := hX
  cases hGX
  intro lv st g c0 s0 h ls H locs hl hP hS
  unfold zo_lenT at h
  split at h
  · obtain ⟨rfl, h⟩ := h
    exact va_tlen hx hb (hT _ _ _ hEn) hS (v := 12) rfl hd (hk _ _ _ _ _ h ls H locs hl hP hS)
  · exact h.elim
def zo_ialdT (md : Nat) (K : pz_K) : pz_K := fun pc lv st g c s => match st with
  | .inl i :: .inr (.inr (some a)) :: r => a = md ∧ vp_in i 12 ∧ K (pc + 1) lv (.inl (mdF i.toNatClampNeg) :: r) g c s
  | _ => False
theorem zs_ialdT {X : pz_C} {cc : ByteArray} {nL : Nat} {own : String} {K : pz_K} {pc md : Nat} {G : pz_Gx} (hX : pz_X X cc nL own) (hGX : pz_GX X G) (hT : ∀ (B : Nat → Prop) (U : State) (J : Heap), G.2.2.2 B U J → va_T .int md 12 (fun i => .int (mdF i)) B U J) (hd : decode cc pc = .ok (.iaload, 1)) (hk : ∀ lv st g c s, K (pc + 1) lv st g c s → pz_Z X nL (pc + 1) lv st g c s) : ∀ lv st g c s, zo_ialdT md K pc lv st g c s → pz_Z X nL pc lv st g c s := by
  obtain ⟨p, l, e, R, s, m, args, below, meth, c, Q, D, cy, A, En⟩ := X
  obtain ⟨hx, hb, hml, hown, hts, hK, hA, hOk, hEn⟩ := hX
  cases hGX
  intro lv st g c0 s0 h ls H locs hl hP hS
  unfold zo_ialdT at h
  split at h
  · rename_i i a r
    obtain ⟨rfl, hi, h⟩ := h
    exact va_ti hx hb (hT _ _ _ hEn) hS hi (v := .int (mdF i.toNatClampNeg)) rfl hd (hk _ _ _ _ _ h ls H locs hl hP hS)
  · exact h.elim
