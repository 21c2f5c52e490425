/-! class objects, System.arraycopy of references -/
def zo_ac_ne (t : Nat) (K : pz_K) : pz_K := fun pc lv st g c s => match st with
  | .inr (.inr y) :: .inr (.inr x) :: r => (¬ x = y → K t lv r g c s) ∧ (x = y → K (pc + 3) lv r g c s)
  | _ => False
theorem zs_ac_ne {X : pz_C} {cc : ByteArray} {nL : Nat} {own : String} {K : pz_K} {pc : Nat} (hX : pz_X X cc nL own) {off : Int} {t : Nat} (hd : decode cc pc = .ok (.if_acmp .ne off, 3)) (ht : (pc : Int) + off = (t : Int)) (hk : ∀ pc lv st g c s, K pc lv st g c s → pz_Z X nL pc lv st g c s) : ∀ lv st g c s, zo_ac_ne t K pc lv st g c s → pz_Z X nL pc lv st g c s := by
  obtain ⟨p, l, e, R, s, m, args, below, meth, c, Q, D, cy, A, En⟩ := X
  obtain ⟨hx, hb, hml, hown, hts, hK, hA, hOk, hEn⟩ := hX
  intro lv st g c0 s0 h ls H locs hl hP hS
  unfold zo_ac_ne at h
  split at h
  · exact lv_acmp_ne hx hb hd ht (fun q => hk _ _ _ _ _ _ (h.1 q) ls H locs hl hP hS) (fun q => hk _ _ _ _ _ _ (h.2 q) ls H locs hl hP hS)
  · exact h.elim
def zo_ldM (mi : Nat) (K : pz_K) : pz_K := fun pc lv st g c s => K (pc + 2) lv (.inr (.inr (some mi)) :: st) g c s
theorem zs_ldM {X : pz_C} {cc : ByteArray} {nL : Nat} {own C : String} {K : pz_K} {pc ix mi : Nat} {G : pz_Gx} (hX : pz_X X cc nL own) (hGX : pz_GX X G) (hO : ∀ (B : Nat → Prop) (U : State) (J : Heap), G.2.2.2 B U J → va_Mi C mi U) (hw1 : Cond.classLink own ix C ∈ pz_W) (hd : decode cc pc = .ok (.ldc ix, 2)) (hk : ∀ lv st g c s, K (pc + 2) lv st g c s → pz_Z X nL (pc + 2) lv st g c s) : ∀ lv st g c s, zo_ldM mi K pc lv st g c s → pz_Z X nL pc lv st g c s := by
  obtain ⟨p, l, e, R, s, m, args, below, meth, c, Q, D, cy, A, En⟩ := X
  obtain ⟨hx, hb, hml, hown, hts, hK, hA, hOk, hEn⟩ := hX
  cases hGX
  intro lv st g c0 s0 h ls H locs hl hP hS
  exact va_ldcM hx hb hown (hts _ hw1) (hO _ _ _ hEn) hd (hk _ _ _ _ _ h ls H locs hl hP hS)
def zo_getC (R : Room) (mi : Nat) (K : pz_K) : pz_K := fun pc lv st g c s => match st with
  | .inr (.inr (some a)) :: r => (∃ b n f, g a = some (b, .inl (5, n, .inr (.inr (.inr (.inr f)))))) ∧ 1 ≤ R.frames ∧ (r.map fun v => (pz_v v).category).sum + 14 ≤ R.locals ∧ K (pc + 3) lv (.inr (.inr (some mi)) :: r) g c s
  | _ => False
theorem zs_getC {X : pz_C} {cc : ByteArray} {nL : Nat} {own : String} {K : pz_K} {pc ix mi : Nat} {G : pz_Gx} (hX : pz_X X cc nL own) (hGX : pz_GX X G) (hO : ∀ (B : Nat → Prop) (U : State) (J : Heap), G.2.2.2 B U J → va_Mi "[Ljava/lang/Object;" mi U ∧ va_Dc U) (hw1 : Cond.methodLink own ix ⟨"java/lang/Object", "getClass", "()Ljava/lang/Class;"⟩ ∈ pz_W) (hw2 : Cond.selects "[Ljava/lang/Object;" ⟨"java/lang/Object", "getClass", "()Ljava/lang/Class;"⟩ ⟨"java/lang/Object", "getClass", "()Ljava/lang/Class;"⟩ ∈ pz_W) (hw3 : Cond.instanceMethod ⟨"java/lang/Object", "getClass", "()Ljava/lang/Class;"⟩ ∈ pz_W) (hw4 : Cond.native ⟨"java/lang/Object", "getClass", "()Ljava/lang/Class;"⟩ ∈ pz_W) (hd : decode cc pc = .ok (.invokevirtual ix, 3)) (hk : ∀ lv st g c s, K (pc + 3) lv st g c s → pz_Z X nL (pc + 3) lv st g c s) : ∀ lv st g c s, zo_getC (pz_rm X) mi K pc lv st g c s → pz_Z X nL pc lv st g c s := by
  obtain ⟨p, l, e, R, s, m, args, below, meth, c, Q, D, cy, A, En⟩ := X
  obtain ⟨hx, hb, hml, hown, hts, hK, hA, hOk, hEn⟩ := hX
  cases hGX
  intro lv st g c0 s0 h ls H locs hl hP hS
  unfold zo_getC at h
  split at h
  · rename_i a r
    obtain ⟨⟨b, n, f, ha⟩, h1, h2, h⟩ := h
    obtain ⟨L, hL, hPP, hD⟩ := id hP
    obtain ⟨-, -, k0, hk0⟩ := pz_at (cy := cy) hL ha
    obtain ⟨hMi, hDc⟩ := hO _ _ _ hEn
    obtain ⟨_, _, _, _, _, e1⟩ := (hK.2 5 _ rfl).2
    have hcell := hPP k0 _ hk0
    refine va_getC (C := "[Ljava/lang/Object;") hx hb (hml.trans hl.1.symm) hown (hts _ hw1) (va_Dc.use hDc) (hts _ hw2) (hts _ hw3) (hts _ hw4) hMi ⟨_, hcell, rfl, ?_⟩ h1 ?_ hd (hk _ _ _ _ _ h ls H locs hl hP hS)
    · exact e1
    · rw [List.map_map]; exact h2
  · exact h.elim
def zo_cpq (R : Room) (K : pz_K) : pz_K := fun pc lv st g c s => match st with
  | .inl n :: .inl dp :: .inr (.inr (some a)) :: .inl sp :: .inr (.inr (some a0)) :: r => ∃ (b0 b1 : List Nat) (n0 n1 : Nat) (f f1 : Nat → Option Nat), g a0 = some (b0, .inl (5, n0, .inr (.inr (.inr (.inr f))))) ∧ g a = some (b1, .inl (5, n1, .inr (.inr (.inr (.inr f1))))) ∧ ¬ sp < 0 ∧ ¬ dp < 0 ∧ ¬ n < 0 ∧ sp.toNatClampNeg + n.toNatClampNeg ≤ n0 ∧ dp.toNatClampNeg + n.toNatClampNeg ≤ n1 ∧ (∀ i : Nat, i < n.toNatClampNeg → ∀ y : Nat, f (sp.toNatClampNeg + i) = some y → ∃ bv fs, g y = some (bv, .inr (5, fs))) ∧ 1 ≤ R.frames ∧ (r.map fun v => (pz_v v).category).sum + (nativeFrameWords "java/lang/System" "arraycopy" 5 + 11) ≤ R.locals ∧ K (pc + 3) lv r (va_up g a (some (b1, .inl (5, n1, .inr (.inr (.inr (.inr (va_cpy f f1 sp.toNatClampNeg dp.toNatClampNeg n.toNatClampNeg)))))))) c s
  | _ => False
theorem zs_cpq {X : pz_C} {cc : ByteArray} {nL : Nat} {own : String} {K : pz_K} {pc ix : Nat} {G : pz_Gx} (hX : pz_X X cc nL own) (hGX : pz_GX X G) (hw1 : Cond.methodLink own ix arraycopyName ∈ pz_W) (hw2 : Cond.native arraycopyName ∈ pz_W) (hw3 : Cond.static arraycopyName ∈ pz_W) (hw4 : Cond.initialized "java/lang/System" ∈ pz_W) (hw5 : ∀ (B : Nat → Prop) (U : State) (J : Heap), G.2.2.2 B U J → va_Nw (.castable "LineTimes$Line" "java/lang/Object") U) (hd : decode cc pc = .ok (.invokestatic ix, 3)) (hk : ∀ lv st g c s, K (pc + 3) lv st g c s → pz_Z X nL (pc + 3) lv st g c s) : ∀ lv st g c s, zo_cpq (pz_rm X) K pc lv st g c s → pz_Z X nL pc lv st g c s := by
  obtain ⟨p, l, e, R, s, m, args, below, meth, c, Q, D, cy, A, En⟩ := X
  obtain ⟨hx, hb, hml, hown, hts, hK, hA, hOk, hEn⟩ := hX
  cases hGX
  intro lv st g c0 s0 h ls H locs hl hP hS
  unfold zo_cpq at h
  split at h
  · rename_i n dp a sp a0 r
    obtain ⟨b0, b1, n0, n1, f, f1, ha0, ha, h1, h2, h3, h4, h5, h6, h7, h8, h⟩ := h
    obtain ⟨L, hL, hPP, hD⟩ := id hP
    obtain ⟨-, -, k0, hk0⟩ := pz_at (cy := cy) hL ha0
    obtain ⟨-, -, k1, hk1⟩ := pz_at (cy := cy) hL ha
    refine va_copyq (E0 := "java/lang/Object") (E1 := "java/lang/Object") (C := "LineTimes$Line") hx hb (hml.trans hl.1.symm) hown (hts _ hw1) (hts _ hw2) (hts _ hw3) (hts _ hw4) hK hPP hD hS k0 k1 5 5 hk0 hk1 rfl rfl h1 h2 h3 h4 h5 (fun i hi y hy => ?_) (fun comp c0 q1 q2 => vb_asgC (hw5 _ _ _ hEn) comp c0 q1 q2) h7 (by rw [List.map_map]; exact h8) hd (fun H1 locs1 hP1 hD1 hS1 => hk _ _ _ _ _ h ls H1 locs1 hl (pz_set (e := .inl (5, n1, .inr (.inr (.inr (.inr (va_cpy f f1 sp.toNatClampNeg dp.toNatClampNeg n.toNatClampNeg)))))) hL hD ha hk1 hP1 hD1) hS1)
    obtain ⟨bv, fs, hv⟩ := h6 i hi y hy
    obtain ⟨-, -, k2, hk2⟩ := pz_at (cy := cy) hL hv
    obtain ⟨r', hr', cellV, g1, g2, g3, -⟩ := hPP k2 _ hk2
    have hr5 : r' = (RX3, TX3, 11) := Option.some.inj (hr'.symm.trans rfl)
    subst hr5
    refine ⟨cellV, g1, by rw [g3]; rfl, ?_⟩
    have hcls := (hK.1 5 (RX3, TX3, 11) rfl).2
    rw [g2]
    exact hcls.1
  · exact h.elim
