/-! a private constructor of a nest mate -/
theorem zs_csIN {X : pz_C} {cc : ByteArray} {nL : Nat} {own host : String} {KK : Option pz_V → pz_K} {pc : Nat} {G : pz_Gx} {y : MethodName} {bytes : ByteArray} {maxL n ix : Nat} {rm : Room} {pre : List pz_V → pz_H → Prop} {post : List pz_V → pz_H → Option pz_V → pz_H → Prop} (hX : pz_X X cc nL own) (hGX : pz_GX X G) (hM : pz_M G y bytes maxL none rm pre post) (hw1 : ∀ (B : Nat → Prop) (U : State) (J : Heap), G.2.2.2 B U J → va_Nw (.methodLinkNest own ix y host) U) (hw2 : Cond.instanceMethod y ∈ pz_W) (hw3 : Cond.initialized y.cls ∈ pz_W) (hw4 : Cond.code y bytes maxL none ∈ pz_W) (hy1 : y.name = "<init>") (hdd : y.cls ≠ "java/lang/invoke/MethodHandle" ∧ y.cls ≠ "java/lang/invoke/VarHandle" ∧ (parseMethodDescriptor y.desc).map (fun d => d.parameters.length) = some n) (hR : rm.frames + 1 ≤ (pz_rm X).frames ∧ 8 + (maxL + 11) + rm.locals ≤ (pz_rm X).locals) (hd : decode cc pc = .ok (.invokespecial ix, 3)) (hk : zo_KOk X nL (pc + 3) none KK) : ∀ lv st g c s, zo_cI (pz_rm X) n 3 rm.cells rm.slots pre post KK pc lv st g c s → pz_Z X nL pc lv st g c s := by
  obtain ⟨p, l, e, R, s, m, args, below, meth, c, Q, D, cy, A, En⟩ := X
  obtain ⟨hx, hb, hml, hown, hts, hK, hA, hOk, hEn⟩ := hX
  obtain ⟨l', D', cy', En'⟩ := G
  cases hGX
  rintro lv st g c0 s0 ⟨hn, hav, h⟩ ls H locs hl hP hS
  obtain ⟨h1, h2, h3, h4, h5⟩ := h
  obtain ⟨b, As, hAs⟩ := hav
  have hlen : As.length = n := by
    have := congrArg List.length hAs
    rw [List.length_reverse, List.length_take, List.length_cons] at this
    omega
  have hstk : (F0 m pc ls (st.map pz_v)).stack = (As.map pz_v).reverse ++ .ref b :: (st.drop (n + 1)).map pz_v := by
    have := pz_stk st (n + 1)
    rw [hAs, List.map_cons, List.reverse_cons, List.append_assoc] at this
    exact this
  rw [hAs] at h4 h5
  have hr := va_runIN (As := As.map pz_v) (rest := (st.drop (n + 1)).map pz_v) (b := b) (g := F0 m pc ls (st.map pz_v)) (cells := c0) (slots := s0) (locs := locs) (below := below) (meth := meth) (R := R) (e := e) (host := host) ⟨hx, hb, hml, hown, hts⟩ (hM (.inr (.inr (some b)) :: As) g H.size h4) ⟨va_cnB n hts (pz_GoodIn hw4) rfl rfl rfl (hw1 _ _ _ hEn) (hts _ hw3) hdd hR, hy1, hts _ hw2⟩ ⟨pz_blind hOk _ _ _, pz_preOf hOk hEn hP hS hA hK (.inr (.inr (some b)) :: As)⟩ rfl (by rw [List.length_map]; exact hlen) hl.1 hstk (by have e9 : 2 * (F0 m pc ls (st.map pz_v)).monitorRoom = 0 := rfl; rw [e9, List.map_map, Nat.zero_add]; exact h3) hd ⟨h1, h2⟩
  exact pz_callW hr hS (pz_subA hP hS hA) (fun v g' H1 locs1 hsh hp hP1 hS1 => by
    have := hk v lv (st.drop (n + 1)) g' _ _ hsh (h5 v g' hp) ls H1 locs1 hl hP1 hS1
    rw [List.map_append] at this
    cases v <;> exact this)
