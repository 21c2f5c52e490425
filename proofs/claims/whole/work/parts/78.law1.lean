/-! the law's own methods: calls of throwers, handlers -/
def pz_Ez (U : State) : Prop := (∀ E ∈ [nIOB, nIAE, nUOE, nAIO], va_Nw (.castable E E) U) ∧ va_Nc nIAE nIOB U ∧ va_Nc nUOE nIOB U ∧ va_Nc nUOE nIAE U
def pz_O4 (G : pz_Gx) (sa md mi : Nat) : Prop := pz_O3 G sa md mi ∧ ∀ (B : Nat → Prop) (U : State) (J : Heap), G.2.2.2 B U J → pz_Ez U
theorem zs_csVX {X : pz_C} {cc : ByteArray} {nL : Nat} {own : String} {KK : Option pz_V → pz_K} {KX : String → pz_K} {pc : Nat} {G : pz_Gx} {y : MethodName} {bytes : ByteArray} {maxL n ix : Nat} {ret : Option FieldType} {rm : Room} {pre : List pz_V → pz_H → Prop} {post : List pz_V → pz_H → Option pz_V → pz_H → Prop} {px : List pz_V → pz_H → String → pz_H → Prop} (hX : pz_X X cc nL own) (hGX : pz_GX X G) {C : String} {T : u_T} {N ci : Nat} (hc : vwCl[ci]? = some (C, T, N)) (hM : pz_MX G y bytes maxL ret rm pre post px) (hw1 : Cond.methodLink own ix y ∈ pz_W) (hw2 : Cond.instanceMethod y ∈ pz_W) (hw5 : Cond.selects C y y ∈ pz_W) (hw3 : Cond.initialized C ∈ pz_W) (hw4 : Cond.code y bytes maxL ret ∈ pz_W) (hdd : y.cls = C ∧ y.cls ≠ "java/lang/invoke/MethodHandle" ∧ y.cls ≠ "java/lang/invoke/VarHandle" ∧ (parseMethodDescriptor y.desc).map (fun d => d.parameters.length) = some n) (hR : rm.frames + 1 ≤ (pz_rm X).frames ∧ 8 + (maxL + 11) + rm.locals ≤ (pz_rm X).locals) (hd : decode cc pc = .ok (.invokevirtual ix, 3)) (hkx : ∀ E pc lv st g c s, KX E pc lv st g c s → pz_ZX X nL E pc lv st g c s) (hk : zo_KOk X nL (pc + 3) ret KK) : ∀ lv st g c s, zo_cVX (pz_rm X) ci n 3 rm.cells rm.slots pre post px KX KK pc lv st g c s → pz_Z X nL pc lv st g c s := by
  obtain ⟨p, l, e, R, s, m, args, below, meth, c, Q, D, cy, A, En⟩ := X
  obtain ⟨hx, hb, hml, hown, hts, hK, hA, hOk, hEn⟩ := hX
  obtain ⟨l', D', cy', En'⟩ := G
  cases hGX
  rintro lv st g c0 s0 ⟨hn, hav, h⟩ ls H locs hl hP hS
  obtain ⟨h1, h2, h3, h4, h6, h5⟩ := h
  obtain ⟨b, As, lb, fs, hAs, ha⟩ := hav
  obtain ⟨L, hL, hPP, hD⟩ := id hP
  obtain ⟨-, -, k0, hk0⟩ := pz_at (cy := cy) hL ha
  have hlen : As.length = n := by
    have := congrArg List.length hAs
    rw [List.length_reverse, List.length_take, List.length_cons] at this
    omega
  have hstk : (F0 m pc ls (st.map pz_v)).stack = (As.map pz_v).reverse ++ .ref b :: (st.drop (n + 1)).map pz_v := by
    have := pz_stk st (n + 1)
    rw [hAs, List.map_cons, List.reverse_cons, List.append_assoc] at this
    exact this
  rw [hAs] at h4 h5 h6
  have hr := vx_runV (As := As.map pz_v) (rest := (st.drop (n + 1)).map pz_v) (b := b) (g := F0 m pc ls (st.map pz_v)) (cells := c0) (slots := s0) (locs := locs) (below := below) (meth := meth) (R := R) (e := e) (C := C) ⟨hx, hb, hml, hown, hts⟩ (hM (.inr (.inr (some b)) :: As) g H.size h4) (cwV n hts (pz_GoodC hw1 (pz_GoodC hw2 (pz_GoodC hw5 (pz_GoodC hw3 (pz_GoodIn hw4))))) rfl rfl rfl hdd hR) ⟨pz_blind hOk _ _ _, va_recv hK hPP hc hk0, pz_preOf hOk hEn hP hS hA hK (.inr (.inr (some b)) :: As)⟩ rfl (by rw [List.length_map]; exact hlen) hl.1 hstk (by have e9 : 2 * (F0 m pc ls (st.map pz_v)).monitorRoom = 0 := rfl; rw [e9, List.map_map, Nat.zero_add]; exact h3) hd ⟨h1, h2⟩
  exact pz_callWX hr hS (pz_subA hP hS hA) (fun E g' H1 locs1 q ce hp hP1 hS1 hce hcv hcl => hkx E pc lv (st.drop (n + 1)) g' _ _ (h6 E g' hp) ls H1 locs1 q ce hl hP1 hS1 hce hcv hcl) (fun v g' H1 locs1 hsh hp hP1 hS1 => by
    have := hk v lv (st.drop (n + 1)) g' _ _ hsh (h5 v g' hp) ls H1 locs1 hl hP1 hS1
    rw [List.map_append] at this
    cases v <;> exact this)
/-- a method with handlers, which lets nothing out -/
def pz_MH (G : pz_Gx) (y : MethodName) (cc : ByteArray) (maxL : Nat) (ret : Option FieldType) (hh : List (Nat × Nat × Nat × Nat)) (rm : Room) (pre : List pz_V → pz_H → Prop) (post : List pz_V → pz_H → Option pz_V → pz_H → Prop) : Prop :=
  ∀ (av : List pz_V) (g : pz_H) (sz : Nat), pre av g → vx_Met G.1 y (.codeWith y cc maxL ret hh :: pz_W) rm (pz_Pr G.2.1 G.2.2.1 G.2.2.2 av g sz) (pz_Q G.2.1 G.2.2.1 ret (pz_A g sz) (post av g)) (pz_XC G.2.1 G.2.2.1 (pz_A g sz) (fun _ _ => False)) rm.cells rm.slots (pz_A g sz)
def pz_Tab (X : pz_C) (hh : List (Nat × Nat × Nat × Nat)) : Prop := match X with
  | (_, _, _, _, _, _, _, _, _, c, _, _, _, _, _) => c.exceptionTable.toList = tableOf hh
theorem pz_ofZH {G : pz_Gx} {y : MethodName} {cc : ByteArray} {maxL : Nat} {ret : Option FieldType} {hh : List (Nat × Nat × Nat × Nat)} {rm : Room} {pre : List pz_V → pz_H → Prop} {post : List pz_V → pz_H → Option pz_V → pz_H → Prop} (hy : plainName y.cls = true) (hOk : pz_Ok G.2.2.2) (hret : ret = some .int)
    (hlen : ∀ av g, pre av g → pz_w av ≤ maxL) (body : ∀ X : pz_C, pz_X X cc maxL y.cls → pz_GX X G → pz_rm X = rm → pz_Tab X hh → ∀ av g, pre av g → pz_Rt X cc maxL ret rm (post av g) → pz_Z X maxL 0 (pz_ar 0 av) [] g 0 0) : pz_MH G y cc maxL ret hh rm pre post := by
  obtain ⟨l, D, cy, En⟩ := G
  intro av g sz hpre
  refine vx_ofWH (cc := cc) (maxL := maxL) (ret := ret) (hh := hh) hy rfl ?_
  intro p e s m args below meth c s₁ B hml hv
  obtain ⟨rfl, hsz, hP, hK, hEn⟩ := hv
  subst hsz
  have hx := B.exec
  have hb := B.bytes
  have hr := B.returns
  have hts0 := atoms_spec (ws := .codeWith y cc maxL ret hh :: pz_W) B.pre
  have hts : ∀ w ∈ pz_W, w.before ((av.map pz_v).toArray) s = true := fun w hw => hts0 w (List.mem_cons_of_mem _ hw)
  have htab := vx_table (x := y) B (hts0 _ List.mem_cons_self)
  have hown : s.vm.findClass y.cls = some m.cls := findClass_of_methodNamed B.named
  have hlocks := B.notSynchronized
  have hA : ∀ q : Nat, s.heap.size ≤ q → pz_A g s.heap.size q := fun q h => Or.inr h
  have hP0 : pz_P D cy (pz_A g s.heap.size) g s.heap := hP.weaken (fun a q h _ => Or.inl (by rw [h]; rfl))
  obtain ⟨X, hXe⟩ : ∃ X : pz_C, X = (p, l, e, rm, s, m, (av.map pz_v).toArray, below, meth, c, vx_MQ below (pz_Q D cy ret (pz_A g s.heap.size) (post av g)) (pz_XC D cy (pz_A g s.heap.size) (fun _ _ => False)) ((av.map pz_v).toArray) s rm.cells rm.slots (pz_A g s.heap.size), D, cy, pz_A g s.heap.size, En) := ⟨_, rfl⟩
  have hRt : pz_Rt X cc maxL ret rm (post av g) := by
    rw [hXe]
    intro pc lv v g' c0 s0 hsh hc0 hs0 hE hd ls H locs hl hPp hS
    have hq : ∀ t : State, t.heap = H → s.WarmedH t.vm → pz_Q D cy ret (pz_A g s.heap.size) (post av g) ((av.map pz_v).toArray) s (.returned (v.map pz_v)) t := fun t ht hW => ⟨⟨v, g', rfl, hsh, hE, by rw [ht]; exact hPp, va_K.moved hW.alike hK⟩, hS.F ht⟩
    refine vx_ret (W.widen hc0 hs0 ?_)
    subst hret
    obtain ⟨x, rfl⟩ := hsh
    exact W.iret hx hb hr hq hS.2.2 (hd.2.1 x rfl) hlocks
  have hZ := body X (by rw [hXe]; exact ⟨hx, hb, hml, hown, hts, hK, hA, hOk, hEn⟩) (by rw [hXe]; rfl) (by rw [hXe]; rfl) (by rw [hXe]; exact htab) av g hpre hRt
  rw [hXe] at hZ
  have hle := lv_entry (av.map pz_v) (n := maxL) (by rw [pz_w_sl]; exact hlen av g hpre)
  rw [pz_ar_lv] at hle
  rw [lg_entry_eq]
  exact hZ _ s.heap [] hle hP0 va_S.rf
theorem zs_csSH {X : pz_C} {cc : ByteArray} {nL : Nat} {own : String} {KK : Option pz_V → pz_K} {pc : Nat} {G : pz_Gx} {y : MethodName} {bytes : ByteArray} {maxL n ix : Nat} {ret : Option FieldType} {hh : List (Nat × Nat × Nat × Nat)} {rm : Room} {pre : List pz_V → pz_H → Prop} {post : List pz_V → pz_H → Option pz_V → pz_H → Prop} (hX : pz_X X cc nL own) (hGX : pz_GX X G) (hM : pz_MH G y bytes maxL ret hh rm pre post) (hw1 : Cond.methodLink own ix y ∈ pz_W) (hw2 : Cond.static y ∈ pz_W) (hw3 : Cond.initialized y.cls ∈ pz_W) (hw4 : Cond.codeWith y bytes maxL ret hh ∈ pz_W) (hdd : y.cls ≠ "java/lang/invoke/MethodHandle" ∧ y.cls ≠ "java/lang/invoke/VarHandle" ∧ (parseMethodDescriptor y.desc).map (fun d => d.parameters.length) = some n) (hR : rm.frames + 1 ≤ (pz_rm X).frames ∧ 8 + (maxL + 11) + rm.locals ≤ (pz_rm X).locals) (hd : decode cc pc = .ok (.invokestatic ix, 3)) (hk : zo_KOk X nL (pc + 3) ret KK) : ∀ lv st g c s, zo_cs (pz_rm X) n 3 rm.cells rm.slots pre post KK pc lv st g c s → pz_Z X nL pc lv st g c s := by
  obtain ⟨p, l, e, R, s, m, args, below, meth, c, Q, D, cy, A, En⟩ := X
  obtain ⟨hx, hb, hml, hown, hts, hK, hA, hOk, hEn⟩ := hX
  obtain ⟨l', D', cy', En'⟩ := G
  cases hGX
  rintro lv st g c0 s0 ⟨hn, h⟩ ls H locs hl hP hS
  obtain ⟨h1, h2, h3, h4, h5⟩ := h
  have hg := pz_GoodC hw1 (pz_GoodC hw2 (pz_GoodC hw3 (pz_GoodC hw4 (fun w h => ⟨h, good_of_word (pz_good h)⟩))))
  have hr := vx_runSX (hh := hh) (As := (st.take n).reverse.map pz_v) (rest := (st.drop n).map pz_v) (g := F0 m pc ls (st.map pz_v)) (cells := c0) (slots := s0) (locs := locs) (below := below) (meth := meth) (R := R) (e := e) ⟨hx, hb, hml, hown, hts⟩ (hM (st.take n).reverse g H.size h4) (vx_cwSW n hts hg rfl rfl rfl hdd hR) ⟨pz_blind hOk _ _ _, pz_preOf hOk hEn hP hS hA hK _⟩ rfl (by rw [List.length_map, List.length_reverse, List.length_take]; omega) hl.1 (pz_stk st n) (by have e9 : 2 * (F0 m pc ls (st.map pz_v)).monitorRoom = 0 := rfl; rw [e9, List.map_map, Nat.zero_add]; exact h3) hd ⟨h1, h2⟩
  exact pz_callWX (px := fun _ _ => False) hr hS (pz_subA hP hS hA) (fun E g' H1 locs1 q ce hp hP1 hS1 hce hcv hcl => hp.elim) (fun v g' H1 locs1 hsh hp hP1 hS1 => by
    have := hk v lv (st.drop n) g' _ _ hsh (h5 v g' hp) ls H1 locs1 hl hP1 hS1
    rw [List.map_append] at this
    cases v <;> exact this)
/-- a handler takes the exception: its first entries let it pass -/
theorem zs_catch {X : pz_C} {cc : ByteArray} {nL : Nat} {own E : String} {G : pz_Gx} {sa md mi pc : Nat} {hh : List (Nat × Nat × Nat × Nat)} {lv : pz_L} {st : List pz_V} {g : pz_H} {c s : Nat} (hX : pz_X X cc nL own) (hGX : pz_GX X G) (hO : pz_O4 G sa md mi) (hTab : pz_Tab X hh) (hE : E ∈ [nIOB, nIAE, nUOE, nAIO]) (pre : List ExceptionTableEntry) (x : ExceptionTableEntry) (suf : List ExceptionTableEntry) (hsplit : tableOf hh = pre ++ x :: suf) (hpass : ∀ z ∈ pre, z.catchType ≠ 0 ∧ ∃ nm : String, Cond.classLink own z.catchType nm ∈ pz_W ∧ ∀ U, pz_Ez U → va_Nc E nm U) (hx : covers x pc = true) (h0 : x.catchType ≠ 0) (hlink : Cond.classLink own x.catchType E ∈ pz_W) (K : ∀ q, pz_Z X nL x.handlerPc lv [.inr (.inr (some q))] g c s) : pz_ZX X nL E pc lv st g c s := by
  obtain ⟨p, l, e, R, s', m, args, below, meth, c', Q, D, cy, A, En⟩ := X
  obtain ⟨hxx, hb, hml, hown, hts, hK, hA, hOk, hEn⟩ := hX
  cases hGX
  have hz := hO.2 _ _ _ hEn
  intro ls H locs q ce hl hP hS hce hcv hcl
  exact vx_catch hown pre x suf (hTab.trans hsplit) (fun z hz2 => by
    obtain ⟨a1, nm, a2, a3⟩ := hpass z hz2
    exact Or.inr ⟨a1, nm, hts _ a2, a3 _ hz⟩) hx h0 (hts _ hlink) (va_Nw.use rfl (hz.1 E hE)) hce hcv hcl (K q ls H locs hl hP hS)
