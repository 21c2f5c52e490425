/-! calls of methods that may throw -/
theorem pz_callWX {p : Program} {l : Launch} {e : Env} {R : Room} {s : State} {m : MethodId} {args : Array Value} {below : List Frame} {meth : Method} {c : Code} {H : Heap} {locs : List Loc} {cells slots : Nat} {Q : State → Prop} {D : va_G} {cy : Nat → ClassId} {A : Nat → Prop} {mc ms pc : Nat} {ls : Array Slot} {st0 rest : List Value} {ret : Option FieldType} {A1 : Nat → Prop} {post : Option pz_V → pz_H → Prop} {px : String → pz_H → Prop} {a : Array Value} (hr : vx_Run p l e R s m args below meth c H locs cells slots mc ms (F0 m pc ls st0) rest (pz_Q D cy ret A1 post a) (pz_XC D cy A1 px) A1) (hS : va_S A s.heap H locs) (hA1 : ∀ q, A1 q → A q)
    (kx : ∀ (E : String) (g' : pz_H) (H1 : Heap) (locs1 : List Loc) (q : Addr) (ce : Cell), px E g' → pz_P D cy A g' H1 → va_S A s.heap H1 locs1 → H1[q]? = some ce → ce.vm = .none → s.vm.findClass E = some ce.cls → vx_W p l e R s m args below meth c H1 locs1 (cells + mc) (slots + ms) Q (F0 m pc ls rest) q)
    (kk : ∀ (v : Option pz_V) (g' : pz_H) (H1 : Heap) (locs1 : List Loc), pz_sh ret v → post v g' → pz_P D cy A g' H1 → va_S A s.heap H1 locs1 → W p l e R s m args below meth c H1 locs1 (cells + mc) (slots + ms) Q (F0 m (pc + 3) ls ((v.map pz_v).toList ++ rest))) : W p l e R s m args below meth c H locs cells slots Q (F0 m pc ls st0) := by
  intro T hT X
  rcases hr T hT X with ⟨v, st₀, t, T', L, h0, X', hL, e1, e2, ⟨⟨r, u, hv, hsh, hp, hb, hK⟩, hz, hk⟩, st⟩ | ⟨q, st₀, t, T', L, E, ce, h0, X', hL, e1, e2, ⟨g', hp, hb, hK, hz, hk⟩, hce, hcv, hcl, st⟩
  · cases hv
    rw [h0] at hz hk
    obtain ⟨t2, a1, b1⟩ := kk r u T'.heap (locs ++ L) hsh hp (by rw [e1]; exact hb.weaken (fun q _ _ h => hA1 q h))
      ⟨Nat.le_trans hS.1 (by rw [e1]; exact hz), fun q h1 h2 => by rw [e1, hk q (Nat.lt_of_lt_of_le h1 hS.1) (fun z => h2 (hA1 q z))]; exact hS.2.1 q h1 h2, fun q hq => by
        rcases List.mem_append.mp hq with h | h
        · exact hS.2.2 q h
        · exact hA1 _ (hL q h)⟩ T' rfl X'
    exact ⟨t2, st t2 a1, b1⟩
  · rw [h0] at hz hk
    obtain ⟨t2, a1, b1⟩ := kx E g' T'.heap (locs ++ L) q ce hp (by rw [e1]; exact hb.weaken (fun q _ _ h => hA1 q h))
      ⟨Nat.le_trans hS.1 (by rw [e1]; exact hz), fun q h1 h2 => by rw [e1, hk q (Nat.lt_of_lt_of_le h1 hS.1) (fun z => h2 (hA1 q z))]; exact hS.2.1 q h1 h2, fun q hq => by
        rcases List.mem_append.mp hq with h | h
        · exact hS.2.2 q h
        · exact hA1 _ (hL q h)⟩ (by rw [e1]; exact hce) hcv hcl T' rfl X'
    exact ⟨t2, st.trans a1, b1⟩
/-- what a call that may throw needs, and what it leaves -/
def zo_cX (R : Room) (n len mc ms : Nat) (pre : List pz_V → pz_H → Prop) (post : List pz_V → pz_H → Option pz_V → pz_H → Prop) (px : List pz_V → pz_H → String → pz_H → Prop) (KX : String → pz_K) (KK : Option pz_V → pz_K) : pz_K := fun pc lv st g c s =>
  c + mc ≤ R.cells ∧ s + ms ≤ R.slots ∧ ((st.drop n).map (fun v => (pz_v v).category)).sum ≤ 8 ∧ pre (st.take n).reverse g ∧ (∀ (E : String) (g' : pz_H), px (st.take n).reverse g E g' → KX E pc lv (st.drop n) g' (c + mc) (s + ms)) ∧ ∀ (v : Option pz_V) (g' : pz_H), post (st.take n).reverse g v g' → KK v (pc + len) lv (st.drop n) g' (c + mc) (s + ms)
def zo_csX (R : Room) (n len mc ms : Nat) (pre : List pz_V → pz_H → Prop) (post : List pz_V → pz_H → Option pz_V → pz_H → Prop) (px : List pz_V → pz_H → String → pz_H → Prop) (KX : String → pz_K) (KK : Option pz_V → pz_K) : pz_K := fun pc lv st g c s => n ≤ st.length ∧ zo_cX R n len mc ms pre post px KX KK pc lv st g c s
def zo_cVX (R : Room) (ci n len mc ms : Nat) (pre : List pz_V → pz_H → Prop) (post : List pz_V → pz_H → Option pz_V → pz_H → Prop) (px : List pz_V → pz_H → String → pz_H → Prop) (KX : String → pz_K) (KK : Option pz_V → pz_K) : pz_K := fun pc lv st g c s => n + 1 ≤ st.length ∧ (∃ b As lb fs, (st.take (n + 1)).reverse = .inr (.inr (some b)) :: As ∧ g b = some (lb, .inr (ci, fs))) ∧ zo_cX R (n + 1) len mc ms pre post px KX KK pc lv st g c s
/-- the exception goes on to the caller -/
def zo_te (rm : Room) (PX : String → pz_H → Prop) : String → pz_K := fun E _ _ _ g c s => c ≤ rm.cells ∧ s ≤ rm.slots ∧ PX E g
theorem zs_te {X : pz_C} {nL : Nat} {rm : Room} {PX : String → pz_H → Prop} (hT : pz_Te X nL rm PX) : ∀ E pc lv st g c s, zo_te rm PX E pc lv st g c s → pz_ZX X nL E pc lv st g c s := fun E pc lv st g c s h => hT E pc lv st g c s h.1 h.2.1 h.2.2
theorem zs_csSX {X : pz_C} {cc : ByteArray} {nL : Nat} {own : String} {KK : Option pz_V → pz_K} {KX : String → pz_K} {pc : Nat} {G : pz_Gx} {y : MethodName} {bytes : ByteArray} {maxL n ix : Nat} {ret : Option FieldType} {rm : Room} {pre : List pz_V → pz_H → Prop} {post : List pz_V → pz_H → Option pz_V → pz_H → Prop} {px : List pz_V → pz_H → String → pz_H → Prop} (hX : pz_X X cc nL own) (hGX : pz_GX X G) (hM : pz_MX G y bytes maxL ret rm pre post px) (hw1 : Cond.methodLink own ix y ∈ pz_W) (hw2 : Cond.static y ∈ pz_W) (hw3 : Cond.initialized y.cls ∈ pz_W) (hw4 : Cond.code y bytes maxL ret ∈ pz_W) (hdd : y.cls ≠ "java/lang/invoke/MethodHandle" ∧ y.cls ≠ "java/lang/invoke/VarHandle" ∧ (parseMethodDescriptor y.desc).map (fun d => d.parameters.length) = some n) (hR : rm.frames + 1 ≤ (pz_rm X).frames ∧ 8 + (maxL + 11) + rm.locals ≤ (pz_rm X).locals) (hd : decode cc pc = .ok (.invokestatic ix, 3)) (hkx : ∀ E pc lv st g c s, KX E pc lv st g c s → pz_ZX X nL E pc lv st g c s) (hk : zo_KOk X nL (pc + 3) ret KK) : ∀ lv st g c s, zo_csX (pz_rm X) n 3 rm.cells rm.slots pre post px KX KK pc lv st g c s → pz_Z X nL pc lv st g c s := by
  obtain ⟨p, l, e, R, s, m, args, below, meth, c, Q, D, cy, A, En⟩ := X
  obtain ⟨hx, hb, hml, hown, hts, hK, hA, hOk, hEn⟩ := hX
  obtain ⟨l', D', cy', En'⟩ := G
  cases hGX
  rintro lv st g c0 s0 ⟨hn, h⟩ ls H locs hl hP hS
  obtain ⟨h1, h2, h3, h4, h6, h5⟩ := h
  have hg := pz_GoodC hw1 (pz_GoodC hw2 (pz_GoodC hw3 (pz_GoodIn hw4)))
  have hr := vx_runS (As := (st.take n).reverse.map pz_v) (rest := (st.drop n).map pz_v) (g := F0 m pc ls (st.map pz_v)) (cells := c0) (slots := s0) (locs := locs) (below := below) (meth := meth) (R := R) (e := e) ⟨hx, hb, hml, hown, hts⟩ (hM (st.take n).reverse g H.size h4) (va_cwS n hts hg rfl rfl rfl hdd hR) ⟨pz_blind hOk _ _ _, pz_preOf hOk hEn hP hS hA hK _⟩ rfl (by rw [List.length_map, List.length_reverse, List.length_take]; omega) hl.1 (pz_stk st n) (by have e9 : 2 * (F0 m pc ls (st.map pz_v)).monitorRoom = 0 := rfl; rw [e9, List.map_map, Nat.zero_add]; exact h3) hd ⟨h1, h2⟩
  exact pz_callWX hr hS (pz_subA hP hS hA) (fun E g' H1 locs1 q ce hp hP1 hS1 hce hcv hcl => hkx E pc lv (st.drop n) g' _ _ (h6 E g' hp) ls H1 locs1 q ce hl hP1 hS1 hce hcv hcl) (fun v g' H1 locs1 hsh hp hP1 hS1 => by
    have := hk v lv (st.drop n) g' _ _ hsh (h5 v g' hp) ls H1 locs1 hl hP1 hS1
    rw [List.map_append] at this
    cases v <;> exact this)
