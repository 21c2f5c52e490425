/-! contracts of methods that may throw -/
def pz_XC (D : va_G) (cy : Nat → ClassId) (A : Nat → Prop) (px : String → pz_H → Prop) : String → State → State → Prop := fun E st t => ∃ g', px E g' ∧ pz_P D cy A g' t.heap ∧ va_K D vwCl (pz_ty cy) t ∧ va_F A st t
def pz_MX (G : pz_Gx) (y : MethodName) (cc : ByteArray) (maxL : Nat) (ret : Option FieldType) (rm : Room) (pre : List pz_V → pz_H → Prop) (post : List pz_V → pz_H → Option pz_V → pz_H → Prop) (px : List pz_V → pz_H → String → pz_H → Prop) : Prop :=
  ∀ (av : List pz_V) (g : pz_H) (sz : Nat), pre av g → vx_Met G.1 y (.code y cc maxL ret :: pz_W) rm (pz_Pr G.2.1 G.2.2.1 G.2.2.2 av g sz) (pz_Q G.2.1 G.2.2.1 ret (pz_A g sz) (post av g)) (pz_XC G.2.1 G.2.2.1 (pz_A g sz) (px av g)) rm.cells rm.slots (pz_A g sz)
/-- an exception of class E is under way -/
def pz_ZX (X : pz_C) (nL : Nat) (E : String) : pz_K := fun pc lv st g cells slots => match X with
  | (p, l, e, R, s, m, args, below, meth, c, Q, D, cy, A, En) => ∀ (ls : Array Slot) (H : Heap) (locs : List Loc) (q : Addr) (ce : Cell), lv_has ls nL (pz_lv lv) → pz_P D cy A g H → va_S A s.heap H locs → H[q]? = some ce → ce.vm = .none → s.vm.findClass E = some ce.cls → vx_W p l e R s m args below meth c H locs cells slots Q (F0 m pc ls (st.map pz_v)) q
/-- it may leave the method -/
def pz_Te (X : pz_C) (nL : Nat) (rm : Room) (PX : String → pz_H → Prop) : Prop := ∀ (E : String) (pc : Nat) (lv : pz_L) (st : List pz_V) (g : pz_H) (c s : Nat), c ≤ rm.cells → s ≤ rm.slots → PX E g → pz_ZX X nL E pc lv st g c s
/-- what a place that makes and throws an exception with a text needs -/
def pz_site (X : pz_C) (cc : ByteArray) (own cls text : String) (names : List String) (ik is ic pc : Nat) : Prop := match X with
  | (_, l, _, _, s, _, args, _, _, _, _, _, _, A, _) => ∃ sx, l.stackTraces = false ∧ Bundle.fit cls = true ∧ (∀ n ∈ names, Bundle.fit n = true) ∧ (Cond.classLink own ik cls).before args s = true ∧ (Cond.initialized cls).before args s = true ∧ vk_R own is text sx s ∧ (∀ w ∈ vx_atS own ic cls names, w.before args s = true) ∧ (∀ w ∈ Cond.classLink own ik cls :: Cond.initialized cls :: vx_atS own ic cls names, vx_ot w = true) ∧ vx_Zq Bundle.tN "UNASSIGNED_STACK" Bundle.steD A s s.heap ∧ vx_Zq Bundle.tN "SUPPRESSED_SENTINEL" Bundle.listD A s s.heap ∧ decode cc pc = .ok (.new ik, 3) ∧ decode cc (pc + 3) = .ok (.dup, 1) ∧ decode cc (pc + 4) = .ok (.ldc is, 2) ∧ decode cc (pc + 6) = .ok (.invokespecial ic, 3) ∧ decode cc (pc + 9) = .ok (.athrow, 1)
def pz_Th (X : pz_C) (cc : ByteArray) (nL : Nat) (own : String) (rm : Room) (PX : String → pz_H → Prop) : Prop := ∀ (cls text : String) (names : List String) (ik is ic pc : Nat) (lv : pz_L) (st : List pz_V) (g : pz_H) (c s : Nat), pz_site X cc own cls text names ik is ic pc → names.length + 3 < rm.frames → (st.map fun v => (pz_v v).category).sum + (13 * (names.length + 1) + 43) ≤ rm.locals → c + 1 ≤ rm.cells → s + 6 ≤ rm.slots → PX cls g → pz_Z X nL pc lv st g c s
theorem pz_P.kept {D : va_G} {cy : Nat → ClassId} {A : Nat → Prop} {g : pz_H} {H H1 : Heap} (h : pz_P D cy A g H) (hk : ∀ q : Nat, q < H.size → H1[q]? = H[q]?) : pz_P D cy A g H1 := by
  obtain ⟨L, hL, hP, hD⟩ := h
  exact ⟨L, hL, hP.kept (fun k q hq => hk _ (hP k q hq).lt), hD⟩
theorem pz_ofZX {G : pz_Gx} {y : MethodName} {cc : ByteArray} {maxL : Nat} {ret : Option FieldType} {rm : Room} {pre : List pz_V → pz_H → Prop} {post : List pz_V → pz_H → Option pz_V → pz_H → Prop} {px : List pz_V → pz_H → String → pz_H → Prop} (hy : plainName y.cls = true) (hOk : pz_Ok G.2.2.2) (hret : ret = none ∨ ret = some .int ∨ ret = some .boolean ∨ ret = some .long ∨ (∃ n, ret = some (.object n)) ∨ ∃ t, ret = some (.array t))
    (hlen : ∀ av g, pre av g → pz_w av ≤ maxL) (body : ∀ X : pz_C, pz_X X cc maxL y.cls → pz_GX X G → pz_rm X = rm → ∀ av g, pre av g → pz_Rt X cc maxL ret rm (post av g) → pz_Te X maxL rm (px av g) → pz_Th X cc maxL y.cls rm (px av g) → pz_Z X maxL 0 (pz_ar 0 av) [] g 0 0) : pz_MX G y cc maxL ret rm pre post px := by
  obtain ⟨l, D, cy, En⟩ := G
  intro av g sz hpre
  refine vx_ofW (cc := cc) (maxL := maxL) (ret := ret) hy rfl ?_
  intro p e s m args below meth c s₁ B hml htab hv
  obtain ⟨rfl, hsz, hP, hK, hEn⟩ := hv
  subst hsz
  have hx := B.exec
  have hb := B.bytes
  have hr := B.returns
  have hts0 := atoms_spec (ws := .code y cc maxL ret :: pz_W) B.pre
  have hts : ∀ w ∈ pz_W, w.before ((av.map pz_v).toArray) s = true := fun w hw => hts0 w (List.mem_cons_of_mem _ hw)
  have hown : s.vm.findClass y.cls = some m.cls := findClass_of_methodNamed B.named
  have hlocks := B.notSynchronized
  have hA : ∀ q : Nat, s.heap.size ≤ q → pz_A g s.heap.size q := fun q h => Or.inr h
  have hP0 : pz_P D cy (pz_A g s.heap.size) g s.heap := hP.weaken (fun a q h _ => Or.inl (by rw [h]; rfl))
  obtain ⟨X, hXe⟩ : ∃ X : pz_C, X = (p, l, e, rm, s, m, (av.map pz_v).toArray, below, meth, c, vx_MQ below (pz_Q D cy ret (pz_A g s.heap.size) (post av g)) (pz_XC D cy (pz_A g s.heap.size) (px av g)) ((av.map pz_v).toArray) s rm.cells rm.slots (pz_A g s.heap.size), D, cy, pz_A g s.heap.size, En) := ⟨_, rfl⟩
  have hRt : pz_Rt X cc maxL ret rm (post av g) := by
    rw [hXe]
    intro pc lv v g' c0 s0 hsh hc0 hs0 hE hd ls H locs hl hPp hS
    have hq : ∀ t : State, t.heap = H → s.WarmedH t.vm → pz_Q D cy ret (pz_A g s.heap.size) (post av g) ((av.map pz_v).toArray) s (.returned (v.map pz_v)) t := fun t ht hW => ⟨⟨v, g', rfl, hsh, hE, by rw [ht]; exact hPp, va_K.moved hW.alike hK⟩, hS.F ht⟩
    refine vx_ret (W.widen hc0 hs0 ?_)
    rcases hret with rfl | rfl | rfl | rfl | ⟨n, rfl⟩ | ⟨t, rfl⟩
    · cases hsh
      exact W.vret hx hb hr hq hS.2.2 (hd.1 rfl) hlocks
    · obtain ⟨x, rfl⟩ := hsh
      exact W.iret hx hb hr hq hS.2.2 (hd.2.1 x rfl) hlocks
    · obtain ⟨x, rfl, h01⟩ := hsh
      exact W.zret (ty := .boolean) hx hb hr (by rcases h01 with rfl | rfl <;> rfl) hq hS.2.2 (hd.2.1 x rfl) hlocks
    · obtain ⟨x, rfl⟩ := hsh
      exact W.lret hx hb hr hq hS.2.2 (hd.2.2.1 x rfl) hlocks
    · obtain ⟨r, rfl⟩ := hsh
      exact W.aret hx hb hr (Or.inl ⟨n, rfl⟩) (va_rf_or r) hq hS.2.2 (hd.2.2.2 r rfl) hlocks
    · obtain ⟨r, rfl⟩ := hsh
      exact W.aret hx hb hr (Or.inr ⟨t, rfl⟩) (va_rf_or r) hq hS.2.2 (hd.2.2.2 r rfl) hlocks
  have hTe : pz_Te X maxL rm (px av g) := by
    rw [hXe]
    intro E pc lv st g' c0 s0 hc0 hs0 hE ls H locs q ce hl hPp hS hcell hcv hcl
    exact vx_widen hc0 hs0 (vx_out (fun x hx2 => absurd hx2 (fun h => htab x h)) hlocks hcell hcv hcl (fun t ht hal => ⟨g', hE, by rw [ht]; exact hPp, va_K.moved hal hK, hS.F ht⟩) hS.2.2 (Nat.le_refl _) (Nat.le_refl _))
  have hTh : pz_Th X cc maxL y.cls rm (px av g) := by
    rw [hXe]
    intro cls text names ik is ic pc lv st g' c0 s0 hsite hfr hlo hc0 hs0 hE ls H locs hl hPp hS
    obtain ⟨sx, q1, q2, q3, q4, q5, q6, q7, q8, q9, q10, d0, d3, d4, d6, d9⟩ := hsite
    refine vx_throwS (A := pz_A g s.heap.size) hx hb q1 hown q2 q3 q4 q5 q6 q7 q8 q9 q10 hS (hl.1.trans hml.symm) d0 d3 d4 d6 d9 (fun x hx2 => absurd hx2 (fun h => htab x h)) hfr (by rw [List.map_map]; exact hlo) hc0 hs0 hlocks (fun t hal hz hk => ⟨g', hE, hPp.kept hk, va_K.moved hal hK, ⟨Nat.le_trans hS.1 hz, fun q h1 h2 => (hk q (Nat.lt_of_lt_of_le h1 hS.1)).trans (hS.2.1 q h1 h2)⟩⟩) hS.2.2 hc0 hs0
  have hZ := body X (by rw [hXe]; exact ⟨hx, hb, hml, hown, hts, hK, hA, hOk, hEn⟩) (by rw [hXe]; rfl) (by rw [hXe]; rfl) av g hpre hRt hTe hTh
  rw [hXe] at hZ
  have hle := lv_entry (av.map pz_v) (n := maxL) (by rw [pz_w_sl]; exact hlen av g hpre)
  rw [pz_ar_lv] at hle
  rw [lg_entry_eq]
  exact hZ _ s.heap [] hle hP0 va_S.rf
