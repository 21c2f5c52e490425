/-! the reference: read -/
abbrev mrd_T : Type := (Nat × Int32) × (Nat × Option Nat) × (Nat → Nat → Int32) × (Nat → Nat → Int64)
def mrd_L (n : Nat) : mrd_T → mrd_T := fun ((a, phi), (k, ln), Ai, Aj) => if (p_nu n (Ai 28) 127 (a + 1, if k = 40 then p_fl phi (nI a) else phi)).1.2 < 0 then ((p_nu n (Ai 28) 127 (a + 1, if k = 40 then p_fl phi (nI a) else phi)).1, (k + 1, some k), seqU (seqU Ai 2 (upd (Ai 2) k (p_nu n (Ai 28) 127 (a + 1, if k = 40 then p_fl phi (nI a) else phi)).2)) 3 (upd (Ai 3) k 0), Aj) else ((p_nu n (Ai 28) 127 (a + 1, if k = 40 then p_fl phi (nI a) else phi)).1, (k, ln), Ai, Aj)
def mrd_c (Ai : Nat → Nat → Int32) : Option Nat → Nat
  | none => 0
  | some l => (Ai 3 l).toNatClampNeg
def mrd_i (n : Nat) : mrd_T → mrd_T := fun ((a, phi), (k, ln), Ai, Aj) => if p_lk n (Ai 28) a = 76 then mrd_L n ((a, phi), (k, ln), Ai, Aj) else if p_lk n (Ai 28) a = 83 then ((mrd_s n ln (mrd_c Ai ln) a phi Ai Aj).1, (k, ln), (mrd_s n ln (mrd_c Ai ln) a phi Ai Aj).2.1, (mrd_s n ln (mrd_c Ai ln) a phi Ai Aj).2.2) else ((a, p_fl phi (nI a)), (k, ln), Ai, Aj)
def mrd_n (n : Nat) (f : Nat → Int32) : Nat → mrd_T → mrd_T
  | 0, s => s
  | m + 1, s => if (mrd_i n s).1.2 < 0 ∧ (mrd_i n s).1.1 < n then (if p_lk n f (mrd_i n s).1.1 = 59 then mrd_n n f m (((mrd_i n s).1.1 + 1, (mrd_i n s).1.2), (mrd_i n s).2) else (((mrd_i n s).1.1, p_fl (mrd_i n s).1.2 (nI (mrd_i n s).1.1)), (mrd_i n s).2)) else mrd_i n s
/-- what holds at the head of the loop, and behind an item -/
def mrd_W (n : Nat) (f : Nat → Int32) : mrd_T → Prop := fun (_, (k, ln), Ai, _) => k ≤ 40 ∧ Ai 28 = f ∧ ∀ l, ln = some l → l < k ∧ ∃ c, c ≤ 12 ∧ Ai 3 l = nI c
theorem p_fl_pos {phi w : Int32} (h : ¬ phi < 0) : p_fl phi w = phi := if_neg h
theorem p_flN {phi : Int32} {a : Nat} (h : phi < 0) (ha : a ≤ 1000000) : ¬ p_fl phi (nI a) < 0 := by
  unfold p_fl
  rw [if_pos h]
  exact nI_pos (by omega)
theorem p_nu_pos {n : Nat} {f : Nat → Int32} {most : Int32} {a : Nat} {phi : Int32} (h : ¬ phi < 0) : ¬ (p_nu n f most (a, phi)).1.2 < 0 := by
  have e : (p_nu n f most (a, phi)).1.2 = if (tx_dg n f 6 a 0).1 = a then p_fl phi (nI a) else if most < (tx_dg n f 6 a 0).2 then p_fl phi (nI a) else phi := rfl
  rw [e, p_fl_pos h]
  split
  · exact h
  · split
    · exact h
    · exact h
theorem mrd_Lk {n : Nat} {f : Nat → Int32} {k : Nat} {phi : Int32} {a : Nat} (hphi : phi < 0) (ha : a ≤ 1000) (h : (p_nu n f 127 (a + 1, if k = 40 then p_fl phi (nI a) else phi)).1.2 < 0) : k ≠ 40 := by
  intro e
  rw [if_pos e] at h
  exact p_nu_pos (p_flN hphi (by omega)) h
theorem mrd_iW {n : Nat} {f : Nat → Int32} {s : mrd_T} (h : mrd_W n f s) (hphi : s.1.2 < 0) (ha : s.1.1 ≤ 1000) : mrd_W n f (mrd_i n s) := by
  obtain ⟨⟨a, phi⟩, ⟨k, ln⟩, Ai, Aj⟩ := s
  obtain ⟨hk, hf, hl⟩ := h
  dsimp only at hphi ha hk hf hl
  show mrd_W n f (if p_lk n (Ai 28) a = 76 then mrd_L n ((a, phi), (k, ln), Ai, Aj) else if p_lk n (Ai 28) a = 83 then ((mrd_s n ln (mrd_c Ai ln) a phi Ai Aj).1, (k, ln), (mrd_s n ln (mrd_c Ai ln) a phi Ai Aj).2.1, (mrd_s n ln (mrd_c Ai ln) a phi Ai Aj).2.2) else ((a, p_fl phi (nI a)), (k, ln), Ai, Aj))
  split
  · show mrd_W n f (if (p_nu n (Ai 28) 127 (a + 1, if k = 40 then p_fl phi (nI a) else phi)).1.2 < 0 then ((p_nu n (Ai 28) 127 (a + 1, if k = 40 then p_fl phi (nI a) else phi)).1, (k + 1, some k), seqU (seqU Ai 2 (upd (Ai 2) k (p_nu n (Ai 28) 127 (a + 1, if k = 40 then p_fl phi (nI a) else phi)).2)) 3 (upd (Ai 3) k 0), Aj) else ((p_nu n (Ai 28) 127 (a + 1, if k = 40 then p_fl phi (nI a) else phi)).1, (k, ln), Ai, Aj))
    by_cases h1 : (p_nu n (Ai 28) 127 (a + 1, if k = 40 then p_fl phi (nI a) else phi)).1.2 < 0
    · rw [if_pos h1]
      have := mrd_Lk hphi ha h1
      refine ⟨by omega, hf, fun l hl' => ?_⟩
      cases hl'
      refine ⟨by omega, 0, by omega, ?_⟩
      show upd (Ai 3) k 0 k = nI 0
      exact pk_us
    · rw [if_neg h1]
      exact ⟨hk, hf, hl⟩
  · split
    · cases ln with
      | none => exact ⟨hk, hf, hl⟩
      | some l =>
        obtain ⟨hlk, c, hc, hc3⟩ := hl l rfl
        have hcc : mrd_c Ai (some l) = c := by
          show (Ai 3 l).toNatClampNeg = c
          rw [hc3, ni_cl (by omega)]
        rw [hcc]
        show mrd_W n f ((if c = 12 then ((a + 1, p_fl phi (nI a)), Ai, Aj) else mrd_t n l c a phi Ai Aj).1, (k, some l), (if c = 12 then ((a + 1, p_fl phi (nI a)), Ai, Aj) else mrd_t n l c a phi Ai Aj).2.1, (if c = 12 then ((a + 1, p_fl phi (nI a)), Ai, Aj) else mrd_t n l c a phi Ai Aj).2.2)
        by_cases h12 : c = 12
        · rw [if_pos h12]
          exact ⟨hk, hf, hl⟩
        · rw [if_neg h12]
          unfold mrd_t
          split
          · refine ⟨hk, hf, fun l' hl' => ?_⟩
            cases hl'
            refine ⟨hlk, c + 1, by omega, ?_⟩
            show upd (Ai 3) l (nI (c + 1)) l = nI (c + 1)
            exact pk_us
          · exact ⟨hk, hf, hl⟩
    · exact ⟨hk, hf, hl⟩
theorem mrd_ia {n : Nat} {s : mrd_T} : s.1.1 ≤ (mrd_i n s).1.1 ∧ (mrd_i n s).1.1 ≤ s.1.1 + 21 := by
  obtain ⟨⟨a, phi⟩, ⟨k, ln⟩, Ai, Aj⟩ := s
  show a ≤ (if p_lk n (Ai 28) a = 76 then mrd_L n ((a, phi), (k, ln), Ai, Aj) else if p_lk n (Ai 28) a = 83 then ((mrd_s n ln (mrd_c Ai ln) a phi Ai Aj).1, (k, ln), (mrd_s n ln (mrd_c Ai ln) a phi Ai Aj).2.1, (mrd_s n ln (mrd_c Ai ln) a phi Ai Aj).2.2) else ((a, p_fl phi (nI a)), (k, ln), Ai, Aj)).1.1 ∧ (if p_lk n (Ai 28) a = 76 then mrd_L n ((a, phi), (k, ln), Ai, Aj) else if p_lk n (Ai 28) a = 83 then ((mrd_s n ln (mrd_c Ai ln) a phi Ai Aj).1, (k, ln), (mrd_s n ln (mrd_c Ai ln) a phi Ai Aj).2.1, (mrd_s n ln (mrd_c Ai ln) a phi Ai Aj).2.2) else ((a, p_fl phi (nI a)), (k, ln), Ai, Aj)).1.1 ≤ a + 21
  split
  · have e : (mrd_L n ((a, phi), (k, ln), Ai, Aj)).1 = (p_nu n (Ai 28) 127 (a + 1, if k = 40 then p_fl phi (nI a) else phi)).1 := by
      show (if _ then _ else _ : mrd_T).1 = _
      generalize (if k = 40 then p_fl phi (nI a) else phi) = psi
      split <;> rfl
    rw [e]
    have := nu_bd (n := n) (f := Ai 28) (most := 127) (s := (a + 1, if k = 40 then p_fl phi (nI a) else phi))
    dsimp only at this
    omega
  · split
    · show a ≤ (mrd_s n ln (mrd_c Ai ln) a phi Ai Aj).1.1 ∧ (mrd_s n ln (mrd_c Ai ln) a phi Ai Aj).1.1 ≤ a + 21
      cases ln with
      | none =>
        show a ≤ a + 1 ∧ a + 1 ≤ a + 21
        omega
      | some l =>
        show a ≤ (if mrd_c Ai (some l) = 12 then ((a + 1, p_fl phi (nI a)), Ai, Aj) else mrd_t n l (mrd_c Ai (some l)) a phi Ai Aj).1.1 ∧ (if mrd_c Ai (some l) = 12 then ((a + 1, p_fl phi (nI a)), Ai, Aj) else mrd_t n l (mrd_c Ai (some l)) a phi Ai Aj).1.1 ≤ a + 21
        split
        · show a ≤ a + 1 ∧ a + 1 ≤ a + 21
          omega
        · have bd := s_bd (n := n) (f := Ai 28) (c := mrd_c Ai (some l)) (lv := Aj 6 (12 * l + mrd_c Ai (some l) - 1)) (a := a) (phi := phi)
          have e : (mrd_t n l (mrd_c Ai (some l)) a phi Ai Aj).1.1 = (s_5 n (Ai 28) (mrd_c Ai (some l)) (Aj 6 (12 * l + mrd_c Ai (some l) - 1)) a phi).1.1 := by
            unfold mrd_t
            split <;> rfl
          rw [e]
          omega
    · show a ≤ a ∧ a ≤ a + 21
      omega
set_option maxRecDepth 20000 in
theorem bX10_read_0 {X : pz_C} (hX : pz_X X cX10_read 5 RX10) : ∀ lv st g c s, (zo_al 1 0 (zo_ic 1 (0) (zo_puti 12 0 (zo_al 1 0 (zo_get 12 1 (zo_is 1 1 (zo_ic 1 (-1) (zo_is 1 2 (zo_al 1 0 (zo_ic 1 (0) (zo_puti 12 35 (zo_al 1 0 (zo_ic 1 (-1) (zo_puti 12 36 (zo_al 1 0 (zo_get 12 27 (zo_if_le 33 (pz_Z X 5)))))))))))))))))) 0 lv st g c s → pz_Z X 5 0 lv st g c s := (zs_aload_n hX dX10_read_0 rfl (zs_iconst hX dX10_read_1 (by decide) (zs_puti hX (C := RX10) (T := TX10) (N := 37) rfl in_X10 (by decide) mw_98cc72c1 tyX10 tyX10_ok nmX10 (by decide +kernel) rfl dX10_read_2 (zs_aload_n hX dX10_read_5 rfl (zs_get hX (C := RX10) (T := TX10) (N := 37) rfl in_X10 (by decide) mw_479e8e34 dX10_read_6 (zs_istore_n hX dX10_read_9 rfl (by decide) (zs_iconst hX dX10_read_10 (by decide) (zs_istore_n hX dX10_read_11 rfl (by decide) (zs_aload_n hX dX10_read_12 rfl (zs_iconst hX dX10_read_13 (by decide) (zs_puti hX (C := RX10) (T := TX10) (N := 37) rfl in_X10 (by decide) mw_792624ad tyX10 tyX10_ok nmX10 (by decide +kernel) rfl dX10_read_14 (zs_aload_n hX dX10_read_17 rfl (zs_iconst hX dX10_read_18 (by decide) (zs_puti hX (C := RX10) (T := TX10) (N := 37) rfl in_X10 (by decide) mw_198aa72f tyX10 tyX10_ok nmX10 (by decide +kernel) rfl dX10_read_19 (zs_aload_n hX dX10_read_22 rfl (zs_get hX (C := RX10) (T := TX10) (N := 37) rfl in_X10 (by decide) mw_a8e9bc22 dX10_read_23 (zs_if_le hX dX10_read_26 (by decide) (fun _ _ _ _ _ _ h => h))))))))))))))))))
set_option maxRecDepth 20000 in
theorem bX10_read_29 {X : pz_C} (hX : pz_X X cX10_read 5 RX10) : ∀ lv st g c s, (zo_ic 1 (1) (zo_goto 34 (pz_Z X 5))) 29 lv st g c s → pz_Z X 5 29 lv st g c s := (zs_iconst hX dX10_read_29 (by decide) (zs_goto hX dX10_read_30 (by decide) (fun _ _ _ _ _ _ h => h)))
set_option maxRecDepth 20000 in
theorem bX10_read_33 {X : pz_C} (hX : pz_X X cX10_read 5 RX10) : ∀ lv st g c s, (zo_ic 1 (0) (pz_Z X 5)) 33 lv st g c s → pz_Z X 5 33 lv st g c s := (zs_iconst hX dX10_read_33 (by decide) (fun _ _ _ _ _ h => h))
set_option maxRecDepth 20000 in
theorem bX10_read_34 {X : pz_C} (hX : pz_X X cX10_read 5 RX10) : ∀ lv st g c s, (zo_is 1 3 (pz_Z X 5)) 34 lv st g c s → pz_Z X 5 34 lv st g c s := (zs_istore_n hX dX10_read_34 rfl (by decide) (fun _ _ _ _ _ h => h))
set_option maxRecDepth 20000 in
theorem bX10_read_35 {X : pz_C} (hX : pz_X X cX10_read 5 RX10) : ∀ lv st g c s, (zo_il 1 3 (zo_if_eq 215 (pz_Z X 5))) 35 lv st g c s → pz_Z X 5 35 lv st g c s := (zs_iload_n hX dX10_read_35 rfl (zs_if_eq hX dX10_read_36 (by decide) (fun _ _ _ _ _ _ h => h)))
set_option maxRecDepth 20000 in
theorem bX10_read_39 {X : pz_C} (hX : pz_X X cX10_read 5 RX10) : ∀ lv st g c s, (zo_al 1 0 (pz_Z X 5)) 39 lv st g c s → pz_Z X 5 39 lv st g c s := (zs_aload_n hX dX10_read_39 rfl (fun _ _ _ _ _ h => h))
set_option maxRecDepth 20000 in
theorem bX10_read_40 {X : pz_C} {G : pz_Gx} {rm : Room} (hX : pz_X X cX10_read 5 RX10) (hrm : pz_rm X = rm) (hGX : pz_GX X G) (hOk : pz_OK G) (gh : gt_X10_look) (hr_X10_look : rm_X10_look.frames + 1 ≤ rm.frames ∧ 8 + (1 + 11) + rm_X10_look.locals ≤ rm.locals) : ∀ lv st g c s, (zo_cV rm 12 0 3 rm_X10_look.cells rm_X10_look.slots (pr_X10_look gh) (po_X10_look gh) (zo_ki (zo_ic 2 (76) (zo_ic_ne 123 (pz_Z X 5))))) 40 lv st g c s → pz_Z X 5 40 lv st g c s := by
  subst hrm
  exact (zs_csV hX hGX (C := RX10) (T := TX10) (N := 37) rfl (ct_X10_look hOk gh) mw_163d9655 mw_3c3d61f3 mw_672af563 mw_33939a39 mw_a8b3240f (by decide +kernel) hr_X10_look dX10_read_40 (zs_ki (zs_bipush hX dX10_read_43 (by decide) (zs_ic_ne hX dX10_read_45 (by decide) (fun _ _ _ _ _ _ h => h)))))
set_option maxRecDepth 20000 in
theorem bX10_read_48 {X : pz_C} (hX : pz_X X cX10_read 5 RX10) : ∀ lv st g c s, (zo_al 1 0 (zo_get 12 1 (zo_ic 2 (40) (zo_ic_ne 65 (pz_Z X 5))))) 48 lv st g c s → pz_Z X 5 48 lv st g c s := (zs_aload_n hX dX10_read_48 rfl (zs_get hX (C := RX10) (T := TX10) (N := 37) rfl in_X10 (by decide) mw_479e8e34 dX10_read_49 (zs_bipush hX dX10_read_52 (by decide) (zs_ic_ne hX dX10_read_54 (by decide) (fun _ _ _ _ _ _ h => h)))))
set_option maxRecDepth 20000 in
theorem bX10_read_57 {X : pz_C} (hX : pz_X X cX10_read 5 RX10) : ∀ lv st g c s, (zo_al 1 0 (zo_al 1 0 (zo_get 12 35 (pz_Z X 5)))) 57 lv st g c s → pz_Z X 5 57 lv st g c s := (zs_aload_n hX dX10_read_57 rfl (zs_aload_n hX dX10_read_58 rfl (zs_get hX (C := RX10) (T := TX10) (N := 37) rfl in_X10 (by decide) mw_792624ad dX10_read_59 (fun _ _ _ _ _ h => h))))
set_option maxRecDepth 20000 in
theorem bX10_read_62 {X : pz_C} {G : pz_Gx} {rm : Room} (hX : pz_X X cX10_read 5 RX10) (hrm : pz_rm X = rm) (hGX : pz_GX X G) (hOk : pz_OK G) (gh : gt_X10_fail) (hr_X10_fail : rm_X10_fail.frames + 1 ≤ rm.frames ∧ 8 + (2 + 11) + rm_X10_fail.locals ≤ rm.locals) : ∀ lv st g c s, (zo_cV rm 12 1 3 rm_X10_fail.cells rm_X10_fail.slots (pr_X10_fail gh) (po_X10_fail gh) (zo_kv (pz_Z X 5))) 62 lv st g c s → pz_Z X 5 62 lv st g c s := by
  subst hrm
  exact (zs_csV hX hGX (C := RX10) (T := TX10) (N := 37) rfl (ct_X10_fail hOk gh) mw_90a73359 mw_b39d85ff mw_835bf90e mw_33939a39 mw_b0fcd068 (by decide +kernel) hr_X10_fail dX10_read_62 (zs_kv (fun _ _ _ _ _ h => h)))
set_option maxRecDepth 20000 in
theorem bX10_read_65 {X : pz_C} (hX : pz_X X cX10_read 5 RX10) : ∀ lv st g c s, (zo_al 1 0 (zo_dup (zo_get 12 35 (zo_ic 1 (1) (zo_iadd (zo_puti 12 35 (zo_al 1 0 (zo_ic 2 (127) (pz_Z X 5))))))))) 65 lv st g c s → pz_Z X 5 65 lv st g c s := (zs_aload_n hX dX10_read_65 rfl (zs_dup hX dX10_read_66 (zs_get hX (C := RX10) (T := TX10) (N := 37) rfl in_X10 (by decide) mw_792624ad dX10_read_67 (zs_iconst hX dX10_read_70 (by decide) (zs_iadd hX dX10_read_71 (zs_puti hX (C := RX10) (T := TX10) (N := 37) rfl in_X10 (by decide) mw_792624ad tyX10 tyX10_ok nmX10 (by decide +kernel) rfl dX10_read_72 (zs_aload_n hX dX10_read_75 rfl (zs_bipush hX dX10_read_76 (by decide) (fun _ _ _ _ _ h => h)))))))))
set_option maxRecDepth 20000 in
theorem bX10_read_78 {X : pz_C} {G : pz_Gx} {rm : Room} (hX : pz_X X cX10_read 5 RX10) (hrm : pz_rm X = rm) (hGX : pz_GX X G) (hOk : pz_OK G) (gh : gt_X10_number) (hr_X10_number : rm_X10_number.frames + 1 ≤ rm.frames ∧ 8 + (4 + 11) + rm_X10_number.locals ≤ rm.locals) : ∀ lv st g c s, (zo_cV rm 12 1 3 rm_X10_number.cells rm_X10_number.slots (pr_X10_number gh) (po_X10_number gh) (zo_ki (zo_is 2 4 (zo_al 1 0 (zo_get 12 36 (zo_if_ge 120 (pz_Z X 5))))))) 78 lv st g c s → pz_Z X 5 78 lv st g c s := by
  subst hrm
  exact (zs_csV hX hGX (C := RX10) (T := TX10) (N := 37) rfl (ct_X10_number hOk gh) mw_45279ebd mw_a2815e7c mw_d9a567a8 mw_33939a39 mw_dcfc2031 (by decide +kernel) hr_X10_number dX10_read_78 (zs_ki (zs_istore hX dX10_read_81 (by decide) (zs_aload_n hX dX10_read_83 rfl (zs_get hX (C := RX10) (T := TX10) (N := 37) rfl in_X10 (by decide) mw_198aa72f dX10_read_84 (zs_if_ge hX dX10_read_87 (by decide) (fun _ _ _ _ _ _ h => h)))))))
set_option maxRecDepth 20000 in
theorem bX10_read_90 {X : pz_C} (hX : pz_X X cX10_read 5 RX10) : ∀ lv st g c s, (zo_al 1 0 (zo_get 12 1 (zo_is 1 2 (zo_al 1 0 (zo_get 12 2 (zo_il 1 2 (zo_il 2 4 (zo_iast (zo_al 1 0 (zo_get 12 3 (zo_il 1 2 (zo_ic 1 (0) (zo_iast (zo_al 1 0 (zo_dup (zo_get 12 1 (zo_ic 1 (1) (zo_iadd (zo_puti 12 1 (pz_Z X 5)))))))))))))))))))) 90 lv st g c s → pz_Z X 5 90 lv st g c s := (zs_aload_n hX dX10_read_90 rfl (zs_get hX (C := RX10) (T := TX10) (N := 37) rfl in_X10 (by decide) mw_479e8e34 dX10_read_91 (zs_istore_n hX dX10_read_94 rfl (by decide) (zs_aload_n hX dX10_read_95 rfl (zs_get hX (C := RX10) (T := TX10) (N := 37) rfl in_X10 (by decide) mw_803dc064 dX10_read_96 (zs_iload_n hX dX10_read_99 rfl (zs_iload hX dX10_read_100 (zs_iast hX dX10_read_102 (zs_aload_n hX dX10_read_103 rfl (zs_get hX (C := RX10) (T := TX10) (N := 37) rfl in_X10 (by decide) mw_6c7416b9 dX10_read_104 (zs_iload_n hX dX10_read_107 rfl (zs_iconst hX dX10_read_108 (by decide) (zs_iast hX dX10_read_109 (zs_aload_n hX dX10_read_110 rfl (zs_dup hX dX10_read_111 (zs_get hX (C := RX10) (T := TX10) (N := 37) rfl in_X10 (by decide) mw_479e8e34 dX10_read_112 (zs_iconst hX dX10_read_115 (by decide) (zs_iadd hX dX10_read_116 (zs_puti hX (C := RX10) (T := TX10) (N := 37) rfl in_X10 (by decide) mw_479e8e34 tyX10 tyX10_ok nmX10 (by decide +kernel) rfl dX10_read_117 (fun _ _ _ _ _ h => h))))))))))))))))))))
set_option maxRecDepth 20000 in
theorem bX10_read_120 {X : pz_C} (hX : pz_X X cX10_read 5 RX10) : ∀ lv st g c s, (zo_goto 148 (pz_Z X 5)) 120 lv st g c s → pz_Z X 5 120 lv st g c s := (zs_goto hX dX10_read_120 (by decide) (fun _ _ _ _ _ _ h => h))
set_option maxRecDepth 20000 in
theorem bX10_read_123 {X : pz_C} (hX : pz_X X cX10_read 5 RX10) : ∀ lv st g c s, (zo_al 1 0 (pz_Z X 5)) 123 lv st g c s → pz_Z X 5 123 lv st g c s := (zs_aload_n hX dX10_read_123 rfl (fun _ _ _ _ _ h => h))
set_option maxRecDepth 20000 in
theorem bX10_read_124 {X : pz_C} {G : pz_Gx} {rm : Room} (hX : pz_X X cX10_read 5 RX10) (hrm : pz_rm X = rm) (hGX : pz_GX X G) (hOk : pz_OK G) (gh : gt_X10_look) (hr_X10_look : rm_X10_look.frames + 1 ≤ rm.frames ∧ 8 + (1 + 11) + rm_X10_look.locals ≤ rm.locals) : ∀ lv st g c s, (zo_cV rm 12 0 3 rm_X10_look.cells rm_X10_look.slots (pr_X10_look gh) (po_X10_look gh) (zo_ki (zo_ic 2 (83) (zo_ic_ne 140 (pz_Z X 5))))) 124 lv st g c s → pz_Z X 5 124 lv st g c s := by
  subst hrm
  exact (zs_csV hX hGX (C := RX10) (T := TX10) (N := 37) rfl (ct_X10_look hOk gh) mw_163d9655 mw_3c3d61f3 mw_672af563 mw_33939a39 mw_a8b3240f (by decide +kernel) hr_X10_look dX10_read_124 (zs_ki (zs_bipush hX dX10_read_127 (by decide) (zs_ic_ne hX dX10_read_129 (by decide) (fun _ _ _ _ _ _ h => h)))))
set_option maxRecDepth 20000 in
theorem bX10_read_132 {X : pz_C} (hX : pz_X X cX10_read 5 RX10) : ∀ lv st g c s, (zo_al 1 0 (zo_il 1 2 (pz_Z X 5))) 132 lv st g c s → pz_Z X 5 132 lv st g c s := (zs_aload_n hX dX10_read_132 rfl (zs_iload_n hX dX10_read_133 rfl (fun _ _ _ _ _ h => h)))
set_option maxRecDepth 20000 in
theorem bX10_read_134 {X : pz_C} {G : pz_Gx} {rm : Room} (hX : pz_X X cX10_read 5 RX10) (hrm : pz_rm X = rm) (hGX : pz_GX X G) (hOk : pz_OK G) (gh : gt_X10_readStop) (hr_X10_readStop : rm_X10_readStop.frames + 1 ≤ rm.frames ∧ 8 + (8 + 11) + rm_X10_readStop.locals ≤ rm.locals) : ∀ lv st g c s, (zo_cV rm 12 1 3 rm_X10_readStop.cells rm_X10_readStop.slots (pr_X10_readStop gh) (po_X10_readStop gh) (zo_kv (zo_goto 148 (pz_Z X 5)))) 134 lv st g c s → pz_Z X 5 134 lv st g c s := by
  subst hrm
  exact (zs_csV hX hGX (C := RX10) (T := TX10) (N := 37) rfl (ct_X10_readStop hOk gh) mw_cb452f41 mw_ee772228 mw_44568455 mw_33939a39 mw_b16f2471 (by decide +kernel) hr_X10_readStop dX10_read_134 (zs_kv (zs_goto hX dX10_read_137 (by decide) (fun _ _ _ _ _ _ h => h))))
set_option maxRecDepth 20000 in
theorem bX10_read_140 {X : pz_C} (hX : pz_X X cX10_read 5 RX10) : ∀ lv st g c s, (zo_al 1 0 (zo_al 1 0 (zo_get 12 35 (pz_Z X 5)))) 140 lv st g c s → pz_Z X 5 140 lv st g c s := (zs_aload_n hX dX10_read_140 rfl (zs_aload_n hX dX10_read_141 rfl (zs_get hX (C := RX10) (T := TX10) (N := 37) rfl in_X10 (by decide) mw_792624ad dX10_read_142 (fun _ _ _ _ _ h => h))))
set_option maxRecDepth 20000 in
theorem bX10_read_145 {X : pz_C} {G : pz_Gx} {rm : Room} (hX : pz_X X cX10_read 5 RX10) (hrm : pz_rm X = rm) (hGX : pz_GX X G) (hOk : pz_OK G) (gh : gt_X10_fail) (hr_X10_fail : rm_X10_fail.frames + 1 ≤ rm.frames ∧ 8 + (2 + 11) + rm_X10_fail.locals ≤ rm.locals) : ∀ lv st g c s, (zo_cV rm 12 1 3 rm_X10_fail.cells rm_X10_fail.slots (pr_X10_fail gh) (po_X10_fail gh) (zo_kv (pz_Z X 5))) 145 lv st g c s → pz_Z X 5 145 lv st g c s := by
  subst hrm
  exact (zs_csV hX hGX (C := RX10) (T := TX10) (N := 37) rfl (ct_X10_fail hOk gh) mw_90a73359 mw_b39d85ff mw_835bf90e mw_33939a39 mw_b0fcd068 (by decide +kernel) hr_X10_fail dX10_read_145 (zs_kv (fun _ _ _ _ _ h => h)))
set_option maxRecDepth 20000 in
theorem bX10_read_148 {X : pz_C} (hX : pz_X X cX10_read 5 RX10) : ∀ lv st g c s, (zo_al 1 0 (zo_get 12 36 (zo_if_ge 170 (pz_Z X 5)))) 148 lv st g c s → pz_Z X 5 148 lv st g c s := (zs_aload_n hX dX10_read_148 rfl (zs_get hX (C := RX10) (T := TX10) (N := 37) rfl in_X10 (by decide) mw_198aa72f dX10_read_149 (zs_if_ge hX dX10_read_152 (by decide) (fun _ _ _ _ _ _ h => h))))
set_option maxRecDepth 20000 in
theorem bX10_read_155 {X : pz_C} (hX : pz_X X cX10_read 5 RX10) : ∀ lv st g c s, (zo_al 1 0 (zo_get 12 35 (zo_al 1 0 (zo_get 12 27 (zo_ic_ge 170 (pz_Z X 5)))))) 155 lv st g c s → pz_Z X 5 155 lv st g c s := (zs_aload_n hX dX10_read_155 rfl (zs_get hX (C := RX10) (T := TX10) (N := 37) rfl in_X10 (by decide) mw_792624ad dX10_read_156 (zs_aload_n hX dX10_read_159 rfl (zs_get hX (C := RX10) (T := TX10) (N := 37) rfl in_X10 (by decide) mw_a8e9bc22 dX10_read_160 (zs_ic_ge hX dX10_read_163 (by decide) (fun _ _ _ _ _ _ h => h))))))
set_option maxRecDepth 20000 in
theorem bX10_read_166 {X : pz_C} (hX : pz_X X cX10_read 5 RX10) : ∀ lv st g c s, (zo_ic 1 (1) (zo_goto 171 (pz_Z X 5))) 166 lv st g c s → pz_Z X 5 166 lv st g c s := (zs_iconst hX dX10_read_166 (by decide) (zs_goto hX dX10_read_167 (by decide) (fun _ _ _ _ _ _ h => h)))
set_option maxRecDepth 20000 in
theorem bX10_read_170 {X : pz_C} (hX : pz_X X cX10_read 5 RX10) : ∀ lv st g c s, (zo_ic 1 (0) (pz_Z X 5)) 170 lv st g c s → pz_Z X 5 170 lv st g c s := (zs_iconst hX dX10_read_170 (by decide) (fun _ _ _ _ _ h => h))
set_option maxRecDepth 20000 in
theorem bX10_read_171 {X : pz_C} (hX : pz_X X cX10_read 5 RX10) : ∀ lv st g c s, (zo_is 1 3 (zo_il 1 3 (zo_if_eq 198 (pz_Z X 5)))) 171 lv st g c s → pz_Z X 5 171 lv st g c s := (zs_istore_n hX dX10_read_171 rfl (by decide) (zs_iload_n hX dX10_read_172 rfl (zs_if_eq hX dX10_read_173 (by decide) (fun _ _ _ _ _ _ h => h))))
set_option maxRecDepth 20000 in
theorem bX10_read_176 {X : pz_C} (hX : pz_X X cX10_read 5 RX10) : ∀ lv st g c s, (zo_al 1 0 (pz_Z X 5)) 176 lv st g c s → pz_Z X 5 176 lv st g c s := (zs_aload_n hX dX10_read_176 rfl (fun _ _ _ _ _ h => h))
set_option maxRecDepth 20000 in
theorem bX10_read_177 {X : pz_C} {G : pz_Gx} {rm : Room} (hX : pz_X X cX10_read 5 RX10) (hrm : pz_rm X = rm) (hGX : pz_GX X G) (hOk : pz_OK G) (gh : gt_X10_look) (hr_X10_look : rm_X10_look.frames + 1 ≤ rm.frames ∧ 8 + (1 + 11) + rm_X10_look.locals ≤ rm.locals) : ∀ lv st g c s, (zo_cV rm 12 0 3 rm_X10_look.cells rm_X10_look.slots (pr_X10_look gh) (po_X10_look gh) (zo_ki (zo_ic 2 (59) (zo_ic_ne 198 (pz_Z X 5))))) 177 lv st g c s → pz_Z X 5 177 lv st g c s := by
  subst hrm
  exact (zs_csV hX hGX (C := RX10) (T := TX10) (N := 37) rfl (ct_X10_look hOk gh) mw_163d9655 mw_3c3d61f3 mw_672af563 mw_33939a39 mw_a8b3240f (by decide +kernel) hr_X10_look dX10_read_177 (zs_ki (zs_bipush hX dX10_read_180 (by decide) (zs_ic_ne hX dX10_read_182 (by decide) (fun _ _ _ _ _ _ h => h)))))
set_option maxRecDepth 20000 in
theorem bX10_read_185 {X : pz_C} (hX : pz_X X cX10_read 5 RX10) : ∀ lv st g c s, (zo_al 1 0 (zo_dup (zo_get 12 35 (zo_ic 1 (1) (zo_iadd (zo_puti 12 35 (zo_goto 35 (pz_Z X 5)))))))) 185 lv st g c s → pz_Z X 5 185 lv st g c s := (zs_aload_n hX dX10_read_185 rfl (zs_dup hX dX10_read_186 (zs_get hX (C := RX10) (T := TX10) (N := 37) rfl in_X10 (by decide) mw_792624ad dX10_read_187 (zs_iconst hX dX10_read_190 (by decide) (zs_iadd hX dX10_read_191 (zs_puti hX (C := RX10) (T := TX10) (N := 37) rfl in_X10 (by decide) mw_792624ad tyX10 tyX10_ok nmX10 (by decide +kernel) rfl dX10_read_192 (zs_goto hX dX10_read_195 (by decide) (fun _ _ _ _ _ _ h => h))))))))
set_option maxRecDepth 20000 in
theorem bX10_read_198 {X : pz_C} (hX : pz_X X cX10_read 5 RX10) : ∀ lv st g c s, (zo_il 1 3 (zo_if_eq 35 (pz_Z X 5))) 198 lv st g c s → pz_Z X 5 198 lv st g c s := (zs_iload_n hX dX10_read_198 rfl (zs_if_eq hX dX10_read_199 (by decide) (fun _ _ _ _ _ _ h => h)))
set_option maxRecDepth 20000 in
theorem bX10_read_202 {X : pz_C} (hX : pz_X X cX10_read 5 RX10) : ∀ lv st g c s, (zo_al 1 0 (zo_al 1 0 (zo_get 12 35 (pz_Z X 5)))) 202 lv st g c s → pz_Z X 5 202 lv st g c s := (zs_aload_n hX dX10_read_202 rfl (zs_aload_n hX dX10_read_203 rfl (zs_get hX (C := RX10) (T := TX10) (N := 37) rfl in_X10 (by decide) mw_792624ad dX10_read_204 (fun _ _ _ _ _ h => h))))
set_option maxRecDepth 20000 in
theorem bX10_read_207 {X : pz_C} {G : pz_Gx} {rm : Room} (hX : pz_X X cX10_read 5 RX10) (hrm : pz_rm X = rm) (hGX : pz_GX X G) (hOk : pz_OK G) (gh : gt_X10_fail) (hr_X10_fail : rm_X10_fail.frames + 1 ≤ rm.frames ∧ 8 + (2 + 11) + rm_X10_fail.locals ≤ rm.locals) : ∀ lv st g c s, (zo_cV rm 12 1 3 rm_X10_fail.cells rm_X10_fail.slots (pr_X10_fail gh) (po_X10_fail gh) (zo_kv (zo_ic 1 (0) (zo_is 1 3 (zo_goto 35 (pz_Z X 5)))))) 207 lv st g c s → pz_Z X 5 207 lv st g c s := by
  subst hrm
  exact (zs_csV hX hGX (C := RX10) (T := TX10) (N := 37) rfl (ct_X10_fail hOk gh) mw_90a73359 mw_b39d85ff mw_835bf90e mw_33939a39 mw_b0fcd068 (by decide +kernel) hr_X10_fail dX10_read_207 (zs_kv (zs_iconst hX dX10_read_210 (by decide) (zs_istore_n hX dX10_read_211 rfl (by decide) (zs_goto hX dX10_read_212 (by decide) (fun _ _ _ _ _ _ h => h))))))
set_option maxRecDepth 20000 in
theorem bX10_read_215 {X : pz_C} (hX : pz_X X cX10_read 5 RX10) : ∀ lv st g c s, (zo_al 1 0 (zo_ic 1 (0) (zo_puti 12 27 (zo_al 1 0 (zo_get 12 36 (zo_if_lt 239 (pz_Z X 5))))))) 215 lv st g c s → pz_Z X 5 215 lv st g c s := (zs_aload_n hX dX10_read_215 rfl (zs_iconst hX dX10_read_216 (by decide) (zs_puti hX (C := RX10) (T := TX10) (N := 37) rfl in_X10 (by decide) mw_a8e9bc22 tyX10 tyX10_ok nmX10 (by decide +kernel) rfl dX10_read_217 (zs_aload_n hX dX10_read_220 rfl (zs_get hX (C := RX10) (T := TX10) (N := 37) rfl in_X10 (by decide) mw_198aa72f dX10_read_221 (zs_if_lt hX dX10_read_224 (by decide) (fun _ _ _ _ _ _ h => h)))))))
set_option maxRecDepth 20000 in
theorem bX10_read_227 {X : pz_C} {rm : Room} {E : Option pz_V → pz_H → Prop} (hX : pz_X X cX10_read 5 RX10) (hR : pz_Rt X cX10_read 5 (some .int) rm E) : ∀ lv st g c s, (zo_al 1 0 (zo_il 1 1 (zo_puti 12 1 (zo_ic 1 (-1) (zo_al 1 0 (zo_get 12 36 (zo_isub (zo_ri rm E)))))))) 227 lv st g c s → pz_Z X 5 227 lv st g c s := (zs_aload_n hX dX10_read_227 rfl (zs_iload_n hX dX10_read_228 rfl (zs_puti hX (C := RX10) (T := TX10) (N := 37) rfl in_X10 (by decide) mw_479e8e34 tyX10 tyX10_ok nmX10 (by decide +kernel) rfl dX10_read_229 (zs_iconst hX dX10_read_232 (by decide) (zs_aload_n hX dX10_read_233 rfl (zs_get hX (C := RX10) (T := TX10) (N := 37) rfl in_X10 (by decide) mw_198aa72f dX10_read_234 (zs_isub hX dX10_read_237 (zs_ri hR dX10_read_238))))))))
set_option maxRecDepth 20000 in
theorem bX10_read_239 {X : pz_C} {rm : Room} {E : Option pz_V → pz_H → Prop} (hX : pz_X X cX10_read 5 RX10) (hR : pz_Rt X cX10_read 5 (some .int) rm E) : ∀ lv st g c s, (zo_al 1 0 (zo_get 12 1 (zo_il 1 1 (zo_isub (zo_ri rm E))))) 239 lv st g c s → pz_Z X 5 239 lv st g c s := (zs_aload_n hX dX10_read_239 rfl (zs_get hX (C := RX10) (T := TX10) (N := 37) rfl in_X10 (by decide) mw_479e8e34 dX10_read_240 (zs_iload_n hX dX10_read_243 rfl (zs_isub hX dX10_read_244 (zs_ri hR dX10_read_245)))))
def mrd_0 (n k : Nat) (Ai : Nat → Nat → Int32) (Aj : Nat → Nat → Int64) : mrd_T := if 0 < n then mrd_n n (Ai 28) (n + 1) ((0, -1), (k, none), Ai, Aj) else ((0, -1), (k, none), Ai, Aj)
def rm_X10_read : Room := { frames := 3, cells := 0, slots := 0, locals := 71 }
abbrev gt_X10_read : Type := (Nat × Nat) × mo_T
def pr_X10_read : gt_X10_read → List pz_V → pz_H → Prop := fun ((n, k), (mo, M, I, Ai, Aj)) av g => av = [.inr (.inr (some (mo)))] ∧ I 27 = nI n ∧ n ≤ 500 ∧ I 1 = nI k ∧ k ≤ 40 ∧ moS g mo M I Ai Aj
def mrd_I (I : Nat → Int32) (k : Nat) : Nat → Int32 := upd (upd I 0 0) 1 (nI k)
def po_X10_read : gt_X10_read → List pz_V → pz_H → Option pz_V → pz_H → Prop := fun ((n, k), (mo, M, I, Ai, Aj)) _ g v g' => hg moL g g' ∧ (((mrd_0 n k Ai Aj).1.2 < 0 ∧ v = some (.inl (nI (mrd_0 n k Ai Aj).2.1.1 - nI k)) ∧ moS g' mo M (iaf (upd (mrd_I I (mrd_0 n k Ai Aj).2.1.1) 27 0) (mrd_0 n k Ai Aj).1.1 (mrd_0 n k Ai Aj).1.2) (mrd_0 n k Ai Aj).2.2.1 (mrd_0 n k Ai Aj).2.2.2) ∨ (¬ (mrd_0 n k Ai Aj).1.2 < 0 ∧ v = some (.inl (-1 - (mrd_0 n k Ai Aj).1.2)) ∧ moS g' mo M (iaf (upd (mrd_I I k) 27 0) (mrd_0 n k Ai Aj).1.1 (mrd_0 n k Ai Aj).1.2) (mrd_0 n k Ai Aj).2.2.1 (mrd_0 n k Ai Aj).2.2.2))
theorem mrd_I1 {I : Nat → Int32} {k j : Nat} : upd (mrd_I I k) 1 (nI j) = mrd_I I j := upd_upd
theorem upd_sw {f : Nat → Int32} {i j : Nat} {x y : Int32} (h : i ≠ j) : upd (upd f i x) j y = upd (upd f j y) i x := by
  funext k
  by_cases h1 : k = i
  · subst h1; rw [pk_un h, pk_us, pk_us]
  · rw [pk_un (k := i) h1]
    by_cases h2 : k = j
    · subst h2; rw [pk_us, pk_us]
    · rw [pk_un h2, pk_un h1, pk_un h2]
set_option maxRecDepth 20000 in
set_option maxHeartbeats 8000000 in
theorem ct_X10_read {G : pz_Gx} (hOk : pz_OK G) (gh : gt_X10_read) : pz_M G yX10_read cX10_read 5 (some .int) rm_X10_read (pr_X10_read gh) (po_X10_read gh) := by
  obtain ⟨⟨n, k0⟩, mo, M, I, Ai0, Aj0⟩ := gh
  refine pz_ofZ (by decide) hOk.1 (Or.inr (Or.inl rfl)) ?_ ?_
  · rintro av g ⟨rfl, -⟩
    exact Nat.le_of_ble_eq_true rfl
  · rintro X hX hGX hrm - av g ⟨rfl, hn, hn5, hk0, hk40, hm⟩ hR
    have hN : ∀ {k a : Nat} {phi : Int32}, iaf (mrd_I I k) a phi 27 = nI n := by
      intro k a phi
      rw [iaf_n (by decide) (by decide)]
      unfold mrd_I
      rw [pk_un (by decide), pk_un (by decide)]
      exact hn
    have hN2 : ∀ {k : Nat}, mrd_I I k 27 = nI n := by
      intro k
      unfold mrd_I
      rw [pk_un (by decide), pk_un (by decide)]
      exact hn
    have h1' : ∀ {k a : Nat} {phi : Int32}, iaf (mrd_I I k) a phi 1 = nI k := by
      intro k a phi
      rw [iaf_n (by decide) (by decide)]
      exact pk_us
    -- the end
    have at215 : ∀ (s : mrd_T) (gk : pz_H) (lv : pz_L), s = mrd_0 n k0 Ai0 Aj0 → hg moL g gk → moS gk mo M (iaf (mrd_I I s.2.1.1) s.1.1 s.1.2) s.2.2.1 s.2.2.2 → pz_all lv [(0, .inr (.inr (some (mo)))), (1, .inl (nI k0))] → pz_Z X 5 215 lv [] gk 0 0 := by
      intro s gk lv hs hS hmk hlv
      refine pz_lsub hlv ?_
      obtain ⟨hm2, hS2⟩ := mo_f hmk 27 (by decide) 0
      rw [iaf_sk (by decide) (by decide)] at hm2
      refine bX10_read_215 hX _ _ _ _ _ ⟨_, _, hmk.1, Nat.le_of_ble_eq_true rfl, _, _, _, hm2.1, rfl, ?_⟩
      rw [iaf_36]
      refine ⟨fun q => ?_, fun q => ?_⟩
      · refine bX10_read_239 hX hR _ _ _ _ _ ⟨_, _, _, hm2.1, rfl, Nat.le_refl _, Nat.le_refl _, hg_tr hS hS2, Or.inl ⟨by rw [← hs]; exact q, ?_, by rw [← hs]; exact hm2⟩⟩
        rw [← hs]
        show some (Sum.inl (iaf (upd (mrd_I I s.2.1.1) 27 0) s.1.1 s.1.2 1 - nI k0)) = _
        rw [iaf_n (by decide) (by decide), pk_un (by decide), show mrd_I I s.2.1.1 1 = nI s.2.1.1 from pk_us]
      · obtain ⟨hm3, hS3⟩ := mo_f hm2 1 (by decide) (nI k0)
        have e1 : upd (iaf (upd (mrd_I I s.2.1.1) 27 0) s.1.1 s.1.2) 1 (nI k0) = iaf (upd (mrd_I I k0) 27 0) s.1.1 s.1.2 := by
          rw [iaf_sk (by decide) (by decide), upd_sw (i := 27) (j := 1) (by decide), mrd_I1]
        rw [e1] at hm3
        refine bX10_read_227 hX hR _ _ _ _ _ ⟨_, _, hm2.1, Nat.le_of_ble_eq_true rfl, _, _, _, hm3.1, rfl, Nat.le_refl _, Nat.le_refl _, hg_tr hS (hg_tr hS2 hS3), Or.inr ⟨by rw [← hs]; exact q, ?_, by rw [← hs]; exact hm3⟩⟩
        rw [← hs]
        show some (Sum.inl (-1 - iaf (upd (mrd_I I k0) 27 0) s.1.1 s.1.2 36)) = _
        rw [iaf_36]
    -- the loop
    have loop : ∀ (m : Nat) (s : mrd_T) (gk : pz_H) (lv : pz_L), s.1.1 ≤ n → n < s.1.1 + m → s.1.2 < 0 → mrd_W n (Ai0 28) s → mrd_0 n k0 Ai0 Aj0 = mrd_n n (Ai0 28) m s → hg moL g gk → moS gk mo M (iaf (mrd_I I s.2.1.1) s.1.1 s.1.2) s.2.2.1 s.2.2.2 → pz_all lv [(3, .inl 1), (2, .inl (ln_i s.2.1.2)), (0, .inr (.inr (some (mo)))), (1, .inl (nI k0))] → pz_Z X 5 35 lv [] gk 0 0 := by
      intro m
      induction m with
      | zero => intro s gk lv h1 h2; omega
      | succ m ih =>
        intro s gk lv hsn hm1 hphi hW he hS hmk hlv
        have hW2 := mrd_iW hW hphi (by omega)
        have hia := mrd_ia (n := n) (s := s)
        have he2 : mrd_n n (Ai0 28) (m + 1) s = if (mrd_i n s).1.2 < 0 ∧ (mrd_i n s).1.1 < n then (if p_lk n (Ai0 28) (mrd_i n s).1.1 = 59 then mrd_n n (Ai0 28) m (((mrd_i n s).1.1 + 1, (mrd_i n s).1.2), (mrd_i n s).2) else (((mrd_i n s).1.1, p_fl (mrd_i n s).1.2 (nI (mrd_i n s).1.1)), (mrd_i n s).2)) else mrd_i n s := rfl
        -- behind an item
        have item : ∀ (s2 : mrd_T) (g2 : pz_H) (lv : pz_L), s2 = mrd_i n s → hg moL g g2 → moS g2 mo M (iaf (mrd_I I s2.2.1.1) s2.1.1 s2.1.2) s2.2.2.1 s2.2.2.2 → pz_all lv [(2, .inl (ln_i s2.2.1.2)), (0, .inr (.inr (some (mo)))), (1, .inl (nI k0))] → pz_Z X 5 148 lv [] g2 0 0 := by
          intro s2 g2 lv hs2 hS2 hm2 hlv
          rw [← hs2] at he2 hia hW2
          refine pz_lsub hlv ?_
          have stop : mrd_0 n k0 Ai0 Aj0 = s2 → ∀ lv : pz_L, pz_all lv [(0, .inr (.inr (some (mo)))), (1, .inl (nI k0))] → pz_Z X 5 170 lv [] g2 0 0 := by
            intro h lv hlv
            refine pz_lsub hlv ?_
            refine bX10_read_170 hX _ _ _ _ _ ?_
            refine bX10_read_171 hX _ _ _ _ _ ⟨fun _ => ?_, fun q => absurd rfl q⟩
            refine bX10_read_198 hX _ _ _ _ _ ⟨fun _ => ?_, fun q => absurd rfl q⟩
            refine bX10_read_35 hX _ _ _ _ _ ⟨fun _ => ?_, fun q => absurd rfl q⟩
            exact at215 s2 g2 _ h.symm hS2 hm2 ⟨rfl, rfl, trivial⟩
          refine bX10_read_148 hX _ _ _ _ _ ⟨_, _, _, hm2.1, rfl, ?_⟩
          rw [iaf_36]
          refine ⟨fun q => ?_, fun q => ?_⟩
          · refine stop ?_ _ ⟨rfl, rfl, trivial⟩
            rw [he, he2, if_neg (fun z => absurd z.1 (Int32.not_lt.mpr q))]
          · have hp2 := Int32.not_le.mp q
            refine bX10_read_155 hX _ _ _ _ _ ⟨_, _, _, hm2.1, rfl, _, _, _, hm2.1, rfl, ?_⟩
            rw [iaf_35, hN]
            refine ⟨fun q2 => ?_, fun q2 => ?_⟩
            · refine stop ?_ _ ⟨rfl, rfl, trivial⟩
              rw [he, he2, if_neg (fun z => absurd z.2 (Nat.not_lt.mpr ((ni_le (by omega) (by omega)).mp q2)))]
            · have ha2 : s2.1.1 < n := Nat.lt_of_not_le (fun z => q2 ((ni_le (by omega) (by omega)).mpr z))
              rw [if_pos ⟨hp2, ha2⟩] at he2
              refine bX10_read_166 hX _ _ _ _ _ ?_
              refine bX10_read_171 hX _ _ _ _ _ ⟨fun q => absurd q (by decide), fun _ => ?_⟩
              refine bX10_read_176 hX _ _ _ _ _ ?_
              refine bX10_read_177 hX hrm hGX hOk ((s2.1.1, n), (mo, M, _, s2.2.2.1, s2.2.2.2)) (by decide) _ _ _ _ _ ⟨Nat.le_of_ble_eq_true rfl, ⟨mo, [], [100], _, rfl, hm2.1⟩, Nat.le_of_ble_eq_true rfl, Nat.le_of_ble_eq_true rfl, Nat.le_of_ble_eq_true rfl, ⟨rfl, iaf_35, by omega, hN, hn5, hm2⟩, ?_⟩
              rintro v g3 ⟨rfl, rfl⟩ z hz
              cases hz
              have h28 : s2.2.2.1 28 = Ai0 28 := hW2.2.1
              rw [h28]
              refine ⟨fun q3 => ?_, fun q3 => ?_⟩
              · refine bX10_read_198 hX _ _ _ _ _ ⟨fun q => absurd q (by decide), fun _ => ?_⟩
                refine bX10_read_202 hX _ _ _ _ _ ⟨_, _, _, hm2.1, rfl, ?_⟩
                rw [iaf_35]
                refine bX10_read_207 hX hrm hGX hOk (nI s2.1.1, (mo, M, _, s2.2.2.1, s2.2.2.2)) (by decide) _ _ _ _ _ ⟨Nat.le_of_ble_eq_true rfl, ⟨mo, [.inl (nI s2.1.1)], [100], _, rfl, hm2.1⟩, Nat.le_of_ble_eq_true rfl, Nat.le_of_ble_eq_true rfl, Nat.le_of_ble_eq_true rfl, ⟨rfl, hm2⟩, ?_⟩
                rintro v g4 ⟨rfl, hS4, hm4⟩ -
                rw [iaf_36, iaf_s36] at hm4
                refine bX10_read_35 hX _ _ _ _ _ ⟨fun _ => ?_, fun q => absurd rfl q⟩
                exact at215 ((s2.1.1, p_fl s2.1.2 (nI s2.1.1)), s2.2) g4 _ (by rw [he, he2, if_neg q3]) (hg_tr hS2 hS4) hm4 ⟨rfl, rfl, trivial⟩
              · rw [if_pos q3] at he2
                refine bX10_read_185 hX _ _ _ _ _ ⟨rfl, _, _, _, hm2.1, rfl, _, _, hm2.1, Nat.le_of_ble_eq_true rfl, ?_⟩
                rw [iaf_35, nI_1]
                obtain ⟨hm4, hS4⟩ := mo_f hm2 35 (by decide) (nI (s2.1.1 + 1))
                rw [iaf_s35] at hm4
                exact ih ((s2.1.1 + 1, s2.1.2), s2.2) _ _ (by show s2.1.1 + 1 ≤ n; omega) (by show n < s2.1.1 + 1 + m; omega) hp2 hW2 (by rw [he, he2]) (hg_tr hS2 hS4) hm4 ⟨rfl, rfl, rfl, rfl, trivial⟩
        obtain ⟨⟨a, phi⟩, ⟨k, ln⟩, Ai, Aj⟩ := s
        obtain ⟨hk, h28, hl⟩ := hW
        dsimp only at hsn hm1 hphi hk h28 hl hmk hlv
        have hmi : mrd_i n ((a, phi), (k, ln), Ai, Aj) = if p_lk n (Ai 28) a = 76 then mrd_L n ((a, phi), (k, ln), Ai, Aj) else if p_lk n (Ai 28) a = 83 then ((mrd_s n ln (mrd_c Ai ln) a phi Ai Aj).1, (k, ln), (mrd_s n ln (mrd_c Ai ln) a phi Ai Aj).2.1, (mrd_s n ln (mrd_c Ai ln) a phi Ai Aj).2.2) else ((a, p_fl phi (nI a)), (k, ln), Ai, Aj) := rfl
        refine pz_lsub hlv ?_
        refine bX10_read_35 hX _ _ _ _ _ ⟨fun q => absurd q (by decide), fun _ => ?_⟩
        refine bX10_read_39 hX _ _ _ _ _ ?_
        refine bX10_read_40 hX hrm hGX hOk ((a, n), (mo, M, _, Ai, Aj)) (by decide) _ _ _ _ _ ⟨Nat.le_of_ble_eq_true rfl, ⟨mo, [], [100], _, rfl, hmk.1⟩, Nat.le_of_ble_eq_true rfl, Nat.le_of_ble_eq_true rfl, Nat.le_of_ble_eq_true rfl, ⟨rfl, iaf_35, by omega, hN, hn5, hmk⟩, ?_⟩
        rintro v g2 ⟨rfl, rfl⟩ z hz
        cases hz
        refine ⟨fun q => ?_, fun q => ?_⟩
        · rw [if_neg q] at hmi
          refine bX10_read_123 hX _ _ _ _ _ ?_
          refine bX10_read_124 hX hrm hGX hOk ((a, n), (mo, M, _, Ai, Aj)) (by decide) _ _ _ _ _ ⟨Nat.le_of_ble_eq_true rfl, ⟨mo, [], [100], _, rfl, hmk.1⟩, Nat.le_of_ble_eq_true rfl, Nat.le_of_ble_eq_true rfl, Nat.le_of_ble_eq_true rfl, ⟨rfl, iaf_35, by omega, hN, hn5, hmk⟩, ?_⟩
          rintro v g2 ⟨rfl, rfl⟩ z hz
          cases hz
          refine ⟨fun q2 => ?_, fun q2 => ?_⟩
          · rw [if_neg q2] at hmi
            refine bX10_read_140 hX _ _ _ _ _ ⟨_, _, _, hmk.1, rfl, ?_⟩
            rw [iaf_35]
            refine bX10_read_145 hX hrm hGX hOk (nI a, (mo, M, _, Ai, Aj)) (by decide) _ _ _ _ _ ⟨Nat.le_of_ble_eq_true rfl, ⟨mo, [.inl (nI a)], [100], _, rfl, hmk.1⟩, Nat.le_of_ble_eq_true rfl, Nat.le_of_ble_eq_true rfl, Nat.le_of_ble_eq_true rfl, ⟨rfl, hmk⟩, ?_⟩
            rintro v g3 ⟨rfl, hS3, hm3⟩ -
            rw [iaf_36, iaf_s36] at hm3
            exact item ((a, p_fl phi (nI a)), (k, ln), Ai, Aj) g3 _ hmi.symm (hg_tr hS hS3) hm3 ⟨rfl, rfl, rfl, trivial⟩
          · rw [if_pos q2] at hmi
            refine bX10_read_132 hX _ _ _ _ _ ?_
            refine bX10_read_134 hX hrm hGX hOk (((n, a, phi), ln, mrd_c Ai ln), (mo, M, mrd_I I k, Ai, Aj)) (by decide) _ _ _ _ _ ⟨Nat.le_of_ble_eq_true rfl, ⟨mo, [.inl (ln_i ln)], [100], _, rfl, hmk.1⟩, Nat.le_of_ble_eq_true rfl, Nat.le_of_ble_eq_true rfl, Nat.le_of_ble_eq_true rfl, ⟨rfl, by omega, hN2, hn5, fun l hl' => ?_, hmk⟩, ?_⟩
            · obtain ⟨hlk, c, hc, hc3⟩ := hl l hl'
              subst hl'
              have hcc : mrd_c Ai (some l) = c := by
                show (Ai 3 l).toNatClampNeg = c
                rw [hc3, ni_cl (by omega)]
              rw [hcc]
              exact ⟨by omega, hc3, hc⟩
            rintro v g3 ⟨rfl, hS3, hm3⟩ -
            exact item _ g3 _ hmi.symm (hg_tr hS hS3) hm3 ⟨rfl, rfl, rfl, trivial⟩
        · rw [if_pos q] at hmi
          have hL : mrd_L n ((a, phi), (k, ln), Ai, Aj) = if (p_nu n (Ai 28) 127 (a + 1, if k = 40 then p_fl phi (nI a) else phi)).1.2 < 0 then ((p_nu n (Ai 28) 127 (a + 1, if k = 40 then p_fl phi (nI a) else phi)).1, (k + 1, some k), seqU (seqU Ai 2 (upd (Ai 2) k (p_nu n (Ai 28) 127 (a + 1, if k = 40 then p_fl phi (nI a) else phi)).2)) 3 (upd (Ai 3) k 0), Aj) else ((p_nu n (Ai 28) 127 (a + 1, if k = 40 then p_fl phi (nI a) else phi)).1, (k, ln), Ai, Aj) := rfl
          rw [hL] at hmi
          have hLk := mrd_Lk (n := n) (f := Ai 28) (k := k) hphi (show a ≤ 1000 by omega)
          generalize hpsi : (if k = 40 then p_fl phi (nI a) else phi) = psi at hmi hLk
          -- the number
          have at65 : ∀ (g3 : pz_H) (lv : pz_L), hg moL g g3 → moS g3 mo M (iaf (mrd_I I k) a psi) Ai Aj → pz_all lv [(2, .inl (ln_i ln)), (0, .inr (.inr (some (mo)))), (1, .inl (nI k0))] → pz_Z X 5 65 lv [] g3 0 0 := by
            intro g3 lv hS3 hm3 hlv
            refine pz_lsub hlv ?_
            refine bX10_read_65 hX _ _ _ _ _ ⟨rfl, _, _, _, hm3.1, rfl, _, _, hm3.1, Nat.le_of_ble_eq_true rfl, ?_⟩
            rw [iaf_35, nI_1]
            obtain ⟨hm4, hS4⟩ := mo_f hm3 35 (by decide) (nI (a + 1))
            rw [iaf_s35] at hm4
            refine bX10_read_78 hX hrm hGX hOk ((127, n, a + 1, psi), (mo, M, mrd_I I k, Ai, Aj)) (by decide) _ _ _ _ _ ⟨Nat.le_of_ble_eq_true rfl, ⟨mo, [.inl 127], [100], _, rfl, hm4.1⟩, Nat.le_of_ble_eq_true rfl, Nat.le_of_ble_eq_true rfl, Nat.le_of_ble_eq_true rfl, ⟨rfl, by omega, hN2, hn5, hm4⟩, ?_⟩
            rintro v g5 ⟨rfl, hS5, hm5⟩ z hz
            cases hz
            refine ⟨_, _, _, hm5.1, rfl, ?_⟩
            rw [iaf_36]
            have hS35 := hg_tr hS3 (hg_tr hS4 hS5)
            refine ⟨fun q3 => ?_, fun q3 => ?_⟩
            · rw [if_neg (Int32.not_lt.mpr q3)] at hmi
              refine bX10_read_120 hX _ _ _ _ _ ?_
              exact item _ g5 _ hmi.symm hS35 hm5 ⟨rfl, rfl, rfl, trivial⟩
            · have hneg := Int32.not_le.mp q3
              have hk4 := hLk hneg
              rw [if_pos hneg] at hmi
              have hki : vp_in (nI k) 40 := ni_in (by omega) (by omega)
              have hkc : (nI k).toNatClampNeg = k := ni_cl (by omega)
              obtain ⟨hm6, hS6⟩ := mo_i hm5 2 (by decide) (upd (Ai 2) k (p_nu n (Ai 28) 127 (a + 1, psi)).2)
              obtain ⟨hm7, hS7⟩ := mo_i hm6 3 (by decide) (upd (Ai 3) k 0)
              obtain ⟨hm8, hS8⟩ := mo_f hm7 1 (by decide) (nI (k + 1))
              rw [iaf_sk (by decide) (by decide), mrd_I1] at hm8
              refine bX10_read_90 hX _ _ _ _ _ ⟨_, _, _, hm5.1, rfl, ?_⟩
              rw [h1']
              refine ⟨_, _, _, hm5.1, rfl, _, _, _, hm5.2.1 2 (by decide), hki, ?_⟩
              rw [hkc]
              refine ⟨_, _, _, hm6.1, rfl, _, _, _, hm6.2.1 3 (by decide), hki, ?_⟩
              rw [hkc]
              refine ⟨rfl, _, _, _, hm7.1, rfl, _, _, hm7.1, Nat.le_of_ble_eq_true rfl, ?_⟩
              rw [h1', nI_1]
              refine bX10_read_120 hX _ _ _ _ _ ?_
              exact item _ _ _ hmi.symm (hg_tr hS35 (hg_tr hS6 (hg_tr hS7 hS8))) hm8 ⟨rfl, rfl, rfl, trivial⟩
          refine bX10_read_48 hX _ _ _ _ _ ⟨_, _, _, hmk.1, rfl, ?_⟩
          rw [h1']
          refine ⟨fun q3 => ?_, fun q3 => ?_⟩
          · rw [if_neg (fun e => q3 (by rw [e]; rfl))] at hpsi
            subst hpsi
            exact at65 g2 _ hS hmk ⟨rfl, rfl, rfl, trivial⟩
          · rw [if_pos (ni_inj (b := 40) (by omega) (by omega) q3)] at hpsi
            refine bX10_read_57 hX _ _ _ _ _ ⟨_, _, _, hmk.1, rfl, ?_⟩
            rw [iaf_35]
            refine bX10_read_62 hX hrm hGX hOk (nI a, (mo, M, _, Ai, Aj)) (by decide) _ _ _ _ _ ⟨Nat.le_of_ble_eq_true rfl, ⟨mo, [.inl (nI a)], [100], _, rfl, hmk.1⟩, Nat.le_of_ble_eq_true rfl, Nat.le_of_ble_eq_true rfl, Nat.le_of_ble_eq_true rfl, ⟨rfl, hmk⟩, ?_⟩
            rintro v g3 ⟨rfl, hS3, hm3⟩ -
            rw [iaf_36, iaf_s36, hpsi] at hm3
            exact at65 g3 _ (hg_tr hS hS3) hm3 ⟨rfl, rfl, rfl, trivial⟩
    -- the head
    obtain ⟨m1, S1⟩ := mo_f hm 0 (by decide) 0
    obtain ⟨m2, S2⟩ := mo_f m1 35 (by decide) (nI 0)
    obtain ⟨m3, S3⟩ := mo_f m2 36 (by decide) (-1)
    have eI : upd (upd (upd I 0 0) 35 (nI 0)) 36 (-1) = iaf (mrd_I I k0) 0 (-1) := by
      show upd (upd (upd I 0 0) 35 (nI 0)) 36 (-1) = upd (upd (upd (upd I 0 0) 1 (nI k0)) 35 (nI 0)) 36 (-1)
      have : upd (upd I 0 0) 1 (nI k0) = upd I 0 0 := by
        funext j
        by_cases e : j = 1
        · subst e; rw [pk_us, pk_un (by decide), hk0]
        · rw [pk_un e]
      rw [this]
    rw [eI] at m3
    have e1 : upd I 0 0 1 = nI k0 := by rw [pk_un (by decide), hk0]
    refine bX10_read_0 hX _ _ _ _ _ ⟨_, _, hm.1, Nat.le_of_ble_eq_true rfl, _, _, _, m1.1, rfl, ?_⟩
    rw [e1]
    refine ⟨_, _, m1.1, Nat.le_of_ble_eq_true rfl, _, _, m2.1, Nat.le_of_ble_eq_true rfl, _, _, _, m3.1, rfl, ?_⟩
    rw [hN]
    have hSS := hg_tr S1 (hg_tr S2 S3)
    refine ⟨fun q => ?_, fun q => ?_⟩
    · have hn0 : n ≤ 0 := (ni_le (b := 0) (by omega) (by omega)).mp q
      refine bX10_read_33 hX _ _ _ _ _ ?_
      refine bX10_read_34 hX _ _ _ _ _ ?_
      refine bX10_read_35 hX _ _ _ _ _ ⟨fun _ => ?_, fun q => absurd rfl q⟩
      exact at215 ((0, -1), (k0, none), Ai0, Aj0) _ _ (by unfold mrd_0; rw [if_neg (by omega)]) hSS m3 ⟨rfl, rfl, trivial⟩
    · have hn0 : 0 < n := Nat.lt_of_not_le (fun z => q ((ni_le (b := 0) (by omega) (by omega)).mpr z))
      refine bX10_read_29 hX _ _ _ _ _ ?_
      refine bX10_read_34 hX _ _ _ _ _ ?_
      exact loop (n + 1) ((0, -1), (k0, none), Ai0, Aj0) _ _ (Nat.zero_le _) (by show n < 0 + (n + 1); omega) (by show (-1 : Int32) < 0; decide) ⟨hk40, rfl, fun l hl => by cases hl⟩ (by unfold mrd_0; rw [if_pos hn0]) hSS m3 ⟨rfl, rfl, rfl, rfl, trivial⟩
