/-! the reference: exception, zone, days, sign -/
set_option maxRecDepth 20000 in
theorem bX10_exception_0 {X : pz_C} (hX : pz_X X cX10_exception 6 RX10) : ∀ lv st g c s, (zo_ic 1 (0) (zo_is 2 5 (pz_Z X 6))) 0 lv st g c s → pz_Z X 6 0 lv st g c s := (zs_iconst hX dX10_exception_0 (by decide) (zs_istore hX dX10_exception_1 (by decide) (fun _ _ _ _ _ h => h)))
set_option maxRecDepth 20000 in
theorem bX10_exception_3 {X : pz_C} (hX : pz_X X cX10_exception 6 RX10) : ∀ lv st g c s, (zo_il 2 5 (zo_al 1 0 (zo_get 12 7 (zo_ic_ge 41 (pz_Z X 6))))) 3 lv st g c s → pz_Z X 6 3 lv st g c s := (zs_iload hX dX10_exception_3 (zs_aload_n hX dX10_exception_5 rfl (zs_get hX (C := RX10) (T := TX10) (N := 37) rfl in_X10 (by decide) mw_bba43add dX10_exception_6 (zs_ic_ge hX dX10_exception_9 (by decide) (fun _ _ _ _ _ _ h => h)))))
set_option maxRecDepth 20000 in
theorem bX10_exception_12 {X : pz_C} (hX : pz_X X cX10_exception 6 RX10) : ∀ lv st g c s, (zo_al 1 0 (zo_get 12 8 (zo_il 2 5 (zo_iald (zo_il 1 1 (zo_ic_ne 35 (pz_Z X 6))))))) 12 lv st g c s → pz_Z X 6 12 lv st g c s := (zs_aload_n hX dX10_exception_12 rfl (zs_get hX (C := RX10) (T := TX10) (N := 37) rfl in_X10 (by decide) mw_2a6260c2 dX10_exception_13 (zs_iload hX dX10_exception_16 (zs_iald hX dX10_exception_18 (zs_iload_n hX dX10_exception_19 rfl (zs_ic_ne hX dX10_exception_20 (by decide) (fun _ _ _ _ _ _ h => h)))))))
set_option maxRecDepth 20000 in
theorem bX10_exception_23 {X : pz_C} (hX : pz_X X cX10_exception 6 RX10) : ∀ lv st g c s, (zo_al 1 0 (zo_get 12 9 (zo_il 2 5 (zo_lald (zo_ll 1 2 (zo_lcmp (zo_if_eq 41 (pz_Z X 6)))))))) 23 lv st g c s → pz_Z X 6 23 lv st g c s := (zs_aload_n hX dX10_exception_23 rfl (zs_get hX (C := RX10) (T := TX10) (N := 37) rfl in_X10 (by decide) mw_5ad55f98 dX10_exception_24 (zs_iload hX dX10_exception_27 (zs_lald hX dX10_exception_29 (zs_lload_n hX dX10_exception_30 rfl (zs_lcmp hX dX10_exception_31 (zs_if_eq hX dX10_exception_32 (by decide) (fun _ _ _ _ _ _ h => h))))))))
set_option maxRecDepth 20000 in
theorem bX10_exception_35 {X : pz_C} (hX : pz_X X cX10_exception 6 RX10) : ∀ lv st g c s, (zo_inc 5 (1) (zo_goto 3 (pz_Z X 6))) 35 lv st g c s → pz_Z X 6 35 lv st g c s := (zs_iinc hX dX10_exception_35 (by decide) (by decide) (zs_goto hX dX10_exception_38 (by decide) (fun _ _ _ _ _ _ h => h)))
set_option maxRecDepth 20000 in
theorem bX10_exception_41 {X : pz_C} (hX : pz_X X cX10_exception 6 RX10) : ∀ lv st g c s, (zo_al 1 0 (zo_al 1 0 (zo_il 1 1 (pz_Z X 6)))) 41 lv st g c s → pz_Z X 6 41 lv st g c s := (zs_aload_n hX dX10_exception_41 rfl (zs_aload_n hX dX10_exception_42 rfl (zs_iload_n hX dX10_exception_43 rfl (fun _ _ _ _ _ h => h))))
set_option maxRecDepth 20000 in
theorem bX10_exception_44 {X : pz_C} {G : pz_Gx} {rm : Room} (hX : pz_X X cX10_exception 6 RX10) (hrm : pz_rm X = rm) (hGX : pz_GX X G) (hOk : pz_OK G) (gh : gt_X10_isLine) (hr_X10_isLine : rm_X10_isLine.frames + 1 ≤ rm.frames ∧ 8 + (2 + 11) + rm_X10_isLine.locals ≤ rm.locals) : ∀ lv st g c s, (zo_cV rm 12 1 3 rm_X10_isLine.cells rm_X10_isLine.slots (pr_X10_isLine gh) (po_X10_isLine gh) (zo_kz (zo_if_ne 54 (pz_Z X 6)))) 44 lv st g c s → pz_Z X 6 44 lv st g c s := by
  subst hrm
  exact (zs_csV hX hGX (C := RX10) (T := TX10) (N := 37) rfl (ct_X10_isLine hOk gh) mw_e8056c21 mw_6b16837e mw_6737fe84 mw_33939a39 mw_6be8286f (by decide +kernel) hr_X10_isLine dX10_exception_44 (zs_kz (zs_if_ne hX dX10_exception_47 (by decide) (fun _ _ _ _ _ _ h => h))))
set_option maxRecDepth 20000 in
theorem bX10_exception_50 {X : pz_C} (hX : pz_X X cX10_exception 6 RX10) : ∀ lv st g c s, (zo_ic 1 (1) (zo_goto 55 (pz_Z X 6))) 50 lv st g c s → pz_Z X 6 50 lv st g c s := (zs_iconst hX dX10_exception_50 (by decide) (zs_goto hX dX10_exception_51 (by decide) (fun _ _ _ _ _ _ h => h)))
set_option maxRecDepth 20000 in
theorem bX10_exception_54 {X : pz_C} (hX : pz_X X cX10_exception 6 RX10) : ∀ lv st g c s, (zo_ic 1 (0) (pz_Z X 6)) 54 lv st g c s → pz_Z X 6 54 lv st g c s := (zs_iconst hX dX10_exception_54 (by decide) (fun _ _ _ _ _ h => h))
set_option maxRecDepth 20000 in
theorem bX10_exception_55 {X : pz_C} (hX : pz_X X cX10_exception 6 RX10) : ∀ lv st g c s, (zo_ll 1 2 (zo_lc 1 (0) (zo_lc 3 (20000) (pz_Z X 6)))) 55 lv st g c s → pz_Z X 6 55 lv st g c s := (zs_lload_n hX dX10_exception_55 rfl (zs_lconst hX dX10_exception_56 (by decide) (zs_ldc2 hX dX10_exception_57 mw_864b0a66 (fun _ _ _ _ _ h => h))))
set_option maxRecDepth 20000 in
theorem bX10_exception_60 {X : pz_C} {G : pz_Gx} {rm : Room} (hX : pz_X X cX10_exception 6 RX10) (hrm : pz_rm X = rm) (hGX : pz_GX X G) (hOk : pz_OK G) (gh : gt_X10_within) (hr_X10_within : rm_X10_within.frames + 1 ≤ rm.frames ∧ 8 + (6 + 11) + rm_X10_within.locals ≤ rm.locals) : ∀ lv st g c s, (zo_cs rm 3 3 rm_X10_within.cells rm_X10_within.slots (pr_X10_within gh) (po_X10_within gh) (zo_kz (zo_if_ne 70 (pz_Z X 6)))) 60 lv st g c s → pz_Z X 6 60 lv st g c s := by
  subst hrm
  exact (zs_csS hX hGX (ct_X10_within hOk gh) mw_b2fd6b25 mw_bf52c9cc mw_33939a39 mw_fee1cb2c (by decide +kernel) hr_X10_within dX10_exception_60 (zs_kz (zs_if_ne hX dX10_exception_63 (by decide) (fun _ _ _ _ _ _ h => h))))
set_option maxRecDepth 20000 in
theorem bX10_exception_66 {X : pz_C} (hX : pz_X X cX10_exception 6 RX10) : ∀ lv st g c s, (zo_ic 1 (1) (zo_goto 71 (pz_Z X 6))) 66 lv st g c s → pz_Z X 6 66 lv st g c s := (zs_iconst hX dX10_exception_66 (by decide) (zs_goto hX dX10_exception_67 (by decide) (fun _ _ _ _ _ _ h => h)))
set_option maxRecDepth 20000 in
theorem bX10_exception_70 {X : pz_C} (hX : pz_X X cX10_exception 6 RX10) : ∀ lv st g c s, (zo_ic 1 (0) (pz_Z X 6)) 70 lv st g c s → pz_Z X 6 70 lv st g c s := (zs_iconst hX dX10_exception_70 (by decide) (fun _ _ _ _ _ h => h))
set_option maxRecDepth 20000 in
theorem bX10_exception_71 {X : pz_C} (hX : pz_X X cX10_exception 6 RX10) : ∀ lv st g c s, (zo_il 2 5 (zo_ic 2 (100) (zo_ic_ne 82 (pz_Z X 6)))) 71 lv st g c s → pz_Z X 6 71 lv st g c s := (zs_iload hX dX10_exception_71 (zs_bipush hX dX10_exception_73 (by decide) (zs_ic_ne hX dX10_exception_75 (by decide) (fun _ _ _ _ _ _ h => h))))
set_option maxRecDepth 20000 in
theorem bX10_exception_78 {X : pz_C} (hX : pz_X X cX10_exception 6 RX10) : ∀ lv st g c s, (zo_ic 1 (1) (zo_goto 83 (pz_Z X 6))) 78 lv st g c s → pz_Z X 6 78 lv st g c s := (zs_iconst hX dX10_exception_78 (by decide) (zs_goto hX dX10_exception_79 (by decide) (fun _ _ _ _ _ _ h => h)))
set_option maxRecDepth 20000 in
theorem bX10_exception_82 {X : pz_C} (hX : pz_X X cX10_exception 6 RX10) : ∀ lv st g c s, (zo_ic 1 (0) (pz_Z X 6)) 82 lv st g c s → pz_Z X 6 82 lv st g c s := (zs_iconst hX dX10_exception_82 (by decide) (fun _ _ _ _ _ h => h))
set_option maxRecDepth 20000 in
theorem bX10_exception_83 {X : pz_C} {G : pz_Gx} {rm : Room} (hX : pz_X X cX10_exception 6 RX10) (hrm : pz_rm X = rm) (hGX : pz_GX X G) (hOk : pz_OK G) (gh : gt_X10_refused) (hr_X10_refused : rm_X10_refused.frames + 1 ≤ rm.frames ∧ 8 + (4 + 11) + rm_X10_refused.locals ≤ rm.locals) : ∀ lv st g c s, (zo_cV rm 12 3 3 rm_X10_refused.cells rm_X10_refused.slots (pr_X10_refused gh) (po_X10_refused gh) (zo_kz (zo_if_eq 91 (pz_Z X 6)))) 83 lv st g c s → pz_Z X 6 83 lv st g c s := by
  subst hrm
  exact (zs_csV hX hGX (C := RX10) (T := TX10) (N := 37) rfl (ct_X10_refused hOk gh) mw_53c1f8a2 mw_ba17b74c mw_7c91c019 mw_33939a39 mw_471b458e (by decide +kernel) hr_X10_refused dX10_exception_83 (zs_kz (zs_if_eq hX dX10_exception_86 (by decide) (fun _ _ _ _ _ _ h => h))))
set_option maxRecDepth 20000 in
theorem bX10_exception_89 {X : pz_C} {rm : Room} {E : Option pz_V → pz_H → Prop} (hX : pz_X X cX10_exception 6 RX10) (hR : pz_Rt X cX10_exception 6 (some .int) rm E) : ∀ lv st g c s, (zo_ic 1 (0) (zo_ri rm E)) 89 lv st g c s → pz_Z X 6 89 lv st g c s := (zs_iconst hX dX10_exception_89 (by decide) (zs_ri hR dX10_exception_90))
set_option maxRecDepth 20000 in
theorem bX10_exception_91 {X : pz_C} (hX : pz_X X cX10_exception 6 RX10) : ∀ lv st g c s, (zo_al 1 0 (zo_get 12 8 (zo_il 2 5 (zo_il 1 1 (zo_iast (zo_al 1 0 (zo_get 12 9 (zo_il 2 5 (zo_ll 1 2 (zo_last (zo_al 1 0 (zo_get 12 10 (zo_il 2 5 (zo_il 2 4 (zo_zast (zo_al 1 0 (zo_il 2 5 (zo_al 1 0 (zo_get 12 7 (zo_ic_ne 135 (pz_Z X 6))))))))))))))))))))) 91 lv st g c s → pz_Z X 6 91 lv st g c s := (zs_aload_n hX dX10_exception_91 rfl (zs_get hX (C := RX10) (T := TX10) (N := 37) rfl in_X10 (by decide) mw_2a6260c2 dX10_exception_92 (zs_iload hX dX10_exception_95 (zs_iload_n hX dX10_exception_97 rfl (zs_iast hX dX10_exception_98 (zs_aload_n hX dX10_exception_99 rfl (zs_get hX (C := RX10) (T := TX10) (N := 37) rfl in_X10 (by decide) mw_5ad55f98 dX10_exception_100 (zs_iload hX dX10_exception_103 (zs_lload_n hX dX10_exception_105 rfl (zs_last hX dX10_exception_106 (zs_aload_n hX dX10_exception_107 rfl (zs_get hX (C := RX10) (T := TX10) (N := 37) rfl in_X10 (by decide) mw_be70b4db dX10_exception_108 (zs_iload hX dX10_exception_111 (zs_iload hX dX10_exception_113 (zs_zast hX dX10_exception_115 (zs_aload_n hX dX10_exception_116 rfl (zs_iload hX dX10_exception_117 (zs_aload_n hX dX10_exception_119 rfl (zs_get hX (C := RX10) (T := TX10) (N := 37) rfl in_X10 (by decide) mw_bba43add dX10_exception_120 (zs_ic_ne hX dX10_exception_123 (by decide) (fun _ _ _ _ _ _ h => h)))))))))))))))))))))
set_option maxRecDepth 20000 in
theorem bX10_exception_126 {X : pz_C} (hX : pz_X X cX10_exception 6 RX10) : ∀ lv st g c s, (zo_al 1 0 (zo_get 12 7 (zo_ic 1 (1) (zo_iadd (zo_goto 139 (pz_Z X 6)))))) 126 lv st g c s → pz_Z X 6 126 lv st g c s := (zs_aload_n hX dX10_exception_126 rfl (zs_get hX (C := RX10) (T := TX10) (N := 37) rfl in_X10 (by decide) mw_bba43add dX10_exception_127 (zs_iconst hX dX10_exception_130 (by decide) (zs_iadd hX dX10_exception_131 (zs_goto hX dX10_exception_132 (by decide) (fun _ _ _ _ _ _ h => h))))))
set_option maxRecDepth 20000 in
theorem bX10_exception_135 {X : pz_C} (hX : pz_X X cX10_exception 6 RX10) : ∀ lv st g c s, (zo_al 1 0 (zo_get 12 7 (pz_Z X 6))) 135 lv st g c s → pz_Z X 6 135 lv st g c s := (zs_aload_n hX dX10_exception_135 rfl (zs_get hX (C := RX10) (T := TX10) (N := 37) rfl in_X10 (by decide) mw_bba43add dX10_exception_136 (fun _ _ _ _ _ h => h)))
set_option maxRecDepth 20000 in
theorem bX10_exception_139 {X : pz_C} {rm : Room} {E : Option pz_V → pz_H → Prop} (hX : pz_X X cX10_exception 6 RX10) (hR : pz_Rt X cX10_exception 6 (some .int) rm E) : ∀ lv st g c s, (zo_puti 12 7 (zo_al 1 0 (zo_get 12 7 (zo_ri rm E)))) 139 lv st g c s → pz_Z X 6 139 lv st g c s := (zs_puti hX (C := RX10) (T := TX10) (N := 37) rfl in_X10 (by decide) mw_bba43add tyX10 tyX10_ok nmX10 (by decide +kernel) rfl dX10_exception_139 (zs_aload_n hX dX10_exception_142 rfl (zs_get hX (C := RX10) (T := TX10) (N := 37) rfl in_X10 (by decide) mw_bba43add dX10_exception_143 (zs_ri hR dX10_exception_146))))
def mf_at (o : Option Nat) (n : Nat) : Nat := match o with
  | some k => k
  | none => n
def mf_n (a n : Nat) : Nat := if a = n then n + 1 else n
def mxe_a (l : Int32) (nl : Nat) : Bool := !wi l.toInt64 0 (nI nl - 1).toInt64
def rm_X10_exception : Room := { frames := 2, cells := 0, slots := 0, locals := 46 }
abbrev gt_X10_exception : Type := ((Int32 × Int64 × Int32) × Nat × Nat) × mo_T
def pr_X10_exception : gt_X10_exception → List pz_V → pz_H → Prop := fun (((l, d, x), nl, ne), (mo, M, I, Ai, Aj)) av g => av = [.inr (.inr (some (mo))), .inl (l), .inr (.inl (d)), .inl (x)] ∧ (x = 0 ∨ x = 1) ∧ I 1 = nI nl ∧ nl ≤ 40 ∧ I 7 = nI ne ∧ ne ≤ 100 ∧ moS g mo M I Ai Aj
def po_X10_exception : gt_X10_exception → List pz_V → pz_H → Option pz_V → pz_H → Prop := fun (((l, d, x), nl, ne), (mo, M, I, Ai, Aj)) _ g v g' => hg moL g g' ∧ (((mxe_a l nl || (!wi d 0 20000 || decide (mf_at (fs_s (mr_p Ai Aj l d) 0 ne) ne = 100))) = true ∧ v = some (.inl 0) ∧ moS g' mo M (upd I 0 (rf3 (mxe_a l nl) (!wi d 0 20000) (decide (mf_at (fs_s (mr_p Ai Aj l d) 0 ne) ne = 100)))) Ai Aj) ∨ ((mxe_a l nl || (!wi d 0 20000 || decide (mf_at (fs_s (mr_p Ai Aj l d) 0 ne) ne = 100))) = false ∧ v = some (.inl (nI (mf_n (mf_at (fs_s (mr_p Ai Aj l d) 0 ne) ne) ne))) ∧ moS g' mo M (upd (upd I 0 0) 7 (nI (mf_n (mf_at (fs_s (mr_p Ai Aj l d) 0 ne) ne) ne))) (seqU (seqU Ai 8 (upd (Ai 8) (mf_at (fs_s (mr_p Ai Aj l d) 0 ne) ne) l)) 10 (upd (Ai 10) (mf_at (fs_s (mr_p Ai Aj l d) 0 ne) ne) x)) (seqJ Aj 9 (vp_updL (Aj 9) (mf_at (fs_s (mr_p Ai Aj l d) 0 ne) ne) d))))
theorem mf_le {P : Nat → Bool} {n : Nat} : mf_at (fs_s P 0 n) n ≤ n := by
  cases h : fs_s P 0 n with
  | none => exact Nat.le_refl _
  | some k =>
    have := fs_lt h
    show k ≤ n
    omega
set_option maxRecDepth 20000 in
set_option maxHeartbeats 8000000 in
theorem ct_X10_exception {G : pz_Gx} (hOk : pz_OK G) (gh : gt_X10_exception) : pz_M G yX10_exception cX10_exception 6 (some .int) rm_X10_exception (pr_X10_exception gh) (po_X10_exception gh) := by
  obtain ⟨⟨⟨l, d, x⟩, nl, ne⟩, mo, M, I, Ai, Aj⟩ := gh
  refine pz_ofZ (by decide) hOk.1 (Or.inr (Or.inl rfl)) ?_ ?_
  · rintro av g ⟨rfl, -⟩
    exact Nat.le_of_ble_eq_true rfl
  · rintro X hX hGX hrm - av g ⟨rfl, hx01, hnl, hnl40, hne, hne100, hm⟩ hR
    have h1 := hm.1
    have hat := mf_le (P := mr_p Ai Aj l d) (n := ne)
    -- behind the search
    have at83 : ∀ (A : Nat) (a b c : Bool) (lv : pz_L), A = mf_at (fs_s (mr_p Ai Aj l d) 0 ne) ne → a = mxe_a l nl → b = (!wi d 0 20000) → c = decide (A = 100) → pz_all lv [(5, .inl (nI A)), (0, .inr (.inr (some (mo)))), (1, .inl (l)), (2, .inr (.inl (d))), (4, .inl (x))] → pz_Z X 6 83 lv [.inl (b01 c), .inl (b01 b), .inl (b01 a), .inr (.inr (some (mo)))] g 0 0 := by
      intro A a b c lv hA ha hb hc hlv
      rw [← hA] at hat
      refine pz_lsub hlv ?_
      refine bX10_exception_83 hX hrm hGX hOk ((mo, a, b, c), M, I) (by decide) _ _ _ _ _ ⟨Nat.le_of_ble_eq_true rfl, ⟨mo, [.inl (b01 a), .inl (b01 b), .inl (b01 c)], [100], _, rfl, h1⟩, Nat.le_of_ble_eq_true rfl, Nat.le_of_ble_eq_true rfl, Nat.le_of_ble_eq_true rfl, ⟨rfl, h1⟩, ?_⟩
      rintro v g2 ⟨rfl, rfl⟩ z hz -
      cases hz
      obtain ⟨hm2, hS2⟩ := mo_f hm 0 (by decide) (rf3 a b c)
      refine ⟨fun q => ?_, fun q => ?_⟩
      · rw [b01_z] at q
        have hq := Bool.or_eq_false_iff.mp q
        have hq2 := Bool.or_eq_false_iff.mp hq.2
        rw [show rf3 a b c = 0 by rw [hq.1, hq2.1, hq2.2]; rfl] at hm2 hS2 ⊢
        have e0 : (mo_fs I M).set 0 (.inl 0) = mo_fs (upd I 0 0) M := mo_set 0 (by decide) 0
        rw [e0] at hm2 hS2 ⊢
        have hA1 : A < 100 := by
          have := of_decide_eq_false (hc ▸ hq2.2)
          omega
        have hI7 : upd I 0 0 7 = nI ne := by rw [pk_un (by decide), hne]
        have hAi : vp_in (nI A) 100 := ni_in hA1 (by omega)
        have hAc : (nI A).toNatClampNeg = A := ni_cl (by omega)
        obtain ⟨hm3, hS3⟩ := mo_i hm2 8 (by decide) (upd (Ai 8) A l)
        obtain ⟨hm4, hS4⟩ := mo_j hm3 9 (by decide) (vp_updL (Aj 9) A d)
        obtain ⟨hm5, hS5⟩ := mo_z hm4 (upd (Ai 10) A x)
        obtain ⟨hm6, hS6⟩ := mo_f hm5 7 (by decide) (nI (mf_n A ne))
        refine bX10_exception_91 hX _ _ _ _ _ ⟨_, _, _, hm2.1, rfl, _, _, _, hm2.2.1 8 (by decide), hAi, ?_⟩
        rw [hAc]
        refine ⟨_, _, _, hm3.1, rfl, _, _, _, hm3.2.2.2 9 (by decide), hAi, ?_⟩
        rw [hAc]
        refine ⟨_, _, _, hm4.1, rfl, _, _, _, hm4.2.2.1, hAi, ?_⟩
        rw [hAc, nar_01 hx01]
        refine ⟨_, _, _, hm5.1, rfl, ?_⟩
        have fin : ∀ (lv : pz_L), pz_f lv 0 = some (.inr (.inr (some (mo)))) → pz_Z X 6 139 lv [.inl (nI (mf_n A ne)), .inr (.inr (some (mo)))] (va_up (va_up (va_up (va_up g mo (some ([100], .inr (12, mo_fs (upd I 0 0) M)))) (M 8) (some ([101, 8], ar_i (mo_ln 8) (upd (Ai 8) A l)))) (M 9) (some ([101, 9], ar_j (mo_ln 9) (vp_updL (Aj 9) A d)))) (M 10) (some ([101, 10], ar_z 100 (upd (Ai 10) A x)))) 0 0 := by
          intro lv hlv
          refine pz_lsub (lv' := [(0, .inr (.inr (some (mo))))]) ⟨hlv, trivial⟩ ?_
          refine bX10_exception_139 hX hR _ _ _ _ _ ⟨_, _, hm5.1, Nat.le_of_ble_eq_true rfl, _, _, _, hm6.1, rfl, Nat.le_refl _, Nat.le_refl _, hg_tr hS2 (hg_tr hS3 (hg_tr hS4 (hg_tr hS5 hS6))), Or.inr ⟨?_, ?_, ?_⟩⟩
          · rw [← hA, ← ha, ← hb, ← hc]; exact q
          · show some (Sum.inl (upd (upd I 0 0) 7 (nI (mf_n A ne)) 7)) = _
            rw [pk_us, ← hA]
          · rw [← hA]; exact hm6
        rw [hI7]
        refine ⟨fun q2 => ?_, fun q2 => ?_⟩
        · have hne2 : A ≠ ne := fun e => q2 (by rw [e])
          refine bX10_exception_135 hX _ _ _ _ _ ⟨_, _, _, hm5.1, rfl, ?_⟩
          rw [hI7]
          have := fin [(5, .inl (nI A)), (0, .inr (.inr (some (mo)))), (1, .inl (l)), (2, .inr (.inl (d))), (4, .inl (x))] rfl
          rw [show mf_n A ne = ne from if_neg hne2] at this
          exact this
        · have hne2 : A = ne := ni_inj (by omega) (by omega) q2
          refine bX10_exception_126 hX _ _ _ _ _ ⟨_, _, _, hm5.1, rfl, ?_⟩
          rw [hI7]
          have := fin [(5, .inl (nI A)), (0, .inr (.inr (some (mo)))), (1, .inl (l)), (2, .inr (.inl (d))), (4, .inl (x))] rfl
          rw [show mf_n A ne = ne + 1 from if_pos hne2, ← nI_1] at this
          exact this
      · rw [b01_nz] at q
        exact bX10_exception_89 hX hR _ _ _ _ _ ⟨Nat.le_refl _, Nat.le_refl _, hS2, Or.inl ⟨by rw [← hA, ← ha, ← hb, ← hc]; exact q, rfl, by rw [← hA, ← ha, ← hb, ← hc]; exact hm2⟩⟩
    have at71 : ∀ (A : Nat) (a b : Bool) (lv : pz_L), A = mf_at (fs_s (mr_p Ai Aj l d) 0 ne) ne → a = mxe_a l nl → b = (!wi d 0 20000) → pz_all lv [(5, .inl (nI A)), (0, .inr (.inr (some (mo)))), (1, .inl (l)), (2, .inr (.inl (d))), (4, .inl (x))] → pz_Z X 6 71 lv [.inl (b01 b), .inl (b01 a), .inr (.inr (some (mo)))] g 0 0 := by
      intro A a b lv hA ha hb hlv
      rw [← hA] at hat
      refine pz_lsub hlv ?_
      refine bX10_exception_71 hX _ _ _ _ _ ⟨fun q => ?_, fun q => ?_⟩
      · refine bX10_exception_82 hX _ _ _ _ _ ?_
        exact at83 A a b false _ hA ha hb (decide_eq_false (fun e => q (by rw [e]; rfl))).symm ⟨rfl, rfl, rfl, rfl, rfl, trivial⟩
      · refine bX10_exception_78 hX _ _ _ _ _ ?_
        exact at83 A a b true _ hA ha hb (decide_eq_true (ni_inj (b := 100) (by omega) (by omega) q)).symm ⟨rfl, rfl, rfl, rfl, rfl, trivial⟩
    have at55 : ∀ (A : Nat) (a : Bool) (lv : pz_L), A = mf_at (fs_s (mr_p Ai Aj l d) 0 ne) ne → a = mxe_a l nl → pz_all lv [(5, .inl (nI A)), (0, .inr (.inr (some (mo)))), (1, .inl (l)), (2, .inr (.inl (d))), (4, .inl (x))] → pz_Z X 6 55 lv [.inl (b01 a), .inr (.inr (some (mo)))] g 0 0 := by
      intro A a lv hA ha hlv
      refine pz_lsub hlv ?_
      refine bX10_exception_55 hX _ _ _ _ _ ?_
      refine bX10_exception_60 hX hrm hGX hOk (d, 0, 20000) (by decide) _ _ _ _ _ ⟨Nat.le_of_ble_eq_true rfl, Nat.le_of_ble_eq_true rfl, Nat.le_of_ble_eq_true rfl, Nat.le_of_ble_eq_true rfl, rfl, ?_⟩
      rintro v g2 ⟨rfl, rfl⟩ z hz -
      cases hz
      refine ⟨fun q => ?_, fun q => ?_⟩
      · rw [b01_nz] at q
        refine bX10_exception_70 hX _ _ _ _ _ ?_
        exact at71 A a false _ hA ha (by rw [q]; rfl) ⟨rfl, rfl, rfl, rfl, rfl, trivial⟩
      · rw [b01_z] at q
        refine bX10_exception_66 hX _ _ _ _ _ ?_
        exact at71 A a true _ hA ha (by rw [q]; rfl) ⟨rfl, rfl, rfl, rfl, rfl, trivial⟩
    have at41 : ∀ (A : Nat) (lv : pz_L), A = mf_at (fs_s (mr_p Ai Aj l d) 0 ne) ne → pz_all lv [(5, .inl (nI A)), (0, .inr (.inr (some (mo)))), (1, .inl (l)), (2, .inr (.inl (d))), (4, .inl (x))] → pz_Z X 6 41 lv [] g 0 0 := by
      intro A lv hA hlv
      refine pz_lsub hlv ?_
      refine bX10_exception_41 hX _ _ _ _ _ ?_
      refine bX10_exception_44 hX hrm hGX hOk ((mo, l), M, I) (by decide) _ _ _ _ _ ⟨Nat.le_of_ble_eq_true rfl, ⟨mo, [.inl (l)], [100], _, rfl, h1⟩, Nat.le_of_ble_eq_true rfl, Nat.le_of_ble_eq_true rfl, Nat.le_of_ble_eq_true rfl, ⟨rfl, h1⟩, ?_⟩
      rintro v g2 ⟨rfl, rfl⟩ z hz -
      cases hz
      rw [hnl]
      refine ⟨fun q => ?_, fun q => ?_⟩
      · rw [b01_nz] at q
        refine bX10_exception_54 hX _ _ _ _ _ ?_
        exact at55 A false _ hA (by unfold mxe_a; rw [q]; rfl) ⟨rfl, rfl, rfl, rfl, rfl, trivial⟩
      · rw [b01_z] at q
        refine bX10_exception_50 hX _ _ _ _ _ ?_
        exact at55 A true _ hA (by unfold mxe_a; rw [q]; rfl) ⟨rfl, rfl, rfl, rfl, rfl, trivial⟩
    have loop : ∀ (m k : Nat), k + m = ne → fs_s (mr_p Ai Aj l d) 0 ne = fs_s (mr_p Ai Aj l d) k m → pz_Z X 6 3 [(5, .inl (nI k)), (0, .inr (.inr (some (mo)))), (1, .inl (l)), (2, .inr (.inl (d))), (4, .inl (x))] [] g 0 0 := by
      intro m
      induction m with
      | zero =>
        intro k hk he
        obtain rfl : k = ne := by omega
        refine bX10_exception_3 hX _ _ _ _ _ ⟨_, _, _, h1, rfl, fun _ => ?_, fun q => absurd (by rw [hne]; exact Int32.le_refl _) q⟩
        exact at41 k _ (by rw [he]; rfl) ⟨rfl, rfl, rfl, rfl, rfl, trivial⟩
      | succ m ih =>
        intro k hk he
        have hkc : (nI k).toNatClampNeg = k := ni_cl (by omega)
        have hki : vp_in (nI k) 100 := ni_in (by omega) (by omega)
        have e1 : fs_s (mr_p Ai Aj l d) k (m + 1) = if mr_p Ai Aj l d k = true then some k else fs_s (mr_p Ai Aj l d) (k + 1) m := rfl
        have nx : mr_p Ai Aj l d k = false → ∀ lv : pz_L, pz_all lv [(5, .inl (nI k)), (0, .inr (.inr (some (mo)))), (1, .inl (l)), (2, .inr (.inl (d))), (4, .inl (x))] → pz_Z X 6 35 lv [] g 0 0 := by
          intro hp lv hlv
          refine pz_lsub hlv ?_
          refine bX10_exception_35 hX _ _ _ _ _ ?_
          refine pz_lsub (lv' := [(5, .inl (nI (k + 1))), (0, .inr (.inr (some (mo)))), (1, .inl (l)), (2, .inr (.inl (d))), (4, .inl (x))]) ⟨ni_inc, rfl, rfl, rfl, rfl, trivial⟩ ?_
          exact ih (k + 1) (by omega) (by rw [he, e1, hp, if_neg (by decide)])
        refine bX10_exception_3 hX _ _ _ _ _ ⟨_, _, _, h1, rfl, fun q => absurd ((ni_le (by omega) (by omega)).mp (hne ▸ q)) (by omega), fun _ => ?_⟩
        refine bX10_exception_12 hX _ _ _ _ _ ⟨_, _, _, h1, rfl, _, _, _, hm.2.1 8 (by decide), hki, ?_⟩
        rw [hkc]
        refine ⟨fun q => ?_, fun q => ?_⟩
        · exact nx (by unfold mr_p; rw [decide_eq_false q]; rfl) _ ⟨rfl, rfl, rfl, rfl, rfl, trivial⟩
        · refine bX10_exception_23 hX _ _ _ _ _ ⟨_, _, _, h1, rfl, _, _, _, hm.2.2.2 9 (by decide), hki, ?_⟩
          rw [hkc]
          refine ⟨fun q2 => ?_, fun q2 => ?_⟩
          · refine at41 k _ ?_ ⟨rfl, rfl, rfl, rfl, rfl, trivial⟩
            rw [he, e1, if_pos (by unfold mr_p; rw [decide_eq_true q, decide_eq_true ((lc_eq _ _).mp q2)]; rfl)]
            rfl
          · exact nx (by unfold mr_p; rw [decide_eq_false (fun z => q2 ((lc_eq _ _).mpr z)), Bool.and_false]) _ ⟨rfl, rfl, rfl, rfl, rfl, trivial⟩
    refine bX10_exception_0 hX _ _ _ _ _ ?_
    refine pz_lsub (lv' := [(5, .inl (nI 0)), (0, .inr (.inr (some (mo)))), (1, .inl (l)), (2, .inr (.inl (d))), (4, .inl (x))]) ⟨rfl, rfl, rfl, rfl, rfl, trivial⟩ ?_
    exact loop ne 0 (by omega) rfl
set_option maxRecDepth 20000 in
theorem bX10_zone_0 {X : pz_C} (hX : pz_X X cX10_zone 8 RX10) : ∀ lv st g c s, (zo_ic 1 (0) (zo_is 2 5 (pz_Z X 8))) 0 lv st g c s → pz_Z X 8 0 lv st g c s := (zs_iconst hX dX10_zone_0 (by decide) (zs_istore hX dX10_zone_1 (by decide) (fun _ _ _ _ _ h => h)))
set_option maxRecDepth 20000 in
theorem bX10_zone_3 {X : pz_C} (hX : pz_X X cX10_zone 8 RX10) : ∀ lv st g c s, (zo_il 2 5 (zo_al 1 0 (zo_get 12 11 (zo_ic_ge 41 (pz_Z X 8))))) 3 lv st g c s → pz_Z X 8 3 lv st g c s := (zs_iload hX dX10_zone_3 (zs_aload_n hX dX10_zone_5 rfl (zs_get hX (C := RX10) (T := TX10) (N := 37) rfl in_X10 (by decide) mw_d2d27b6e dX10_zone_6 (zs_ic_ge hX dX10_zone_9 (by decide) (fun _ _ _ _ _ _ h => h)))))
set_option maxRecDepth 20000 in
theorem bX10_zone_12 {X : pz_C} (hX : pz_X X cX10_zone 8 RX10) : ∀ lv st g c s, (zo_al 1 0 (zo_get 12 12 (zo_il 2 5 (zo_iald (zo_il 1 1 (zo_ic_ne 35 (pz_Z X 8))))))) 12 lv st g c s → pz_Z X 8 12 lv st g c s := (zs_aload_n hX dX10_zone_12 rfl (zs_get hX (C := RX10) (T := TX10) (N := 37) rfl in_X10 (by decide) mw_9e763348 dX10_zone_13 (zs_iload hX dX10_zone_16 (zs_iald hX dX10_zone_18 (zs_iload_n hX dX10_zone_19 rfl (zs_ic_ne hX dX10_zone_20 (by decide) (fun _ _ _ _ _ _ h => h)))))))
set_option maxRecDepth 20000 in
theorem bX10_zone_23 {X : pz_C} (hX : pz_X X cX10_zone 8 RX10) : ∀ lv st g c s, (zo_al 1 0 (zo_get 12 13 (zo_il 2 5 (zo_lald (zo_ll 1 2 (zo_lcmp (zo_if_eq 41 (pz_Z X 8)))))))) 23 lv st g c s → pz_Z X 8 23 lv st g c s := (zs_aload_n hX dX10_zone_23 rfl (zs_get hX (C := RX10) (T := TX10) (N := 37) rfl in_X10 (by decide) mw_e59d7dce dX10_zone_24 (zs_iload hX dX10_zone_27 (zs_lald hX dX10_zone_29 (zs_lload_n hX dX10_zone_30 rfl (zs_lcmp hX dX10_zone_31 (zs_if_eq hX dX10_zone_32 (by decide) (fun _ _ _ _ _ _ h => h))))))))
set_option maxRecDepth 20000 in
theorem bX10_zone_35 {X : pz_C} (hX : pz_X X cX10_zone 8 RX10) : ∀ lv st g c s, (zo_inc 5 (1) (zo_goto 3 (pz_Z X 8))) 35 lv st g c s → pz_Z X 8 35 lv st g c s := (zs_iinc hX dX10_zone_35 (by decide) (by decide) (zs_goto hX dX10_zone_38 (by decide) (fun _ _ _ _ _ _ h => h)))
set_option maxRecDepth 20000 in
theorem bX10_zone_41 {X : pz_C} (hX : pz_X X cX10_zone 8 RX10) : ∀ lv st g c s, (zo_al 1 0 (zo_il 1 1 (pz_Z X 8))) 41 lv st g c s → pz_Z X 8 41 lv st g c s := (zs_aload_n hX dX10_zone_41 rfl (zs_iload_n hX dX10_zone_42 rfl (fun _ _ _ _ _ h => h)))
set_option maxRecDepth 20000 in
theorem bX10_zone_43 {X : pz_C} {G : pz_Gx} {rm : Room} (hX : pz_X X cX10_zone 8 RX10) (hrm : pz_rm X = rm) (hGX : pz_GX X G) (hOk : pz_OK G) (gh : gt_X10_isPlace) (hr_X10_isPlace : rm_X10_isPlace.frames + 1 ≤ rm.frames ∧ 8 + (1 + 11) + rm_X10_isPlace.locals ≤ rm.locals) : ∀ lv st g c s, (zo_cs rm 1 3 rm_X10_isPlace.cells rm_X10_isPlace.slots (pr_X10_isPlace gh) (po_X10_isPlace gh) (zo_kz (zo_if_ne 53 (pz_Z X 8)))) 43 lv st g c s → pz_Z X 8 43 lv st g c s := by
  subst hrm
  exact (zs_csS hX hGX (ct_X10_isPlace hOk gh) mw_57aced96 mw_2d6024eb mw_33939a39 mw_b2184c85 (by decide +kernel) hr_X10_isPlace dX10_zone_43 (zs_kz (zs_if_ne hX dX10_zone_46 (by decide) (fun _ _ _ _ _ _ h => h))))
set_option maxRecDepth 20000 in
theorem bX10_zone_49 {X : pz_C} (hX : pz_X X cX10_zone 8 RX10) : ∀ lv st g c s, (zo_ic 1 (1) (zo_goto 54 (pz_Z X 8))) 49 lv st g c s → pz_Z X 8 49 lv st g c s := (zs_iconst hX dX10_zone_49 (by decide) (zs_goto hX dX10_zone_50 (by decide) (fun _ _ _ _ _ _ h => h)))
set_option maxRecDepth 20000 in
theorem bX10_zone_53 {X : pz_C} (hX : pz_X X cX10_zone 8 RX10) : ∀ lv st g c s, (zo_ic 1 (0) (pz_Z X 8)) 53 lv st g c s → pz_Z X 8 53 lv st g c s := (zs_iconst hX dX10_zone_53 (by decide) (fun _ _ _ _ _ h => h))
set_option maxRecDepth 20000 in
theorem bX10_zone_54 {X : pz_C} (hX : pz_X X cX10_zone 8 RX10) : ∀ lv st g c s, (zo_ll 1 2 (zo_lc 1 (0) (zo_lc 3 (2000000000) (pz_Z X 8)))) 54 lv st g c s → pz_Z X 8 54 lv st g c s := (zs_lload_n hX dX10_zone_54 rfl (zs_lconst hX dX10_zone_55 (by decide) (zs_ldc2 hX dX10_zone_56 mw_a736ad55 (fun _ _ _ _ _ h => h))))
set_option maxRecDepth 20000 in
theorem bX10_zone_59 {X : pz_C} {G : pz_Gx} {rm : Room} (hX : pz_X X cX10_zone 8 RX10) (hrm : pz_rm X = rm) (hGX : pz_GX X G) (hOk : pz_OK G) (gh : gt_X10_within) (hr_X10_within : rm_X10_within.frames + 1 ≤ rm.frames ∧ 8 + (6 + 11) + rm_X10_within.locals ≤ rm.locals) : ∀ lv st g c s, (zo_cs rm 3 3 rm_X10_within.cells rm_X10_within.slots (pr_X10_within gh) (po_X10_within gh) (zo_kz (zo_if_eq 80 (pz_Z X 8)))) 59 lv st g c s → pz_Z X 8 59 lv st g c s := by
  subst hrm
  exact (zs_csS hX hGX (ct_X10_within hOk gh) mw_b2fd6b25 mw_bf52c9cc mw_33939a39 mw_fee1cb2c (by decide +kernel) hr_X10_within dX10_zone_59 (zs_kz (zs_if_eq hX dX10_zone_62 (by decide) (fun _ _ _ _ _ _ h => h))))
set_option maxRecDepth 20000 in
theorem bX10_zone_65 {X : pz_C} (hX : pz_X X cX10_zone 8 RX10) : ∀ lv st g c s, (zo_il 2 4 (zo_i2l (zo_lc 3 (-900) (zo_lc 3 (900) (pz_Z X 8))))) 65 lv st g c s → pz_Z X 8 65 lv st g c s := (zs_iload hX dX10_zone_65 (zs_i2l hX dX10_zone_67 (zs_ldc2 hX dX10_zone_68 mw_a236f6e0 (zs_ldc2 hX dX10_zone_71 mw_6def7dd5 (fun _ _ _ _ _ h => h)))))
set_option maxRecDepth 20000 in
theorem bX10_zone_74 {X : pz_C} {G : pz_Gx} {rm : Room} (hX : pz_X X cX10_zone 8 RX10) (hrm : pz_rm X = rm) (hGX : pz_GX X G) (hOk : pz_OK G) (gh : gt_X10_within) (hr_X10_within : rm_X10_within.frames + 1 ≤ rm.frames ∧ 8 + (6 + 11) + rm_X10_within.locals ≤ rm.locals) : ∀ lv st g c s, (zo_cs rm 3 3 rm_X10_within.cells rm_X10_within.slots (pr_X10_within gh) (po_X10_within gh) (zo_kz (zo_if_ne 84 (pz_Z X 8)))) 74 lv st g c s → pz_Z X 8 74 lv st g c s := by
  subst hrm
  exact (zs_csS hX hGX (ct_X10_within hOk gh) mw_b2fd6b25 mw_bf52c9cc mw_33939a39 mw_fee1cb2c (by decide +kernel) hr_X10_within dX10_zone_74 (zs_kz (zs_if_ne hX dX10_zone_77 (by decide) (fun _ _ _ _ _ _ h => h))))
set_option maxRecDepth 20000 in
theorem bX10_zone_80 {X : pz_C} (hX : pz_X X cX10_zone 8 RX10) : ∀ lv st g c s, (zo_ic 1 (1) (zo_goto 85 (pz_Z X 8))) 80 lv st g c s → pz_Z X 8 80 lv st g c s := (zs_iconst hX dX10_zone_80 (by decide) (zs_goto hX dX10_zone_81 (by decide) (fun _ _ _ _ _ _ h => h)))
set_option maxRecDepth 20000 in
theorem bX10_zone_84 {X : pz_C} (hX : pz_X X cX10_zone 8 RX10) : ∀ lv st g c s, (zo_ic 1 (0) (pz_Z X 8)) 84 lv st g c s → pz_Z X 8 84 lv st g c s := (zs_iconst hX dX10_zone_84 (by decide) (fun _ _ _ _ _ h => h))
set_option maxRecDepth 20000 in
theorem bX10_zone_85 {X : pz_C} (hX : pz_X X cX10_zone 8 RX10) : ∀ lv st g c s, (zo_il 2 5 (zo_ic 2 (100) (zo_ic_ne 96 (pz_Z X 8)))) 85 lv st g c s → pz_Z X 8 85 lv st g c s := (zs_iload hX dX10_zone_85 (zs_bipush hX dX10_zone_87 (by decide) (zs_ic_ne hX dX10_zone_89 (by decide) (fun _ _ _ _ _ _ h => h))))
set_option maxRecDepth 20000 in
theorem bX10_zone_92 {X : pz_C} (hX : pz_X X cX10_zone 8 RX10) : ∀ lv st g c s, (zo_ic 1 (1) (zo_goto 97 (pz_Z X 8))) 92 lv st g c s → pz_Z X 8 92 lv st g c s := (zs_iconst hX dX10_zone_92 (by decide) (zs_goto hX dX10_zone_93 (by decide) (fun _ _ _ _ _ _ h => h)))
set_option maxRecDepth 20000 in
theorem bX10_zone_96 {X : pz_C} (hX : pz_X X cX10_zone 8 RX10) : ∀ lv st g c s, (zo_ic 1 (0) (pz_Z X 8)) 96 lv st g c s → pz_Z X 8 96 lv st g c s := (zs_iconst hX dX10_zone_96 (by decide) (fun _ _ _ _ _ h => h))
set_option maxRecDepth 20000 in
theorem bX10_zone_97 {X : pz_C} {G : pz_Gx} {rm : Room} (hX : pz_X X cX10_zone 8 RX10) (hrm : pz_rm X = rm) (hGX : pz_GX X G) (hOk : pz_OK G) (gh : gt_X10_refused) (hr_X10_refused : rm_X10_refused.frames + 1 ≤ rm.frames ∧ 8 + (4 + 11) + rm_X10_refused.locals ≤ rm.locals) : ∀ lv st g c s, (zo_cV rm 12 3 3 rm_X10_refused.cells rm_X10_refused.slots (pr_X10_refused gh) (po_X10_refused gh) (zo_kz (zo_if_eq 105 (pz_Z X 8)))) 97 lv st g c s → pz_Z X 8 97 lv st g c s := by
  subst hrm
  exact (zs_csV hX hGX (C := RX10) (T := TX10) (N := 37) rfl (ct_X10_refused hOk gh) mw_53c1f8a2 mw_ba17b74c mw_7c91c019 mw_33939a39 mw_471b458e (by decide +kernel) hr_X10_refused dX10_zone_97 (zs_kz (zs_if_eq hX dX10_zone_100 (by decide) (fun _ _ _ _ _ _ h => h))))
set_option maxRecDepth 20000 in
theorem bX10_zone_103 {X : pz_C} {rm : Room} {E : Option pz_V → pz_H → Prop} (hX : pz_X X cX10_zone 8 RX10) (hR : pz_Rt X cX10_zone 8 (some .int) rm E) : ∀ lv st g c s, (zo_ic 1 (0) (zo_ri rm E)) 103 lv st g c s → pz_Z X 8 103 lv st g c s := (zs_iconst hX dX10_zone_103 (by decide) (zs_ri hR dX10_zone_104))
set_option maxRecDepth 20000 in
theorem bX10_zone_105 {X : pz_C} (hX : pz_X X cX10_zone 8 RX10) : ∀ lv st g c s, (zo_al 1 0 (zo_get 12 12 (zo_il 2 5 (zo_il 1 1 (zo_iast (zo_al 1 0 (zo_get 12 13 (zo_il 2 5 (zo_ll 1 2 (zo_last (zo_al 1 0 (zo_get 12 14 (zo_il 2 5 (zo_il 2 4 (zo_iast (zo_al 1 0 (zo_il 2 5 (zo_al 1 0 (zo_get 12 11 (zo_ic_ne 149 (pz_Z X 8))))))))))))))))))))) 105 lv st g c s → pz_Z X 8 105 lv st g c s := (zs_aload_n hX dX10_zone_105 rfl (zs_get hX (C := RX10) (T := TX10) (N := 37) rfl in_X10 (by decide) mw_9e763348 dX10_zone_106 (zs_iload hX dX10_zone_109 (zs_iload_n hX dX10_zone_111 rfl (zs_iast hX dX10_zone_112 (zs_aload_n hX dX10_zone_113 rfl (zs_get hX (C := RX10) (T := TX10) (N := 37) rfl in_X10 (by decide) mw_e59d7dce dX10_zone_114 (zs_iload hX dX10_zone_117 (zs_lload_n hX dX10_zone_119 rfl (zs_last hX dX10_zone_120 (zs_aload_n hX dX10_zone_121 rfl (zs_get hX (C := RX10) (T := TX10) (N := 37) rfl in_X10 (by decide) mw_9d3a66d3 dX10_zone_122 (zs_iload hX dX10_zone_125 (zs_iload hX dX10_zone_127 (zs_iast hX dX10_zone_129 (zs_aload_n hX dX10_zone_130 rfl (zs_iload hX dX10_zone_131 (zs_aload_n hX dX10_zone_133 rfl (zs_get hX (C := RX10) (T := TX10) (N := 37) rfl in_X10 (by decide) mw_d2d27b6e dX10_zone_134 (zs_ic_ne hX dX10_zone_137 (by decide) (fun _ _ _ _ _ _ h => h)))))))))))))))))))))
set_option maxRecDepth 20000 in
theorem bX10_zone_140 {X : pz_C} (hX : pz_X X cX10_zone 8 RX10) : ∀ lv st g c s, (zo_al 1 0 (zo_get 12 11 (zo_ic 1 (1) (zo_iadd (zo_goto 153 (pz_Z X 8)))))) 140 lv st g c s → pz_Z X 8 140 lv st g c s := (zs_aload_n hX dX10_zone_140 rfl (zs_get hX (C := RX10) (T := TX10) (N := 37) rfl in_X10 (by decide) mw_d2d27b6e dX10_zone_141 (zs_iconst hX dX10_zone_144 (by decide) (zs_iadd hX dX10_zone_145 (zs_goto hX dX10_zone_146 (by decide) (fun _ _ _ _ _ _ h => h))))))
set_option maxRecDepth 20000 in
theorem bX10_zone_149 {X : pz_C} (hX : pz_X X cX10_zone 8 RX10) : ∀ lv st g c s, (zo_al 1 0 (zo_get 12 11 (pz_Z X 8))) 149 lv st g c s → pz_Z X 8 149 lv st g c s := (zs_aload_n hX dX10_zone_149 rfl (zs_get hX (C := RX10) (T := TX10) (N := 37) rfl in_X10 (by decide) mw_d2d27b6e dX10_zone_150 (fun _ _ _ _ _ h => h)))
set_option maxRecDepth 20000 in
theorem bX10_zone_153 {X : pz_C} (hX : pz_X X cX10_zone 8 RX10) : ∀ lv st g c s, (zo_puti 12 11 (zo_ic 1 (0) (zo_is 2 6 (zo_ic 1 (0) (zo_is 2 7 (pz_Z X 8)))))) 153 lv st g c s → pz_Z X 8 153 lv st g c s := (zs_puti hX (C := RX10) (T := TX10) (N := 37) rfl in_X10 (by decide) mw_d2d27b6e tyX10 tyX10_ok nmX10 (by decide +kernel) rfl dX10_zone_153 (zs_iconst hX dX10_zone_156 (by decide) (zs_istore hX dX10_zone_157 (by decide) (zs_iconst hX dX10_zone_159 (by decide) (zs_istore hX dX10_zone_160 (by decide) (fun _ _ _ _ _ h => h))))))
set_option maxRecDepth 20000 in
theorem bX10_zone_162 {X : pz_C} (hX : pz_X X cX10_zone 8 RX10) : ∀ lv st g c s, (zo_il 2 7 (zo_al 1 0 (zo_get 12 11 (zo_ic_ge 199 (pz_Z X 8))))) 162 lv st g c s → pz_Z X 8 162 lv st g c s := (zs_iload hX dX10_zone_162 (zs_aload_n hX dX10_zone_164 rfl (zs_get hX (C := RX10) (T := TX10) (N := 37) rfl in_X10 (by decide) mw_d2d27b6e dX10_zone_165 (zs_ic_ge hX dX10_zone_168 (by decide) (fun _ _ _ _ _ _ h => h)))))
set_option maxRecDepth 20000 in
theorem bX10_zone_171 {X : pz_C} (hX : pz_X X cX10_zone 8 RX10) : ∀ lv st g c s, (zo_al 1 0 (zo_get 12 12 (zo_il 2 7 (zo_iald (zo_il 1 1 (zo_ic_ne 189 (pz_Z X 8))))))) 171 lv st g c s → pz_Z X 8 171 lv st g c s := (zs_aload_n hX dX10_zone_171 rfl (zs_get hX (C := RX10) (T := TX10) (N := 37) rfl in_X10 (by decide) mw_9e763348 dX10_zone_172 (zs_iload hX dX10_zone_175 (zs_iald hX dX10_zone_177 (zs_iload_n hX dX10_zone_178 rfl (zs_ic_ne hX dX10_zone_179 (by decide) (fun _ _ _ _ _ _ h => h)))))))
set_option maxRecDepth 20000 in
theorem bX10_zone_182 {X : pz_C} (hX : pz_X X cX10_zone 8 RX10) : ∀ lv st g c s, (zo_il 2 6 (zo_ic 1 (1) (zo_iadd (zo_goto 191 (pz_Z X 8))))) 182 lv st g c s → pz_Z X 8 182 lv st g c s := (zs_iload hX dX10_zone_182 (zs_iconst hX dX10_zone_184 (by decide) (zs_iadd hX dX10_zone_185 (zs_goto hX dX10_zone_186 (by decide) (fun _ _ _ _ _ _ h => h)))))
set_option maxRecDepth 20000 in
theorem bX10_zone_189 {X : pz_C} (hX : pz_X X cX10_zone 8 RX10) : ∀ lv st g c s, (zo_il 2 6 (pz_Z X 8)) 189 lv st g c s → pz_Z X 8 189 lv st g c s := (zs_iload hX dX10_zone_189 (fun _ _ _ _ _ h => h))
set_option maxRecDepth 20000 in
theorem bX10_zone_191 {X : pz_C} (hX : pz_X X cX10_zone 8 RX10) : ∀ lv st g c s, (zo_is 2 6 (zo_inc 7 (1) (zo_goto 162 (pz_Z X 8)))) 191 lv st g c s → pz_Z X 8 191 lv st g c s := (zs_istore hX dX10_zone_191 (by decide) (zs_iinc hX dX10_zone_193 (by decide) (by decide) (zs_goto hX dX10_zone_196 (by decide) (fun _ _ _ _ _ _ h => h))))
set_option maxRecDepth 20000 in
theorem bX10_zone_199 {X : pz_C} {rm : Room} {E : Option pz_V → pz_H → Prop} (hX : pz_X X cX10_zone 8 RX10) (hR : pz_Rt X cX10_zone 8 (some .int) rm E) : ∀ lv st g c s, (zo_il 2 6 (zo_ri rm E)) 199 lv st g c s → pz_Z X 8 199 lv st g c s := (zs_iload hX dX10_zone_199 (zs_ri hR dX10_zone_201))
def mz_p (Ai : Nat → Nat → Int32) (Aj : Nat → Nat → Int64) (p : Int32) (f : Int64) (k : Nat) : Bool := decide (Ai 12 k = p) && decide (Aj 13 k = f)
def mz_b (f : Int64) (m : Int32) : Bool := !wi f 0 2000000000 || !wi m.toInt64 (-900) 900
def mz_c (Z : Nat → Int32) (p : Int32) : Nat → Nat
  | 0 => 0
  | k + 1 => if Z k = p then mz_c Z p k + 1 else mz_c Z p k
theorem mz_cle {Z : Nat → Int32} {p : Int32} : ∀ k, mz_c Z p k ≤ k
  | 0 => Nat.le_refl _
  | k + 1 => by
    unfold mz_c
    have := mz_cle (Z := Z) (p := p) k
    split <;> omega
def rm_X10_zone : Room := { frames := 2, cells := 0, slots := 0, locals := 46 }
abbrev gt_X10_zone : Type := ((Int32 × Int64 × Int32) × Nat) × mo_T
def pr_X10_zone : gt_X10_zone → List pz_V → pz_H → Prop := fun (((p, f, x), nz), (mo, M, I, Ai, Aj)) av g => av = [.inr (.inr (some (mo))), .inl (p), .inr (.inl (f)), .inl (x)] ∧ I 11 = nI nz ∧ nz ≤ 100 ∧ moS g mo M I Ai Aj
def mz_a (Ai : Nat → Nat → Int32) (Aj : Nat → Nat → Int64) (p : Int32) (f : Int64) (nz : Nat) : Nat := mf_at (fs_s (mz_p Ai Aj p f) 0 nz) nz
def po_X10_zone : gt_X10_zone → List pz_V → pz_H → Option pz_V → pz_H → Prop := fun (((p, f, x), nz), (mo, M, I, Ai, Aj)) _ g v g' => hg moL g g' ∧ (((!wi p.toInt64 0 99 || (mz_b f x || decide (mz_a Ai Aj p f nz = 100))) = true ∧ v = some (.inl 0) ∧ moS g' mo M (upd I 0 (rf3 (!wi p.toInt64 0 99) (mz_b f x) (decide (mz_a Ai Aj p f nz = 100)))) Ai Aj) ∨ ((!wi p.toInt64 0 99 || (mz_b f x || decide (mz_a Ai Aj p f nz = 100))) = false ∧ v = some (.inl (nI (mz_c (upd (Ai 12) (mz_a Ai Aj p f nz) p) p (mf_n (mz_a Ai Aj p f nz) nz)))) ∧ moS g' mo M (upd (upd I 0 0) 11 (nI (mf_n (mz_a Ai Aj p f nz) nz))) (seqU (seqU Ai 12 (upd (Ai 12) (mz_a Ai Aj p f nz) p)) 14 (upd (Ai 14) (mz_a Ai Aj p f nz) x)) (seqJ Aj 13 (vp_updL (Aj 13) (mz_a Ai Aj p f nz) f))))
set_option maxRecDepth 20000 in
set_option maxHeartbeats 8000000 in
theorem ct_X10_zone {G : pz_Gx} (hOk : pz_OK G) (gh : gt_X10_zone) : pz_M G yX10_zone cX10_zone 8 (some .int) rm_X10_zone (pr_X10_zone gh) (po_X10_zone gh) := by
  obtain ⟨⟨⟨p, f, x⟩, nz⟩, mo, M, I, Ai, Aj⟩ := gh
  refine pz_ofZ (by decide) hOk.1 (Or.inr (Or.inl rfl)) ?_ ?_
  · rintro av g ⟨rfl, -⟩
    exact Nat.le_of_ble_eq_true rfl
  · rintro X hX hGX hrm - av g ⟨rfl, hnz, hnz100, hm⟩ hR
    have h1 := hm.1
    have hat : mz_a Ai Aj p f nz ≤ nz := mf_le (P := mz_p Ai Aj p f) (n := nz)
    have at97 : ∀ (A : Nat) (a b c : Bool) (lv : pz_L), A = mz_a Ai Aj p f nz → a = (!wi p.toInt64 0 99) → b = mz_b f x → c = decide (A = 100) → pz_all lv [(5, .inl (nI A)), (0, .inr (.inr (some (mo)))), (1, .inl (p)), (2, .inr (.inl (f))), (4, .inl (x))] → pz_Z X 8 97 lv [.inl (b01 c), .inl (b01 b), .inl (b01 a), .inr (.inr (some (mo)))] g 0 0 := by
      intro A a b c lv hA ha hb hc hlv
      rw [← hA] at hat
      refine pz_lsub hlv ?_
      refine bX10_zone_97 hX hrm hGX hOk ((mo, a, b, c), M, I) (by decide) _ _ _ _ _ ⟨Nat.le_of_ble_eq_true rfl, ⟨mo, [.inl (b01 a), .inl (b01 b), .inl (b01 c)], [100], _, rfl, h1⟩, Nat.le_of_ble_eq_true rfl, Nat.le_of_ble_eq_true rfl, Nat.le_of_ble_eq_true rfl, ⟨rfl, h1⟩, ?_⟩
      rintro v g2 ⟨rfl, rfl⟩ z hz -
      cases hz
      obtain ⟨hm2, hS2⟩ := mo_f hm 0 (by decide) (rf3 a b c)
      refine ⟨fun q => ?_, fun q => ?_⟩
      · rw [b01_z] at q
        have hq := Bool.or_eq_false_iff.mp q
        have hq2 := Bool.or_eq_false_iff.mp hq.2
        rw [show rf3 a b c = 0 by rw [hq.1, hq2.1, hq2.2]; rfl] at hm2 hS2 ⊢
        have e0 : (mo_fs I M).set 0 (.inl 0) = mo_fs (upd I 0 0) M := mo_set 0 (by decide) 0
        rw [e0] at hm2 hS2 ⊢
        have hA1 : A < 100 := by
          have := of_decide_eq_false (hc ▸ hq2.2)
          omega
        have hI7 : upd I 0 0 11 = nI nz := by rw [pk_un (by decide), hnz]
        have hAi : vp_in (nI A) 100 := ni_in hA1 (by omega)
        have hAc : (nI A).toNatClampNeg = A := ni_cl (by omega)
        obtain ⟨hm3, hS3⟩ := mo_i hm2 12 (by decide) (upd (Ai 12) A p)
        obtain ⟨hm4, hS4⟩ := mo_j hm3 13 (by decide) (vp_updL (Aj 13) A f)
        obtain ⟨hm5, hS5⟩ := mo_i hm4 14 (by decide) (upd (Ai 14) A x)
        obtain ⟨hm6, hS6⟩ := mo_f hm5 11 (by decide) (nI (mf_n A nz))
        have hA2 : mf_n A nz ≤ 100 := by unfold mf_n; split <;> omega
        refine bX10_zone_105 hX _ _ _ _ _ ⟨_, _, _, hm2.1, rfl, _, _, _, hm2.2.1 12 (by decide), hAi, ?_⟩
        rw [hAc]
        refine ⟨_, _, _, hm3.1, rfl, _, _, _, hm3.2.2.2 13 (by decide), hAi, ?_⟩
        rw [hAc]
        refine ⟨_, _, _, hm4.1, rfl, _, _, _, hm4.2.1 14 (by decide), hAi, ?_⟩
        rw [hAc]
        refine ⟨_, _, _, hm5.1, rfl, ?_⟩
        have hSS := hg_tr hS2 (hg_tr hS3 (hg_tr hS4 (hg_tr hS5 hS6)))
        generalize hg6 : va_up (va_up (va_up (va_up (va_up g mo (some ([100], .inr (12, mo_fs (upd I 0 0) M)))) (M 12) (some ([101, 12], ar_i (mo_ln 12) (upd (Ai 12) A p)))) (M 13) (some ([101, 13], ar_j (mo_ln 13) (vp_updL (Aj 13) A f)))) (M 14) (some ([101, 14], ar_i (mo_ln 14) (upd (Ai 14) A x)))) mo (some ([100], .inr (12, (mo_fs (upd I 0 0) M).set 11 (.inl (nI (mf_n A nz)))))) = g6 at hm6 hSS
        have loop : ∀ (m k : Nat), k + m = mf_n A nz → pz_Z X 8 162 [(7, .inl (nI k)), (6, .inl (nI (mz_c (upd (Ai 12) A p) p k))), (0, .inr (.inr (some (mo)))), (1, .inl (p))] [] g6 0 0 := by
          intro m
          induction m with
          | zero =>
            intro k hk
            obtain rfl : k = mf_n A nz := by omega
            refine bX10_zone_162 hX _ _ _ _ _ ⟨_, _, _, hm6.1, rfl, fun _ => ?_, fun q2 => absurd (by rw [pk_us]; exact Int32.le_refl _) q2⟩
            exact bX10_zone_199 hX hR _ _ _ _ _ ⟨Nat.le_refl _, Nat.le_refl _, hSS, Or.inr ⟨by rw [← hA, ← ha, ← hb, ← hc]; exact q, by rw [← hA], by rw [← hA]; exact hm6⟩⟩
          | succ m ih =>
            intro k hk
            have hkc : (nI k).toNatClampNeg = k := ni_cl (by omega)
            have hki : vp_in (nI k) 100 := ni_in (by omega) (by omega)
            have hcle := mz_cle (Z := upd (Ai 12) A p) (p := p) k
            have m12 : g6 (M 12) = some ([101, 12], ar_i 100 (upd (Ai 12) A p)) := hm6.2.1 12 (by decide)
            refine bX10_zone_162 hX _ _ _ _ _ ⟨_, _, _, hm6.1, rfl, fun q2 => ?_, fun _ => ?_⟩
            · rw [pk_us] at q2
              exact absurd ((ni_le (by omega) (by omega)).mp q2) (by omega)
            refine bX10_zone_171 hX _ _ _ _ _ ⟨_, _, _, hm6.1, rfl, _, _, _, m12, hki, ?_⟩
            rw [hkc]
            refine ⟨fun q2 => ?_, fun q2 => ?_⟩
            · refine bX10_zone_189 hX _ _ _ _ _ ?_
              refine bX10_zone_191 hX _ _ _ _ _ ?_
              refine pz_lsub (lv' := [(7, .inl (nI (k + 1))), (6, .inl (nI (mz_c (upd (Ai 12) A p) p (k + 1)))), (0, .inr (.inr (some (mo)))), (1, .inl (p))]) ⟨ni_inc, ?_, rfl, rfl, trivial⟩ ?_
              · rw [show mz_c (upd (Ai 12) A p) p (k + 1) = mz_c (upd (Ai 12) A p) p k from if_neg q2]; rfl
              · exact ih (k + 1) (by omega)
            · refine bX10_zone_182 hX _ _ _ _ _ ?_
              refine bX10_zone_191 hX _ _ _ _ _ ?_
              refine pz_lsub (lv' := [(7, .inl (nI (k + 1))), (6, .inl (nI (mz_c (upd (Ai 12) A p) p (k + 1)))), (0, .inr (.inr (some (mo)))), (1, .inl (p))]) ⟨ni_inc, ?_, rfl, rfl, trivial⟩ ?_
              · rw [show mz_c (upd (Ai 12) A p) p (k + 1) = mz_c (upd (Ai 12) A p) p k + 1 from if_pos q2, ← nI_1]; rfl
              · exact ih (k + 1) (by omega)
        have fin : ∀ (lv : pz_L), pz_f lv 0 = some (.inr (.inr (some (mo)))) → pz_f lv 1 = some (.inl (p)) → pz_Z X 8 153 lv [.inl (nI (mf_n A nz)), .inr (.inr (some (mo)))] (va_up (va_up (va_up (va_up g mo (some ([100], .inr (12, mo_fs (upd I 0 0) M)))) (M 12) (some ([101, 12], ar_i (mo_ln 12) (upd (Ai 12) A p)))) (M 13) (some ([101, 13], ar_j (mo_ln 13) (vp_updL (Aj 13) A f)))) (M 14) (some ([101, 14], ar_i (mo_ln 14) (upd (Ai 14) A x)))) 0 0 := by
          intro lv hlv hlv1
          refine pz_lsub (lv' := [(0, .inr (.inr (some (mo)))), (1, .inl (p))]) ⟨hlv, hlv1, trivial⟩ ?_
          refine bX10_zone_153 hX _ _ _ _ _ ⟨_, _, hm5.1, Nat.le_of_ble_eq_true rfl, ?_⟩
          rw [hg6]
          refine pz_lsub (lv' := [(7, .inl (nI 0)), (6, .inl (nI (mz_c (upd (Ai 12) A p) p 0))), (0, .inr (.inr (some (mo)))), (1, .inl (p))]) ⟨rfl, rfl, rfl, rfl, trivial⟩ ?_
          exact loop (mf_n A nz) 0 (by omega)
        rw [hI7]
        refine ⟨fun q2 => ?_, fun q2 => ?_⟩
        · have hne2 : A ≠ nz := fun e => q2 (by rw [e])
          refine bX10_zone_149 hX _ _ _ _ _ ⟨_, _, _, hm5.1, rfl, ?_⟩
          rw [hI7]
          have := fin [(5, .inl (nI A)), (0, .inr (.inr (some (mo)))), (1, .inl (p)), (2, .inr (.inl (f))), (4, .inl (x))] rfl rfl
          rw [show mf_n A nz = nz from if_neg hne2] at this
          exact this
        · have hne2 : A = nz := ni_inj (by omega) (by omega) q2
          refine bX10_zone_140 hX _ _ _ _ _ ⟨_, _, _, hm5.1, rfl, ?_⟩
          rw [hI7]
          have := fin [(5, .inl (nI A)), (0, .inr (.inr (some (mo)))), (1, .inl (p)), (2, .inr (.inl (f))), (4, .inl (x))] rfl rfl
          rw [show mf_n A nz = nz + 1 from if_pos hne2, ← nI_1] at this
          exact this
      · rw [b01_nz] at q
        exact bX10_zone_103 hX hR _ _ _ _ _ ⟨Nat.le_refl _, Nat.le_refl _, hS2, Or.inl ⟨by rw [← hA, ← ha, ← hb, ← hc]; exact q, rfl, by rw [← hA, ← ha, ← hb, ← hc]; exact hm2⟩⟩
    have at85 : ∀ (A : Nat) (a b : Bool) (lv : pz_L), A = mz_a Ai Aj p f nz → a = (!wi p.toInt64 0 99) → b = mz_b f x → pz_all lv [(5, .inl (nI A)), (0, .inr (.inr (some (mo)))), (1, .inl (p)), (2, .inr (.inl (f))), (4, .inl (x))] → pz_Z X 8 85 lv [.inl (b01 b), .inl (b01 a), .inr (.inr (some (mo)))] g 0 0 := by
      intro A a b lv hA ha hb hlv
      rw [← hA] at hat
      refine pz_lsub hlv ?_
      refine bX10_zone_85 hX _ _ _ _ _ ⟨fun q => ?_, fun q => ?_⟩
      · refine bX10_zone_96 hX _ _ _ _ _ ?_
        exact at97 A a b false _ hA ha hb (decide_eq_false (fun e => q (by rw [e]; rfl))).symm ⟨rfl, rfl, rfl, rfl, rfl, trivial⟩
      · refine bX10_zone_92 hX _ _ _ _ _ ?_
        exact at97 A a b true _ hA ha hb (decide_eq_true (ni_inj (b := 100) (by omega) (by omega) q)).symm ⟨rfl, rfl, rfl, rfl, rfl, trivial⟩
    have at54 : ∀ (A : Nat) (a : Bool) (lv : pz_L), A = mz_a Ai Aj p f nz → a = (!wi p.toInt64 0 99) → pz_all lv [(5, .inl (nI A)), (0, .inr (.inr (some (mo)))), (1, .inl (p)), (2, .inr (.inl (f))), (4, .inl (x))] → pz_Z X 8 54 lv [.inl (b01 a), .inr (.inr (some (mo)))] g 0 0 := by
      intro A a lv hA ha hlv
      have bad : mz_b f x = true → ∀ lv : pz_L, pz_all lv [(5, .inl (nI A)), (0, .inr (.inr (some (mo)))), (1, .inl (p)), (2, .inr (.inl (f))), (4, .inl (x))] → pz_Z X 8 80 lv [.inl (b01 a), .inr (.inr (some (mo)))] g 0 0 := by
        intro h lv hlv
        refine pz_lsub hlv ?_
        refine bX10_zone_80 hX _ _ _ _ _ ?_
        exact at85 A a true _ hA ha h.symm ⟨rfl, rfl, rfl, rfl, rfl, trivial⟩
      refine pz_lsub hlv ?_
      refine bX10_zone_54 hX _ _ _ _ _ ?_
      refine bX10_zone_59 hX hrm hGX hOk (f, 0, 2000000000) (by decide) _ _ _ _ _ ⟨Nat.le_of_ble_eq_true rfl, Nat.le_of_ble_eq_true rfl, Nat.le_of_ble_eq_true rfl, Nat.le_of_ble_eq_true rfl, rfl, ?_⟩
      rintro v g2 ⟨rfl, rfl⟩ z hz -
      cases hz
      refine ⟨fun q => ?_, fun q => ?_⟩
      · rw [b01_z] at q
        exact bad (by unfold mz_b; rw [q]; rfl) _ ⟨rfl, rfl, rfl, rfl, rfl, trivial⟩
      · rw [b01_nz] at q
        refine bX10_zone_65 hX _ _ _ _ _ ?_
        refine bX10_zone_74 hX hrm hGX hOk (x.toInt64, -900, 900) (by decide) _ _ _ _ _ ⟨Nat.le_of_ble_eq_true rfl, Nat.le_of_ble_eq_true rfl, Nat.le_of_ble_eq_true rfl, Nat.le_of_ble_eq_true rfl, rfl, ?_⟩
        rintro v g2 ⟨rfl, rfl⟩ z hz -
        cases hz
        refine ⟨fun q2 => ?_, fun q2 => ?_⟩
        · rw [b01_nz] at q2
          refine bX10_zone_84 hX _ _ _ _ _ ?_
          exact at85 A a false _ hA ha (by unfold mz_b; rw [q, q2]; rfl) ⟨rfl, rfl, rfl, rfl, rfl, trivial⟩
        · rw [b01_z] at q2
          exact bad (by unfold mz_b; rw [q2]; simp) _ ⟨rfl, rfl, rfl, rfl, rfl, trivial⟩
    have at41 : ∀ (A : Nat) (lv : pz_L), A = mz_a Ai Aj p f nz → pz_all lv [(5, .inl (nI A)), (0, .inr (.inr (some (mo)))), (1, .inl (p)), (2, .inr (.inl (f))), (4, .inl (x))] → pz_Z X 8 41 lv [] g 0 0 := by
      intro A lv hA hlv
      refine pz_lsub hlv ?_
      refine bX10_zone_41 hX _ _ _ _ _ ?_
      refine bX10_zone_43 hX hrm hGX hOk p (by decide) _ _ _ _ _ ⟨Nat.le_of_ble_eq_true rfl, Nat.le_of_ble_eq_true rfl, Nat.le_of_ble_eq_true rfl, Nat.le_of_ble_eq_true rfl, rfl, ?_⟩
      rintro v g2 ⟨rfl, rfl⟩ z hz -
      cases hz
      refine ⟨fun q => ?_, fun q => ?_⟩
      · rw [b01_nz] at q
        refine bX10_zone_53 hX _ _ _ _ _ ?_
        exact at54 A false _ hA (by rw [q]; rfl) ⟨rfl, rfl, rfl, rfl, rfl, trivial⟩
      · rw [b01_z] at q
        refine bX10_zone_49 hX _ _ _ _ _ ?_
        exact at54 A true _ hA (by rw [q]; rfl) ⟨rfl, rfl, rfl, rfl, rfl, trivial⟩
    have loop : ∀ (m k : Nat), k + m = nz → fs_s (mz_p Ai Aj p f) 0 nz = fs_s (mz_p Ai Aj p f) k m → pz_Z X 8 3 [(5, .inl (nI k)), (0, .inr (.inr (some (mo)))), (1, .inl (p)), (2, .inr (.inl (f))), (4, .inl (x))] [] g 0 0 := by
      intro m
      induction m with
      | zero =>
        intro k hk he
        obtain rfl : k = nz := by omega
        refine bX10_zone_3 hX _ _ _ _ _ ⟨_, _, _, h1, rfl, fun _ => ?_, fun q => absurd (by rw [hnz]; exact Int32.le_refl _) q⟩
        exact at41 k _ (by unfold mz_a; rw [he]; rfl) ⟨rfl, rfl, rfl, rfl, rfl, trivial⟩
      | succ m ih =>
        intro k hk he
        have hkc : (nI k).toNatClampNeg = k := ni_cl (by omega)
        have hki : vp_in (nI k) 100 := ni_in (by omega) (by omega)
        have e1 : fs_s (mz_p Ai Aj p f) k (m + 1) = if mz_p Ai Aj p f k = true then some k else fs_s (mz_p Ai Aj p f) (k + 1) m := rfl
        have nx : mz_p Ai Aj p f k = false → ∀ lv : pz_L, pz_all lv [(5, .inl (nI k)), (0, .inr (.inr (some (mo)))), (1, .inl (p)), (2, .inr (.inl (f))), (4, .inl (x))] → pz_Z X 8 35 lv [] g 0 0 := by
          intro hp lv hlv
          refine pz_lsub hlv ?_
          refine bX10_zone_35 hX _ _ _ _ _ ?_
          refine pz_lsub (lv' := [(5, .inl (nI (k + 1))), (0, .inr (.inr (some (mo)))), (1, .inl (p)), (2, .inr (.inl (f))), (4, .inl (x))]) ⟨ni_inc, rfl, rfl, rfl, rfl, trivial⟩ ?_
          exact ih (k + 1) (by omega) (by rw [he, e1, hp, if_neg (by decide)])
        refine bX10_zone_3 hX _ _ _ _ _ ⟨_, _, _, h1, rfl, fun q => absurd ((ni_le (by omega) (by omega)).mp (hnz ▸ q)) (by omega), fun _ => ?_⟩
        refine bX10_zone_12 hX _ _ _ _ _ ⟨_, _, _, h1, rfl, _, _, _, hm.2.1 12 (by decide), hki, ?_⟩
        rw [hkc]
        refine ⟨fun q => ?_, fun q => ?_⟩
        · exact nx (by unfold mz_p; rw [decide_eq_false q]; rfl) _ ⟨rfl, rfl, rfl, rfl, rfl, trivial⟩
        · refine bX10_zone_23 hX _ _ _ _ _ ⟨_, _, _, h1, rfl, _, _, _, hm.2.2.2 13 (by decide), hki, ?_⟩
          rw [hkc]
          refine ⟨fun q2 => ?_, fun q2 => ?_⟩
          · refine at41 k _ ?_ ⟨rfl, rfl, rfl, rfl, rfl, trivial⟩
            unfold mz_a
            rw [he, e1, if_pos (by unfold mz_p; rw [decide_eq_true q, decide_eq_true ((lc_eq _ _).mp q2)]; rfl)]
            rfl
          · exact nx (by unfold mz_p; rw [decide_eq_false (fun z => q2 ((lc_eq _ _).mpr z)), Bool.and_false]) _ ⟨rfl, rfl, rfl, rfl, rfl, trivial⟩
    refine bX10_zone_0 hX _ _ _ _ _ ?_
    refine pz_lsub (lv' := [(5, .inl (nI 0)), (0, .inr (.inr (some (mo)))), (1, .inl (p)), (2, .inr (.inl (f))), (4, .inl (x))]) ⟨rfl, rfl, rfl, rfl, rfl, trivial⟩ ?_
    exact loop nz 0 (by omega) rfl
