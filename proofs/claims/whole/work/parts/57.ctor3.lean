/-! constructors: Text, Net, LineTimes -/
set_option maxRecDepth 20000 in
theorem bX6_init_0 {X : pz_C} {rm : Room} (hX : pz_X X cX6_init 1 RX6) (hrm : pz_rm X = rm) : ∀ lv st g c s, (zo_al 1 0 (zo_oin rm (zo_al 1 0 (zo_new rm 1 3 [.inl 0, .inr (.inr none), .inl 0] (zo_dup (pz_Z X 1)))))) 0 lv st g c s → pz_Z X 1 0 lv st g c s := by
  subst hrm
  exact (zs_aload_n hX dX6_init_0 rfl (zs_oin hX mw_edd5d14e mw_98b694a7 mw_abc23770 dX6_init_1 (zs_aload_n hX dX6_init_4 rfl (zs_new hX (C := RJx4a65c) (T := TJx4a65c) rfl in_Jx4a65c tyJx4a65c tyJx4a65c_ok mw_cde070bd mw_2367215d mw_dd3bf01c (fun j hj => by rcases (show j = 0 ∨ j = 1 ∨ j = 2 by omega) with rfl | rfl | rfl <;> rfl) dX6_init_5 (zs_dup hX dX6_init_8 (fun _ _ _ _ _ h => h))))))
set_option maxRecDepth 20000 in
theorem bX6_init_9 {X : pz_C} {G : pz_Gx} {sa md mi : Nat} {rm : Room} {E : Option pz_V → pz_H → Prop} (hX : pz_X X cX6_init 1 RX6) (hR : pz_Rt X cX6_init 1 none rm E) (hN : pz_N X) (hrm : pz_rm X = rm) (hGX : pz_GX X G) (hOk : pz_O2 G sa md mi) (gh : gt_Jx4a65c_init_da8c8) (hr_Jx4a65c_init_da8c8 : rm_Jx4a65c_init_da8c8.frames + 1 ≤ rm.frames ∧ 8 + (1 + 11) + rm_Jx4a65c_init_da8c8.locals ≤ rm.locals) : ∀ lv st g c s, (zo_cI rm 0 3 rm_Jx4a65c_init_da8c8.cells rm_Jx4a65c_init_da8c8.slots (pr_Jx4a65c_init_da8c8 sa gh) (po_Jx4a65c_init_da8c8 sa gh) (zo_kv (zo_putr 8 0 (zo_al 1 0 (zo_ic 3 (500) (zo_newa rm 3 (.inl (fun _ => 0)) (zo_putr 8 2 (zo_rv rm E)))))))) 9 lv st g c s → pz_Z X 1 9 lv st g c s := by
  subst hrm
  exact (zs_csI hX hGX (ct_Jx4a65c_init_da8c8 hOk gh) mw_7a993529 mw_6efabaf0 mw_dd3bf01c mw_3492767b rfl (by decide +kernel) hr_Jx4a65c_init_da8c8 dX6_init_9 (zs_kv (zs_putrF hX (C := RX6) (T := TX6) (N := 6) rfl in_X6 (by decide) mw_aa01b0a6 tyX6 tyX6_ok nmX6 (ty := (.object "java/util/List")) (by decide +kernel) rfl rfl hN rfl dX6_init_12 (zs_aload_n hX dX6_init_15 rfl (zs_sipush hX dX6_init_16 (by decide) (zs_newC hX mw_6e9e5424 dX6_init_19 (zs_putrF hX (C := RX6) (T := TX6) (N := 6) rfl in_X6 (by decide) mw_1d02cde0 tyX6 tyX6_ok nmX6 (ty := (.array .char)) (by decide +kernel) rfl rfl hN rfl dX6_init_21 (zs_rv hR dX6_init_24))))))))
def rm_X6_init : Room := { frames := 4, cells := 2, slots := 503, locals := 72 }
abbrev gt_X6_init : Type := Nat × (Nat → Option Nat)
def pr_X6_init (sa : Nat) : gt_X6_init → List pz_V → pz_H → Prop := fun (h, o) av g => av = [.inr (.inr (some (h)))] ∧ g h = some ([4], .inr (8, [.inr (.inr none), .inl 0, .inr (.inr none), .inl 0, .inl 0, .inl 0])) ∧ True
def po_X6_init (sa : Nat) : gt_X6_init → List pz_V → pz_H → Option pz_V → pz_H → Prop := fun (h, o) _ g v g' => v = none ∧ hg (fun b => b = [4]) g g' ∧ ∃ cm sg, txS g' h cm sg 0 0 0 0 (fun _ => 0) ∧ lsE g' cm [7] [8] sa 0 (fun _ => 0)
set_option maxRecDepth 20000 in
set_option maxHeartbeats 4000000 in
theorem ct_X6_init {G : pz_Gx} {sa md mi : Nat} (hOk : pz_O2 G sa md mi) (gh : gt_X6_init) : pz_M G yX6_init cX6_init 1 none rm_X6_init (pr_X6_init sa gh) (po_X6_init sa gh) := by
  obtain ⟨h, o⟩ := gh
  refine pz_ofZ (by decide) hOk.1.1 (Or.inl rfl) ?_ ?_
  · rintro av g ⟨rfl, -⟩
    exact Nat.le_of_ble_eq_true rfl
  · rintro X hX hGX hrm hN av g ⟨rfl, hg0, hsa⟩ hR
    refine bX6_init_0 hX hrm _ _ _ _ _ ⟨Nat.le_of_ble_eq_true rfl, Nat.le_of_ble_eq_true rfl, Nat.le_of_ble_eq_true rfl, Nat.le_of_ble_eq_true rfl, [7], fun q hq => ⟨rfl, ?_⟩⟩
    refine bX6_init_9 hX hR (hN rfl) hrm hGX hOk (q, [7]) (by decide) _ _ _ _ _ ⟨Nat.le_of_ble_eq_true rfl, ⟨q, [], rfl⟩, Nat.le_of_ble_eq_true rfl, Nat.le_of_ble_eq_true rfl, Nat.le_of_ble_eq_true rfl, ⟨rfl, up_at⟩, ?_⟩
    rintro v g2 ⟨rfl, rfl⟩ -
    rw [up_up]
    have S1 := li_1 (lab := [7]) hg0 hq 0 (.inr (1, [.inl 0, .inr (.inr (some (sa))), .inl 0])) (by decide)
    refine ⟨_, _, up_nq hg0 hq, Nat.le_of_ble_eq_true rfl, ?_⟩
    generalize va_up (va_up _ q _) h _ = g1 at S1 ⊢
    have A1 : g1 h = some ([4], .inr (8, [.inr (.inr (some (q))), .inl 0, .inr (.inr none), .inl 0, .inl 0, .inl 0])) := S1.1
    refine ⟨by decide, Nat.le_of_ble_eq_true rfl, Nat.le_of_ble_eq_true rfl, Nat.le_of_ble_eq_true rfl, [16], fun q2 hq2 => ⟨_, _, up_nq A1 hq2, Nat.le_of_ble_eq_true rfl, Nat.le_of_ble_eq_true rfl, Nat.le_of_ble_eq_true rfl, rfl, ?_, q, q2, ⟨up_at, ?_⟩, by omega, 0, sa, 0, o, ?_, Or.inl ⟨rfl, rfl, rfl, ?_⟩⟩⟩
    · exact hg_tr S1.2.2 (hg_up (hg_new hg_rf hq2) (up_nq A1 hq2) rfl)
    · exact up_ne up_at (up_nq A1 hq2) (by decide)
    · exact up_ne (up_nq S1.2.1 hq2) (up_nq A1 hq2) (by decide)
    · exact trivial
set_option maxRecDepth 20000 in
theorem bX4_init_0 {X : pz_C} {rm : Room} (hX : pz_X X cX4_init 2 RX4) (hrm : pz_rm X = rm) : ∀ lv st g c s, (zo_al 1 0 (zo_oin rm (zo_al 1 0 (zo_new rm 1 3 [.inl 0, .inr (.inr none), .inl 0] (zo_dup (pz_Z X 2)))))) 0 lv st g c s → pz_Z X 2 0 lv st g c s := by
  subst hrm
  exact (zs_aload_n hX dX4_init_0 rfl (zs_oin hX mw_b46972fe mw_98b694a7 mw_abc23770 dX4_init_1 (zs_aload_n hX dX4_init_4 rfl (zs_new hX (C := RJx4a65c) (T := TJx4a65c) rfl in_Jx4a65c tyJx4a65c tyJx4a65c_ok mw_bfae2e21 mw_2367215d mw_dd3bf01c (fun j hj => by rcases (show j = 0 ∨ j = 1 ∨ j = 2 by omega) with rfl | rfl | rfl <;> rfl) dX4_init_5 (zs_dup hX dX4_init_8 (fun _ _ _ _ _ h => h))))))
set_option maxRecDepth 20000 in
theorem bX4_init_9 {X : pz_C} {G : pz_Gx} {sa md mi : Nat} {rm : Room} (hX : pz_X X cX4_init 2 RX4) (hN : pz_N X) (hrm : pz_rm X = rm) (hGX : pz_GX X G) (hOk : pz_O2 G sa md mi) (gh : gt_Jx4a65c_init_da8c8) (hr_Jx4a65c_init_da8c8 : rm_Jx4a65c_init_da8c8.frames + 1 ≤ rm.frames ∧ 8 + (1 + 11) + rm_Jx4a65c_init_da8c8.locals ≤ rm.locals) : ∀ lv st g c s, (zo_cI rm 0 3 rm_Jx4a65c_init_da8c8.cells rm_Jx4a65c_init_da8c8.slots (pr_Jx4a65c_init_da8c8 sa gh) (po_Jx4a65c_init_da8c8 sa gh) (zo_kv (zo_putr 6 0 (zo_al 1 0 (zo_ic 2 (100) (zo_newq rm 4 (zo_putr 6 1 (zo_al 1 0 (zo_ic 2 (7) (zo_ic 2 (100) (zo_mna rm (zo_putr 6 2 (zo_al 1 0 (zo_ic 2 (100) (zo_newa rm 0 (.inl (fun _ => 0)) (zo_putr 6 3 (zo_ic 1 (0) (zo_is 1 1 (pz_Z X 2))))))))))))))))))) 9 lv st g c s → pz_Z X 2 9 lv st g c s := by
  subst hrm
  exact (zs_csI hX hGX (ct_Jx4a65c_init_da8c8 hOk gh) mw_cc21773f mw_6efabaf0 mw_dd3bf01c mw_3492767b rfl (by decide +kernel) hr_Jx4a65c_init_da8c8 dX4_init_9 (zs_kv (zs_putrF hX (C := RX4) (T := TX4) (N := 5) rfl in_X4 (by decide) mw_6a265c56 tyX4 tyX4_ok nmX4 (ty := (.object "java/util/List")) (by decide +kernel) rfl rfl hN rfl dX4_init_12 (zs_aload_n hX dX4_init_15 rfl (zs_bipush hX dX4_init_16 (by decide) (zs_newq hX hGX (C := "LineTimes$Place") (fun B U J h => (hOk.2 B U J h).2.1) (fun _ => rfl) mw_bccfc1d0 dX4_init_18 (zs_putrF hX (C := RX4) (T := TX4) (N := 5) rfl in_X4 (by decide) mw_41e0f833 tyX4 tyX4_ok nmX4 (ty := (.array (.object "LineTimes$Place"))) (by decide +kernel) rfl rfl hN rfl dX4_init_21 (zs_aload_n hX dX4_init_24 rfl (zs_bipush hX dX4_init_25 (by decide) (zs_bipush hX dX4_init_27 (by decide) (zs_mna hX hGX hOk mw_cce743f0 mw_e0d6632e dX4_init_29 (zs_putrF hX (C := RX4) (T := TX4) (N := 5) rfl in_X4 (by decide) mw_e3f537a3 tyX4 tyX4_ok nmX4 (ty := (.array (.array .int))) (by decide +kernel) rfl rfl hN rfl dX4_init_33 (zs_aload_n hX dX4_init_36 rfl (zs_bipush hX dX4_init_37 (by decide) (zs_newI hX mw_e0d6632e dX4_init_39 (zs_putrF hX (C := RX4) (T := TX4) (N := 5) rfl in_X4 (by decide) mw_d8a77461 tyX4 tyX4_ok nmX4 (ty := (.array .int)) (by decide +kernel) rfl rfl hN rfl dX4_init_41 (zs_iconst hX dX4_init_44 (by decide) (zs_istore_n hX dX4_init_45 rfl (by decide) (fun _ _ _ _ _ h => h)))))))))))))))))))
set_option maxRecDepth 20000 in
theorem bX4_init_46 {X : pz_C} (hX : pz_X X cX4_init 2 RX4) : ∀ lv st g c s, (zo_il 1 1 (zo_ic 2 (100) (zo_ic_ge 71 (pz_Z X 2)))) 46 lv st g c s → pz_Z X 2 46 lv st g c s := (zs_iload_n hX dX4_init_46 rfl (zs_bipush hX dX4_init_47 (by decide) (zs_ic_ge hX dX4_init_49 (by decide) (fun _ _ _ _ _ _ h => h))))
set_option maxRecDepth 20000 in
theorem bX4_init_52 {X : pz_C} {rm : Room} (hX : pz_X X cX4_init 2 RX4) (hrm : pz_rm X = rm) : ∀ lv st g c s, (zo_al 1 0 (zo_get 6 1 (zo_il 1 1 (zo_new rm 7 3 [.inr (.inr none), .inl 0, .inl 0] (zo_dup (pz_Z X 2)))))) 52 lv st g c s → pz_Z X 2 52 lv st g c s := by
  subst hrm
  exact (zs_aload_n hX dX4_init_52 rfl (zs_get hX (C := RX4) (T := TX4) (N := 5) rfl in_X4 (by decide) mw_41e0f833 dX4_init_53 (zs_iload_n hX dX4_init_56 rfl (zs_new hX (C := RX5) (T := TX5) rfl in_X5 tyX5 tyX5_ok mw_bccfc1d0 mw_608ed863 mw_fae7169a (fun j hj => by rcases (show j = 0 ∨ j = 1 ∨ j = 2 by omega) with rfl | rfl | rfl <;> rfl) dX4_init_57 (zs_dup hX dX4_init_60 (fun _ _ _ _ _ h => h))))))
set_option maxRecDepth 20000 in
theorem bX4_init_61 {X : pz_C} {G : pz_Gx} {sa md mi : Nat} {rm : Room} (hX : pz_X X cX4_init 2 RX4) (hrm : pz_rm X = rm) (hGX : pz_GX X G) (hOk : pz_O2 G sa md mi) (gh : gt_X5_init) (hr_X5_init : rm_X5_init.frames + 1 ≤ rm.frames ∧ 8 + (1 + 11) + rm_X5_init.locals ≤ rm.locals) : ∀ lv st g c s, (zo_cI rm 0 3 rm_X5_init.cells rm_X5_init.slots (pr_X5_init gh) (po_X5_init gh) (zo_kv (zo_astq 4 7 (zo_inc 1 (1) (zo_goto 46 (pz_Z X 2)))))) 61 lv st g c s → pz_Z X 2 61 lv st g c s := by
  subst hrm
  exact (zs_csIN hX hGX (host := "LineTimes") (ct_X5_init hOk.1 gh) (fun B U J h => (hOk.2 B U J h).2.2.2.2.2.2.1) mw_568ac6f4 mw_fae7169a mw_58f9c3da rfl (by decide +kernel) hr_X5_init dX4_init_61 (zs_kv (zs_astp hX (C := RX5) (T := TX5) (N := 3) (fun _ => rfl) rfl dX4_init_64 (zs_iinc hX dX4_init_65 (by decide) (by decide) (zs_goto hX dX4_init_68 (by decide) (fun _ _ _ _ _ _ h => h))))))
set_option maxRecDepth 20000 in
theorem bX4_init_71 {X : pz_C} {rm : Room} {E : Option pz_V → pz_H → Prop} (hX : pz_X X cX4_init 2 RX4) (hR : pz_Rt X cX4_init 2 none rm E) : ∀ lv st g c s, (zo_rv rm E) 71 lv st g c s → pz_Z X 2 71 lv st g c s := (zs_rv hR dX4_init_71)
def rm_X4_init : Room := { frames := 4, cells := 111, slots := 1210, locals := 72 }
abbrev gt_X4_init : Type := Nat × (Nat → Option Nat)
def pr_X4_init (sa : Nat) : gt_X4_init → List pz_V → pz_H → Prop := fun (h, o) av g => av = [.inr (.inr (some (h)))] ∧ g h = some ([1], .inr (6, [.inr (.inr none), .inr (.inr none), .inr (.inr none), .inr (.inr none), .inl 0])) ∧ True
def po_X4_init (sa : Nat) : gt_X4_init → List pz_V → pz_H → Option pz_V → pz_H → Prop := fun (h, o) _ g v g' => v = none ∧ hg (fun b => b = [1] ∨ b = [9]) g g' ∧ ∃ la pa na so Wa fp, ntS g' h la pa na so 0 Wa ∧ lsE g' la [5] [6] sa 0 (fun _ => 0) ∧ plS g' pa fp (fun _ => []) (fun _ => 0) (fun _ => 0) ∧ (∀ i, i < 7 → g' (Wa i) = some ([11, i], ar_i 100 (fun _ => 0))) ∧ g' so = some ([12], ar_i 100 (fun _ => 0))
set_option maxRecDepth 20000 in
set_option maxHeartbeats 8000000 in
theorem ct_X4_init {G : pz_Gx} {sa md mi : Nat} (hOk : pz_O2 G sa md mi) (gh : gt_X4_init) : pz_M G yX4_init cX4_init 2 none rm_X4_init (pr_X4_init sa gh) (po_X4_init sa gh) := by
  obtain ⟨h, o⟩ := gh
  refine pz_ofZ (by decide) hOk.1.1 (Or.inl rfl) ?_ ?_
  · rintro av g ⟨rfl, -⟩
    exact Nat.le_of_ble_eq_true rfl
  · rintro X hX hGX hrm hN av g ⟨rfl, hg0, hsa⟩ hR
    refine bX4_init_0 hX hrm _ _ _ _ _ ⟨Nat.le_of_ble_eq_true rfl, Nat.le_of_ble_eq_true rfl, Nat.le_of_ble_eq_true rfl, Nat.le_of_ble_eq_true rfl, [5], fun la hq => ⟨rfl, ?_⟩⟩
    refine bX4_init_9 hX (hN rfl) hrm hGX hOk (la, [5]) (by decide) _ _ _ _ _ ⟨Nat.le_of_ble_eq_true rfl, ⟨la, [], rfl⟩, Nat.le_of_ble_eq_true rfl, Nat.le_of_ble_eq_true rfl, Nat.le_of_ble_eq_true rfl, ⟨rfl, up_at⟩, ?_⟩
    rintro v g2 ⟨rfl, rfl⟩ -
    rw [up_up]
    have S := li_1 (lab := [5]) hg0 hq 0 (.inr (1, [.inl 0, .inr (.inr (some (sa))), .inl 0])) (by decide)
    refine ⟨_, _, up_nq hg0 hq, Nat.le_of_ble_eq_true rfl, ?_⟩
    generalize va_up (va_up _ la _) h _ = g1 at S ⊢
    have A1 : g1 h = some ([1], .inr (6, [.inr (.inr (some (la))), .inr (.inr none), .inr (.inr none), .inr (.inr none), .inl 0])) := S.1
    have B1 := S.2.1
    have H1 := S.2.2
    have C1 : True := trivial
    clear S hg0 hq hsa
    refine ⟨by decide, Nat.le_of_ble_eq_true rfl, Nat.le_of_ble_eq_true rfl, Nat.le_of_ble_eq_true rfl, [9], fun pa hq => ⟨_, _, up_nq A1 hq, Nat.le_of_ble_eq_true rfl, ?_⟩⟩
    have S := li_1 (lab := [9]) A1 hq 1 (ar_r 4 100 (fun _ => none)) (by decide)
    rw [show (100 : Int32).toNatClampNeg = 100 from rfl]
    generalize va_up (va_up _ pa _) h _ = g2 at S ⊢
    have A2 : g2 h = some ([1], .inr (6, [.inr (.inr (some (la))), .inr (.inr (some (pa))), .inr (.inr none), .inr (.inr none), .inl 0])) := S.1
    have B2 := S.2.2 _ _ _ B1 (by decide)
    have C2 : True := trivial
    have D2 := S.2.1
    have H2 := hg_tr H1 S.2.2
    clear S A1 B1 C1 H1 hq
    refine ⟨by decide, by decide, by decide, by decide, Nat.le_of_ble_eq_true rfl, Nat.le_of_ble_eq_true rfl, [10], (fun i => [11, i]), fun na rr hq er ij => ?_⟩
    rw [show (7 : Int32).toNatClampNeg = 7 from rfl, show (100 : Int32).toNatClampNeg = 100 from rfl]
    rw [show (7 : Int32).toNatClampNeg = 7 from rfl] at er ij
    have S := li_2 (lab := [10]) (bi := fun i => [11, i]) (n := 7) A2 hq er ij 2 (ar_i 100 (fun _ => 0)) (ar_r 6 7 (fun i => if i < 7 then some (rr i) else none)) (by decide) (fun i => by simp)
    have hqm : mnU g2 rr (fun i => [11, i]) (ar_i 100 (fun _ => 0)) 7 na = none := by rw [mnU_ne 7 (fun i hi => (er i hi).2)]; exact hq
    have hmm := mnU_hg (S := fun _ => False) (bi := fun i => [11, i]) (e := ar_i 100 (fun _ => 0)) 7 (fun i hi => (er i hi).1) _ _ _ A2 (fun h => h)
    refine ⟨_, _, up_nq hmm hqm, Nat.le_of_ble_eq_true rfl, ?_⟩
    clear hqm hmm
    generalize va_up (va_up _ na _) h _ = g3 at S ⊢
    have A3 : g3 h = some ([1], .inr (6, [.inr (.inr (some (la))), .inr (.inr (some (pa))), .inr (.inr (some (na))), .inr (.inr none), .inl 0])) := S.1
    have B3 := S.2.2.2 _ _ _ B2 (by decide)
    have C3 : True := trivial
    have D3 := S.2.2.2 _ _ _ D2 (by decide)
    have E3 := S.2.1
    have F3 := S.2.2.1
    have H3 := hg_tr H2 S.2.2.2
    clear S A2 B2 C2 D2 H2 hq er ij
    refine ⟨by decide, Nat.le_of_ble_eq_true rfl, Nat.le_of_ble_eq_true rfl, Nat.le_of_ble_eq_true rfl, [12], fun so hq => ⟨_, _, up_nq A3 hq, Nat.le_of_ble_eq_true rfl, ?_⟩⟩
    have S := li_1 (lab := [12]) A3 hq 3 (ar_i 100 (fun _ => 0)) (by decide)
    rw [show (100 : Int32).toNatClampNeg = 100 from rfl]
    generalize va_up (va_up _ so _) h _ = g4 at S ⊢
    have A4 : g4 h = some ([1], .inr (6, [.inr (.inr (some (la))), .inr (.inr (some (pa))), .inr (.inr (some (na))), .inr (.inr (some (so))), .inl 0])) := S.1
    have B4 := S.2.2 _ _ _ B3 (by decide)
    have C4 : True := trivial
    have D4 := S.2.2 _ _ _ D3 (by decide)
    have E4 := S.2.2 _ _ _ E3 (by decide)
    have F4 : ∀ k, k < 7 → g4 (rr k) = some ([11, k], ar_i 100 (fun _ => 0)) := fun k hk => S.2.2 _ _ _ (F3 k hk) (by simp)
    have G4 := S.2.1
    have H4 := hg_tr H3 S.2.2
    clear S A3 B3 C3 D3 E3 F3 H3 hq
    have loop : ∀ (m i : Nat) (gi : pz_H) (oi : Nat → Option Nat) (fp : Nat → Nat), i + m = 100 → hg (fun b => b = [9]) g4 gi → gi pa = some ([9], ar_r 4 100 oi) → (∀ p, p < i → oi p = some (fp p) ∧ gi (fp p) = some ([20, p], .inr (7, [.inr (.inr none), .inl 0, .inl 0]))) → pz_Z X 2 46 [(1, .inl (nI i)), (0, .inr (.inr (some (h))))] [] gi (11 + i) (910 + 3 * i) := by
      intro m
      induction m with
      | zero =>
        intro i gi oi fp hi hh hpa hfp
        obtain rfl : i = 100 := by omega
        refine bX4_init_46 hX _ _ _ _ _ ⟨fun _ => ?_, fun q => absurd (show (100 : Int32) ≤ nI 100 by decide) q⟩
        refine bX4_init_71 hX hR _ _ _ _ _ ⟨Nat.le_of_ble_eq_true rfl, Nat.le_of_ble_eq_true rfl, rfl, ?_, la, pa, na, so, rr, fp, ⟨hh _ _ _ A4 (by decide), _, hh _ _ _ E4 (by decide), fun i hi => if_pos hi⟩, ⟨by omega, 0, sa, 0, o, hh _ _ _ B4 (by decide), Or.inl ⟨rfl, rfl, rfl, trivial⟩⟩, ⟨⟨oi, hpa, fun p hp => (hfp p hp).1⟩, fun p hp => ⟨none, (hfp p hp).2, rfl⟩⟩, fun i hi => hh _ _ _ (F4 i hi) (by simp), hh _ _ _ G4 (by decide)⟩
        exact hg_tr (hg_mono H4 (fun b hb => Or.inl hb)) (hg_mono hh (fun b hb => Or.inr hb))
      | succ m ih =>
        intro i gi oi fp hi hh hpa hfp
        refine bX4_init_46 hX _ _ _ _ _ ⟨fun q => absurd ((ni_le (a := 100) (by omega) (by omega)).mp q) (by omega), fun _ => ?_⟩
        refine bX4_init_52 hX hrm _ _ _ _ _ ⟨_, _, _, hh _ _ _ A4 (by decide), rfl, by show 11 + i + 1 ≤ 111; omega, by show 910 + 3 * i + 3 ≤ 1210; omega, [20, i], fun q hq => ⟨rfl, ?_⟩⟩
        refine bX4_init_61 hX hrm hGX hOk q (by decide) _ _ _ _ _ ⟨Nat.le_of_ble_eq_true rfl, ⟨q, [], rfl⟩, by show 11 + i + 1 + 0 ≤ 111; omega, by show 910 + 3 * i + 3 + 0 ≤ 1210; omega, Nat.le_of_ble_eq_true rfl, rfl, ?_⟩
        rintro v g5 ⟨rfl, rfl⟩ -
        have hpq := up_nq (v := some ([20, i], .inr (7, [.inr (.inr none), .inl 0, .inl 0]))) hpa hq
        refine ⟨[9], 100, oi, [20, i], _, hpq, up_at, ni_in (by omega) (by omega), ?_⟩
        rw [show (nI i).toNatClampNeg = i from ni_cl (by omega)]
        have := ih (i + 1) _ (va_up oi i (some q)) (fun p => if p = i then q else fp p) (by omega) (hg_up (hg_new hh hq) hpq rfl) up_at (fun p hp => ?_)
        · exact pz_lsub (by exact ⟨ni_inc, rfl, trivial⟩) this
        · by_cases hpi : p = i
          · subst hpi
            rw [if_pos rfl]
            exact ⟨va_up_self _ _ _, up_ne up_at hpq (by simp)⟩
          · rw [if_neg hpi, va_up_ne _ _ hpi]
            exact ⟨(hfp p (by omega)).1, up_ne (up_nq (hfp p (by omega)).2 hq) hpq (by simp)⟩
    exact loop 100 0 g4 (fun _ => none) (fun _ => 0) rfl hg_rf D4 (fun p hp => absurd hp (Nat.not_lt_zero _))
set_option maxRecDepth 20000 in
theorem bX9_init_0 {X : pz_C} {rm : Room} (hX : pz_X X cX9_init 1 RX9) (hrm : pz_rm X = rm) : ∀ lv st g c s, (zo_al 1 0 (zo_oin rm (zo_al 1 0 (zo_new rm 6 5 [.inr (.inr none), .inr (.inr none), .inr (.inr none), .inr (.inr none), .inl 0] (zo_dup (pz_Z X 1)))))) 0 lv st g c s → pz_Z X 1 0 lv st g c s := by
  subst hrm
  exact (zs_aload_n hX dX9_init_0 rfl (zs_oin hX mw_6435b8e8 mw_98b694a7 mw_abc23770 dX9_init_1 (zs_aload_n hX dX9_init_4 rfl (zs_new hX (C := RX4) (T := TX4) rfl in_X4 tyX4 tyX4_ok mw_58d4fb9d mw_f906728f mw_5ae0c28b (fun j hj => by rcases (show j = 0 ∨ j = 1 ∨ j = 2 ∨ j = 3 ∨ j = 4 by omega) with rfl | rfl | rfl | rfl | rfl <;> rfl) dX9_init_5 (zs_dup hX dX9_init_8 (fun _ _ _ _ _ h => h))))))
set_option maxRecDepth 20000 in
theorem bX9_init_9 {X : pz_C} {G : pz_Gx} {sa md mi : Nat} {rm : Room} (hX : pz_X X cX9_init 1 RX9) (hN : pz_N X) (hrm : pz_rm X = rm) (hGX : pz_GX X G) (hOk : pz_O2 G sa md mi) (gh : gt_X4_init) (hr_X4_init : rm_X4_init.frames + 1 ≤ rm.frames ∧ 8 + (2 + 11) + rm_X4_init.locals ≤ rm.locals) : ∀ lv st g c s, (zo_cI rm 0 3 rm_X4_init.cells rm_X4_init.slots (pr_X4_init sa gh) (po_X4_init sa gh) (zo_kv (zo_putr 11 0 (zo_al 1 0 (zo_new rm 9 2 [.inr (.inr none), .inl 0] (zo_dup (pz_Z X 1))))))) 9 lv st g c s → pz_Z X 1 9 lv st g c s := by
  subst hrm
  exact (zs_csI hX hGX (ct_X4_init hOk gh) mw_283b2473 mw_b6e9f5b0 mw_5ae0c28b mw_c6fb3a3d rfl (by decide +kernel) hr_X4_init dX9_init_9 (zs_kv (zs_putrF hX (C := RX9) (T := TX9) (N := 7) rfl in_X9 (by decide) mw_a7a80db5 tyX9 tyX9_ok nmX9 (ty := (.object "LineTimes$Net")) (by decide +kernel) rfl rfl hN rfl dX9_init_12 (zs_aload_n hX dX9_init_15 rfl (zs_new hX (C := RX7) (T := TX7) rfl in_X7 tyX7 tyX7_ok mw_25d8ccbc mw_b69610e6 mw_a7e3565f (fun j hj => by rcases (show j = 0 ∨ j = 1 by omega) with rfl | rfl <;> rfl) dX9_init_16 (zs_dup hX dX9_init_19 (fun _ _ _ _ _ h => h)))))))
set_option maxRecDepth 20000 in
theorem bX9_init_20 {X : pz_C} {G : pz_Gx} {sa md mi : Nat} {rm : Room} (hX : pz_X X cX9_init 1 RX9) (hN : pz_N X) (hrm : pz_rm X = rm) (hGX : pz_GX X G) (hOk : pz_O2 G sa md mi) (gh : gt_X7_init) (hr_X7_init : rm_X7_init.frames + 1 ≤ rm.frames ∧ 8 + (1 + 11) + rm_X7_init.locals ≤ rm.locals) : ∀ lv st g c s, (zo_cI rm 0 3 rm_X7_init.cells rm_X7_init.slots (pr_X7_init gh) (po_X7_init gh) (zo_kv (zo_putr 11 1 (zo_al 1 0 (zo_new rm 4 3 [.inr (.inr none), .inl 0, .inl 0] (zo_dup (pz_Z X 1))))))) 20 lv st g c s → pz_Z X 1 20 lv st g c s := by
  subst hrm
  exact (zs_csIN hX hGX (host := "LineTimes") (ct_X7_init hOk gh) (fun B U J h => (hOk.2 B U J h).2.2.2.2.2.2.2.1) mw_69150ffe mw_a7e3565f mw_514e58b8 rfl (by decide +kernel) hr_X7_init dX9_init_20 (zs_kv (zs_putrF hX (C := RX9) (T := TX9) (N := 7) rfl in_X9 (by decide) mw_11019c59 tyX9 tyX9_ok nmX9 (ty := (.object "LineTimes$Way")) (by decide +kernel) rfl rfl hN rfl dX9_init_23 (zs_aload_n hX dX9_init_26 rfl (zs_new hX (C := RX2) (T := TX2) rfl in_X2 tyX2 tyX2_ok mw_da977e64 mw_8a18fdb5 mw_ee921776 (fun j hj => by rcases (show j = 0 ∨ j = 1 ∨ j = 2 by omega) with rfl | rfl | rfl <;> rfl) dX9_init_27 (zs_dup hX dX9_init_30 (fun _ _ _ _ _ h => h)))))))
set_option maxRecDepth 20000 in
theorem bX9_init_31 {X : pz_C} {G : pz_Gx} {sa md mi : Nat} {rm : Room} (hX : pz_X X cX9_init 1 RX9) (hN : pz_N X) (hrm : pz_rm X = rm) (hGX : pz_GX X G) (hOk : pz_O2 G sa md mi) (gh : gt_X2_init) (hr_X2_init : rm_X2_init.frames + 1 ≤ rm.frames ∧ 8 + (1 + 11) + rm_X2_init.locals ≤ rm.locals) : ∀ lv st g c s, (zo_cI rm 0 3 rm_X2_init.cells rm_X2_init.slots (pr_X2_init gh) (po_X2_init gh) (zo_kv (zo_putr 11 2 (zo_al 1 0 (zo_new rm 8 6 [.inr (.inr none), .inl 0, .inr (.inr none), .inl 0, .inl 0, .inl 0] (zo_dup (pz_Z X 1))))))) 31 lv st g c s → pz_Z X 1 31 lv st g c s := by
  subst hrm
  exact (zs_csIN hX hGX (host := "LineTimes") (ct_X2_init hOk.1 gh) (fun B U J h => (hOk.2 B U J h).2.2.2.2.2.2.2.2.1) mw_fbfe139e mw_ee921776 mw_cc507f28 rfl (by decide +kernel) hr_X2_init dX9_init_31 (zs_kv (zs_putrF hX (C := RX9) (T := TX9) (N := 7) rfl in_X9 (by decide) mw_58da1370 tyX9 tyX9_ok nmX9 (ty := (.object "LineTimes$Leavings")) (by decide +kernel) rfl rfl hN rfl dX9_init_34 (zs_aload_n hX dX9_init_37 rfl (zs_new hX (C := RX6) (T := TX6) rfl in_X6 tyX6 tyX6_ok mw_9b737240 mw_835f3386 mw_59af5b5a (fun j hj => by rcases (show j = 0 ∨ j = 1 ∨ j = 2 ∨ j = 3 ∨ j = 4 ∨ j = 5 by omega) with rfl | rfl | rfl | rfl | rfl | rfl <;> rfl) dX9_init_38 (zs_dup hX dX9_init_41 (fun _ _ _ _ _ h => h)))))))
set_option maxRecDepth 20000 in
theorem bX9_init_42 {X : pz_C} {G : pz_Gx} {sa md mi : Nat} {rm : Room} {E : Option pz_V → pz_H → Prop} (hX : pz_X X cX9_init 1 RX9) (hR : pz_Rt X cX9_init 1 none rm E) (hN : pz_N X) (hrm : pz_rm X = rm) (hGX : pz_GX X G) (hOk : pz_O2 G sa md mi) (gh : gt_X6_init) (hr_X6_init : rm_X6_init.frames + 1 ≤ rm.frames ∧ 8 + (1 + 11) + rm_X6_init.locals ≤ rm.locals) : ∀ lv st g c s, (zo_cI rm 0 3 rm_X6_init.cells rm_X6_init.slots (pr_X6_init sa gh) (po_X6_init sa gh) (zo_kv (zo_putr 11 3 (zo_rv rm E)))) 42 lv st g c s → pz_Z X 1 42 lv st g c s := by
  subst hrm
  exact (zs_csIN hX hGX (host := "LineTimes") (ct_X6_init hOk gh) (fun B U J h => (hOk.2 B U J h).2.2.2.2.2.2.2.2.2.1) mw_5b86bbd2 mw_59af5b5a mw_894d29d8 rfl (by decide +kernel) hr_X6_init dX9_init_42 (zs_kv (zs_putrF hX (C := RX9) (T := TX9) (N := 7) rfl in_X9 (by decide) mw_303e20cf tyX9 tyX9_ok nmX9 (ty := (.object "LineTimes$Text")) (by decide +kernel) rfl rfl hN rfl dX9_init_45 (zs_rv hR dX9_init_48))))
def rm_X9_init : Room := { frames := 5, cells := 125, slots := 1878, locals := 93 }
abbrev gt_X9_init : Type := Nat × (Nat → Option Nat)
/-- LineTimes and its four parts -/
def ltS (g : pz_H) (h nt wy lv tx : Nat) (ne nz nw : Nat) : Prop := g h = some ([0], .inr (11, [.inr (.inr (some (nt))), .inr (.inr (some (wy))), .inr (.inr (some (lv))), .inr (.inr (some (tx))), .inl (nI ne), .inl (nI nz), .inl (nI nw)]))
def ni_N (sa : Nat) (g : pz_H) (nt : Nat) : Prop := ∃ la pa na so Wa fp, ntS g nt la pa na so 0 Wa ∧ lsE g la [5] [6] sa 0 (fun _ => 0) ∧ plS g pa fp (fun _ => []) (fun _ => 0) (fun _ => 0) ∧ (∀ i, i < 7 → g (Wa i) = some ([11, i], ar_i 100 (fun _ => 0))) ∧ g so = some ([12], ar_i 100 (fun _ => 0))
def ni_W (g : pz_H) (wy : Nat) : Prop := ∃ lg Pa, wyS g wy lg 0 Pa (fun _ _ => 0)
def ni_L (g : pz_H) (lv : Nat) : Prop := ∃ ti, lvS g lv ti 0 0 (fun _ => 0)
def ni_T (sa : Nat) (g : pz_H) (tx : Nat) : Prop := ∃ cm sg, txS g tx cm sg 0 0 0 0 (fun _ => 0) ∧ lsE g cm [7] [8] sa 0 (fun _ => 0)
theorem ni_Nm {sa nt : Nat} {g g' : pz_H} {S : List Nat → Prop} (hh : hg S g g') (hS : ∀ b, S b → b = [0] ∨ b = [2] ∨ b = [3] ∨ b = [4]) (h : ni_N sa g nt) : ni_N sa g' nt := by
  obtain ⟨la, pa, na, so, Wa, fp, h1, h2, h3, h4, h5⟩ := h
  have n : ∀ b : List Nat, b ≠ [0] → b ≠ [2] → b ≠ [3] → b ≠ [4] → ¬ S b := fun b a1 a2 a3 a4 hb => by
    rcases hS b hb with e | e | e | e
    · exact a1 e
    · exact a2 e
    · exact a3 e
    · exact a4 e
  exact ⟨la, pa, na, so, Wa, fp, ntS_mono hh ⟨n _ (by decide) (by decide) (by decide) (by decide), n _ (by decide) (by decide) (by decide) (by decide)⟩ h1, lsE_mono hh ⟨n _ (by decide) (by decide) (by decide) (by decide), n _ (by decide) (by decide) (by decide) (by decide), n _ (by decide) (by decide) (by decide) (by decide)⟩ h2, plS_mono hh ⟨n _ (by decide) (by decide) (by decide) (by decide), fun p => n _ (by simp) (by simp) (by simp) (by simp), fun p d => n _ (by simp) (by simp) (by simp) (by simp)⟩ h3, fun i hi => hh _ _ _ (h4 i hi) (n _ (by simp) (by simp) (by simp) (by simp)), hh _ _ _ h5 (n _ (by decide) (by decide) (by decide) (by decide))⟩
theorem ni_Wm {wy : Nat} {g g' : pz_H} {S : List Nat → Prop} (hh : hg S g g') (hS : ∀ b, S b → b = [0] ∨ b = [3] ∨ b = [4]) (h : ni_W g wy) : ni_W g' wy := by
  obtain ⟨lg, Pa, h1⟩ := h
  have n : ∀ b : List Nat, b ≠ [0] → b ≠ [3] → b ≠ [4] → ¬ S b := fun b a1 a3 a4 hb => by
    rcases hS b hb with e | e | e
    · exact a1 e
    · exact a3 e
    · exact a4 e
  exact ⟨lg, Pa, wyS_mono hh ⟨n _ (by decide) (by decide) (by decide), n _ (by decide) (by decide) (by decide), fun i => n _ (by simp) (by simp) (by simp)⟩ h1⟩
theorem ni_Lm {lv : Nat} {g g' : pz_H} {S : List Nat → Prop} (hh : hg S g g') (hS : ∀ b, S b → b = [0] ∨ b = [4]) (h : ni_L g lv) : ni_L g' lv := by
  obtain ⟨ti, h1⟩ := h
  have n : ∀ b : List Nat, b ≠ [0] → b ≠ [4] → ¬ S b := fun b a1 a4 hb => by
    rcases hS b hb with e | e
    · exact a1 e
    · exact a4 e
  exact ⟨ti, lvS_mono hh ⟨n _ (by decide) (by decide), n _ (by decide) (by decide)⟩ h1⟩
theorem ni_Tm {sa tx : Nat} {g g' : pz_H} {S : List Nat → Prop} (hh : hg S g g') (hS : ∀ b, S b → b = [0]) (h : ni_T sa g tx) : ni_T sa g' tx := by
  obtain ⟨cm, sg, h1, h2⟩ := h
  have n : ∀ b : List Nat, b ≠ [0] → ¬ S b := fun b a1 hb => a1 (hS b hb)
  exact ⟨cm, sg, txS_mono hh ⟨n _ (by decide), n _ (by decide)⟩ h1, lsE_mono hh ⟨n _ (by decide), n _ (by decide), n _ (by decide)⟩ h2⟩
def pr_X9_init (sa : Nat) : gt_X9_init → List pz_V → pz_H → Prop := fun (h, o) av g => av = [.inr (.inr (some (h)))] ∧ g h = some ([0], .inr (11, [.inr (.inr none), .inr (.inr none), .inr (.inr none), .inr (.inr none), .inl 0, .inl 0, .inl 0])) ∧ True
def po_X9_init (sa : Nat) : gt_X9_init → List pz_V → pz_H → Option pz_V → pz_H → Prop := fun (h, o) _ g v g' => v = none ∧ hg (fun b => b = [0] ∨ b = [1] ∨ b = [9] ∨ b = [2] ∨ b = [3] ∨ b = [4]) g g' ∧ ∃ nt wy lv tx, ltS g' h nt wy lv tx 0 0 0 ∧ ni_N sa g' nt ∧ ni_W g' wy ∧ ni_L g' lv ∧ ni_T sa g' tx
set_option maxRecDepth 20000 in
set_option maxHeartbeats 8000000 in
theorem ct_X9_init {G : pz_Gx} {sa md mi : Nat} (hOk : pz_O2 G sa md mi) (gh : gt_X9_init) : pz_M G yX9_init cX9_init 1 none rm_X9_init (pr_X9_init sa gh) (po_X9_init sa gh) := by
  obtain ⟨h, o⟩ := gh
  refine pz_ofZ (by decide) hOk.1.1 (Or.inl rfl) ?_ ?_
  · rintro av g ⟨rfl, -⟩
    exact Nat.le_of_ble_eq_true rfl
  · rintro X hX hGX hrm hN av g ⟨rfl, A0, hsa⟩ hR
    have n0 : ∀ {S : List Nat → Prop} {a b : pz_H} {q : Nat} {v : Option (List Nat × pz_E)}, a q = none → hg S a (va_up a q v) := fun hq => hg_new hg_rf hq
    have H0 := hg_rf (S := fun b => b = [0] ∨ b = [1] ∨ b = [9] ∨ b = [2] ∨ b = [3] ∨ b = [4]) (g := g)
    -- the net
    refine bX9_init_0 hX hrm _ _ _ _ _ ⟨Nat.le_of_ble_eq_true rfl, Nat.le_of_ble_eq_true rfl, Nat.le_of_ble_eq_true rfl, Nat.le_of_ble_eq_true rfl, [1], fun nt hq => ⟨rfl, ?_⟩⟩
    refine bX9_init_9 hX (hN rfl) hrm hGX hOk (nt, o) (by decide) _ _ _ _ _ ⟨Nat.le_of_ble_eq_true rfl, ⟨nt, [], rfl⟩, Nat.le_of_ble_eq_true rfl, Nat.le_of_ble_eq_true rfl, Nat.le_of_ble_eq_true rfl, ⟨rfl, up_at, trivial⟩, ?_⟩
    rintro v g1 ⟨rfl, h1, hN1⟩ -
    have A1 := h1 _ _ _ (up_nq A0 hq) (by decide)
    have C1 : True := trivial
    have H1 := hg_tr (hg_new H0 hq) (hg_mono h1 (fun b hb => by rcases hb with hb | hb; exact Or.inr (Or.inl hb); exact Or.inr (Or.inr (Or.inl hb))))
    have N1 : ni_N sa g1 nt := hN1
    clear A0 hsa hq h1 H0 hN1
    refine ⟨_, _, A1, Nat.le_of_ble_eq_true rfl, Nat.le_of_ble_eq_true rfl, Nat.le_of_ble_eq_true rfl, [2], fun wy hq => ⟨rfl, ?_⟩⟩
    have hu := hg_up (S := fun b => b = [0]) (v := some ([0], .inr (11, [.inr (.inr (some (nt))), .inr (.inr none), .inr (.inr none), .inr (.inr none), .inl 0, .inl 0, .inl 0]))) hg_rf A1 rfl
    have hu2 := hg_new (v := some ([2], .inr (9, [.inr (.inr none), .inl 0]))) hu hq
    refine bX9_init_20 hX (hN rfl) hrm hGX hOk wy (by decide) _ _ _ _ _ ⟨Nat.le_of_ble_eq_true rfl, ⟨wy, [], rfl⟩, Nat.le_of_ble_eq_true rfl, Nat.le_of_ble_eq_true rfl, Nat.le_of_ble_eq_true rfl, ⟨rfl, up_at⟩, ?_⟩
    rintro v g2 ⟨rfl, h2, hW2⟩ -
    have A2 : g2 h = some ([0], .inr (11, [.inr (.inr (some (nt))), .inr (.inr none), .inr (.inr none), .inr (.inr none), .inl 0, .inl 0, .inl 0])) := h2 _ _ _ (up_nq up_at hq) (by decide)
    have t2 := hg_tr (hg_mono hu2 (S' := fun b => b = [0] ∨ b = [2]) (fun b hb => Or.inl hb)) (hg_mono h2 (fun b hb => Or.inr hb))
    have C2 : True := trivial
    have N2 := ni_Nm t2 (fun b hb => by rcases hb with hb | hb; exact Or.inl hb; exact Or.inr (Or.inl hb)) N1
    have H2 := hg_tr H1 (hg_mono t2 (fun b hb => by rcases hb with hb | hb; exact Or.inl hb; exact Or.inr (Or.inr (Or.inr (Or.inl hb)))))
    have W2 : ni_W g2 wy := hW2
    clear A1 C1 H1 N1 hu hu2 hq h2 t2 hW2
    refine ⟨_, _, A2, Nat.le_of_ble_eq_true rfl, Nat.le_of_ble_eq_true rfl, Nat.le_of_ble_eq_true rfl, [3], fun lv hq => ⟨rfl, ?_⟩⟩
    have hu := hg_up (S := fun b => b = [0]) (v := some ([0], .inr (11, [.inr (.inr (some (nt))), .inr (.inr (some (wy))), .inr (.inr none), .inr (.inr none), .inl 0, .inl 0, .inl 0]))) hg_rf A2 rfl
    have hu2 := hg_new (v := some ([3], .inr (4, [.inr (.inr none), .inl 0, .inl 0]))) hu hq
    refine bX9_init_31 hX (hN rfl) hrm hGX hOk lv (by decide) _ _ _ _ _ ⟨Nat.le_of_ble_eq_true rfl, ⟨lv, [], rfl⟩, Nat.le_of_ble_eq_true rfl, Nat.le_of_ble_eq_true rfl, Nat.le_of_ble_eq_true rfl, ⟨rfl, up_at⟩, ?_⟩
    rintro v g3 ⟨rfl, h3, hL3⟩ -
    have A3 : g3 h = some ([0], .inr (11, [.inr (.inr (some (nt))), .inr (.inr (some (wy))), .inr (.inr none), .inr (.inr none), .inl 0, .inl 0, .inl 0])) := h3 _ _ _ (up_nq up_at hq) (by decide)
    have t3 := hg_tr (hg_mono hu2 (S' := fun b => b = [0] ∨ b = [3]) (fun b hb => Or.inl hb)) (hg_mono h3 (fun b hb => Or.inr hb))
    have C3 : True := trivial
    have N3 := ni_Nm t3 (fun b hb => by rcases hb with hb | hb; exact Or.inl hb; exact Or.inr (Or.inr (Or.inl hb))) N2
    have W3 := ni_Wm t3 (fun b hb => by rcases hb with hb | hb; exact Or.inl hb; exact Or.inr (Or.inl hb)) W2
    have H3 := hg_tr H2 (hg_mono t3 (fun b hb => by rcases hb with hb | hb; exact Or.inl hb; exact Or.inr (Or.inr (Or.inr (Or.inr (Or.inl hb))))))
    have L3 : ni_L g3 lv := hL3
    clear A2 C2 H2 N2 W2 hu hu2 hq h3 t3 hL3
    refine ⟨_, _, A3, Nat.le_of_ble_eq_true rfl, Nat.le_of_ble_eq_true rfl, Nat.le_of_ble_eq_true rfl, [4], fun tx hq => ⟨rfl, ?_⟩⟩
    have hu := hg_up (S := fun b => b = [0]) (v := some ([0], .inr (11, [.inr (.inr (some (nt))), .inr (.inr (some (wy))), .inr (.inr (some (lv))), .inr (.inr none), .inl 0, .inl 0, .inl 0]))) hg_rf A3 rfl
    have hu2 := hg_new (v := some ([4], .inr (8, [.inr (.inr none), .inl 0, .inr (.inr none), .inl 0, .inl 0, .inl 0]))) hu hq
    refine bX9_init_42 hX hR (hN rfl) hrm hGX hOk (tx, o) (by decide) _ _ _ _ _ ⟨Nat.le_of_ble_eq_true rfl, ⟨tx, [], rfl⟩, Nat.le_of_ble_eq_true rfl, Nat.le_of_ble_eq_true rfl, Nat.le_of_ble_eq_true rfl, ⟨rfl, up_at, trivial⟩, ?_⟩
    rintro v g4 ⟨rfl, h4, hT4⟩ -
    have A4 : g4 h = some ([0], .inr (11, [.inr (.inr (some (nt))), .inr (.inr (some (wy))), .inr (.inr (some (lv))), .inr (.inr none), .inl 0, .inl 0, .inl 0])) := h4 _ _ _ (up_nq up_at hq) (by decide)
    have t4 := hg_tr (hg_mono hu2 (S' := fun b => b = [0] ∨ b = [4]) (fun b hb => Or.inl hb)) (hg_mono h4 (fun b hb => Or.inr hb))
    have t5 := hg_up (v := some ([0], .inr (11, [.inr (.inr (some (nt))), .inr (.inr (some (wy))), .inr (.inr (some (lv))), .inr (.inr (some (tx))), .inl 0, .inl 0, .inl 0]))) t4 A4 (Or.inl rfl)
    have t6 := hg_up (S := fun b => b = [0]) (v := some ([0], .inr (11, [.inr (.inr (some (nt))), .inr (.inr (some (wy))), .inr (.inr (some (lv))), .inr (.inr (some (tx))), .inl 0, .inl 0, .inl 0]))) hg_rf A4 rfl
    refine ⟨_, _, A4, Nat.le_of_ble_eq_true rfl, Nat.le_of_ble_eq_true rfl, Nat.le_of_ble_eq_true rfl, rfl, ?_, nt, wy, lv, tx, up_at, ?_, ?_, ?_, ?_⟩
    · exact hg_tr H3 (hg_mono t5 (fun b hb => by rcases hb with hb | hb; exact Or.inl hb; exact Or.inr (Or.inr (Or.inr (Or.inr (Or.inr hb))))))
    · exact ni_Nm t5 (fun b hb => by rcases hb with hb | hb; exact Or.inl hb; exact Or.inr (Or.inr (Or.inr hb))) N3
    · exact ni_Wm t5 (fun b hb => by rcases hb with hb | hb; exact Or.inl hb; exact Or.inr (Or.inr hb)) W3
    · exact ni_Lm t5 (fun b hb => hb) L3
    · exact ni_Tm t6 (fun b hb => hb) hT4
