/-! the reference: its constructor -/
def mi_S (g : pz_H) (mo : Nat) (fs : List pz_V) (L : List (Nat × Nat × pz_E)) : Prop := g mo = some ([100], .inr (12, fs)) ∧ fs.length = 37 ∧ (∀ x, x ∈ L → g x.2.1 = some ([101, x.1], x.2.2) ∧ fs[x.1]? = some (.inr (.inr (some (x.2.1))))) ∧ ∀ k, k ∈ moF → fs[k]? = some (.inl 0)
theorem mi_1 {g : pz_H} {mo : Nat} {fs : List pz_V} {L : List (Nat × Nat × pz_E)} {q : Nat} (h : mi_S g mo fs L) (hq : g q = none) (k : Nat) (e : pz_E) (hk : k < 37) (hL : k ∉ L.map Prod.fst) (hF : k ∉ moF) : mi_S (va_up (va_up g q (some ([101, k], e))) mo (some ([100], .inr (12, fs.set k (.inr (.inr (some (q)))))))) mo (fs.set k (.inr (.inr (some (q))))) ((k, q, e) :: L) ∧ hg (fun b => b = [100]) g (va_up (va_up g q (some ([101, k], e))) mo (some ([100], .inr (12, fs.set k (.inr (.inr (some (q)))))))) := by
  obtain ⟨ha, hb, hc, hd⟩ := h
  have h1 := up_nq (v := some ([101, k], e)) ha hq
  refine ⟨⟨up_at, by rw [List.length_set, hb], fun x hx => ?_, fun j hj => ?_⟩, hg_up (hg_new hg_rf hq) h1 rfl⟩
  · rcases List.mem_cons.mp hx with rfl | hx
    · exact ⟨up_ne up_at h1 (by simp), by rw [List.getElem?_set_self (by omega)]⟩
    · have hne : k ≠ x.1 := fun e => hL (e ▸ List.mem_map_of_mem hx)
      exact ⟨up_ne (up_nq (hc x hx).1 hq) h1 (by simp), by rw [List.getElem?_set_ne hne]; exact (hc x hx).2⟩
  · have hne : k ≠ j := fun e => hF (e ▸ hj)
    rw [List.getElem?_set_ne hne]; exact hd j hj
theorem mi_p {fs : List pz_V} (h : fs[1]? = some (.inl 0)) : fs.set 1 (.inl 0) = fs := by
  apply List.ext_getElem?
  intro i
  by_cases e : 1 = i
  · subst e
    rw [List.getElem?_set_self (by
      have := List.getElem?_eq_some_iff.mp h
      exact this.1), h]
  · rw [List.getElem?_set_ne e]
set_option maxRecDepth 20000 in
theorem bX10_init_0 {X : pz_C} {rm : Room} {E : Option pz_V → pz_H → Prop} (hX : pz_X X cX10_init 1 RX10) (hR : pz_Rt X cX10_init 1 none rm E) (hN : pz_N X) (hrm : pz_rm X = rm) : ∀ lv st g c s, (zo_al 1 0 (zo_oin rm (zo_al 1 0 (zo_ic 2 (40) (zo_newa rm 0 (.inl (fun _ => 0)) (zo_putr 12 2 (zo_al 1 0 (zo_ic 2 (40) (zo_newa rm 0 (.inl (fun _ => 0)) (zo_putr 12 3 (zo_al 1 0 (zo_ic 3 (480) (zo_newa rm 0 (.inl (fun _ => 0)) (zo_putr 12 4 (zo_al 1 0 (zo_ic 3 (480) (zo_newa rm 1 (.inr (.inl (fun _ => 0))) (zo_putr 12 5 (zo_al 1 0 (zo_ic 3 (480) (zo_newa rm 1 (.inr (.inl (fun _ => 0))) (zo_putr 12 6 (zo_al 1 0 (zo_ic 2 (100) (zo_newa rm 0 (.inl (fun _ => 0)) (zo_putr 12 8 (zo_al 1 0 (zo_ic 2 (100) (zo_newa rm 1 (.inr (.inl (fun _ => 0))) (zo_putr 12 9 (zo_al 1 0 (zo_ic 2 (100) (zo_newa rm 2 (.inl (fun _ => 0)) (zo_putr 12 10 (zo_al 1 0 (zo_ic 2 (100) (zo_newa rm 0 (.inl (fun _ => 0)) (zo_putr 12 12 (zo_al 1 0 (zo_ic 2 (100) (zo_newa rm 1 (.inr (.inl (fun _ => 0))) (zo_putr 12 13 (zo_al 1 0 (zo_ic 2 (100) (zo_newa rm 0 (.inl (fun _ => 0)) (zo_putr 12 14 (zo_al 1 0 (zo_ic 2 (100) (zo_newa rm 0 (.inl (fun _ => 0)) (zo_putr 12 16 (zo_al 1 0 (zo_ic 2 (100) (zo_newa rm 0 (.inl (fun _ => 0)) (zo_putr 12 17 (zo_al 1 0 (zo_ic 2 (100) (zo_newa rm 1 (.inr (.inl (fun _ => 0))) (zo_putr 12 18 (zo_al 1 0 (zo_ic 2 (100) (zo_newa rm 1 (.inr (.inl (fun _ => 0))) (zo_putr 12 19 (zo_al 1 0 (zo_ic 2 (100) (zo_newa rm 0 (.inl (fun _ => 0)) (zo_putr 12 20 (zo_al 1 0 (zo_ic 3 (700) (zo_newa rm 1 (.inr (.inl (fun _ => 0))) (zo_putr 12 21 (zo_al 1 0 (zo_ic 2 (6) (zo_newa rm 0 (.inl (fun _ => 0)) (zo_putr 12 23 (zo_al 1 0 (zo_ic 2 (6) (zo_newa rm 1 (.inr (.inl (fun _ => 0))) (zo_putr 12 24 (zo_al 1 0 (zo_ic 2 (6) (zo_newa rm 0 (.inl (fun _ => 0)) (zo_putr 12 25 (zo_al 1 0 (zo_ic 2 (6) (zo_newa rm 0 (.inl (fun _ => 0)) (zo_putr 12 26 (zo_al 1 0 (zo_ic 3 (500) (zo_newa rm 0 (.inl (fun _ => 0)) (zo_putr 12 28 (zo_al 1 0 (zo_ic 2 (12) (zo_newa rm 1 (.inr (.inl (fun _ => 0))) (zo_putr 12 29 (zo_al 1 0 (zo_ic 2 (12) (zo_newa rm 1 (.inr (.inl (fun _ => 0))) (zo_putr 12 30 (zo_al 1 0 (zo_ic 2 (12) (zo_newa rm 0 (.inl (fun _ => 0)) (zo_putr 12 31 (zo_al 1 0 (zo_ic 2 (6) (zo_newa rm 1 (.inr (.inl (fun _ => 0))) (zo_putr 12 32 (zo_al 1 0 (zo_ic 2 (6) (zo_newa rm 1 (.inr (.inl (fun _ => 0))) (zo_putr 12 33 (zo_al 1 0 (zo_ic 2 (6) (zo_newa rm 1 (.inr (.inl (fun _ => 0))) (zo_putr 12 34 (zo_al 1 0 (zo_ic 1 (0) (zo_puti 12 1 (zo_rv rm E)))))))))))))))))))))))))))))))))))))))))))))))))))))))))))))))))))))))))))))))))))))))))))))))))))))))))))))))))))))) 0 lv st g c s → pz_Z X 1 0 lv st g c s := by
  subst hrm
  exact (zs_aload_n hX dX10_init_0 rfl (zs_oin hX mw_574f03c9 mw_98b694a7 mw_abc23770 dX10_init_1 (zs_aload_n hX dX10_init_4 rfl (zs_bipush hX dX10_init_5 (by decide) (zs_newI hX mw_e0d6632e dX10_init_7 (zs_putrF hX (C := RX10) (T := TX10) (N := 37) rfl in_X10 (by decide) mw_803dc064 tyX10 tyX10_ok nmX10 (ty := (.array .int)) (by decide +kernel) rfl rfl hN rfl dX10_init_9 (zs_aload_n hX dX10_init_12 rfl (zs_bipush hX dX10_init_13 (by decide) (zs_newI hX mw_e0d6632e dX10_init_15 (zs_putrF hX (C := RX10) (T := TX10) (N := 37) rfl in_X10 (by decide) mw_6c7416b9 tyX10 tyX10_ok nmX10 (ty := (.array .int)) (by decide +kernel) rfl rfl hN rfl dX10_init_17 (zs_aload_n hX dX10_init_20 rfl (zs_sipush hX dX10_init_21 (by decide) (zs_newI hX mw_e0d6632e dX10_init_24 (zs_putrF hX (C := RX10) (T := TX10) (N := 37) rfl in_X10 (by decide) mw_d81b3427 tyX10 tyX10_ok nmX10 (ty := (.array .int)) (by decide +kernel) rfl rfl hN rfl dX10_init_26 (zs_aload_n hX dX10_init_29 rfl (zs_sipush hX dX10_init_30 (by decide) (zs_newJ hX mw_53885fe2 dX10_init_33 (zs_putrF hX (C := RX10) (T := TX10) (N := 37) rfl in_X10 (by decide) mw_6426076d tyX10 tyX10_ok nmX10 (ty := (.array .long)) (by decide +kernel) rfl rfl hN rfl dX10_init_35 (zs_aload_n hX dX10_init_38 rfl (zs_sipush hX dX10_init_39 (by decide) (zs_newJ hX mw_53885fe2 dX10_init_42 (zs_putrF hX (C := RX10) (T := TX10) (N := 37) rfl in_X10 (by decide) mw_7b8e4d38 tyX10 tyX10_ok nmX10 (ty := (.array .long)) (by decide +kernel) rfl rfl hN rfl dX10_init_44 (zs_aload_n hX dX10_init_47 rfl (zs_bipush hX dX10_init_48 (by decide) (zs_newI hX mw_e0d6632e dX10_init_50 (zs_putrF hX (C := RX10) (T := TX10) (N := 37) rfl in_X10 (by decide) mw_2a6260c2 tyX10 tyX10_ok nmX10 (ty := (.array .int)) (by decide +kernel) rfl rfl hN rfl dX10_init_52 (zs_aload_n hX dX10_init_55 rfl (zs_bipush hX dX10_init_56 (by decide) (zs_newJ hX mw_53885fe2 dX10_init_58 (zs_putrF hX (C := RX10) (T := TX10) (N := 37) rfl in_X10 (by decide) mw_5ad55f98 tyX10 tyX10_ok nmX10 (ty := (.array .long)) (by decide +kernel) rfl rfl hN rfl dX10_init_60 (zs_aload_n hX dX10_init_63 rfl (zs_bipush hX dX10_init_64 (by decide) (zs_newZ hX mw_7d1231b9 dX10_init_66 (zs_putrF hX (C := RX10) (T := TX10) (N := 37) rfl in_X10 (by decide) mw_be70b4db tyX10 tyX10_ok nmX10 (ty := (.array .boolean)) (by decide +kernel) rfl rfl hN rfl dX10_init_68 (zs_aload_n hX dX10_init_71 rfl (zs_bipush hX dX10_init_72 (by decide) (zs_newI hX mw_e0d6632e dX10_init_74 (zs_putrF hX (C := RX10) (T := TX10) (N := 37) rfl in_X10 (by decide) mw_9e763348 tyX10 tyX10_ok nmX10 (ty := (.array .int)) (by decide +kernel) rfl rfl hN rfl dX10_init_76 (zs_aload_n hX dX10_init_79 rfl (zs_bipush hX dX10_init_80 (by decide) (zs_newJ hX mw_53885fe2 dX10_init_82 (zs_putrF hX (C := RX10) (T := TX10) (N := 37) rfl in_X10 (by decide) mw_e59d7dce tyX10 tyX10_ok nmX10 (ty := (.array .long)) (by decide +kernel) rfl rfl hN rfl dX10_init_84 (zs_aload_n hX dX10_init_87 rfl (zs_bipush hX dX10_init_88 (by decide) (zs_newI hX mw_e0d6632e dX10_init_90 (zs_putrF hX (C := RX10) (T := TX10) (N := 37) rfl in_X10 (by decide) mw_9d3a66d3 tyX10 tyX10_ok nmX10 (ty := (.array .int)) (by decide +kernel) rfl rfl hN rfl dX10_init_92 (zs_aload_n hX dX10_init_95 rfl (zs_bipush hX dX10_init_96 (by decide) (zs_newI hX mw_e0d6632e dX10_init_98 (zs_putrF hX (C := RX10) (T := TX10) (N := 37) rfl in_X10 (by decide) mw_6b61d357 tyX10 tyX10_ok nmX10 (ty := (.array .int)) (by decide +kernel) rfl rfl hN rfl dX10_init_100 (zs_aload_n hX dX10_init_103 rfl (zs_bipush hX dX10_init_104 (by decide) (zs_newI hX mw_e0d6632e dX10_init_106 (zs_putrF hX (C := RX10) (T := TX10) (N := 37) rfl in_X10 (by decide) mw_6d2c644d tyX10 tyX10_ok nmX10 (ty := (.array .int)) (by decide +kernel) rfl rfl hN rfl dX10_init_108 (zs_aload_n hX dX10_init_111 rfl (zs_bipush hX dX10_init_112 (by decide) (zs_newJ hX mw_53885fe2 dX10_init_114 (zs_putrF hX (C := RX10) (T := TX10) (N := 37) rfl in_X10 (by decide) mw_d5614c62 tyX10 tyX10_ok nmX10 (ty := (.array .long)) (by decide +kernel) rfl rfl hN rfl dX10_init_116 (zs_aload_n hX dX10_init_119 rfl (zs_bipush hX dX10_init_120 (by decide) (zs_newJ hX mw_53885fe2 dX10_init_122 (zs_putrF hX (C := RX10) (T := TX10) (N := 37) rfl in_X10 (by decide) mw_4846735b tyX10 tyX10_ok nmX10 (ty := (.array .long)) (by decide +kernel) rfl rfl hN rfl dX10_init_124 (zs_aload_n hX dX10_init_127 rfl (zs_bipush hX dX10_init_128 (by decide) (zs_newI hX mw_e0d6632e dX10_init_130 (zs_putrF hX (C := RX10) (T := TX10) (N := 37) rfl in_X10 (by decide) mw_1b6f5ecd tyX10 tyX10_ok nmX10 (ty := (.array .int)) (by decide +kernel) rfl rfl hN rfl dX10_init_132 (zs_aload_n hX dX10_init_135 rfl (zs_sipush hX dX10_init_136 (by decide) (zs_newJ hX mw_53885fe2 dX10_init_139 (zs_putrF hX (C := RX10) (T := TX10) (N := 37) rfl in_X10 (by decide) mw_2f85e0df tyX10 tyX10_ok nmX10 (ty := (.array .long)) (by decide +kernel) rfl rfl hN rfl dX10_init_141 (zs_aload_n hX dX10_init_144 rfl (zs_bipush hX dX10_init_145 (by decide) (zs_newI hX mw_e0d6632e dX10_init_147 (zs_putrF hX (C := RX10) (T := TX10) (N := 37) rfl in_X10 (by decide) mw_6928b6ad tyX10 tyX10_ok nmX10 (ty := (.array .int)) (by decide +kernel) rfl rfl hN rfl dX10_init_149 (zs_aload_n hX dX10_init_152 rfl (zs_bipush hX dX10_init_153 (by decide) (zs_newJ hX mw_53885fe2 dX10_init_155 (zs_putrF hX (C := RX10) (T := TX10) (N := 37) rfl in_X10 (by decide) mw_f2a9cd90 tyX10 tyX10_ok nmX10 (ty := (.array .long)) (by decide +kernel) rfl rfl hN rfl dX10_init_157 (zs_aload_n hX dX10_init_160 rfl (zs_bipush hX dX10_init_161 (by decide) (zs_newI hX mw_e0d6632e dX10_init_163 (zs_putrF hX (C := RX10) (T := TX10) (N := 37) rfl in_X10 (by decide) mw_6e65b301 tyX10 tyX10_ok nmX10 (ty := (.array .int)) (by decide +kernel) rfl rfl hN rfl dX10_init_165 (zs_aload_n hX dX10_init_168 rfl (zs_bipush hX dX10_init_169 (by decide) (zs_newI hX mw_e0d6632e dX10_init_171 (zs_putrF hX (C := RX10) (T := TX10) (N := 37) rfl in_X10 (by decide) mw_7f211ead tyX10 tyX10_ok nmX10 (ty := (.array .int)) (by decide +kernel) rfl rfl hN rfl dX10_init_173 (zs_aload_n hX dX10_init_176 rfl (zs_sipush hX dX10_init_177 (by decide) (zs_newI hX mw_e0d6632e dX10_init_180 (zs_putrF hX (C := RX10) (T := TX10) (N := 37) rfl in_X10 (by decide) mw_b9007286 tyX10 tyX10_ok nmX10 (ty := (.array .int)) (by decide +kernel) rfl rfl hN rfl dX10_init_182 (zs_aload_n hX dX10_init_185 rfl (zs_bipush hX dX10_init_186 (by decide) (zs_newJ hX mw_53885fe2 dX10_init_188 (zs_putrF hX (C := RX10) (T := TX10) (N := 37) rfl in_X10 (by decide) mw_4cf35770 tyX10 tyX10_ok nmX10 (ty := (.array .long)) (by decide +kernel) rfl rfl hN rfl dX10_init_190 (zs_aload_n hX dX10_init_193 rfl (zs_bipush hX dX10_init_194 (by decide) (zs_newJ hX mw_53885fe2 dX10_init_196 (zs_putrF hX (C := RX10) (T := TX10) (N := 37) rfl in_X10 (by decide) mw_664a2ed3 tyX10 tyX10_ok nmX10 (ty := (.array .long)) (by decide +kernel) rfl rfl hN rfl dX10_init_198 (zs_aload_n hX dX10_init_201 rfl (zs_bipush hX dX10_init_202 (by decide) (zs_newI hX mw_e0d6632e dX10_init_204 (zs_putrF hX (C := RX10) (T := TX10) (N := 37) rfl in_X10 (by decide) mw_fd6ebad1 tyX10 tyX10_ok nmX10 (ty := (.array .int)) (by decide +kernel) rfl rfl hN rfl dX10_init_206 (zs_aload_n hX dX10_init_209 rfl (zs_bipush hX dX10_init_210 (by decide) (zs_newJ hX mw_53885fe2 dX10_init_212 (zs_putrF hX (C := RX10) (T := TX10) (N := 37) rfl in_X10 (by decide) mw_d201e80b tyX10 tyX10_ok nmX10 (ty := (.array .long)) (by decide +kernel) rfl rfl hN rfl dX10_init_214 (zs_aload_n hX dX10_init_217 rfl (zs_bipush hX dX10_init_218 (by decide) (zs_newJ hX mw_53885fe2 dX10_init_220 (zs_putrF hX (C := RX10) (T := TX10) (N := 37) rfl in_X10 (by decide) mw_a87c2e50 tyX10 tyX10_ok nmX10 (ty := (.array .long)) (by decide +kernel) rfl rfl hN rfl dX10_init_222 (zs_aload_n hX dX10_init_225 rfl (zs_bipush hX dX10_init_226 (by decide) (zs_newJ hX mw_53885fe2 dX10_init_228 (zs_putrF hX (C := RX10) (T := TX10) (N := 37) rfl in_X10 (by decide) mw_f9a79a2c tyX10 tyX10_ok nmX10 (ty := (.array .long)) (by decide +kernel) rfl rfl hN rfl dX10_init_230 (zs_aload_n hX dX10_init_233 rfl (zs_iconst hX dX10_init_234 (by decide) (zs_puti hX (C := RX10) (T := TX10) (N := 37) rfl in_X10 (by decide) mw_479e8e34 tyX10 tyX10_ok nmX10 (by decide +kernel) rfl dX10_init_235 (zs_rv hR dX10_init_238))))))))))))))))))))))))))))))))))))))))))))))))))))))))))))))))))))))))))))))))))))))))))))))))))))))))))))))))))))))
def mo_df : List pz_V := [.inl 0, .inl 0, .inr (.inr none), .inr (.inr none), .inr (.inr none), .inr (.inr none), .inr (.inr none), .inl 0, .inr (.inr none), .inr (.inr none), .inr (.inr none), .inl 0, .inr (.inr none), .inr (.inr none), .inr (.inr none), .inl 0, .inr (.inr none), .inr (.inr none), .inr (.inr none), .inr (.inr none), .inr (.inr none), .inr (.inr none), .inl 0, .inr (.inr none), .inr (.inr none), .inr (.inr none), .inr (.inr none), .inl 0, .inr (.inr none), .inr (.inr none), .inr (.inr none), .inr (.inr none), .inr (.inr none), .inr (.inr none), .inr (.inr none), .inl 0, .inl 0]
def rm_X10_init : Room := { frames := 1, cells := 28, slots := 3898, locals := 12 }
abbrev gt_X10_init : Type := Nat
def pr_X10_init : gt_X10_init → List pz_V → pz_H → Prop := fun mo av g => av = [.inr (.inr (some (mo)))] ∧ g mo = some ([100], .inr (12, mo_df))
def po_X10_init : gt_X10_init → List pz_V → pz_H → Option pz_V → pz_H → Prop := fun mo _ g v g' => v = none ∧ hg (fun b => b = [100]) g g' ∧ ∃ M, moS g' mo M (fun _ => 0) (fun _ _ => 0) (fun _ _ => 0)
def mi_M (q2 q3 q4 q5 q6 q8 q9 q10 q12 q13 q14 q16 q17 q18 q19 q20 q21 q23 q24 q25 q26 q28 q29 q30 q31 q32 q33 q34 : Nat) : Nat → Nat := fun k => match k with
  | 2 => q2
  | 3 => q3
  | 4 => q4
  | 5 => q5
  | 6 => q6
  | 8 => q8
  | 9 => q9
  | 10 => q10
  | 12 => q12
  | 13 => q13
  | 14 => q14
  | 16 => q16
  | 17 => q17
  | 18 => q18
  | 19 => q19
  | 20 => q20
  | 21 => q21
  | 23 => q23
  | 24 => q24
  | 25 => q25
  | 26 => q26
  | 28 => q28
  | 29 => q29
  | 30 => q30
  | 31 => q31
  | 32 => q32
  | 33 => q33
  | 34 => q34
  | _ => 0
set_option maxRecDepth 40000 in
theorem mi_end {g : pz_H} {mo : Nat} {fs : List pz_V} {q2 q3 q4 q5 q6 q8 q9 q10 q12 q13 q14 q16 q17 q18 q19 q20 q21 q23 q24 q25 q26 q28 q29 q30 q31 q32 q33 q34 : Nat} (h : mi_S g mo fs [(34, q34, ar_j 6 (fun _ => 0)), (33, q33, ar_j 6 (fun _ => 0)), (32, q32, ar_j 6 (fun _ => 0)), (31, q31, ar_i 12 (fun _ => 0)), (30, q30, ar_j 12 (fun _ => 0)), (29, q29, ar_j 12 (fun _ => 0)), (28, q28, ar_i 500 (fun _ => 0)), (26, q26, ar_i 6 (fun _ => 0)), (25, q25, ar_i 6 (fun _ => 0)), (24, q24, ar_j 6 (fun _ => 0)), (23, q23, ar_i 6 (fun _ => 0)), (21, q21, ar_j 700 (fun _ => 0)), (20, q20, ar_i 100 (fun _ => 0)), (19, q19, ar_j 100 (fun _ => 0)), (18, q18, ar_j 100 (fun _ => 0)), (17, q17, ar_i 100 (fun _ => 0)), (16, q16, ar_i 100 (fun _ => 0)), (14, q14, ar_i 100 (fun _ => 0)), (13, q13, ar_j 100 (fun _ => 0)), (12, q12, ar_i 100 (fun _ => 0)), (10, q10, ar_z 100 (fun _ => 0)), (9, q9, ar_j 100 (fun _ => 0)), (8, q8, ar_i 100 (fun _ => 0)), (6, q6, ar_j 480 (fun _ => 0)), (5, q5, ar_j 480 (fun _ => 0)), (4, q4, ar_i 480 (fun _ => 0)), (3, q3, ar_i 40 (fun _ => 0)), (2, q2, ar_i 40 (fun _ => 0))]) : moS g mo (mi_M q2 q3 q4 q5 q6 q8 q9 q10 q12 q13 q14 q16 q17 q18 q19 q20 q21 q23 q24 q25 q26 q28 q29 q30 q31 q32 q33 q34) (fun _ => 0) (fun _ _ => 0) (fun _ _ => 0) := by
  obtain ⟨ha, hb, hc, hd⟩ := h
  have F := fun x hx => (hc x hx).1
  have E := fun x hx => (hc x hx).2
  have hfs : fs = mo_fs (fun _ => 0) (mi_M q2 q3 q4 q5 q6 q8 q9 q10 q12 q13 q14 q16 q17 q18 q19 q20 q21 q23 q24 q25 q26 q28 q29 q30 q31 q32 q33 q34) := by
    apply List.ext_getElem?
    intro i
    by_cases hi : i < 37
    · rcases (show i = 0 ∨ i = 1 ∨ i = 2 ∨ i = 3 ∨ i = 4 ∨ i = 5 ∨ i = 6 ∨ i = 7 ∨ i = 8 ∨ i = 9 ∨ i = 10 ∨ i = 11 ∨ i = 12 ∨ i = 13 ∨ i = 14 ∨ i = 15 ∨ i = 16 ∨ i = 17 ∨ i = 18 ∨ i = 19 ∨ i = 20 ∨ i = 21 ∨ i = 22 ∨ i = 23 ∨ i = 24 ∨ i = 25 ∨ i = 26 ∨ i = 27 ∨ i = 28 ∨ i = 29 ∨ i = 30 ∨ i = 31 ∨ i = 32 ∨ i = 33 ∨ i = 34 ∨ i = 35 ∨ i = 36 by omega) with rfl | rfl | rfl | rfl | rfl | rfl | rfl | rfl | rfl | rfl | rfl | rfl | rfl | rfl | rfl | rfl | rfl | rfl | rfl | rfl | rfl | rfl | rfl | rfl | rfl | rfl | rfl | rfl | rfl | rfl | rfl | rfl | rfl | rfl | rfl | rfl | rfl
      · exact hd 0 (by decide)
      · exact hd 1 (by decide)
      · exact E _ (List.mem_cons_of_mem _ (List.mem_cons_of_mem _ (List.mem_cons_of_mem _ (List.mem_cons_of_mem _ (List.mem_cons_of_mem _ (List.mem_cons_of_mem _ (List.mem_cons_of_mem _ (List.mem_cons_of_mem _ (List.mem_cons_of_mem _ (List.mem_cons_of_mem _ (List.mem_cons_of_mem _ (List.mem_cons_of_mem _ (List.mem_cons_of_mem _ (List.mem_cons_of_mem _ (List.mem_cons_of_mem _ (List.mem_cons_of_mem _ (List.mem_cons_of_mem _ (List.mem_cons_of_mem _ (List.mem_cons_of_mem _ (List.mem_cons_of_mem _ (List.mem_cons_of_mem _ (List.mem_cons_of_mem _ (List.mem_cons_of_mem _ (List.mem_cons_of_mem _ (List.mem_cons_of_mem _ (List.mem_cons_of_mem _ (List.mem_cons_of_mem _ (List.mem_cons_self))))))))))))))))))))))))))))
      · exact E _ (List.mem_cons_of_mem _ (List.mem_cons_of_mem _ (List.mem_cons_of_mem _ (List.mem_cons_of_mem _ (List.mem_cons_of_mem _ (List.mem_cons_of_mem _ (List.mem_cons_of_mem _ (List.mem_cons_of_mem _ (List.mem_cons_of_mem _ (List.mem_cons_of_mem _ (List.mem_cons_of_mem _ (List.mem_cons_of_mem _ (List.mem_cons_of_mem _ (List.mem_cons_of_mem _ (List.mem_cons_of_mem _ (List.mem_cons_of_mem _ (List.mem_cons_of_mem _ (List.mem_cons_of_mem _ (List.mem_cons_of_mem _ (List.mem_cons_of_mem _ (List.mem_cons_of_mem _ (List.mem_cons_of_mem _ (List.mem_cons_of_mem _ (List.mem_cons_of_mem _ (List.mem_cons_of_mem _ (List.mem_cons_of_mem _ (List.mem_cons_self)))))))))))))))))))))))))))
      · exact E _ (List.mem_cons_of_mem _ (List.mem_cons_of_mem _ (List.mem_cons_of_mem _ (List.mem_cons_of_mem _ (List.mem_cons_of_mem _ (List.mem_cons_of_mem _ (List.mem_cons_of_mem _ (List.mem_cons_of_mem _ (List.mem_cons_of_mem _ (List.mem_cons_of_mem _ (List.mem_cons_of_mem _ (List.mem_cons_of_mem _ (List.mem_cons_of_mem _ (List.mem_cons_of_mem _ (List.mem_cons_of_mem _ (List.mem_cons_of_mem _ (List.mem_cons_of_mem _ (List.mem_cons_of_mem _ (List.mem_cons_of_mem _ (List.mem_cons_of_mem _ (List.mem_cons_of_mem _ (List.mem_cons_of_mem _ (List.mem_cons_of_mem _ (List.mem_cons_of_mem _ (List.mem_cons_of_mem _ (List.mem_cons_self))))))))))))))))))))))))))
      · exact E _ (List.mem_cons_of_mem _ (List.mem_cons_of_mem _ (List.mem_cons_of_mem _ (List.mem_cons_of_mem _ (List.mem_cons_of_mem _ (List.mem_cons_of_mem _ (List.mem_cons_of_mem _ (List.mem_cons_of_mem _ (List.mem_cons_of_mem _ (List.mem_cons_of_mem _ (List.mem_cons_of_mem _ (List.mem_cons_of_mem _ (List.mem_cons_of_mem _ (List.mem_cons_of_mem _ (List.mem_cons_of_mem _ (List.mem_cons_of_mem _ (List.mem_cons_of_mem _ (List.mem_cons_of_mem _ (List.mem_cons_of_mem _ (List.mem_cons_of_mem _ (List.mem_cons_of_mem _ (List.mem_cons_of_mem _ (List.mem_cons_of_mem _ (List.mem_cons_of_mem _ (List.mem_cons_self)))))))))))))))))))))))))
      · exact E _ (List.mem_cons_of_mem _ (List.mem_cons_of_mem _ (List.mem_cons_of_mem _ (List.mem_cons_of_mem _ (List.mem_cons_of_mem _ (List.mem_cons_of_mem _ (List.mem_cons_of_mem _ (List.mem_cons_of_mem _ (List.mem_cons_of_mem _ (List.mem_cons_of_mem _ (List.mem_cons_of_mem _ (List.mem_cons_of_mem _ (List.mem_cons_of_mem _ (List.mem_cons_of_mem _ (List.mem_cons_of_mem _ (List.mem_cons_of_mem _ (List.mem_cons_of_mem _ (List.mem_cons_of_mem _ (List.mem_cons_of_mem _ (List.mem_cons_of_mem _ (List.mem_cons_of_mem _ (List.mem_cons_of_mem _ (List.mem_cons_of_mem _ (List.mem_cons_self))))))))))))))))))))))))
      · exact hd 7 (by decide)
      · exact E _ (List.mem_cons_of_mem _ (List.mem_cons_of_mem _ (List.mem_cons_of_mem _ (List.mem_cons_of_mem _ (List.mem_cons_of_mem _ (List.mem_cons_of_mem _ (List.mem_cons_of_mem _ (List.mem_cons_of_mem _ (List.mem_cons_of_mem _ (List.mem_cons_of_mem _ (List.mem_cons_of_mem _ (List.mem_cons_of_mem _ (List.mem_cons_of_mem _ (List.mem_cons_of_mem _ (List.mem_cons_of_mem _ (List.mem_cons_of_mem _ (List.mem_cons_of_mem _ (List.mem_cons_of_mem _ (List.mem_cons_of_mem _ (List.mem_cons_of_mem _ (List.mem_cons_of_mem _ (List.mem_cons_of_mem _ (List.mem_cons_self)))))))))))))))))))))))
      · exact E _ (List.mem_cons_of_mem _ (List.mem_cons_of_mem _ (List.mem_cons_of_mem _ (List.mem_cons_of_mem _ (List.mem_cons_of_mem _ (List.mem_cons_of_mem _ (List.mem_cons_of_mem _ (List.mem_cons_of_mem _ (List.mem_cons_of_mem _ (List.mem_cons_of_mem _ (List.mem_cons_of_mem _ (List.mem_cons_of_mem _ (List.mem_cons_of_mem _ (List.mem_cons_of_mem _ (List.mem_cons_of_mem _ (List.mem_cons_of_mem _ (List.mem_cons_of_mem _ (List.mem_cons_of_mem _ (List.mem_cons_of_mem _ (List.mem_cons_of_mem _ (List.mem_cons_of_mem _ (List.mem_cons_self))))))))))))))))))))))
      · exact E _ (List.mem_cons_of_mem _ (List.mem_cons_of_mem _ (List.mem_cons_of_mem _ (List.mem_cons_of_mem _ (List.mem_cons_of_mem _ (List.mem_cons_of_mem _ (List.mem_cons_of_mem _ (List.mem_cons_of_mem _ (List.mem_cons_of_mem _ (List.mem_cons_of_mem _ (List.mem_cons_of_mem _ (List.mem_cons_of_mem _ (List.mem_cons_of_mem _ (List.mem_cons_of_mem _ (List.mem_cons_of_mem _ (List.mem_cons_of_mem _ (List.mem_cons_of_mem _ (List.mem_cons_of_mem _ (List.mem_cons_of_mem _ (List.mem_cons_of_mem _ (List.mem_cons_self)))))))))))))))))))))
      · exact hd 11 (by decide)
      · exact E _ (List.mem_cons_of_mem _ (List.mem_cons_of_mem _ (List.mem_cons_of_mem _ (List.mem_cons_of_mem _ (List.mem_cons_of_mem _ (List.mem_cons_of_mem _ (List.mem_cons_of_mem _ (List.mem_cons_of_mem _ (List.mem_cons_of_mem _ (List.mem_cons_of_mem _ (List.mem_cons_of_mem _ (List.mem_cons_of_mem _ (List.mem_cons_of_mem _ (List.mem_cons_of_mem _ (List.mem_cons_of_mem _ (List.mem_cons_of_mem _ (List.mem_cons_of_mem _ (List.mem_cons_of_mem _ (List.mem_cons_of_mem _ (List.mem_cons_self))))))))))))))))))))
      · exact E _ (List.mem_cons_of_mem _ (List.mem_cons_of_mem _ (List.mem_cons_of_mem _ (List.mem_cons_of_mem _ (List.mem_cons_of_mem _ (List.mem_cons_of_mem _ (List.mem_cons_of_mem _ (List.mem_cons_of_mem _ (List.mem_cons_of_mem _ (List.mem_cons_of_mem _ (List.mem_cons_of_mem _ (List.mem_cons_of_mem _ (List.mem_cons_of_mem _ (List.mem_cons_of_mem _ (List.mem_cons_of_mem _ (List.mem_cons_of_mem _ (List.mem_cons_of_mem _ (List.mem_cons_of_mem _ (List.mem_cons_self)))))))))))))))))))
      · exact E _ (List.mem_cons_of_mem _ (List.mem_cons_of_mem _ (List.mem_cons_of_mem _ (List.mem_cons_of_mem _ (List.mem_cons_of_mem _ (List.mem_cons_of_mem _ (List.mem_cons_of_mem _ (List.mem_cons_of_mem _ (List.mem_cons_of_mem _ (List.mem_cons_of_mem _ (List.mem_cons_of_mem _ (List.mem_cons_of_mem _ (List.mem_cons_of_mem _ (List.mem_cons_of_mem _ (List.mem_cons_of_mem _ (List.mem_cons_of_mem _ (List.mem_cons_of_mem _ (List.mem_cons_self))))))))))))))))))
      · exact hd 15 (by decide)
      · exact E _ (List.mem_cons_of_mem _ (List.mem_cons_of_mem _ (List.mem_cons_of_mem _ (List.mem_cons_of_mem _ (List.mem_cons_of_mem _ (List.mem_cons_of_mem _ (List.mem_cons_of_mem _ (List.mem_cons_of_mem _ (List.mem_cons_of_mem _ (List.mem_cons_of_mem _ (List.mem_cons_of_mem _ (List.mem_cons_of_mem _ (List.mem_cons_of_mem _ (List.mem_cons_of_mem _ (List.mem_cons_of_mem _ (List.mem_cons_of_mem _ (List.mem_cons_self)))))))))))))))))
      · exact E _ (List.mem_cons_of_mem _ (List.mem_cons_of_mem _ (List.mem_cons_of_mem _ (List.mem_cons_of_mem _ (List.mem_cons_of_mem _ (List.mem_cons_of_mem _ (List.mem_cons_of_mem _ (List.mem_cons_of_mem _ (List.mem_cons_of_mem _ (List.mem_cons_of_mem _ (List.mem_cons_of_mem _ (List.mem_cons_of_mem _ (List.mem_cons_of_mem _ (List.mem_cons_of_mem _ (List.mem_cons_of_mem _ (List.mem_cons_self))))))))))))))))
      · exact E _ (List.mem_cons_of_mem _ (List.mem_cons_of_mem _ (List.mem_cons_of_mem _ (List.mem_cons_of_mem _ (List.mem_cons_of_mem _ (List.mem_cons_of_mem _ (List.mem_cons_of_mem _ (List.mem_cons_of_mem _ (List.mem_cons_of_mem _ (List.mem_cons_of_mem _ (List.mem_cons_of_mem _ (List.mem_cons_of_mem _ (List.mem_cons_of_mem _ (List.mem_cons_of_mem _ (List.mem_cons_self)))))))))))))))
      · exact E _ (List.mem_cons_of_mem _ (List.mem_cons_of_mem _ (List.mem_cons_of_mem _ (List.mem_cons_of_mem _ (List.mem_cons_of_mem _ (List.mem_cons_of_mem _ (List.mem_cons_of_mem _ (List.mem_cons_of_mem _ (List.mem_cons_of_mem _ (List.mem_cons_of_mem _ (List.mem_cons_of_mem _ (List.mem_cons_of_mem _ (List.mem_cons_of_mem _ (List.mem_cons_self))))))))))))))
      · exact E _ (List.mem_cons_of_mem _ (List.mem_cons_of_mem _ (List.mem_cons_of_mem _ (List.mem_cons_of_mem _ (List.mem_cons_of_mem _ (List.mem_cons_of_mem _ (List.mem_cons_of_mem _ (List.mem_cons_of_mem _ (List.mem_cons_of_mem _ (List.mem_cons_of_mem _ (List.mem_cons_of_mem _ (List.mem_cons_of_mem _ (List.mem_cons_self)))))))))))))
      · exact E _ (List.mem_cons_of_mem _ (List.mem_cons_of_mem _ (List.mem_cons_of_mem _ (List.mem_cons_of_mem _ (List.mem_cons_of_mem _ (List.mem_cons_of_mem _ (List.mem_cons_of_mem _ (List.mem_cons_of_mem _ (List.mem_cons_of_mem _ (List.mem_cons_of_mem _ (List.mem_cons_of_mem _ (List.mem_cons_self))))))))))))
      · exact hd 22 (by decide)
      · exact E _ (List.mem_cons_of_mem _ (List.mem_cons_of_mem _ (List.mem_cons_of_mem _ (List.mem_cons_of_mem _ (List.mem_cons_of_mem _ (List.mem_cons_of_mem _ (List.mem_cons_of_mem _ (List.mem_cons_of_mem _ (List.mem_cons_of_mem _ (List.mem_cons_of_mem _ (List.mem_cons_self)))))))))))
      · exact E _ (List.mem_cons_of_mem _ (List.mem_cons_of_mem _ (List.mem_cons_of_mem _ (List.mem_cons_of_mem _ (List.mem_cons_of_mem _ (List.mem_cons_of_mem _ (List.mem_cons_of_mem _ (List.mem_cons_of_mem _ (List.mem_cons_of_mem _ (List.mem_cons_self))))))))))
      · exact E _ (List.mem_cons_of_mem _ (List.mem_cons_of_mem _ (List.mem_cons_of_mem _ (List.mem_cons_of_mem _ (List.mem_cons_of_mem _ (List.mem_cons_of_mem _ (List.mem_cons_of_mem _ (List.mem_cons_of_mem _ (List.mem_cons_self)))))))))
      · exact E _ (List.mem_cons_of_mem _ (List.mem_cons_of_mem _ (List.mem_cons_of_mem _ (List.mem_cons_of_mem _ (List.mem_cons_of_mem _ (List.mem_cons_of_mem _ (List.mem_cons_of_mem _ (List.mem_cons_self))))))))
      · exact hd 27 (by decide)
      · exact E _ (List.mem_cons_of_mem _ (List.mem_cons_of_mem _ (List.mem_cons_of_mem _ (List.mem_cons_of_mem _ (List.mem_cons_of_mem _ (List.mem_cons_of_mem _ (List.mem_cons_self)))))))
      · exact E _ (List.mem_cons_of_mem _ (List.mem_cons_of_mem _ (List.mem_cons_of_mem _ (List.mem_cons_of_mem _ (List.mem_cons_of_mem _ (List.mem_cons_self))))))
      · exact E _ (List.mem_cons_of_mem _ (List.mem_cons_of_mem _ (List.mem_cons_of_mem _ (List.mem_cons_of_mem _ (List.mem_cons_self)))))
      · exact E _ (List.mem_cons_of_mem _ (List.mem_cons_of_mem _ (List.mem_cons_of_mem _ (List.mem_cons_self))))
      · exact E _ (List.mem_cons_of_mem _ (List.mem_cons_of_mem _ (List.mem_cons_self)))
      · exact E _ (List.mem_cons_of_mem _ (List.mem_cons_self))
      · exact E _ (List.mem_cons_self)
      · exact hd 35 (by decide)
      · exact hd 36 (by decide)
    · rw [List.getElem?_eq_none (by omega)]
      exact (List.getElem?_eq_none (show 37 ≤ i by omega)).symm
  subst hfs
  refine ⟨ha, ?_, ?_, ?_⟩
  · intro k hk
    simp only [moI, List.mem_cons, List.not_mem_nil, or_false] at hk
    rcases hk with rfl | rfl | rfl | rfl | rfl | rfl | rfl | rfl | rfl | rfl | rfl | rfl | rfl | rfl
    · exact F _ (List.mem_cons_of_mem _ (List.mem_cons_of_mem _ (List.mem_cons_of_mem _ (List.mem_cons_of_mem _ (List.mem_cons_of_mem _ (List.mem_cons_of_mem _ (List.mem_cons_of_mem _ (List.mem_cons_of_mem _ (List.mem_cons_of_mem _ (List.mem_cons_of_mem _ (List.mem_cons_of_mem _ (List.mem_cons_of_mem _ (List.mem_cons_of_mem _ (List.mem_cons_of_mem _ (List.mem_cons_of_mem _ (List.mem_cons_of_mem _ (List.mem_cons_of_mem _ (List.mem_cons_of_mem _ (List.mem_cons_of_mem _ (List.mem_cons_of_mem _ (List.mem_cons_of_mem _ (List.mem_cons_of_mem _ (List.mem_cons_of_mem _ (List.mem_cons_of_mem _ (List.mem_cons_of_mem _ (List.mem_cons_of_mem _ (List.mem_cons_of_mem _ (List.mem_cons_self))))))))))))))))))))))))))))
    · exact F _ (List.mem_cons_of_mem _ (List.mem_cons_of_mem _ (List.mem_cons_of_mem _ (List.mem_cons_of_mem _ (List.mem_cons_of_mem _ (List.mem_cons_of_mem _ (List.mem_cons_of_mem _ (List.mem_cons_of_mem _ (List.mem_cons_of_mem _ (List.mem_cons_of_mem _ (List.mem_cons_of_mem _ (List.mem_cons_of_mem _ (List.mem_cons_of_mem _ (List.mem_cons_of_mem _ (List.mem_cons_of_mem _ (List.mem_cons_of_mem _ (List.mem_cons_of_mem _ (List.mem_cons_of_mem _ (List.mem_cons_of_mem _ (List.mem_cons_of_mem _ (List.mem_cons_of_mem _ (List.mem_cons_of_mem _ (List.mem_cons_of_mem _ (List.mem_cons_of_mem _ (List.mem_cons_of_mem _ (List.mem_cons_of_mem _ (List.mem_cons_self)))))))))))))))))))))))))))
    · exact F _ (List.mem_cons_of_mem _ (List.mem_cons_of_mem _ (List.mem_cons_of_mem _ (List.mem_cons_of_mem _ (List.mem_cons_of_mem _ (List.mem_cons_of_mem _ (List.mem_cons_of_mem _ (List.mem_cons_of_mem _ (List.mem_cons_of_mem _ (List.mem_cons_of_mem _ (List.mem_cons_of_mem _ (List.mem_cons_of_mem _ (List.mem_cons_of_mem _ (List.mem_cons_of_mem _ (List.mem_cons_of_mem _ (List.mem_cons_of_mem _ (List.mem_cons_of_mem _ (List.mem_cons_of_mem _ (List.mem_cons_of_mem _ (List.mem_cons_of_mem _ (List.mem_cons_of_mem _ (List.mem_cons_of_mem _ (List.mem_cons_of_mem _ (List.mem_cons_of_mem _ (List.mem_cons_of_mem _ (List.mem_cons_self))))))))))))))))))))))))))
    · exact F _ (List.mem_cons_of_mem _ (List.mem_cons_of_mem _ (List.mem_cons_of_mem _ (List.mem_cons_of_mem _ (List.mem_cons_of_mem _ (List.mem_cons_of_mem _ (List.mem_cons_of_mem _ (List.mem_cons_of_mem _ (List.mem_cons_of_mem _ (List.mem_cons_of_mem _ (List.mem_cons_of_mem _ (List.mem_cons_of_mem _ (List.mem_cons_of_mem _ (List.mem_cons_of_mem _ (List.mem_cons_of_mem _ (List.mem_cons_of_mem _ (List.mem_cons_of_mem _ (List.mem_cons_of_mem _ (List.mem_cons_of_mem _ (List.mem_cons_of_mem _ (List.mem_cons_of_mem _ (List.mem_cons_of_mem _ (List.mem_cons_self)))))))))))))))))))))))
    · exact F _ (List.mem_cons_of_mem _ (List.mem_cons_of_mem _ (List.mem_cons_of_mem _ (List.mem_cons_of_mem _ (List.mem_cons_of_mem _ (List.mem_cons_of_mem _ (List.mem_cons_of_mem _ (List.mem_cons_of_mem _ (List.mem_cons_of_mem _ (List.mem_cons_of_mem _ (List.mem_cons_of_mem _ (List.mem_cons_of_mem _ (List.mem_cons_of_mem _ (List.mem_cons_of_mem _ (List.mem_cons_of_mem _ (List.mem_cons_of_mem _ (List.mem_cons_of_mem _ (List.mem_cons_of_mem _ (List.mem_cons_of_mem _ (List.mem_cons_self))))))))))))))))))))
    · exact F _ (List.mem_cons_of_mem _ (List.mem_cons_of_mem _ (List.mem_cons_of_mem _ (List.mem_cons_of_mem _ (List.mem_cons_of_mem _ (List.mem_cons_of_mem _ (List.mem_cons_of_mem _ (List.mem_cons_of_mem _ (List.mem_cons_of_mem _ (List.mem_cons_of_mem _ (List.mem_cons_of_mem _ (List.mem_cons_of_mem _ (List.mem_cons_of_mem _ (List.mem_cons_of_mem _ (List.mem_cons_of_mem _ (List.mem_cons_of_mem _ (List.mem_cons_of_mem _ (List.mem_cons_self))))))))))))))))))
    · exact F _ (List.mem_cons_of_mem _ (List.mem_cons_of_mem _ (List.mem_cons_of_mem _ (List.mem_cons_of_mem _ (List.mem_cons_of_mem _ (List.mem_cons_of_mem _ (List.mem_cons_of_mem _ (List.mem_cons_of_mem _ (List.mem_cons_of_mem _ (List.mem_cons_of_mem _ (List.mem_cons_of_mem _ (List.mem_cons_of_mem _ (List.mem_cons_of_mem _ (List.mem_cons_of_mem _ (List.mem_cons_of_mem _ (List.mem_cons_of_mem _ (List.mem_cons_self)))))))))))))))))
    · exact F _ (List.mem_cons_of_mem _ (List.mem_cons_of_mem _ (List.mem_cons_of_mem _ (List.mem_cons_of_mem _ (List.mem_cons_of_mem _ (List.mem_cons_of_mem _ (List.mem_cons_of_mem _ (List.mem_cons_of_mem _ (List.mem_cons_of_mem _ (List.mem_cons_of_mem _ (List.mem_cons_of_mem _ (List.mem_cons_of_mem _ (List.mem_cons_of_mem _ (List.mem_cons_of_mem _ (List.mem_cons_of_mem _ (List.mem_cons_self))))))))))))))))
    · exact F _ (List.mem_cons_of_mem _ (List.mem_cons_of_mem _ (List.mem_cons_of_mem _ (List.mem_cons_of_mem _ (List.mem_cons_of_mem _ (List.mem_cons_of_mem _ (List.mem_cons_of_mem _ (List.mem_cons_of_mem _ (List.mem_cons_of_mem _ (List.mem_cons_of_mem _ (List.mem_cons_of_mem _ (List.mem_cons_of_mem _ (List.mem_cons_self)))))))))))))
    · exact F _ (List.mem_cons_of_mem _ (List.mem_cons_of_mem _ (List.mem_cons_of_mem _ (List.mem_cons_of_mem _ (List.mem_cons_of_mem _ (List.mem_cons_of_mem _ (List.mem_cons_of_mem _ (List.mem_cons_of_mem _ (List.mem_cons_of_mem _ (List.mem_cons_of_mem _ (List.mem_cons_self)))))))))))
    · exact F _ (List.mem_cons_of_mem _ (List.mem_cons_of_mem _ (List.mem_cons_of_mem _ (List.mem_cons_of_mem _ (List.mem_cons_of_mem _ (List.mem_cons_of_mem _ (List.mem_cons_of_mem _ (List.mem_cons_of_mem _ (List.mem_cons_self)))))))))
    · exact F _ (List.mem_cons_of_mem _ (List.mem_cons_of_mem _ (List.mem_cons_of_mem _ (List.mem_cons_of_mem _ (List.mem_cons_of_mem _ (List.mem_cons_of_mem _ (List.mem_cons_of_mem _ (List.mem_cons_self))))))))
    · exact F _ (List.mem_cons_of_mem _ (List.mem_cons_of_mem _ (List.mem_cons_of_mem _ (List.mem_cons_of_mem _ (List.mem_cons_of_mem _ (List.mem_cons_of_mem _ (List.mem_cons_self)))))))
    · exact F _ (List.mem_cons_of_mem _ (List.mem_cons_of_mem _ (List.mem_cons_of_mem _ (List.mem_cons_self))))
  · exact F _ (List.mem_cons_of_mem _ (List.mem_cons_of_mem _ (List.mem_cons_of_mem _ (List.mem_cons_of_mem _ (List.mem_cons_of_mem _ (List.mem_cons_of_mem _ (List.mem_cons_of_mem _ (List.mem_cons_of_mem _ (List.mem_cons_of_mem _ (List.mem_cons_of_mem _ (List.mem_cons_of_mem _ (List.mem_cons_of_mem _ (List.mem_cons_of_mem _ (List.mem_cons_of_mem _ (List.mem_cons_of_mem _ (List.mem_cons_of_mem _ (List.mem_cons_of_mem _ (List.mem_cons_of_mem _ (List.mem_cons_of_mem _ (List.mem_cons_of_mem _ (List.mem_cons_self)))))))))))))))))))))
  · intro k hk
    simp only [moJ, List.mem_cons, List.not_mem_nil, or_false] at hk
    rcases hk with rfl | rfl | rfl | rfl | rfl | rfl | rfl | rfl | rfl | rfl | rfl | rfl | rfl
    · exact F _ (List.mem_cons_of_mem _ (List.mem_cons_of_mem _ (List.mem_cons_of_mem _ (List.mem_cons_of_mem _ (List.mem_cons_of_mem _ (List.mem_cons_of_mem _ (List.mem_cons_of_mem _ (List.mem_cons_of_mem _ (List.mem_cons_of_mem _ (List.mem_cons_of_mem _ (List.mem_cons_of_mem _ (List.mem_cons_of_mem _ (List.mem_cons_of_mem _ (List.mem_cons_of_mem _ (List.mem_cons_of_mem _ (List.mem_cons_of_mem _ (List.mem_cons_of_mem _ (List.mem_cons_of_mem _ (List.mem_cons_of_mem _ (List.mem_cons_of_mem _ (List.mem_cons_of_mem _ (List.mem_cons_of_mem _ (List.mem_cons_of_mem _ (List.mem_cons_of_mem _ (List.mem_cons_self)))))))))))))))))))))))))
    · exact F _ (List.mem_cons_of_mem _ (List.mem_cons_of_mem _ (List.mem_cons_of_mem _ (List.mem_cons_of_mem _ (List.mem_cons_of_mem _ (List.mem_cons_of_mem _ (List.mem_cons_of_mem _ (List.mem_cons_of_mem _ (List.mem_cons_of_mem _ (List.mem_cons_of_mem _ (List.mem_cons_of_mem _ (List.mem_cons_of_mem _ (List.mem_cons_of_mem _ (List.mem_cons_of_mem _ (List.mem_cons_of_mem _ (List.mem_cons_of_mem _ (List.mem_cons_of_mem _ (List.mem_cons_of_mem _ (List.mem_cons_of_mem _ (List.mem_cons_of_mem _ (List.mem_cons_of_mem _ (List.mem_cons_of_mem _ (List.mem_cons_of_mem _ (List.mem_cons_self))))))))))))))))))))))))
    · exact F _ (List.mem_cons_of_mem _ (List.mem_cons_of_mem _ (List.mem_cons_of_mem _ (List.mem_cons_of_mem _ (List.mem_cons_of_mem _ (List.mem_cons_of_mem _ (List.mem_cons_of_mem _ (List.mem_cons_of_mem _ (List.mem_cons_of_mem _ (List.mem_cons_of_mem _ (List.mem_cons_of_mem _ (List.mem_cons_of_mem _ (List.mem_cons_of_mem _ (List.mem_cons_of_mem _ (List.mem_cons_of_mem _ (List.mem_cons_of_mem _ (List.mem_cons_of_mem _ (List.mem_cons_of_mem _ (List.mem_cons_of_mem _ (List.mem_cons_of_mem _ (List.mem_cons_of_mem _ (List.mem_cons_self))))))))))))))))))))))
    · exact F _ (List.mem_cons_of_mem _ (List.mem_cons_of_mem _ (List.mem_cons_of_mem _ (List.mem_cons_of_mem _ (List.mem_cons_of_mem _ (List.mem_cons_of_mem _ (List.mem_cons_of_mem _ (List.mem_cons_of_mem _ (List.mem_cons_of_mem _ (List.mem_cons_of_mem _ (List.mem_cons_of_mem _ (List.mem_cons_of_mem _ (List.mem_cons_of_mem _ (List.mem_cons_of_mem _ (List.mem_cons_of_mem _ (List.mem_cons_of_mem _ (List.mem_cons_of_mem _ (List.mem_cons_of_mem _ (List.mem_cons_self)))))))))))))))))))
    · exact F _ (List.mem_cons_of_mem _ (List.mem_cons_of_mem _ (List.mem_cons_of_mem _ (List.mem_cons_of_mem _ (List.mem_cons_of_mem _ (List.mem_cons_of_mem _ (List.mem_cons_of_mem _ (List.mem_cons_of_mem _ (List.mem_cons_of_mem _ (List.mem_cons_of_mem _ (List.mem_cons_of_mem _ (List.mem_cons_of_mem _ (List.mem_cons_of_mem _ (List.mem_cons_of_mem _ (List.mem_cons_self)))))))))))))))
    · exact F _ (List.mem_cons_of_mem _ (List.mem_cons_of_mem _ (List.mem_cons_of_mem _ (List.mem_cons_of_mem _ (List.mem_cons_of_mem _ (List.mem_cons_of_mem _ (List.mem_cons_of_mem _ (List.mem_cons_of_mem _ (List.mem_cons_of_mem _ (List.mem_cons_of_mem _ (List.mem_cons_of_mem _ (List.mem_cons_of_mem _ (List.mem_cons_of_mem _ (List.mem_cons_self))))))))))))))
    · exact F _ (List.mem_cons_of_mem _ (List.mem_cons_of_mem _ (List.mem_cons_of_mem _ (List.mem_cons_of_mem _ (List.mem_cons_of_mem _ (List.mem_cons_of_mem _ (List.mem_cons_of_mem _ (List.mem_cons_of_mem _ (List.mem_cons_of_mem _ (List.mem_cons_of_mem _ (List.mem_cons_of_mem _ (List.mem_cons_self))))))))))))
    · exact F _ (List.mem_cons_of_mem _ (List.mem_cons_of_mem _ (List.mem_cons_of_mem _ (List.mem_cons_of_mem _ (List.mem_cons_of_mem _ (List.mem_cons_of_mem _ (List.mem_cons_of_mem _ (List.mem_cons_of_mem _ (List.mem_cons_of_mem _ (List.mem_cons_self))))))))))
    · exact F _ (List.mem_cons_of_mem _ (List.mem_cons_of_mem _ (List.mem_cons_of_mem _ (List.mem_cons_of_mem _ (List.mem_cons_of_mem _ (List.mem_cons_self))))))
    · exact F _ (List.mem_cons_of_mem _ (List.mem_cons_of_mem _ (List.mem_cons_of_mem _ (List.mem_cons_of_mem _ (List.mem_cons_self)))))
    · exact F _ (List.mem_cons_of_mem _ (List.mem_cons_of_mem _ (List.mem_cons_self)))
    · exact F _ (List.mem_cons_of_mem _ (List.mem_cons_self))
    · exact F _ (List.mem_cons_self)
set_option maxRecDepth 40000 in
set_option maxHeartbeats 8000000 in
theorem ct_X10_init {G : pz_Gx} (hOk : pz_OK G) (gh : gt_X10_init) : pz_M G yX10_init cX10_init 1 none rm_X10_init (pr_X10_init gh) (po_X10_init gh) := by
  refine pz_ofZ (by decide) hOk.1 (Or.inl rfl) ?_ ?_
  · rintro av g ⟨rfl, -⟩
    exact Nat.le_of_ble_eq_true rfl
  · rintro X hX hGX hrm hN av g ⟨rfl, h0⟩ hR
    have S0 : mi_S g gh mo_df [] := ⟨h0, rfl, fun x hx => (by cases hx), by decide⟩
    have H0 : hg (fun b => b = [100]) g g := hg_rf
    generalize mo_df = f0 at S0
    refine bX10_init_0 hX hR (hN rfl) hrm _ _ _ _ _ ⟨Nat.le_of_ble_eq_true rfl, Nat.le_of_ble_eq_true rfl, by decide, Nat.le_of_ble_eq_true rfl, Nat.le_of_ble_eq_true rfl, Nat.le_of_ble_eq_true rfl, [101, 2], fun q2 e2 => ⟨_, _, up_nq S0.1 e2, by rw [S0.2.1]; exact Nat.le_of_ble_eq_true rfl, ?_⟩⟩
    obtain ⟨S1, T1⟩ := mi_1 S0 e2 2 (ar_i 40 (fun _ => 0)) (by decide) (show 2 ∉ ([] : List Nat) by decide) (by decide)
    have H1 := hg_tr H0 T1
    rw [show (40 : Int32).toNatClampNeg = 40 from rfl]
    generalize va_up (va_up _ q2 _) gh _ = g1 at S1 T1 H1 ⊢
    generalize List.set f0 2 _ = f1 at S1
    clear T1 e2 S0 H0
    refine ⟨by decide, Nat.le_of_ble_eq_true rfl, Nat.le_of_ble_eq_true rfl, Nat.le_of_ble_eq_true rfl, [101, 3], fun q3 e3 => ⟨_, _, up_nq S1.1 e3, by rw [S1.2.1]; exact Nat.le_of_ble_eq_true rfl, ?_⟩⟩
    obtain ⟨S2, T2⟩ := mi_1 S1 e3 3 (ar_i 40 (fun _ => 0)) (by decide) (show 3 ∉ ([2] : List Nat) by decide) (by decide)
    have H2 := hg_tr H1 T2
    rw [show (40 : Int32).toNatClampNeg = 40 from rfl]
    generalize va_up (va_up _ q3 _) gh _ = g2 at S2 T2 H2 ⊢
    generalize List.set f1 3 _ = f2 at S2
    clear T2 e3 S1 H1
    refine ⟨by decide, Nat.le_of_ble_eq_true rfl, Nat.le_of_ble_eq_true rfl, Nat.le_of_ble_eq_true rfl, [101, 4], fun q4 e4 => ⟨_, _, up_nq S2.1 e4, by rw [S2.2.1]; exact Nat.le_of_ble_eq_true rfl, ?_⟩⟩
    obtain ⟨S3, T3⟩ := mi_1 S2 e4 4 (ar_i 480 (fun _ => 0)) (by decide) (show 4 ∉ ([3, 2] : List Nat) by decide) (by decide)
    have H3 := hg_tr H2 T3
    rw [show (480 : Int32).toNatClampNeg = 480 from rfl]
    generalize va_up (va_up _ q4 _) gh _ = g3 at S3 T3 H3 ⊢
    generalize List.set f2 4 _ = f3 at S3
    clear T3 e4 S2 H2
    refine ⟨by decide, Nat.le_of_ble_eq_true rfl, Nat.le_of_ble_eq_true rfl, Nat.le_of_ble_eq_true rfl, [101, 5], fun q5 e5 => ⟨_, _, up_nq S3.1 e5, by rw [S3.2.1]; exact Nat.le_of_ble_eq_true rfl, ?_⟩⟩
    obtain ⟨S4, T4⟩ := mi_1 S3 e5 5 (ar_j 480 (fun _ => 0)) (by decide) (show 5 ∉ ([4, 3, 2] : List Nat) by decide) (by decide)
    have H4 := hg_tr H3 T4
    rw [show (480 : Int32).toNatClampNeg = 480 from rfl]
    generalize va_up (va_up _ q5 _) gh _ = g4 at S4 T4 H4 ⊢
    generalize List.set f3 5 _ = f4 at S4
    clear T4 e5 S3 H3
    refine ⟨by decide, Nat.le_of_ble_eq_true rfl, Nat.le_of_ble_eq_true rfl, Nat.le_of_ble_eq_true rfl, [101, 6], fun q6 e6 => ⟨_, _, up_nq S4.1 e6, by rw [S4.2.1]; exact Nat.le_of_ble_eq_true rfl, ?_⟩⟩
    obtain ⟨S5, T5⟩ := mi_1 S4 e6 6 (ar_j 480 (fun _ => 0)) (by decide) (show 6 ∉ ([5, 4, 3, 2] : List Nat) by decide) (by decide)
    have H5 := hg_tr H4 T5
    rw [show (480 : Int32).toNatClampNeg = 480 from rfl]
    generalize va_up (va_up _ q6 _) gh _ = g5 at S5 T5 H5 ⊢
    generalize List.set f4 6 _ = f5 at S5
    clear T5 e6 S4 H4
    refine ⟨by decide, Nat.le_of_ble_eq_true rfl, Nat.le_of_ble_eq_true rfl, Nat.le_of_ble_eq_true rfl, [101, 8], fun q8 e8 => ⟨_, _, up_nq S5.1 e8, by rw [S5.2.1]; exact Nat.le_of_ble_eq_true rfl, ?_⟩⟩
    obtain ⟨S6, T6⟩ := mi_1 S5 e8 8 (ar_i 100 (fun _ => 0)) (by decide) (show 8 ∉ ([6, 5, 4, 3, 2] : List Nat) by decide) (by decide)
    have H6 := hg_tr H5 T6
    rw [show (100 : Int32).toNatClampNeg = 100 from rfl]
    generalize va_up (va_up _ q8 _) gh _ = g6 at S6 T6 H6 ⊢
    generalize List.set f5 8 _ = f6 at S6
    clear T6 e8 S5 H5
    refine ⟨by decide, Nat.le_of_ble_eq_true rfl, Nat.le_of_ble_eq_true rfl, Nat.le_of_ble_eq_true rfl, [101, 9], fun q9 e9 => ⟨_, _, up_nq S6.1 e9, by rw [S6.2.1]; exact Nat.le_of_ble_eq_true rfl, ?_⟩⟩
    obtain ⟨S7, T7⟩ := mi_1 S6 e9 9 (ar_j 100 (fun _ => 0)) (by decide) (show 9 ∉ ([8, 6, 5, 4, 3, 2] : List Nat) by decide) (by decide)
    have H7 := hg_tr H6 T7
    rw [show (100 : Int32).toNatClampNeg = 100 from rfl]
    generalize va_up (va_up _ q9 _) gh _ = g7 at S7 T7 H7 ⊢
    generalize List.set f6 9 _ = f7 at S7
    clear T7 e9 S6 H6
    refine ⟨by decide, Nat.le_of_ble_eq_true rfl, Nat.le_of_ble_eq_true rfl, Nat.le_of_ble_eq_true rfl, [101, 10], fun q10 e10 => ⟨_, _, up_nq S7.1 e10, by rw [S7.2.1]; exact Nat.le_of_ble_eq_true rfl, ?_⟩⟩
    obtain ⟨S8, T8⟩ := mi_1 S7 e10 10 (ar_z 100 (fun _ => 0)) (by decide) (show 10 ∉ ([9, 8, 6, 5, 4, 3, 2] : List Nat) by decide) (by decide)
    have H8 := hg_tr H7 T8
    rw [show (100 : Int32).toNatClampNeg = 100 from rfl]
    generalize va_up (va_up _ q10 _) gh _ = g8 at S8 T8 H8 ⊢
    generalize List.set f7 10 _ = f8 at S8
    clear T8 e10 S7 H7
    refine ⟨by decide, Nat.le_of_ble_eq_true rfl, Nat.le_of_ble_eq_true rfl, Nat.le_of_ble_eq_true rfl, [101, 12], fun q12 e12 => ⟨_, _, up_nq S8.1 e12, by rw [S8.2.1]; exact Nat.le_of_ble_eq_true rfl, ?_⟩⟩
    obtain ⟨S9, T9⟩ := mi_1 S8 e12 12 (ar_i 100 (fun _ => 0)) (by decide) (show 12 ∉ ([10, 9, 8, 6, 5, 4, 3, 2] : List Nat) by decide) (by decide)
    have H9 := hg_tr H8 T9
    rw [show (100 : Int32).toNatClampNeg = 100 from rfl]
    generalize va_up (va_up _ q12 _) gh _ = g9 at S9 T9 H9 ⊢
    generalize List.set f8 12 _ = f9 at S9
    clear T9 e12 S8 H8
    refine ⟨by decide, Nat.le_of_ble_eq_true rfl, Nat.le_of_ble_eq_true rfl, Nat.le_of_ble_eq_true rfl, [101, 13], fun q13 e13 => ⟨_, _, up_nq S9.1 e13, by rw [S9.2.1]; exact Nat.le_of_ble_eq_true rfl, ?_⟩⟩
    obtain ⟨S10, T10⟩ := mi_1 S9 e13 13 (ar_j 100 (fun _ => 0)) (by decide) (show 13 ∉ ([12, 10, 9, 8, 6, 5, 4, 3, 2] : List Nat) by decide) (by decide)
    have H10 := hg_tr H9 T10
    rw [show (100 : Int32).toNatClampNeg = 100 from rfl]
    generalize va_up (va_up _ q13 _) gh _ = g10 at S10 T10 H10 ⊢
    generalize List.set f9 13 _ = f10 at S10
    clear T10 e13 S9 H9
    refine ⟨by decide, Nat.le_of_ble_eq_true rfl, Nat.le_of_ble_eq_true rfl, Nat.le_of_ble_eq_true rfl, [101, 14], fun q14 e14 => ⟨_, _, up_nq S10.1 e14, by rw [S10.2.1]; exact Nat.le_of_ble_eq_true rfl, ?_⟩⟩
    obtain ⟨S11, T11⟩ := mi_1 S10 e14 14 (ar_i 100 (fun _ => 0)) (by decide) (show 14 ∉ ([13, 12, 10, 9, 8, 6, 5, 4, 3, 2] : List Nat) by decide) (by decide)
    have H11 := hg_tr H10 T11
    rw [show (100 : Int32).toNatClampNeg = 100 from rfl]
    generalize va_up (va_up _ q14 _) gh _ = g11 at S11 T11 H11 ⊢
    generalize List.set f10 14 _ = f11 at S11
    clear T11 e14 S10 H10
    refine ⟨by decide, Nat.le_of_ble_eq_true rfl, Nat.le_of_ble_eq_true rfl, Nat.le_of_ble_eq_true rfl, [101, 16], fun q16 e16 => ⟨_, _, up_nq S11.1 e16, by rw [S11.2.1]; exact Nat.le_of_ble_eq_true rfl, ?_⟩⟩
    obtain ⟨S12, T12⟩ := mi_1 S11 e16 16 (ar_i 100 (fun _ => 0)) (by decide) (show 16 ∉ ([14, 13, 12, 10, 9, 8, 6, 5, 4, 3, 2] : List Nat) by decide) (by decide)
    have H12 := hg_tr H11 T12
    rw [show (100 : Int32).toNatClampNeg = 100 from rfl]
    generalize va_up (va_up _ q16 _) gh _ = g12 at S12 T12 H12 ⊢
    generalize List.set f11 16 _ = f12 at S12
    clear T12 e16 S11 H11
    refine ⟨by decide, Nat.le_of_ble_eq_true rfl, Nat.le_of_ble_eq_true rfl, Nat.le_of_ble_eq_true rfl, [101, 17], fun q17 e17 => ⟨_, _, up_nq S12.1 e17, by rw [S12.2.1]; exact Nat.le_of_ble_eq_true rfl, ?_⟩⟩
    obtain ⟨S13, T13⟩ := mi_1 S12 e17 17 (ar_i 100 (fun _ => 0)) (by decide) (show 17 ∉ ([16, 14, 13, 12, 10, 9, 8, 6, 5, 4, 3, 2] : List Nat) by decide) (by decide)
    have H13 := hg_tr H12 T13
    rw [show (100 : Int32).toNatClampNeg = 100 from rfl]
    generalize va_up (va_up _ q17 _) gh _ = g13 at S13 T13 H13 ⊢
    generalize List.set f12 17 _ = f13 at S13
    clear T13 e17 S12 H12
    refine ⟨by decide, Nat.le_of_ble_eq_true rfl, Nat.le_of_ble_eq_true rfl, Nat.le_of_ble_eq_true rfl, [101, 18], fun q18 e18 => ⟨_, _, up_nq S13.1 e18, by rw [S13.2.1]; exact Nat.le_of_ble_eq_true rfl, ?_⟩⟩
    obtain ⟨S14, T14⟩ := mi_1 S13 e18 18 (ar_j 100 (fun _ => 0)) (by decide) (show 18 ∉ ([17, 16, 14, 13, 12, 10, 9, 8, 6, 5, 4, 3, 2] : List Nat) by decide) (by decide)
    have H14 := hg_tr H13 T14
    rw [show (100 : Int32).toNatClampNeg = 100 from rfl]
    generalize va_up (va_up _ q18 _) gh _ = g14 at S14 T14 H14 ⊢
    generalize List.set f13 18 _ = f14 at S14
    clear T14 e18 S13 H13
    refine ⟨by decide, Nat.le_of_ble_eq_true rfl, Nat.le_of_ble_eq_true rfl, Nat.le_of_ble_eq_true rfl, [101, 19], fun q19 e19 => ⟨_, _, up_nq S14.1 e19, by rw [S14.2.1]; exact Nat.le_of_ble_eq_true rfl, ?_⟩⟩
    obtain ⟨S15, T15⟩ := mi_1 S14 e19 19 (ar_j 100 (fun _ => 0)) (by decide) (show 19 ∉ ([18, 17, 16, 14, 13, 12, 10, 9, 8, 6, 5, 4, 3, 2] : List Nat) by decide) (by decide)
    have H15 := hg_tr H14 T15
    rw [show (100 : Int32).toNatClampNeg = 100 from rfl]
    generalize va_up (va_up _ q19 _) gh _ = g15 at S15 T15 H15 ⊢
    generalize List.set f14 19 _ = f15 at S15
    clear T15 e19 S14 H14
    refine ⟨by decide, Nat.le_of_ble_eq_true rfl, Nat.le_of_ble_eq_true rfl, Nat.le_of_ble_eq_true rfl, [101, 20], fun q20 e20 => ⟨_, _, up_nq S15.1 e20, by rw [S15.2.1]; exact Nat.le_of_ble_eq_true rfl, ?_⟩⟩
    obtain ⟨S16, T16⟩ := mi_1 S15 e20 20 (ar_i 100 (fun _ => 0)) (by decide) (show 20 ∉ ([19, 18, 17, 16, 14, 13, 12, 10, 9, 8, 6, 5, 4, 3, 2] : List Nat) by decide) (by decide)
    have H16 := hg_tr H15 T16
    rw [show (100 : Int32).toNatClampNeg = 100 from rfl]
    generalize va_up (va_up _ q20 _) gh _ = g16 at S16 T16 H16 ⊢
    generalize List.set f15 20 _ = f16 at S16
    clear T16 e20 S15 H15
    refine ⟨by decide, Nat.le_of_ble_eq_true rfl, Nat.le_of_ble_eq_true rfl, Nat.le_of_ble_eq_true rfl, [101, 21], fun q21 e21 => ⟨_, _, up_nq S16.1 e21, by rw [S16.2.1]; exact Nat.le_of_ble_eq_true rfl, ?_⟩⟩
    obtain ⟨S17, T17⟩ := mi_1 S16 e21 21 (ar_j 700 (fun _ => 0)) (by decide) (show 21 ∉ ([20, 19, 18, 17, 16, 14, 13, 12, 10, 9, 8, 6, 5, 4, 3, 2] : List Nat) by decide) (by decide)
    have H17 := hg_tr H16 T17
    rw [show (700 : Int32).toNatClampNeg = 700 from rfl]
    generalize va_up (va_up _ q21 _) gh _ = g17 at S17 T17 H17 ⊢
    generalize List.set f16 21 _ = f17 at S17
    clear T17 e21 S16 H16
    refine ⟨by decide, Nat.le_of_ble_eq_true rfl, Nat.le_of_ble_eq_true rfl, Nat.le_of_ble_eq_true rfl, [101, 23], fun q23 e23 => ⟨_, _, up_nq S17.1 e23, by rw [S17.2.1]; exact Nat.le_of_ble_eq_true rfl, ?_⟩⟩
    obtain ⟨S18, T18⟩ := mi_1 S17 e23 23 (ar_i 6 (fun _ => 0)) (by decide) (show 23 ∉ ([21, 20, 19, 18, 17, 16, 14, 13, 12, 10, 9, 8, 6, 5, 4, 3, 2] : List Nat) by decide) (by decide)
    have H18 := hg_tr H17 T18
    rw [show (6 : Int32).toNatClampNeg = 6 from rfl]
    generalize va_up (va_up _ q23 _) gh _ = g18 at S18 T18 H18 ⊢
    generalize List.set f17 23 _ = f18 at S18
    clear T18 e23 S17 H17
    refine ⟨by decide, Nat.le_of_ble_eq_true rfl, Nat.le_of_ble_eq_true rfl, Nat.le_of_ble_eq_true rfl, [101, 24], fun q24 e24 => ⟨_, _, up_nq S18.1 e24, by rw [S18.2.1]; exact Nat.le_of_ble_eq_true rfl, ?_⟩⟩
    obtain ⟨S19, T19⟩ := mi_1 S18 e24 24 (ar_j 6 (fun _ => 0)) (by decide) (show 24 ∉ ([23, 21, 20, 19, 18, 17, 16, 14, 13, 12, 10, 9, 8, 6, 5, 4, 3, 2] : List Nat) by decide) (by decide)
    have H19 := hg_tr H18 T19
    rw [show (6 : Int32).toNatClampNeg = 6 from rfl]
    generalize va_up (va_up _ q24 _) gh _ = g19 at S19 T19 H19 ⊢
    generalize List.set f18 24 _ = f19 at S19
    clear T19 e24 S18 H18
    refine ⟨by decide, Nat.le_of_ble_eq_true rfl, Nat.le_of_ble_eq_true rfl, Nat.le_of_ble_eq_true rfl, [101, 25], fun q25 e25 => ⟨_, _, up_nq S19.1 e25, by rw [S19.2.1]; exact Nat.le_of_ble_eq_true rfl, ?_⟩⟩
    obtain ⟨S20, T20⟩ := mi_1 S19 e25 25 (ar_i 6 (fun _ => 0)) (by decide) (show 25 ∉ ([24, 23, 21, 20, 19, 18, 17, 16, 14, 13, 12, 10, 9, 8, 6, 5, 4, 3, 2] : List Nat) by decide) (by decide)
    have H20 := hg_tr H19 T20
    rw [show (6 : Int32).toNatClampNeg = 6 from rfl]
    generalize va_up (va_up _ q25 _) gh _ = g20 at S20 T20 H20 ⊢
    generalize List.set f19 25 _ = f20 at S20
    clear T20 e25 S19 H19
    refine ⟨by decide, Nat.le_of_ble_eq_true rfl, Nat.le_of_ble_eq_true rfl, Nat.le_of_ble_eq_true rfl, [101, 26], fun q26 e26 => ⟨_, _, up_nq S20.1 e26, by rw [S20.2.1]; exact Nat.le_of_ble_eq_true rfl, ?_⟩⟩
    obtain ⟨S21, T21⟩ := mi_1 S20 e26 26 (ar_i 6 (fun _ => 0)) (by decide) (show 26 ∉ ([25, 24, 23, 21, 20, 19, 18, 17, 16, 14, 13, 12, 10, 9, 8, 6, 5, 4, 3, 2] : List Nat) by decide) (by decide)
    have H21 := hg_tr H20 T21
    rw [show (6 : Int32).toNatClampNeg = 6 from rfl]
    generalize va_up (va_up _ q26 _) gh _ = g21 at S21 T21 H21 ⊢
    generalize List.set f20 26 _ = f21 at S21
    clear T21 e26 S20 H20
    refine ⟨by decide, Nat.le_of_ble_eq_true rfl, Nat.le_of_ble_eq_true rfl, Nat.le_of_ble_eq_true rfl, [101, 28], fun q28 e28 => ⟨_, _, up_nq S21.1 e28, by rw [S21.2.1]; exact Nat.le_of_ble_eq_true rfl, ?_⟩⟩
    obtain ⟨S22, T22⟩ := mi_1 S21 e28 28 (ar_i 500 (fun _ => 0)) (by decide) (show 28 ∉ ([26, 25, 24, 23, 21, 20, 19, 18, 17, 16, 14, 13, 12, 10, 9, 8, 6, 5, 4, 3, 2] : List Nat) by decide) (by decide)
    have H22 := hg_tr H21 T22
    rw [show (500 : Int32).toNatClampNeg = 500 from rfl]
    generalize va_up (va_up _ q28 _) gh _ = g22 at S22 T22 H22 ⊢
    generalize List.set f21 28 _ = f22 at S22
    clear T22 e28 S21 H21
    refine ⟨by decide, Nat.le_of_ble_eq_true rfl, Nat.le_of_ble_eq_true rfl, Nat.le_of_ble_eq_true rfl, [101, 29], fun q29 e29 => ⟨_, _, up_nq S22.1 e29, by rw [S22.2.1]; exact Nat.le_of_ble_eq_true rfl, ?_⟩⟩
    obtain ⟨S23, T23⟩ := mi_1 S22 e29 29 (ar_j 12 (fun _ => 0)) (by decide) (show 29 ∉ ([28, 26, 25, 24, 23, 21, 20, 19, 18, 17, 16, 14, 13, 12, 10, 9, 8, 6, 5, 4, 3, 2] : List Nat) by decide) (by decide)
    have H23 := hg_tr H22 T23
    rw [show (12 : Int32).toNatClampNeg = 12 from rfl]
    generalize va_up (va_up _ q29 _) gh _ = g23 at S23 T23 H23 ⊢
    generalize List.set f22 29 _ = f23 at S23
    clear T23 e29 S22 H22
    refine ⟨by decide, Nat.le_of_ble_eq_true rfl, Nat.le_of_ble_eq_true rfl, Nat.le_of_ble_eq_true rfl, [101, 30], fun q30 e30 => ⟨_, _, up_nq S23.1 e30, by rw [S23.2.1]; exact Nat.le_of_ble_eq_true rfl, ?_⟩⟩
    obtain ⟨S24, T24⟩ := mi_1 S23 e30 30 (ar_j 12 (fun _ => 0)) (by decide) (show 30 ∉ ([29, 28, 26, 25, 24, 23, 21, 20, 19, 18, 17, 16, 14, 13, 12, 10, 9, 8, 6, 5, 4, 3, 2] : List Nat) by decide) (by decide)
    have H24 := hg_tr H23 T24
    rw [show (12 : Int32).toNatClampNeg = 12 from rfl]
    generalize va_up (va_up _ q30 _) gh _ = g24 at S24 T24 H24 ⊢
    generalize List.set f23 30 _ = f24 at S24
    clear T24 e30 S23 H23
    refine ⟨by decide, Nat.le_of_ble_eq_true rfl, Nat.le_of_ble_eq_true rfl, Nat.le_of_ble_eq_true rfl, [101, 31], fun q31 e31 => ⟨_, _, up_nq S24.1 e31, by rw [S24.2.1]; exact Nat.le_of_ble_eq_true rfl, ?_⟩⟩
    obtain ⟨S25, T25⟩ := mi_1 S24 e31 31 (ar_i 12 (fun _ => 0)) (by decide) (show 31 ∉ ([30, 29, 28, 26, 25, 24, 23, 21, 20, 19, 18, 17, 16, 14, 13, 12, 10, 9, 8, 6, 5, 4, 3, 2] : List Nat) by decide) (by decide)
    have H25 := hg_tr H24 T25
    rw [show (12 : Int32).toNatClampNeg = 12 from rfl]
    generalize va_up (va_up _ q31 _) gh _ = g25 at S25 T25 H25 ⊢
    generalize List.set f24 31 _ = f25 at S25
    clear T25 e31 S24 H24
    refine ⟨by decide, Nat.le_of_ble_eq_true rfl, Nat.le_of_ble_eq_true rfl, Nat.le_of_ble_eq_true rfl, [101, 32], fun q32 e32 => ⟨_, _, up_nq S25.1 e32, by rw [S25.2.1]; exact Nat.le_of_ble_eq_true rfl, ?_⟩⟩
    obtain ⟨S26, T26⟩ := mi_1 S25 e32 32 (ar_j 6 (fun _ => 0)) (by decide) (show 32 ∉ ([31, 30, 29, 28, 26, 25, 24, 23, 21, 20, 19, 18, 17, 16, 14, 13, 12, 10, 9, 8, 6, 5, 4, 3, 2] : List Nat) by decide) (by decide)
    have H26 := hg_tr H25 T26
    rw [show (6 : Int32).toNatClampNeg = 6 from rfl]
    generalize va_up (va_up _ q32 _) gh _ = g26 at S26 T26 H26 ⊢
    generalize List.set f25 32 _ = f26 at S26
    clear T26 e32 S25 H25
    refine ⟨by decide, Nat.le_of_ble_eq_true rfl, Nat.le_of_ble_eq_true rfl, Nat.le_of_ble_eq_true rfl, [101, 33], fun q33 e33 => ⟨_, _, up_nq S26.1 e33, by rw [S26.2.1]; exact Nat.le_of_ble_eq_true rfl, ?_⟩⟩
    obtain ⟨S27, T27⟩ := mi_1 S26 e33 33 (ar_j 6 (fun _ => 0)) (by decide) (show 33 ∉ ([32, 31, 30, 29, 28, 26, 25, 24, 23, 21, 20, 19, 18, 17, 16, 14, 13, 12, 10, 9, 8, 6, 5, 4, 3, 2] : List Nat) by decide) (by decide)
    have H27 := hg_tr H26 T27
    rw [show (6 : Int32).toNatClampNeg = 6 from rfl]
    generalize va_up (va_up _ q33 _) gh _ = g27 at S27 T27 H27 ⊢
    generalize List.set f26 33 _ = f27 at S27
    clear T27 e33 S26 H26
    refine ⟨by decide, Nat.le_of_ble_eq_true rfl, Nat.le_of_ble_eq_true rfl, Nat.le_of_ble_eq_true rfl, [101, 34], fun q34 e34 => ⟨_, _, up_nq S27.1 e34, by rw [S27.2.1]; exact Nat.le_of_ble_eq_true rfl, ?_⟩⟩
    obtain ⟨S28, T28⟩ := mi_1 S27 e34 34 (ar_j 6 (fun _ => 0)) (by decide) (show 34 ∉ ([33, 32, 31, 30, 29, 28, 26, 25, 24, 23, 21, 20, 19, 18, 17, 16, 14, 13, 12, 10, 9, 8, 6, 5, 4, 3, 2] : List Nat) by decide) (by decide)
    have H28 := hg_tr H27 T28
    rw [show (6 : Int32).toNatClampNeg = 6 from rfl]
    generalize va_up (va_up _ q34 _) gh _ = g28 at S28 T28 H28 ⊢
    generalize List.set f27 34 _ = f28 at S28
    clear T28 e34 S27 H27
    refine ⟨_, _, S28.1, by rw [S28.2.1]; exact Nat.le_of_ble_eq_true rfl, ?_⟩
    have hgr := pz_grf (g := g28) S28.1
    rw [mi_p (S28.2.2.2 1 (by decide)), hgr]
    exact ⟨Nat.le_of_ble_eq_true rfl, Nat.le_of_ble_eq_true rfl, rfl, H28, _, mi_end S28⟩
