/-! what the class's calls leave of the reference's cells -/
theorem clX_17 : clX [17] := ⟨by simp, by simp⟩
theorem hk_line {sa md : Nat} {gk : gt_X9_line} {out : Nat} {fo : Nat → Int64} {v : Option pz_V} {g g1 : pz_H} (h : po_L_line sa md (gk, out, fo) [] g v g1) : hg clX g g1 := by
  obtain ⟨⟨h, x⟩, ⟨nt, wy, lv, tx⟩, ⟨ne, nz, nw⟩, ⟨la, pa, na, so, fd, Wa⟩, ⟨nl, L, U⟩⟩ := gk
  rcases h with ⟨-, y, g2, f', hpo, ho, -, rfl⟩ | ⟨E, ⟨rfl, -⟩, -⟩
  · obtain ⟨-, -, -, hh, -⟩ := hpo
    exact hg_up (hg_clX hh (by simp) (by simp)) ho clX_17
  · exact hg_rf
theorem hk_stop {sa md : Nat} {gk : gt_X9_stop} {out : Nat} {fo : Nat → Int64} {v : Option pz_V} {g g1 : pz_H} (h : po_L_stop sa md (gk, out, fo) [] g v g1) : hg clX g g1 := by
  obtain ⟨⟨h, x, p, a, b⟩, ⟨nt, wy, lv, tx⟩, ⟨ne, nz, nw⟩, ⟨la, pa, na, so, fd, Wa⟩, ⟨nl, L, U⟩⟩ := gk
  rcases h with ⟨-, y, g2, f', hpo, ho, -, rfl⟩ | ⟨E, ⟨rfl, -⟩, -⟩
  · obtain ⟨-, -, k, P, A, B, -, -, -, -, -, -, -, -, -, hc⟩ := hpo
    rcases hc with ⟨-, -, e⟩ | ⟨-, -, hh, -⟩
    · rw [e] at ho ⊢
      exact hg_up hg_rf ho clX_17
    · exact hg_up (hg_clX hh (by simp [lnS]) (by simp [lnS])) ho clX_17
  · exact hg_rf
theorem hk_exception {sa md : Nat} {gk : gt_X9_exception} {out : Nat} {fo : Nat → Int64} {v : Option pz_V} {g g1 : pz_H} (h : po_L_exception sa md (gk, out, fo) [] g v g1) : hg clX g g1 := by
  obtain ⟨⟨h, x, a, b⟩, ⟨nt, wy, lv, tx⟩, ⟨ne, nz, nw⟩, ⟨la, pa, na, so, fd, Wa⟩, ⟨nl, L, U⟩⟩ := gk
  rcases h with ⟨-, y, g2, f', hpo, ho, -, rfl⟩ | ⟨E, ⟨rfl, -⟩, -⟩
  · obtain ⟨-, -, k, D, -, -, -, -, -, -, hh, -⟩ := hpo
    exact hg_up (hg_clX hh (by simp) (by simp)) ho clX_17
  · exact hg_rf
theorem hk_zone {sa md : Nat} {gk : gt_X9_zone} {out : Nat} {fo : Nat → Int64} {v : Option pz_V} {g g1 : pz_H} (h : po_L_zone sa md (gk, out, fo) [] g v g1) : hg clX g g1 := by
  obtain ⟨⟨h, p, f, x⟩, ⟨nt, wy, lv, tx⟩, ⟨ne, nz, nw⟩, ⟨la, pa, na, so, fd, Wa⟩, ⟨fp, Z, N, C⟩⟩ := gk
  rcases h with ⟨-, y, g2, f', hpo, ho, -, rfl⟩ | ⟨E, ⟨rfl, -⟩, -⟩
  · obtain ⟨-, k, F, -, -, -, -, hh, -⟩ := hpo
    exact hg_up (hg_clX hh (by simp) (by simp)) ho clX_17
  · exact hg_rf
theorem hk_least {sa md : Nat} {gk : gt_X9_least} {out : Nat} {fo : Nat → Int64} {v : Option pz_V} {g g1 : pz_H} (h : po_L_least sa md (gk, out, fo) [] g v g1) : hg clX g g1 := by
  obtain ⟨⟨h, p, x⟩, ⟨nt, wy, lv, tx⟩, ⟨ne, nz, nw⟩, ⟨la, pa, na, so, fd, Wa⟩, ⟨fp, Z, N, C⟩⟩ := gk
  rcases h with ⟨-, y, g2, f', hpo, ho, -, rfl⟩ | ⟨E, ⟨rfl, -⟩, -⟩
  · obtain ⟨k, -, -, -, -, hh, -⟩ := hpo
    exact hg_up (hg_clX hh (by simp) (by simp)) ho clX_17
  · exact hg_rf
theorem hk_change {sa md : Nat} {gk : gt_X9_change} {out : Nat} {fo : Nat → Int64} {v : Option pz_V} {g g1 : pz_H} (h : po_L_change sa md (gk, out, fo) [] g v g1) : hg clX g g1 := by
  obtain ⟨⟨h, x, p, a, b⟩, ⟨nt, wy, lv, tx⟩, ⟨ne, nz, nw⟩, ⟨la, pa, na, so, fd, Wa⟩, ⟨nl, L, U⟩⟩ := gk
  rcases h with ⟨-, y, g2, f', hpo, ho, -, rfl⟩ | ⟨E, ⟨rfl, -⟩, -⟩
  · obtain ⟨-, -, -, k, s, B, D, -, -, -, -, -, -, -, -, -, hh, -⟩ := hpo
    exact hg_up (hg_clX hh (by simp) (by simp)) ho clX_17
  · exact hg_rf
theorem hk_earliest {sa md : Nat} {gk : gt_X9_earliest} {out : Nat} {fo : Nat → Int64} {v : Option pz_V} {g g1 : pz_H} (h : po_L_earliest sa md (gk, out, fo) [] g v g1) : hg clX g g1 := by
  obtain ⟨⟨h, a, b, t⟩, ⟨nt, wy, lv, tx⟩, ⟨ne, nz, nw⟩, ⟨la, pa, na, so, fd, Wa⟩, ⟨nl, L, U⟩, ⟨fp, Z, N, C⟩, ⟨lg, K, Pa, pf⟩⟩ := gk
  rcases h with ⟨-, y, g2, f', hpo, ho, -, rfl⟩ | ⟨E, ⟨rfl, -⟩, -⟩
  · obtain ⟨-, -, fr, to, T, -, -, -, -, -, -, hh, -⟩ := hpo
    exact hg_up (hg_clX hh (by simp [erSc, fbSc, lnSc]) (by simp [erSc, fbSc, lnSc])) ho clX_17
  · exact hg_rf
theorem hk_step {sa md : Nat} {gk : gt_X9_step} {out : Nat} {fo : Nat → Int64} {v : Option pz_V} {g g1 : pz_H} (h : po_L_step sa md (gk, out, fo) [] g v g1) : hg clX g g1 := by
  obtain ⟨⟨h, i, w⟩, ⟨nt, wy, lv, tx⟩, ⟨ne, nz, nw⟩, ⟨lg, K, Pa, pf⟩⟩ := gk
  rcases h with ⟨-, y, g2, f', hpo, ho, -, rfl⟩ | ⟨E, ⟨-, rfl, -⟩, -⟩
  · obtain ⟨e, -⟩ := hpo
    rw [e] at ho ⊢
    exact hg_up hg_rf ho clX_17
  · exact hg_rf
theorem hk_days {sa md : Nat} {gk : gt_X9_days} {out : Nat} {fo : Nat → Int64} {v : Option pz_V} {g g1 : pz_H} (h : po_L_days sa md (gk, out, fo) [] g v g1) : hg clX g g1 := by
  obtain ⟨h, m, y⟩ := gk
  rcases h with ⟨-, y, g2, f', hpo, ho, -, rfl⟩ | ⟨E, ⟨rfl, -⟩, -⟩
  · obtain ⟨e, -⟩ := hpo
    rw [e] at ho ⊢
    exact hg_up hg_rf ho clX_17
  · exact hg_rf
theorem hk_next {sa md : Nat} {gk : gt_X9_next} {out : Nat} {fo : Nat → Int64} {v : Option pz_V} {g g1 : pz_H} (h : po_L_next sa md (gk, out, fo) [] g v g1) : hg clX g g1 := by
  obtain ⟨⟨h, a, b, t, i⟩, ⟨nt, wy, lv, tx⟩, ⟨ne, nz, nw⟩, ⟨la, pa, na, so, fd, Wa⟩, ⟨nl, L, U⟩, ⟨fp, Z, N, C⟩, ⟨ti, lc, lw, lf⟩⟩ := gk
  rcases h with ⟨-, y, g2, f', hpo, ho, -, rfl⟩ | ⟨E, ⟨rfl, -⟩, -⟩
  · obtain ⟨-, -, fr, to, T, n, -, -, -, -, -, -, -, -, -, hh, -⟩ := hpo
    exact hg_up (hg_clX hh (by simp [gaSc, lnSc]) (by simp [gaSc, lnSc])) ho clX_17
  · exact hg_rf
theorem hk_sign {sa md : Nat} {gk : gt_X9_sign} {v : Option pz_V} {g g1 : pz_H} (h : po_L_sign sa md gk [] g v g1) : hg clX g g1 := by
  obtain ⟨⟨h, x⟩, ⟨nt, wy, lv, tx⟩, ⟨ne, nz, nw⟩, ⟨cm, sg, len, at'⟩, ⟨fa, ro⟩, cf⟩ := gk
  rcases h with ⟨-, ⟨-, -, -, hh, -⟩⟩ | ⟨E, ⟨rfl, -⟩, -⟩
  · exact hg_clX hh (by simp) (by simp)
  · exact hg_rf
