/-! each call: both worlds answer alike, and stay alike -/
theorem bo_set {μ μM : Mem} (ν νM : Lem) (h : RR μ μM) (x1 x2 x3 : Int32) : ∃ (r : Int32) (μ1 μM1 : Mem) (νM1 : Lem), CtI true yX5_set cX5_set 4 4 87 .int (fun ad => [.ref (ad 0), .int x1, .int x2, .int x3]) μ ν r μ1 ν ∧ CtI false yX6_set cX6_set 6 2 46 .int (fun ad => [.ref (ad 0), .int x1, .int x2, .int x3]) μM νM r μM1 νM1 ∧ RR μ1 μM1 := by
  obtain ⟨T, F, n, r0, G, p⟩ := h
  obtain ⟨r, μ1, μM1, νM1, e1, e2, hr⟩ := set_call (ν := νM) p x1 x2 x3
  exact ⟨r, μ1, μM1, νM1, ct5_set e1, ct6_set e2, hr⟩
theorem bo_way {μ μM : Mem} (ν νM : Lem) (h : RR μ μM) (x1 x2 : Int32) : ∃ (r : Int32) (μ1 μM1 : Mem) (νM1 : Lem), CtI true yX5_way cX5_way 3 1 22 .int (fun ad => [.ref (ad 0), .int x1, .int x2]) μ ν r μ1 ν ∧ CtI false yX6_way cX6_way 3 1 25 .int (fun ad => [.ref (ad 0), .int x1, .int x2]) μM νM r μM1 νM1 ∧ RR μ1 μM1 := by
  obtain ⟨T, F, n, r0, G, p⟩ := h
  obtain ⟨r, μ1, μM1, νM1, e1, e2, hr⟩ := way_call (ν := νM) p x1 x2
  exact ⟨r, μ1, μM1, νM1, ct5_way e1, ct6_way e2, hr⟩
theorem bo_point {μ μM : Mem} (ν νM : Lem) (h : RR μ μM) (x1 x2 x3 : Int32) : ∃ (r : Int32) (μ1 μM1 : Mem) (νM1 : Lem), CtI true yX5_point cX5_point 4 2 46 .int (fun ad => [.ref (ad 0), .int x1, .int x2, .int x3]) μ ν r μ1 ν ∧ CtI false yX6_point cX6_point 5 2 46 .int (fun ad => [.ref (ad 0), .int x1, .int x2, .int x3]) μM νM r μM1 νM1 ∧ RR μ1 μM1 := by
  obtain ⟨T, F, n, r0, G, p⟩ := h
  obtain ⟨r, μ1, μM1, νM1, e1, e2, hr⟩ := point_call (ν := νM) p x1 x2 x3
  exact ⟨r, μ1, μM1, νM1, ct5_point e1, ct6_point e2, hr⟩
theorem bo_clear {μ μM : Mem} (ν νM : Lem) (h : RR μ μM) (x1 : Int32) : ∃ (r : Int32) (μ1 μM1 : Mem) (νM1 : Lem), CtI true yX5_clear cX5_clear 3 1 21 .int (fun ad => [.ref (ad 0), .int x1]) μ ν r μ1 ν ∧ CtI false yX6_clear cX6_clear 3 2 46 .int (fun ad => [.ref (ad 0), .int x1]) μM νM r μM1 νM1 ∧ RR μ1 μM1 := by
  obtain ⟨T, F, n, r0, G, p⟩ := h
  obtain ⟨r, μ1, μM1, νM1, e1, e2, hr⟩ := clear_call (ν := νM) p x1
  exact ⟨r, μ1, μM1, νM1, ct5_clear e1, ct6_clear e2, hr⟩
theorem bo_told {μ μM : Mem} (ν νM : Lem) (h : RR μ μM) (x1 x2 : Int32) : ∃ (r : Int32) (μ1 μM1 : Mem) (νM1 : Lem), CtI true yX5_told cX5_told 5 1 21 .int (fun ad => [.ref (ad 0), .int x1, .int x2]) μ ν r μ1 ν ∧ CtI false yX6_told cX6_told 4 2 46 .int (fun ad => [.ref (ad 0), .int x1, .int x2]) μM νM r μM1 νM1 ∧ RR μ1 μM1 := by
  obtain ⟨T, F, n, r0, G, p⟩ := h
  obtain ⟨r, e1, e2⟩ := told_call (ν := νM) p x1 x2
  exact ⟨r, μ, μM, νM, ct5_told e1, ct6_told e2, T, F, n, r0, G, p⟩
theorem bo_feed {μ μM : Mem} (ν νM : Lem) (h : RR μ μM) (x1 : Int32) : ∃ (r : Int32) (μ1 μM1 : Mem) (νM1 : Lem), CtI true yX5_feed cX5_feed 2 1 21 .int (fun ad => [.ref (ad 0), .int x1]) μ ν r μ1 ν ∧ CtI false yX6_feed cX6_feed 2 1 25 .int (fun ad => [.ref (ad 0), .int x1]) μM νM r μM1 νM1 ∧ RR μ1 μM1 := by
  obtain ⟨T, F, n, r0, G, p⟩ := h
  obtain ⟨r, μ1, μM1, νM1, e1, e2, hr⟩ := feed_call (ν := νM) p x1
  exact ⟨r, μ1, μM1, νM1, ct5_feed e1, ct6_feed e2, hr⟩
theorem bo_text {μ μM : Mem} (ν νM : Lem) (h : RR μ μM) : ∃ (r : Int32) (μ1 μM1 : Mem) (νM1 : Lem), CtI true yX5_text cX5_text 2 174 4367 .int (fun ad => [.ref (ad 0)]) μ ν r μ1 ν ∧ CtI false yX6_text cX6_text 2 42 930 .int (fun ad => [.ref (ad 0)]) μM νM r μM1 νM1 ∧ RR μ1 μM1 := by
  obtain ⟨T, F, n, r0, G, p⟩ := h
  obtain ⟨r, μ1, μM1, νM1, e1, e2, hr⟩ := text_call (ν := νM) p
  exact ⟨r, μ1, μM1, νM1, ct5_text e1, ct6_text e2, hr⟩
theorem bo_force {μ μM : Mem} (ν νM : Lem) (h : RR μ μM) (x1 : Int32) : ∃ (r : Int32) (μ1 μM1 : Mem) (νM1 : Lem), CtI true yX5_force cX5_force 3 0 0 .int (fun ad => [.ref (ad 0), .int x1]) μ ν r μ1 ν ∧ CtI false yX6_force cX6_force 3 1 25 .int (fun ad => [.ref (ad 0), .int x1]) μM νM r μM1 νM1 ∧ RR μ1 μM1 := by
  obtain ⟨T, F, n, r0, G, p⟩ := h
  obtain ⟨r, μ1, μM1, νM1, e1, e2, hr⟩ := force_call (ν := νM) p x1
  exact ⟨r, μ1, μM1, νM1, ct5_force (Option.some.inj e1), ct6_force (Option.some.inj e2), hr⟩
theorem bo_at {μ μM : Mem} (ν νM : Lem) (h : RR μ μM) (x1 x2 : Int32) : ∃ (r : Int32) (μ1 μM1 : Mem) (νM1 : Lem), CtI true yX5_at cX5_at 3 4 92 .int (fun ad => [.ref (ad 0), .int x1, .int x2]) μ ν r μ1 ν ∧ CtI false yX6_at cX6_at 3 3 72 .int (fun ad => [.ref (ad 0), .int x1, .int x2]) μM νM r μM1 νM1 ∧ RR μ1 μM1 := by
  obtain ⟨T, F, n, r0, G, p⟩ := h
  obtain ⟨r, e1, e2⟩ := at_call (ν := νM) p x1 x2
  exact ⟨r, μ, μM, νM, ct5_at e1, ct6_at e2, T, F, n, r0, G, p⟩
theorem bo_asks {μ μM : Mem} (ν νM : Lem) (h : RR μ μM) (x1 x2 x3 : Int32) : ∃ (r : Int32) (μ1 μM1 : Mem) (νM1 : Lem), CtI true yX5_asks cX5_asks 4 5 118 .int (fun ad => [.ref (ad 0), .int x1, .int x2, .int x3]) μ ν r μ1 ν ∧ CtI false yX6_asks cX6_asks 4 43 955 .int (fun ad => [.ref (ad 0), .int x1, .int x2, .int x3]) μM νM r μM1 νM1 ∧ RR μ1 μM1 := by
  obtain ⟨T, F, n, r0, G, p⟩ := h
  obtain ⟨r, μ1, μM1, νM1, e1, e2, h1, h2⟩ := asks_call (ν := νM) p x1 x2 x3
  exact ⟨r, μ1, μM1, νM1, ct5_asks e1, ct6_asks e2, T, F, n, r0, G, p.fr h1 h2⟩
theorem bo_length {μ μM : Mem} (ν νM : Lem) (h : RR μ μM) (x1 x2 x3 : Int32) : ∃ (r : Int32) (μ1 μM1 : Mem) (νM1 : Lem), CtI true yX5_length cX5_length 4 5 117 .int (fun ad => [.ref (ad 0), .int x1, .int x2, .int x3]) μ ν r μ1 ν ∧ CtI false yX6_length cX6_length 4 4 96 .int (fun ad => [.ref (ad 0), .int x1, .int x2, .int x3]) μM νM r μM1 νM1 ∧ RR μ1 μM1 := by
  obtain ⟨T, F, n, r0, G, p⟩ := h
  obtain ⟨r, μ1, μM1, νM1, e1, e2, h1, h2⟩ := length_call (ν := νM) p x1 x2 x3
  exact ⟨r, μ1, μM1, νM1, ct5_length e1, ct6_length e2, T, F, n, r0, G, p.fr h1 h2⟩
theorem bo_mean {μ μM : Mem} (ν νM : Lem) (h : RR μ μM) (x1 x2 : Int32) : ∃ (r : Int32) (μ1 μM1 : Mem) (νM1 : Lem), CtI true yX5_mean cX5_mean 8 5 117 .int (fun ad => [.ref (ad 0), .int x1, .int x2]) μ ν r μ1 ν ∧ CtI false yX6_mean cX6_mean 4 4 96 .int (fun ad => [.ref (ad 0), .int x1, .int x2]) μM νM r μM1 νM1 ∧ RR μ1 μM1 := by
  obtain ⟨T, F, n, r0, G, p⟩ := h
  obtain ⟨r, μ1, μM1, νM1, e1, e2, h1, h2⟩ := mean_call (ν := νM) p x1 x2
  exact ⟨r, μ1, μM1, νM1, ct5_mean e1, ct6_mean e2, T, F, n, r0, G, p.fr h1 h2⟩
theorem bo_half {μ μM : Mem} (ν νM : Lem) (h : RR μ μM) (x1 x2 : Int32) : ∃ (r : Int32) (μ1 μM1 : Mem) (νM1 : Lem), CtI true yX5_half cX5_half 4 6 143 .int (fun ad => [.ref (ad 0), .int x1, .int x2]) μ ν r μ1 ν ∧ CtI false yX6_half cX6_half 7 43 955 .int (fun ad => [.ref (ad 0), .int x1, .int x2]) μM νM r μM1 νM1 ∧ RR μ1 μM1 := by
  obtain ⟨T, F, n, r0, G, p⟩ := h
  obtain ⟨r, μ1, μM1, νM1, e1, e2, h1, h2⟩ := half_call (ν := νM) p x1 x2
  exact ⟨r, μ1, μM1, νM1, ct5_half e1, ct6_half e2, T, F, n, r0, G, p.fr h1 h2⟩
theorem bo_meet {μ μM : Mem} (ν νM : Lem) (h : RR μ μM) (x1 x2 x3 : Int32) : ∃ (r : Int32) (μ1 μM1 : Mem) (νM1 : Lem), CtI true yX5_meet cX5_meet 4 6 137 .int (fun ad => [.ref (ad 0), .int x1, .int x2, .int x3]) μ ν r μ1 ν ∧ CtI false yX6_meet cX6_meet 7 4 95 .int (fun ad => [.ref (ad 0), .int x1, .int x2, .int x3]) μM νM r μM1 νM1 ∧ RR μ1 μM1 := by
  obtain ⟨T, F, n, r0, G, p⟩ := h
  obtain ⟨r, μ1, μM1, νM1, e1, e2, h1, h2⟩ := meet_call (ν := νM) p x1 x2 x3
  exact ⟨r, μ1, μM1, νM1, ct5_meet e1, ct6_meet e2, T, F, n, r0, G, p.fr h1 h2⟩
theorem bo_when {μ μM : Mem} (ν νM : Lem) (h : RR μ μM) (x1 x2 x3 : Int32) : ∃ (r : Int64) (μ1 μM1 : Mem) (νM1 : Lem), CtL true yX5_when cX5_when 9 6 137 (fun ad => [.ref (ad 0), .int x1, .int x2, .int x3]) μ ν r μ1 ν ∧ CtL false yX6_when cX6_when 9 4 95 (fun ad => [.ref (ad 0), .int x1, .int x2, .int x3]) μM νM r μM1 νM1 ∧ RR μ1 μM1 := by
  obtain ⟨T, F, n, r0, G, p⟩ := h
  obtain ⟨r, μ1, μM1, νM1, e1, e2, h1, h2⟩ := when_call (ν := νM) p x1 x2 x3
  exact ⟨r, μ1, μM1, νM1, ct5_when e1, ct6_when e2, T, F, n, r0, G, p.fr h1 h2⟩
theorem bo_sure {μ μM : Mem} (ν νM : Lem) (h : RR μ μM) (x1 x2 : Int32) : ∃ (r : Int32) (μ1 μM1 : Mem) (νM1 : Lem), CtI true yX5_sure cX5_sure 4 6 137 .int (fun ad => [.ref (ad 0), .int x1, .int x2]) μ ν r μ1 ν ∧ CtI false yX6_sure cX6_sure 4 4 95 .int (fun ad => [.ref (ad 0), .int x1, .int x2]) μM νM r μM1 νM1 ∧ RR μ1 μM1 := by
  obtain ⟨T, F, n, r0, G, p⟩ := h
  obtain ⟨r, μ1, μM1, νM1, e1, e2, h1, h2⟩ := sure_call (ν := νM) p x1 x2
  exact ⟨r, μ1, μM1, νM1, ct5_sure e1, ct6_sure e2, T, F, n, r0, G, p.fr h1 h2⟩
theorem bo_apart {μ μM : Mem} (ν νM : Lem) (h : RR μ μM) (x1 x2 x3 : Int32) : ∃ (r : Int32) (μ1 μM1 : Mem) (νM1 : Lem), CtI true yX5_apart cX5_apart 5 6 141 .int (fun ad => [.ref (ad 0), .int x1, .int x2, .int x3]) μ ν r μ1 ν ∧ CtI false yX6_apart cX6_apart 9 43 955 .int (fun ad => [.ref (ad 0), .int x1, .int x2, .int x3]) μM νM r μM1 νM1 ∧ RR μ1 μM1 := by
  obtain ⟨T, F, n, r0, G, p⟩ := h
  obtain ⟨r, μ1, μM1, νM1, e1, e2, h1, h2⟩ := apart_call (ν := νM) p x1 x2 x3
  exact ⟨r, μ1, μM1, νM1, ct5_apart e1, ct6_apart e2, T, F, n, r0, G, p.fr h1 h2⟩
theorem bo_fits {μ μM : Mem} (ν νM : Lem) (h : RR μ μM) (x1 : Int32) : ∃ (r : Int32) (μ1 μM1 : Mem) (νM1 : Lem), CtI true yX5_fits cX5_fits 5 6 143 .int (fun ad => [.ref (ad 0), .int x1]) μ ν r μ1 ν ∧ CtI false yX6_fits cX6_fits 5 44 981 .int (fun ad => [.ref (ad 0), .int x1]) μM νM r μM1 νM1 ∧ RR μ1 μM1 := by
  obtain ⟨T, F, n, r0, G, p⟩ := h
  obtain ⟨r, μ1, μM1, νM1, e1, e2, h1, h2⟩ := fits_call (ν := νM) p x1
  exact ⟨r, μ1, μM1, νM1, ct5_fits e1, ct6_fits e2, T, F, n, r0, G, p.fr h1 h2⟩
theorem bo_wrong {μ μM : Mem} (ν νM : Lem) (h : RR μ μM) (x1 x2 x3 : Int32) : ∃ (r : Int32) (μ1 μM1 : Mem) (νM1 : Lem), CtI true yX5_wrong cX5_wrong 5 7 167 .int (fun ad => [.ref (ad 0), .int x1, .int x2, .int x3]) μ ν r μ1 ν ∧ CtI false yX6_wrong cX6_wrong 7 44 981 .int (fun ad => [.ref (ad 0), .int x1, .int x2, .int x3]) μM νM r μM1 νM1 ∧ RR μ1 μM1 := by
  obtain ⟨T, F, n, r0, G, p⟩ := h
  obtain ⟨r, e1, e2⟩ := wrong_call (ν := νM) p x1 x2 x3
  exact ⟨r, μ, μM, νM, ct5_wrong e1, ct6_wrong e2, T, F, n, r0, G, p⟩
theorem bo_posts {μ μM : Mem} (ν νM : Lem) (h : RR μ μM) (x1 : Int32) : ∃ (r : Int32) (μ1 μM1 : Mem) (νM1 : Lem), CtI true yX5_posts cX5_posts 3 6 140 .int (fun ad => [.ref (ad 0), .int x1]) μ ν r μ1 ν ∧ CtI false yX6_posts cX6_posts 4 3 72 .int (fun ad => [.ref (ad 0), .int x1]) μM νM r μM1 νM1 ∧ RR μ1 μM1 := by
  obtain ⟨T, F, n, r0, G, p⟩ := h
  obtain ⟨r, μ1, μM1, νM1, e1, e2, h1, h2⟩ := posts_call (ν := νM) p x1
  exact ⟨r, μ1, μM1, νM1, ct5_posts e1, ct6_posts e2, T, F, n, r0, G, p.fr h1 h2⟩
theorem bo_beads {μ μM : Mem} (ν νM : Lem) (h : RR μ μM) (x1 : Int32) : ∃ (r : Int32) (μ1 μM1 : Mem) (νM1 : Lem), CtI true yX5_beads cX5_beads 5 3 66 .int (fun ad => [.ref (ad 0), .int x1]) μ ν r μ1 ν ∧ CtI false yX6_beads cX6_beads 8 3 66 .int (fun ad => [.ref (ad 0), .int x1]) μM νM r μM1 νM1 ∧ RR μ1 μM1 := by
  obtain ⟨T, F, n, r0, G, p⟩ := h
  obtain ⟨r, e1, e2⟩ := beads_call (ν := νM) p x1
  exact ⟨r, μ, μM, νM, ct5_beads e1, ct6_beads e2, T, F, n, r0, G, p⟩
theorem bo_heat {μ μM : Mem} (ν νM : Lem) (h : RR μ μM) (x1 : Int32) : ∃ (r : Int32) (μ1 μM1 : Mem) (νM1 : Lem), CtI true yX5_heat cX5_heat 6 3 63 .int (fun ad => [.ref (ad 0), .int x1]) μ ν r μ1 ν ∧ CtI false yX6_heat cX6_heat 4 3 66 .int (fun ad => [.ref (ad 0), .int x1]) μM νM r μM1 νM1 ∧ RR μ1 μM1 := by
  obtain ⟨T, F, n, r0, G, p⟩ := h
  obtain ⟨r, e1, e2⟩ := heat_call (ν := νM) p x1
  exact ⟨r, μ, μM, νM, ct5_heat e1, ct6_heat e2, T, F, n, r0, G, p⟩
theorem bo_drawn {μ μM : Mem} (ν νM : Lem) (h : RR μ μM) (x1 x2 x3 : Int32) : ∃ (r : Int32) (μ1 μM1 : Mem) (νM1 : Lem), CtI true yX5_drawn cX5_drawn 4 6 139 .int (fun ad => [.ref (ad 0), .int x1, .int x2, .int x3]) μ ν r μ1 ν ∧ CtI false yX6_drawn cX6_drawn 4 5 120 .int (fun ad => [.ref (ad 0), .int x1, .int x2, .int x3]) μM νM r μM1 νM1 ∧ RR μ1 μM1 := by
  obtain ⟨T, F, n, r0, G, p⟩ := h
  obtain ⟨r, μ1, μM1, νM1, e1, e2, h1, h2⟩ := drawn_call (ν := νM) p x1 x2 x3
  exact ⟨r, μ1, μM1, νM1, ct5_drawn e1, ct6_drawn e2, T, F, n, r0, G, p.fr h1 h2⟩
theorem bo_chance {μ μM : Mem} (ν νM : Lem) (h : RR μ μM) (x1 x2 x3 x4 : Int32) : ∃ (r : Int64) (μ1 μM1 : Mem) (νM1 : Lem), CtL true yX5_chance cX5_chance 7 6 139 (fun ad => [.ref (ad 0), .int x1, .int x2, .int x3, .int x4]) μ ν r μ1 ν ∧ CtL false yX6_chance cX6_chance 8 5 120 (fun ad => [.ref (ad 0), .int x1, .int x2, .int x3, .int x4]) μM νM r μM1 νM1 ∧ RR μ1 μM1 := by
  obtain ⟨T, F, n, r0, G, p⟩ := h
  obtain ⟨r, μ1, μM1, νM1, e1, e2, h1, h2⟩ := chance_call (ν := νM) p x1 x2 x3 x4
  exact ⟨r, μ1, μM1, νM1, ct5_chance e1, ct6_chance e2, T, F, n, r0, G, p.fr h1 h2⟩
theorem bo_image {μ μM : Mem} (ν νM : Lem) (h : RR μ μM) : ∃ (r : Int32) (μ1 μM1 : Mem) (νM1 : Lem), CtI true yX5_image cX5_image 1 3 66 .int (fun ad => [.ref (ad 0)]) μ ν r μ1 ν ∧ CtI false yX6_image cX6_image 2 0 0 .int (fun ad => [.ref (ad 0)]) μM νM r μM1 νM1 ∧ RR μ1 μM1 := by
  obtain ⟨T, F, n, r0, G, p⟩ := h
  obtain ⟨r, μ1, μM1, νM1, e1, e2, hr⟩ := image_call (ν := νM) p
  exact ⟨r, μ1, μM1, νM1, ct5_image e1, ct6_image e2, hr⟩
theorem bo_back {μ μM : Mem} (ν νM : Lem) (h : RR μ μM) : ∃ (r : Int32) (μ1 μM1 : Mem) (νM1 : Lem), CtI true yX5_back cX5_back 1 3 66 .int (fun ad => [.ref (ad 0)]) μ ν r μ1 ν ∧ CtI false yX6_back cX6_back 2 0 0 .int (fun ad => [.ref (ad 0)]) μM νM r μM1 νM1 ∧ RR μ1 μM1 := by
  obtain ⟨T, F, n, r0, G, p⟩ := h
  obtain ⟨r, μ1, μM1, νM1, e1, e2, hr⟩ := back_call (ν := νM) p
  exact ⟨r, μ1, μM1, νM1, ct5_back e1, ct6_back e2, hr⟩
theorem bo_count {μ μM : Mem} (ν νM : Lem) (h : RR μ μM) (x1 : Int32) : ∃ (r : Int32) (μ1 μM1 : Mem) (νM1 : Lem), CtI true yX5_count cX5_count 2 1 22 .int (fun ad => [.ref (ad 0), .int x1]) μ ν r μ1 ν ∧ CtI false yX6_count cX6_count 4 1 25 .int (fun ad => [.ref (ad 0), .int x1]) μM νM r μM1 νM1 ∧ RR μ1 μM1 := by
  obtain ⟨T, F, n, r0, G, p⟩ := h
  obtain ⟨r, e1, e2⟩ := count_call (ν := νM) p x1
  exact ⟨r, μ, μM, νM, ct5_count e1, ct6_count e2, T, F, n, r0, G, p⟩
theorem bo_sheet {μ μM : Mem} (ν νM : Lem) (h : RR μ μM) (x1 x2 x3 : Int32) : ∃ (r : Int32) (μ1 μM1 : Mem) (νM1 : Lem), CtI true yX5_sheet cX5_sheet 4 2 44 .int (fun ad => [.ref (ad 0), .int x1, .int x2, .int x3]) μ ν r μ1 ν ∧ CtI false yX6_sheet cX6_sheet 5 2 45 .int (fun ad => [.ref (ad 0), .int x1, .int x2, .int x3]) μM νM r μM1 νM1 ∧ RR μ1 μM1 := by
  obtain ⟨T, F, n, r0, G, p⟩ := h
  obtain ⟨r, μ1, μM1, νM1, e1, e2, hr⟩ := sheet_call (ν := νM) p x1 x2 x3
  exact ⟨r, μ1, μM1, νM1, ct5_sheet e1, ct6_sheet e2, hr⟩
theorem bo_cell {μ μM : Mem} (ν νM : Lem) (h : RR μ μM) (x1 x2 x3 : Int32) : ∃ (r : Int32) (μ1 μM1 : Mem) (νM1 : Lem), CtI true yX5_cell cX5_cell 4 1 22 .int (fun ad => [.ref (ad 0), .int x1, .int x2, .int x3]) μ ν r μ1 ν ∧ CtI false yX6_cell cX6_cell 4 2 45 .int (fun ad => [.ref (ad 0), .int x1, .int x2, .int x3]) μM νM r μM1 νM1 ∧ RR μ1 μM1 := by
  obtain ⟨T, F, n, r0, G, p⟩ := h
  obtain ⟨r, μ1, μM1, νM1, e1, e2, hr⟩ := cell_call (ν := νM) p x1 x2 x3
  exact ⟨r, μ1, μM1, νM1, ct5_cell e1, ct6_cell e2, hr⟩
theorem bo_copy {μ μM : Mem} (ν νM : Lem) (h : RR μ μM) (x1 x2 x3 x4 x5 : Int32) : ∃ (r : Int32) (μ1 μM1 : Mem) (νM1 : Lem), CtI true yX5_copy cX5_copy 8 1 60 .int (fun ad => [.ref (ad 0), .int x1, .int x2, .int x3, .int x4, .int x5]) μ ν r μ1 ν ∧ CtI false yX6_copy cX6_copy 9 2 45 .int (fun ad => [.ref (ad 0), .int x1, .int x2, .int x3, .int x4, .int x5]) μM νM r μM1 νM1 ∧ RR μ1 μM1 := by
  obtain ⟨T, F, n, r0, G, p⟩ := h
  obtain ⟨r, μ1, μM1, νM1, e1, e2, hr⟩ := copy_call (ν := νM) p x1 x2 x3 x4 x5
  exact ⟨r, μ1, μM1, νM1, ct5_copy e1, ct6_copy e2, hr⟩
theorem bo_points {μ μM : Mem} (ν νM : Lem) (h : RR μ μM) (x1 x2 x3 x4 : Int32) : ∃ (r : Int32) (μ1 μM1 : Mem) (νM1 : Lem), CtI true yX5_points cX5_points 9 2 46 .int (fun ad => [.ref (ad 0), .int x1, .int x2, .int x3, .int x4]) μ ν r μ1 ν ∧ CtI false yX6_points cX6_points 8 3 70 .int (fun ad => [.ref (ad 0), .int x1, .int x2, .int x3, .int x4]) μM νM r μM1 νM1 ∧ RR μ1 μM1 := by
  obtain ⟨T, F, n, r0, G, p⟩ := h
  obtain ⟨r, μ1, μM1, νM1, e1, e2, hr⟩ := points_call (ν := νM) p x1 x2 x3 x4
  exact ⟨r, μ1, μM1, νM1, ct5_points e1, ct6_points e2, hr⟩
theorem bo_taken {μ μM : Mem} (ν νM : Lem) (h : RR μ μM) (x1 x2 : Int32) : ∃ (r : Int32) (μ1 μM1 : Mem) (νM1 : Lem), CtI true yX5_taken cX5_taken 3 2 43 .int (fun ad => [.ref (ad 0), .int x1, .int x2]) μ ν r μ1 ν ∧ CtI false yX6_taken cX6_taken 4 2 46 .int (fun ad => [.ref (ad 0), .int x1, .int x2]) μM νM r μM1 νM1 ∧ RR μ1 μM1 := by
  obtain ⟨T, F, n, r0, G, p⟩ := h
  obtain ⟨r, e1, e2⟩ := taken_call (ν := νM) p x1 x2
  exact ⟨r, μ, μM, νM, ct5_taken e1, ct6_taken e2, T, F, n, r0, G, p⟩
