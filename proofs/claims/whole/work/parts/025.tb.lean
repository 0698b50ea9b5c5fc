/-- the words that every method is given -/
def tb : List Cond := lw_tbl.filter goodWord
theorem tb_of {w : Cond} (h : w ∈ lw_tbl) (hg : goodWord w = true) : w ∈ tb := List.mem_filter.mpr ⟨h, hg⟩
theorem tb_in {w : Cond} (h : w ∈ tb) : w ∈ lw_tbl := (List.mem_filter.mp h).1
theorem tb_good : GoodIn tb tb := fun _ h => ⟨h, good_of_word (List.mem_filter.mp h).2⟩
theorem tb_cons {w : Cond} (h : w ∈ tb) : GoodIn tb (w :: tb) := fun x hx => by
  rcases List.mem_cons.mp hx with rfl | hx
  · exact ⟨h, good_of_word (List.mem_filter.mp h).2⟩
  · exact tb_good x hx
/-- words of nest mates: they go with the state, not with the words -/
def nestW : List Cond := [.methodLinkNest RX0 21 yX4_init "SamePlace",
  .fieldLinkNest RX5 123 "SamePlace$Way" "kind" "I" "SamePlace",
  .fieldLinkNest RX5 96 "SamePlace$Way" "number" "I" "SamePlace",
  .fieldLinkNest RX0 32 "SamePlace$Way" "size" "I" "SamePlace",
  .fieldLinkNest RX5 119 "SamePlace$Way" "size" "I" "SamePlace",
  .fieldLinkNest RX5 126 "SamePlace$Way" "minutes" "[I" "SamePlace",
  .fieldLinkNest RX5 129 "SamePlace$Way" "places" "[I" "SamePlace",
  .fieldLinkNest RX5 82 "SamePlace$Path" "far" "I" "SamePlace",
  .fieldLinkNest RX5 102 "SamePlace$Path" "size" "I" "SamePlace",
  .fieldLinkNest RX5 140 "SamePlace$Path" "rule" "I" "SamePlace",
  .fieldLinkNest RX5 92 "SamePlace$Path" "ways" "[LSamePlace$Way;" "SamePlace",
  .methodLinkNest RX5 21 yX2_init "SamePlace",
  .fieldLinkNest RX5 132 "SamePlace$Tape" "size" "I" "SamePlace",
  .methodLinkNest RX5 56 yX4_init "SamePlace",
  .methodLinkNest RX5 61 yX3_init "SamePlace",
  .methodLinkNest RX5 62 yX1_init "SamePlace",
  .fieldLinkNest RX5 319 "SamePlace$Sheet" "sort" "I" "SamePlace",
  .fieldLinkNest RX5 242 "SamePlace$Sheet" "size" "I" "SamePlace",
  .fieldLinkNest RX5 243 "SamePlace$Sheet" "items" "[I" "SamePlace",
  .methodLinkNest RX4 58 yX5_rest "SamePlace",
  .methodLinkNest RX4 47 yX5_within "SamePlace",
  .methodLinkNest RX1 28 yX5_rest "SamePlace"]
theorem nestW_on : ∀ w ∈ nestW, w.onTables = true := by decide +kernel
