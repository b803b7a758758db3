def wt_isNest : Cond → Bool
  | .fieldLinkNest _ _ _ _ _ _ => true
  | .methodLinkNest _ _ _ _ => true
  | .castable _ _ => true
  | .declares _ => true
  | _ => false
def wt_GT : List Cond := lw_tbl.filter goodWord
def wt_NT : List Cond := lw_tbl.filter wt_isNest
theorem wt_k0 {w : Cond} (h : w ∈ k2_sels lw_privs) : w ∈ lw_tbl := List.mem_append_left _ h
theorem wt_k1 {w : Cond} (h : w ∈ tables_1_1) : w ∈ lw_tbl := List.mem_append_right _ (List.mem_append_left _ h)
theorem wt_k2 {w : Cond} (h : w ∈ tables_1_2) : w ∈ lw_tbl := List.mem_append_right _ (List.mem_append_right _ (List.mem_append_left _ h))
theorem wt_k3 {w : Cond} (h : w ∈ tables_1_3) : w ∈ lw_tbl := List.mem_append_right _ (List.mem_append_right _ (List.mem_append_right _ (List.mem_append_left _ h)))
theorem wt_k4 {w : Cond} (h : w ∈ tables_1_4) : w ∈ lw_tbl := List.mem_append_right _ (List.mem_append_right _ (List.mem_append_right _ (List.mem_append_right _ (List.mem_append_left _ h))))
theorem wt_k5 {w : Cond} (h : w ∈ tables_1_5) : w ∈ lw_tbl := List.mem_append_right _ (List.mem_append_right _ (List.mem_append_right _ (List.mem_append_right _ (List.mem_append_right _ (List.mem_append_left _ h)))))
theorem wt_k6 {w : Cond} (h : w ∈ tables_1_6) : w ∈ lw_tbl := List.mem_append_right _ (List.mem_append_right _ (List.mem_append_right _ (List.mem_append_right _ (List.mem_append_right _ (List.mem_append_right _ (List.mem_append_left _ h))))))
theorem wt_k7 {w : Cond} (h : w ∈ tables_1_7) : w ∈ lw_tbl := List.mem_append_right _ (List.mem_append_right _ (List.mem_append_right _ (List.mem_append_right _ (List.mem_append_right _ (List.mem_append_right _ (List.mem_append_right _ (List.mem_append_left _ h)))))))
theorem wt_k8 {w : Cond} (h : w ∈ tables_1_8) : w ∈ lw_tbl := List.mem_append_right _ (List.mem_append_right _ (List.mem_append_right _ (List.mem_append_right _ (List.mem_append_right _ (List.mem_append_right _ (List.mem_append_right _ (List.mem_append_right _ (List.mem_append_left _ h))))))))
theorem wt_k9 {w : Cond} (h : w ∈ tables_1_9) : w ∈ lw_tbl := List.mem_append_right _ (List.mem_append_right _ (List.mem_append_right _ (List.mem_append_right _ (List.mem_append_right _ (List.mem_append_right _ (List.mem_append_right _ (List.mem_append_right _ (List.mem_append_right _ (h)))))))))
theorem wt_g0 {w : Cond} (i : Nat) (h : (k2_sels lw_privs)[i]? = some w) (hg : goodWord w = true) : w ∈ wt_GT := List.mem_filter.mpr ⟨wt_k0 (List.mem_of_getElem? h), hg⟩
theorem wt_n0 {w : Cond} (i : Nat) (h : (k2_sels lw_privs)[i]? = some w) (hg : wt_isNest w = true) : w ∈ wt_NT := List.mem_filter.mpr ⟨wt_k0 (List.mem_of_getElem? h), hg⟩
theorem wt_g1 {w : Cond} (i : Nat) (h : (tables_1_1)[i]? = some w) (hg : goodWord w = true) : w ∈ wt_GT := List.mem_filter.mpr ⟨wt_k1 (List.mem_of_getElem? h), hg⟩
theorem wt_n1 {w : Cond} (i : Nat) (h : (tables_1_1)[i]? = some w) (hg : wt_isNest w = true) : w ∈ wt_NT := List.mem_filter.mpr ⟨wt_k1 (List.mem_of_getElem? h), hg⟩
theorem wt_g2 {w : Cond} (i : Nat) (h : (tables_1_2)[i]? = some w) (hg : goodWord w = true) : w ∈ wt_GT := List.mem_filter.mpr ⟨wt_k2 (List.mem_of_getElem? h), hg⟩
theorem wt_n2 {w : Cond} (i : Nat) (h : (tables_1_2)[i]? = some w) (hg : wt_isNest w = true) : w ∈ wt_NT := List.mem_filter.mpr ⟨wt_k2 (List.mem_of_getElem? h), hg⟩
theorem wt_g3 {w : Cond} (i : Nat) (h : (tables_1_3)[i]? = some w) (hg : goodWord w = true) : w ∈ wt_GT := List.mem_filter.mpr ⟨wt_k3 (List.mem_of_getElem? h), hg⟩
theorem wt_n3 {w : Cond} (i : Nat) (h : (tables_1_3)[i]? = some w) (hg : wt_isNest w = true) : w ∈ wt_NT := List.mem_filter.mpr ⟨wt_k3 (List.mem_of_getElem? h), hg⟩
theorem wt_g4 {w : Cond} (i : Nat) (h : (tables_1_4)[i]? = some w) (hg : goodWord w = true) : w ∈ wt_GT := List.mem_filter.mpr ⟨wt_k4 (List.mem_of_getElem? h), hg⟩
theorem wt_n4 {w : Cond} (i : Nat) (h : (tables_1_4)[i]? = some w) (hg : wt_isNest w = true) : w ∈ wt_NT := List.mem_filter.mpr ⟨wt_k4 (List.mem_of_getElem? h), hg⟩
theorem wt_g5 {w : Cond} (i : Nat) (h : (tables_1_5)[i]? = some w) (hg : goodWord w = true) : w ∈ wt_GT := List.mem_filter.mpr ⟨wt_k5 (List.mem_of_getElem? h), hg⟩
theorem wt_n5 {w : Cond} (i : Nat) (h : (tables_1_5)[i]? = some w) (hg : wt_isNest w = true) : w ∈ wt_NT := List.mem_filter.mpr ⟨wt_k5 (List.mem_of_getElem? h), hg⟩
theorem wt_g6 {w : Cond} (i : Nat) (h : (tables_1_6)[i]? = some w) (hg : goodWord w = true) : w ∈ wt_GT := List.mem_filter.mpr ⟨wt_k6 (List.mem_of_getElem? h), hg⟩
theorem wt_n6 {w : Cond} (i : Nat) (h : (tables_1_6)[i]? = some w) (hg : wt_isNest w = true) : w ∈ wt_NT := List.mem_filter.mpr ⟨wt_k6 (List.mem_of_getElem? h), hg⟩
theorem wt_g7 {w : Cond} (i : Nat) (h : (tables_1_7)[i]? = some w) (hg : goodWord w = true) : w ∈ wt_GT := List.mem_filter.mpr ⟨wt_k7 (List.mem_of_getElem? h), hg⟩
theorem wt_n7 {w : Cond} (i : Nat) (h : (tables_1_7)[i]? = some w) (hg : wt_isNest w = true) : w ∈ wt_NT := List.mem_filter.mpr ⟨wt_k7 (List.mem_of_getElem? h), hg⟩
theorem wt_g8 {w : Cond} (i : Nat) (h : (tables_1_8)[i]? = some w) (hg : goodWord w = true) : w ∈ wt_GT := List.mem_filter.mpr ⟨wt_k8 (List.mem_of_getElem? h), hg⟩
theorem wt_n8 {w : Cond} (i : Nat) (h : (tables_1_8)[i]? = some w) (hg : wt_isNest w = true) : w ∈ wt_NT := List.mem_filter.mpr ⟨wt_k8 (List.mem_of_getElem? h), hg⟩
theorem wt_g9 {w : Cond} (i : Nat) (h : (tables_1_9)[i]? = some w) (hg : goodWord w = true) : w ∈ wt_GT := List.mem_filter.mpr ⟨wt_k9 (List.mem_of_getElem? h), hg⟩
theorem wt_n9 {w : Cond} (i : Nat) (h : (tables_1_9)[i]? = some w) (hg : wt_isNest w = true) : w ∈ wt_NT := List.mem_filter.mpr ⟨wt_k9 (List.mem_of_getElem? h), hg⟩
theorem wt_u0 {P : Nat → Prop} : ∀ k, k < 0 → P k := fun k h => absurd h (Nat.not_lt_zero k)
theorem wt_up {P : Nat → Prop} {N : Nat} (h : ∀ k, k < N → P k) (p : P N) : ∀ k, k < N + 1 → P k := fun k hk => (Nat.lt_or_eq_of_le (Nat.le_of_lt_succ hk)).elim (fun l => h k l) (fun e => e.symm ▸ p)
theorem wt_symN {T : u_T} {N : Nat} (h : ∀ b, b < N → ∀ a, a < b → (T a).2.1 ≠ (T b).2.1) : ∀ a, a < N → ∀ b, b < N → a ≠ b → (T a).2.1 ≠ (T b).2.1 := fun a ha b hb e => (Nat.lt_or_gt_of_ne e).elim (fun l => h b hb a l) (fun l => (h a ha b l).symm)
theorem wt_us {C : String} {T : u_T} {N : Nat} (h : ∀ k, k < N → u_lay C T k ∈ wt_GT) : ∀ w ∈ u_ws C T N, w ∈ wt_GT := by
  intro w hw
  obtain ⟨k, hk, rfl⟩ := List.mem_map.mp hw
  exact h k (List.mem_range.mp hk)
def wt_CF (C : String) (T : u_T) (N : Nat) (ty : Nat → FieldType) : Prop := (∀ w ∈ u_ws C T N, w ∈ wt_GT) ∧ (∀ k, k < N → parseFieldDescriptor (T k).2.2.1 = some (ty k)) ∧ ∀ a, a < N → ∀ b, b < N → a ≠ b → (T a).2.1 ≠ (T b).2.1
abbrev wt_R0 : String := "WornType$Lead"
def wt_T0 : u_T := fun k => match k with
  | 0 => ("WornType$Lead", "pieces", "[I", true)
  | 1 => ("WornType$Lead", "prints", "[I", true)
  | 2 => ("WornType$Lead", "therePieces", "[I", true)
  | 3 => ("WornType$Lead", "therePrints", "[I", true)
  | 4 => ("WornType$Lead", "prices", "[I", true)
  | 5 => ("WornType$Lead", "likes", "[I", true)
  | 6 => ("WornType$Lead", "barred", "[I", true)
  | _ => ("WornType$Lead", "faint", "I", false)
def wt_ty0 : Nat → FieldType := fun k => match k with
  | 0 => .array .int
  | 1 => .array .int
  | 2 => .array .int
  | 3 => .array .int
  | 4 => .array .int
  | 5 => .array .int
  | 6 => .array .int
  | _ => .int
set_option maxRecDepth 100000 in
theorem wt_us0 : ∀ k, k < 8 → u_lay wt_R0 wt_T0 k ∈ wt_GT := by
  refine wt_up (P := fun k => u_lay wt_R0 wt_T0 k ∈ wt_GT) (N := 7) ?_ (wt_g1 115 rfl rfl)
  refine wt_up (P := fun k => u_lay wt_R0 wt_T0 k ∈ wt_GT) (N := 6) ?_ (wt_g1 113 rfl rfl)
  refine wt_up (P := fun k => u_lay wt_R0 wt_T0 k ∈ wt_GT) (N := 5) ?_ (wt_g1 111 rfl rfl)
  refine wt_up (P := fun k => u_lay wt_R0 wt_T0 k ∈ wt_GT) (N := 4) ?_ (wt_g1 109 rfl rfl)
  refine wt_up (P := fun k => u_lay wt_R0 wt_T0 k ∈ wt_GT) (N := 3) ?_ (wt_g1 107 rfl rfl)
  refine wt_up (P := fun k => u_lay wt_R0 wt_T0 k ∈ wt_GT) (N := 2) ?_ (wt_g1 105 rfl rfl)
  refine wt_up (P := fun k => u_lay wt_R0 wt_T0 k ∈ wt_GT) (N := 1) ?_ (wt_g1 103 rfl rfl)
  refine wt_up (P := fun k => u_lay wt_R0 wt_T0 k ∈ wt_GT) (N := 0) ?_ (wt_g1 101 rfl rfl)
  exact wt_u0
theorem wt_cf0 : wt_CF wt_R0 wt_T0 8 wt_ty0 := ⟨wt_us wt_us0, by decide +kernel, wt_symN (by decide +kernel)⟩
abbrev wt_R1 : String := "WornType$Pages"
def wt_T1 : u_T := fun k => match k with
  | 0 => ("WornType$Pages", "lead", "LWornType$Lead;", true)
  | 1 => ("WornType$Pages", "tongue", "LWornType$Tongue;", true)
  | 2 => ("WornType$Pages", "texts", "LWornType$Texts;", true)
  | 3 => ("WornType$Pages", "state", "LWornType$State;", true)
  | 4 => ("WornType$Pages", "stock", "LWornType$Stock;", true)
  | 5 => ("WornType$Pages", "need", "[I", true)
  | 6 => ("WornType$Pages", "seen", "[I", true)
  | _ => ("WornType$Pages", "spelled", "[I", true)
def wt_ty1 : Nat → FieldType := fun k => match k with
  | 0 => .object "WornType$Lead"
  | 1 => .object "WornType$Tongue"
  | 2 => .object "WornType$Texts"
  | 3 => .object "WornType$State"
  | 4 => .object "WornType$Stock"
  | 5 => .array .int
  | 6 => .array .int
  | _ => .array .int
set_option maxRecDepth 100000 in
theorem wt_us1 : ∀ k, k < 8 → u_lay wt_R1 wt_T1 k ∈ wt_GT := by
  refine wt_up (P := fun k => u_lay wt_R1 wt_T1 k ∈ wt_GT) (N := 7) ?_ (wt_g2 46 rfl rfl)
  refine wt_up (P := fun k => u_lay wt_R1 wt_T1 k ∈ wt_GT) (N := 6) ?_ (wt_g2 44 rfl rfl)
  refine wt_up (P := fun k => u_lay wt_R1 wt_T1 k ∈ wt_GT) (N := 5) ?_ (wt_g2 42 rfl rfl)
  refine wt_up (P := fun k => u_lay wt_R1 wt_T1 k ∈ wt_GT) (N := 4) ?_ (wt_g2 40 rfl rfl)
  refine wt_up (P := fun k => u_lay wt_R1 wt_T1 k ∈ wt_GT) (N := 3) ?_ (wt_g2 38 rfl rfl)
  refine wt_up (P := fun k => u_lay wt_R1 wt_T1 k ∈ wt_GT) (N := 2) ?_ (wt_g2 36 rfl rfl)
  refine wt_up (P := fun k => u_lay wt_R1 wt_T1 k ∈ wt_GT) (N := 1) ?_ (wt_g2 34 rfl rfl)
  refine wt_up (P := fun k => u_lay wt_R1 wt_T1 k ∈ wt_GT) (N := 0) ?_ (wt_g2 32 rfl rfl)
  exact wt_u0
theorem wt_cf1 : wt_CF wt_R1 wt_T1 8 wt_ty1 := ⟨wt_us wt_us1, by decide +kernel, wt_symN (by decide +kernel)⟩
abbrev wt_R2 : String := "WornType$Rows"
def wt_T2 : u_T := fun k => match k with
  | 0 => ("WornType$Rows", "lead", "LWornType$Lead;", true)
  | 1 => ("WornType$Rows", "tongue", "LWornType$Tongue;", true)
  | 2 => ("WornType$Rows", "texts", "LWornType$Texts;", true)
  | 3 => ("WornType$Rows", "state", "LWornType$State;", true)
  | 4 => ("WornType$Rows", "stock", "LWornType$Stock;", true)
  | 5 => ("WornType$Rows", "sums", "[I", true)
  | 6 => ("WornType$Rows", "spare", "[I", true)
  | 7 => ("WornType$Rows", "tried", "[I", true)
  | 8 => ("WornType$Rows", "best", "[I", true)
  | _ => ("WornType$Rows", "price", "I", false)
def wt_ty2 : Nat → FieldType := fun k => match k with
  | 0 => .object "WornType$Lead"
  | 1 => .object "WornType$Tongue"
  | 2 => .object "WornType$Texts"
  | 3 => .object "WornType$State"
  | 4 => .object "WornType$Stock"
  | 5 => .array .int
  | 6 => .array .int
  | 7 => .array .int
  | 8 => .array .int
  | _ => .int
set_option maxRecDepth 100000 in
theorem wt_us2 : ∀ k, k < 10 → u_lay wt_R2 wt_T2 k ∈ wt_GT := by
  refine wt_up (P := fun k => u_lay wt_R2 wt_T2 k ∈ wt_GT) (N := 9) ?_ (wt_g2 83 rfl rfl)
  refine wt_up (P := fun k => u_lay wt_R2 wt_T2 k ∈ wt_GT) (N := 8) ?_ (wt_g2 81 rfl rfl)
  refine wt_up (P := fun k => u_lay wt_R2 wt_T2 k ∈ wt_GT) (N := 7) ?_ (wt_g2 79 rfl rfl)
  refine wt_up (P := fun k => u_lay wt_R2 wt_T2 k ∈ wt_GT) (N := 6) ?_ (wt_g2 77 rfl rfl)
  refine wt_up (P := fun k => u_lay wt_R2 wt_T2 k ∈ wt_GT) (N := 5) ?_ (wt_g2 75 rfl rfl)
  refine wt_up (P := fun k => u_lay wt_R2 wt_T2 k ∈ wt_GT) (N := 4) ?_ (wt_g2 73 rfl rfl)
  refine wt_up (P := fun k => u_lay wt_R2 wt_T2 k ∈ wt_GT) (N := 3) ?_ (wt_g2 71 rfl rfl)
  refine wt_up (P := fun k => u_lay wt_R2 wt_T2 k ∈ wt_GT) (N := 2) ?_ (wt_g2 69 rfl rfl)
  refine wt_up (P := fun k => u_lay wt_R2 wt_T2 k ∈ wt_GT) (N := 1) ?_ (wt_g2 67 rfl rfl)
  refine wt_up (P := fun k => u_lay wt_R2 wt_T2 k ∈ wt_GT) (N := 0) ?_ (wt_g2 65 rfl rfl)
  exact wt_u0
theorem wt_cf2 : wt_CF wt_R2 wt_T2 10 wt_ty2 := ⟨wt_us wt_us2, by decide +kernel, wt_symN (by decide +kernel)⟩
abbrev wt_R3 : String := "WornType$State"
def wt_T3 : u_T := fun k => match k with
  | 0 => ("WornType$State", "left", "[I", true)
  | 1 => ("WornType$State", "place", "[I", true)
  | 2 => ("WornType$State", "rank", "[I", true)
  | 3 => ("WornType$State", "pageTexts", "[I", true)
  | 4 => ("WornType$State", "wantTexts", "[I", true)
  | 5 => ("WornType$State", "wantCopies", "[I", true)
  | 6 => ("WornType$State", "wantWeeks", "[I", true)
  | 7 => ("WornType$State", "wantWorths", "[I", true)
  | 8 => ("WornType$State", "wanted", "I", false)
  | _ => ("WornType$State", "habit", "I", false)
def wt_ty3 : Nat → FieldType := fun k => match k with
  | 0 => .array .int
  | 1 => .array .int
  | 2 => .array .int
  | 3 => .array .int
  | 4 => .array .int
  | 5 => .array .int
  | 6 => .array .int
  | 7 => .array .int
  | 8 => .int
  | _ => .int
set_option maxRecDepth 100000 in
theorem wt_us3 : ∀ k, k < 10 → u_lay wt_R3 wt_T3 k ∈ wt_GT := by
  refine wt_up (P := fun k => u_lay wt_R3 wt_T3 k ∈ wt_GT) (N := 9) ?_ (wt_g2 1 rfl rfl)
  refine wt_up (P := fun k => u_lay wt_R3 wt_T3 k ∈ wt_GT) (N := 8) ?_ (wt_g1 239 rfl rfl)
  refine wt_up (P := fun k => u_lay wt_R3 wt_T3 k ∈ wt_GT) (N := 7) ?_ (wt_g1 237 rfl rfl)
  refine wt_up (P := fun k => u_lay wt_R3 wt_T3 k ∈ wt_GT) (N := 6) ?_ (wt_g1 235 rfl rfl)
  refine wt_up (P := fun k => u_lay wt_R3 wt_T3 k ∈ wt_GT) (N := 5) ?_ (wt_g1 233 rfl rfl)
  refine wt_up (P := fun k => u_lay wt_R3 wt_T3 k ∈ wt_GT) (N := 4) ?_ (wt_g1 231 rfl rfl)
  refine wt_up (P := fun k => u_lay wt_R3 wt_T3 k ∈ wt_GT) (N := 3) ?_ (wt_g1 229 rfl rfl)
  refine wt_up (P := fun k => u_lay wt_R3 wt_T3 k ∈ wt_GT) (N := 2) ?_ (wt_g1 227 rfl rfl)
  refine wt_up (P := fun k => u_lay wt_R3 wt_T3 k ∈ wt_GT) (N := 1) ?_ (wt_g1 225 rfl rfl)
  refine wt_up (P := fun k => u_lay wt_R3 wt_T3 k ∈ wt_GT) (N := 0) ?_ (wt_g1 223 rfl rfl)
  exact wt_u0
theorem wt_cf3 : wt_CF wt_R3 wt_T3 10 wt_ty3 := ⟨wt_us wt_us3, by decide +kernel, wt_symN (by decide +kernel)⟩
abbrev wt_R4 : String := "WornType$Stock"
def wt_T4 : u_T := fun k => match k with
  | 0 => ("WornType$Stock", "lead", "LWornType$Lead;", true)
  | _ => ("WornType$Stock", "state", "LWornType$State;", true)
def wt_ty4 : Nat → FieldType := fun k => match k with
  | 0 => .object "WornType$Lead"
  | _ => .object "WornType$State"
set_option maxRecDepth 100000 in
theorem wt_us4 : ∀ k, k < 2 → u_lay wt_R4 wt_T4 k ∈ wt_GT := by
  refine wt_up (P := fun k => u_lay wt_R4 wt_T4 k ∈ wt_GT) (N := 1) ?_ (wt_g2 15 rfl rfl)
  refine wt_up (P := fun k => u_lay wt_R4 wt_T4 k ∈ wt_GT) (N := 0) ?_ (wt_g2 13 rfl rfl)
  exact wt_u0
theorem wt_cf4 : wt_CF wt_R4 wt_T4 2 wt_ty4 := ⟨wt_us wt_us4, by decide +kernel, wt_symN (by decide +kernel)⟩
abbrev wt_R5 : String := "WornType$Tape"
def wt_T5 : u_T := fun k => match k with
  | 0 => ("WornType$Tape", "bytes", "[I", true)
  | 1 => ("WornType$Tape", "spelled", "[I", true)
  | 2 => ("WornType$Tape", "size", "I", false)
  | 3 => ("WornType$Tape", "end", "I", false)
  | 4 => ("WornType$Tape", "here", "I", false)
  | 5 => ("WornType$Tape", "start", "I", false)
  | 6 => ("WornType$Tape", "fault", "I", false)
  | _ => ("WornType$Tape", "place", "I", false)
def wt_ty5 : Nat → FieldType := fun k => match k with
  | 0 => .array .int
  | 1 => .array .int
  | 2 => .int
  | 3 => .int
  | 4 => .int
  | 5 => .int
  | 6 => .int
  | _ => .int
set_option maxRecDepth 100000 in
theorem wt_us5 : ∀ k, k < 8 → u_lay wt_R5 wt_T5 k ∈ wt_GT := by
  refine wt_up (P := fun k => u_lay wt_R5 wt_T5 k ∈ wt_GT) (N := 7) ?_ (wt_g1 66 rfl rfl)
  refine wt_up (P := fun k => u_lay wt_R5 wt_T5 k ∈ wt_GT) (N := 6) ?_ (wt_g1 64 rfl rfl)
  refine wt_up (P := fun k => u_lay wt_R5 wt_T5 k ∈ wt_GT) (N := 5) ?_ (wt_g1 62 rfl rfl)
  refine wt_up (P := fun k => u_lay wt_R5 wt_T5 k ∈ wt_GT) (N := 4) ?_ (wt_g1 60 rfl rfl)
  refine wt_up (P := fun k => u_lay wt_R5 wt_T5 k ∈ wt_GT) (N := 3) ?_ (wt_g1 58 rfl rfl)
  refine wt_up (P := fun k => u_lay wt_R5 wt_T5 k ∈ wt_GT) (N := 2) ?_ (wt_g1 56 rfl rfl)
  refine wt_up (P := fun k => u_lay wt_R5 wt_T5 k ∈ wt_GT) (N := 1) ?_ (wt_g1 54 rfl rfl)
  refine wt_up (P := fun k => u_lay wt_R5 wt_T5 k ∈ wt_GT) (N := 0) ?_ (wt_g1 52 rfl rfl)
  exact wt_u0
theorem wt_cf5 : wt_CF wt_R5 wt_T5 8 wt_ty5 := ⟨wt_us wt_us5, by decide +kernel, wt_symN (by decide +kernel)⟩
abbrev wt_R6 : String := "WornType$Texts"
def wt_T6 : u_T := fun k => match k with
  | 0 => ("WornType$Texts", "words", "[I", true)
  | 1 => ("WornType$Texts", "lengths", "[I", true)
  | 2 => ("WornType$Texts", "needs", "[I", true)
  | 3 => ("WornType$Texts", "counted", "[I", true)
  | _ => ("WornType$Texts", "size", "I", false)
def wt_ty6 : Nat → FieldType := fun k => match k with
  | 0 => .array .int
  | 1 => .array .int
  | 2 => .array .int
  | 3 => .array .int
  | _ => .int
set_option maxRecDepth 100000 in
theorem wt_us6 : ∀ k, k < 5 → u_lay wt_R6 wt_T6 k ∈ wt_GT := by
  refine wt_up (P := fun k => u_lay wt_R6 wt_T6 k ∈ wt_GT) (N := 4) ?_ (wt_g1 179 rfl rfl)
  refine wt_up (P := fun k => u_lay wt_R6 wt_T6 k ∈ wt_GT) (N := 3) ?_ (wt_g1 177 rfl rfl)
  refine wt_up (P := fun k => u_lay wt_R6 wt_T6 k ∈ wt_GT) (N := 2) ?_ (wt_g1 175 rfl rfl)
  refine wt_up (P := fun k => u_lay wt_R6 wt_T6 k ∈ wt_GT) (N := 1) ?_ (wt_g1 173 rfl rfl)
  refine wt_up (P := fun k => u_lay wt_R6 wt_T6 k ∈ wt_GT) (N := 0) ?_ (wt_g1 171 rfl rfl)
  exact wt_u0
theorem wt_cf6 : wt_CF wt_R6 wt_T6 5 wt_ty6 := ⟨wt_us wt_us6, by decide +kernel, wt_symN (by decide +kernel)⟩
abbrev wt_R7 : String := "WornType$Tongue"
def wt_T7 : u_T := fun k => match k with
  | 0 => ("WornType$Tongue", "letters", "[I", true)
  | 1 => ("WornType$Tongue", "lengths", "[I", true)
  | 2 => ("WornType$Tongue", "marks", "[I", true)
  | 3 => ("WornType$Tongue", "groupOf", "[I", true)
  | 4 => ("WornType$Tongue", "firsts", "[I", true)
  | 5 => ("WornType$Tongue", "members", "[I", true)
  | 6 => ("WornType$Tongue", "size", "I", false)
  | _ => ("WornType$Tongue", "groups", "I", false)
def wt_ty7 : Nat → FieldType := fun k => match k with
  | 0 => .array .int
  | 1 => .array .int
  | 2 => .array .int
  | 3 => .array .int
  | 4 => .array .int
  | 5 => .array .int
  | 6 => .int
  | _ => .int
set_option maxRecDepth 100000 in
theorem wt_us7 : ∀ k, k < 8 → u_lay wt_R7 wt_T7 k ∈ wt_GT := by
  refine wt_up (P := fun k => u_lay wt_R7 wt_T7 k ∈ wt_GT) (N := 7) ?_ (wt_g1 155 rfl rfl)
  refine wt_up (P := fun k => u_lay wt_R7 wt_T7 k ∈ wt_GT) (N := 6) ?_ (wt_g1 153 rfl rfl)
  refine wt_up (P := fun k => u_lay wt_R7 wt_T7 k ∈ wt_GT) (N := 5) ?_ (wt_g1 151 rfl rfl)
  refine wt_up (P := fun k => u_lay wt_R7 wt_T7 k ∈ wt_GT) (N := 4) ?_ (wt_g1 149 rfl rfl)
  refine wt_up (P := fun k => u_lay wt_R7 wt_T7 k ∈ wt_GT) (N := 3) ?_ (wt_g1 147 rfl rfl)
  refine wt_up (P := fun k => u_lay wt_R7 wt_T7 k ∈ wt_GT) (N := 2) ?_ (wt_g1 145 rfl rfl)
  refine wt_up (P := fun k => u_lay wt_R7 wt_T7 k ∈ wt_GT) (N := 1) ?_ (wt_g1 143 rfl rfl)
  refine wt_up (P := fun k => u_lay wt_R7 wt_T7 k ∈ wt_GT) (N := 0) ?_ (wt_g1 141 rfl rfl)
  exact wt_u0
theorem wt_cf7 : wt_CF wt_R7 wt_T7 8 wt_ty7 := ⟨wt_us wt_us7, by decide +kernel, wt_symN (by decide +kernel)⟩
abbrev wt_R8 : String := "WornType$Trade"
def wt_T8 : u_T := fun k => match k with
  | 0 => ("WornType$Trade", "lead", "LWornType$Lead;", true)
  | 1 => ("WornType$Trade", "texts", "LWornType$Texts;", true)
  | 2 => ("WornType$Trade", "state", "LWornType$State;", true)
  | 3 => ("WornType$Trade", "stock", "LWornType$Stock;", true)
  | 4 => ("WornType$Trade", "now", "[I", true)
  | 5 => ("WornType$Trade", "fewer", "[I", true)
  | 6 => ("WornType$Trade", "more", "[I", true)
  | 7 => ("WornType$Trade", "other", "[I", true)
  | _ => ("WornType$Trade", "ready", "[I", true)
def wt_ty8 : Nat → FieldType := fun k => match k with
  | 0 => .object "WornType$Lead"
  | 1 => .object "WornType$Texts"
  | 2 => .object "WornType$State"
  | 3 => .object "WornType$Stock"
  | 4 => .array .int
  | 5 => .array .int
  | 6 => .array .int
  | 7 => .array .int
  | _ => .array .int
set_option maxRecDepth 100000 in
theorem wt_us8 : ∀ k, k < 9 → u_lay wt_R8 wt_T8 k ∈ wt_GT := by
  refine wt_up (P := fun k => u_lay wt_R8 wt_T8 k ∈ wt_GT) (N := 8) ?_ (wt_g2 162 rfl rfl)
  refine wt_up (P := fun k => u_lay wt_R8 wt_T8 k ∈ wt_GT) (N := 7) ?_ (wt_g2 160 rfl rfl)
  refine wt_up (P := fun k => u_lay wt_R8 wt_T8 k ∈ wt_GT) (N := 6) ?_ (wt_g2 158 rfl rfl)
  refine wt_up (P := fun k => u_lay wt_R8 wt_T8 k ∈ wt_GT) (N := 5) ?_ (wt_g2 156 rfl rfl)
  refine wt_up (P := fun k => u_lay wt_R8 wt_T8 k ∈ wt_GT) (N := 4) ?_ (wt_g2 154 rfl rfl)
  refine wt_up (P := fun k => u_lay wt_R8 wt_T8 k ∈ wt_GT) (N := 3) ?_ (wt_g2 152 rfl rfl)
  refine wt_up (P := fun k => u_lay wt_R8 wt_T8 k ∈ wt_GT) (N := 2) ?_ (wt_g2 150 rfl rfl)
  refine wt_up (P := fun k => u_lay wt_R8 wt_T8 k ∈ wt_GT) (N := 1) ?_ (wt_g2 148 rfl rfl)
  refine wt_up (P := fun k => u_lay wt_R8 wt_T8 k ∈ wt_GT) (N := 0) ?_ (wt_g2 146 rfl rfl)
  exact wt_u0
theorem wt_cf8 : wt_CF wt_R8 wt_T8 9 wt_ty8 := ⟨wt_us wt_us8, by decide +kernel, wt_symN (by decide +kernel)⟩
abbrev wt_R9 : String := "WornType$Weeks"
def wt_T9 : u_T := fun k => match k with
  | 0 => ("WornType$Weeks", "tongue", "LWornType$Tongue;", true)
  | 1 => ("WornType$Weeks", "texts", "LWornType$Texts;", true)
  | 2 => ("WornType$Weeks", "state", "LWornType$State;", true)
  | 3 => ("WornType$Weeks", "stock", "LWornType$Stock;", true)
  | 4 => ("WornType$Weeks", "lefts", "[[I", true)
  | 5 => ("WornType$Weeks", "leftBehind", "[I", true)
  | 6 => ("WornType$Weeks", "order", "[I", true)
  | 7 => ("WornType$Weeks", "need", "[I", true)
  | 8 => ("WornType$Weeks", "worth", "I", false)
  | 9 => ("WornType$Weeks", "bits", "I", false)
  | _ => ("WornType$Weeks", "sets", "I", false)
def wt_ty9 : Nat → FieldType := fun k => match k with
  | 0 => .object "WornType$Tongue"
  | 1 => .object "WornType$Texts"
  | 2 => .object "WornType$State"
  | 3 => .object "WornType$Stock"
  | 4 => .array (.array .int)
  | 5 => .array .int
  | 6 => .array .int
  | 7 => .array .int
  | 8 => .int
  | 9 => .int
  | _ => .int
set_option maxRecDepth 100000 in
theorem wt_us9 : ∀ k, k < 11 → u_lay wt_R9 wt_T9 k ∈ wt_GT := by
  refine wt_up (P := fun k => u_lay wt_R9 wt_T9 k ∈ wt_GT) (N := 10) ?_ (wt_g2 128 rfl rfl)
  refine wt_up (P := fun k => u_lay wt_R9 wt_T9 k ∈ wt_GT) (N := 9) ?_ (wt_g2 126 rfl rfl)
  refine wt_up (P := fun k => u_lay wt_R9 wt_T9 k ∈ wt_GT) (N := 8) ?_ (wt_g2 124 rfl rfl)
  refine wt_up (P := fun k => u_lay wt_R9 wt_T9 k ∈ wt_GT) (N := 7) ?_ (wt_g2 122 rfl rfl)
  refine wt_up (P := fun k => u_lay wt_R9 wt_T9 k ∈ wt_GT) (N := 6) ?_ (wt_g2 120 rfl rfl)
  refine wt_up (P := fun k => u_lay wt_R9 wt_T9 k ∈ wt_GT) (N := 5) ?_ (wt_g2 118 rfl rfl)
  refine wt_up (P := fun k => u_lay wt_R9 wt_T9 k ∈ wt_GT) (N := 4) ?_ (wt_g2 116 rfl rfl)
  refine wt_up (P := fun k => u_lay wt_R9 wt_T9 k ∈ wt_GT) (N := 3) ?_ (wt_g2 114 rfl rfl)
  refine wt_up (P := fun k => u_lay wt_R9 wt_T9 k ∈ wt_GT) (N := 2) ?_ (wt_g2 112 rfl rfl)
  refine wt_up (P := fun k => u_lay wt_R9 wt_T9 k ∈ wt_GT) (N := 1) ?_ (wt_g2 110 rfl rfl)
  refine wt_up (P := fun k => u_lay wt_R9 wt_T9 k ∈ wt_GT) (N := 0) ?_ (wt_g2 108 rfl rfl)
  exact wt_u0
theorem wt_cf9 : wt_CF wt_R9 wt_T9 11 wt_ty9 := ⟨wt_us wt_us9, by decide +kernel, wt_symN (by decide +kernel)⟩
abbrev wt_R10 : String := "WornType"
def wt_T10 : u_T := fun k => match k with
  | 0 => ("WornType", "tape", "LWornType$Tape;", true)
  | 1 => ("WornType", "lead", "LWornType$Lead;", true)
  | 2 => ("WornType", "nextLead", "LWornType$Lead;", true)
  | 3 => ("WornType", "speech", "LWornType$Tongue;", true)
  | 4 => ("WornType", "nextSpeech", "LWornType$Tongue;", true)
  | 5 => ("WornType", "texts", "LWornType$Texts;", true)
  | 6 => ("WornType", "state", "LWornType$State;", true)
  | 7 => ("WornType", "images", "[LWornType$State;", true)
  | 8 => ("WornType", "stock", "LWornType$Stock;", true)
  | 9 => ("WornType", "pages", "LWornType$Pages;", true)
  | 10 => ("WornType", "rows", "LWornType$Rows;", true)
  | 11 => ("WornType", "weeks", "LWornType$Weeks;", true)
  | 12 => ("WornType", "trade", "LWornType$Trade;", true)
  | 13 => ("WornType", "need", "[I", true)
  | _ => ("WornType", "imagesKept", "I", false)
def wt_ty10 : Nat → FieldType := fun k => match k with
  | 0 => .object "WornType$Tape"
  | 1 => .object "WornType$Lead"
  | 2 => .object "WornType$Lead"
  | 3 => .object "WornType$Tongue"
  | 4 => .object "WornType$Tongue"
  | 5 => .object "WornType$Texts"
  | 6 => .object "WornType$State"
  | 7 => .array (.object "WornType$State")
  | 8 => .object "WornType$Stock"
  | 9 => .object "WornType$Pages"
  | 10 => .object "WornType$Rows"
  | 11 => .object "WornType$Weeks"
  | 12 => .object "WornType$Trade"
  | 13 => .array .int
  | _ => .int
set_option maxRecDepth 100000 in
theorem wt_us10 : ∀ k, k < 15 → u_lay wt_R10 wt_T10 k ∈ wt_GT := by
  refine wt_up (P := fun k => u_lay wt_R10 wt_T10 k ∈ wt_GT) (N := 14) ?_ (wt_g2 208 rfl rfl)
  refine wt_up (P := fun k => u_lay wt_R10 wt_T10 k ∈ wt_GT) (N := 13) ?_ (wt_g2 206 rfl rfl)
  refine wt_up (P := fun k => u_lay wt_R10 wt_T10 k ∈ wt_GT) (N := 12) ?_ (wt_g2 204 rfl rfl)
  refine wt_up (P := fun k => u_lay wt_R10 wt_T10 k ∈ wt_GT) (N := 11) ?_ (wt_g2 202 rfl rfl)
  refine wt_up (P := fun k => u_lay wt_R10 wt_T10 k ∈ wt_GT) (N := 10) ?_ (wt_g2 200 rfl rfl)
  refine wt_up (P := fun k => u_lay wt_R10 wt_T10 k ∈ wt_GT) (N := 9) ?_ (wt_g2 198 rfl rfl)
  refine wt_up (P := fun k => u_lay wt_R10 wt_T10 k ∈ wt_GT) (N := 8) ?_ (wt_g2 196 rfl rfl)
  refine wt_up (P := fun k => u_lay wt_R10 wt_T10 k ∈ wt_GT) (N := 7) ?_ (wt_g2 194 rfl rfl)
  refine wt_up (P := fun k => u_lay wt_R10 wt_T10 k ∈ wt_GT) (N := 6) ?_ (wt_g2 192 rfl rfl)
  refine wt_up (P := fun k => u_lay wt_R10 wt_T10 k ∈ wt_GT) (N := 5) ?_ (wt_g2 190 rfl rfl)
  refine wt_up (P := fun k => u_lay wt_R10 wt_T10 k ∈ wt_GT) (N := 4) ?_ (wt_g2 188 rfl rfl)
  refine wt_up (P := fun k => u_lay wt_R10 wt_T10 k ∈ wt_GT) (N := 3) ?_ (wt_g2 186 rfl rfl)
  refine wt_up (P := fun k => u_lay wt_R10 wt_T10 k ∈ wt_GT) (N := 2) ?_ (wt_g2 184 rfl rfl)
  refine wt_up (P := fun k => u_lay wt_R10 wt_T10 k ∈ wt_GT) (N := 1) ?_ (wt_g2 182 rfl rfl)
  refine wt_up (P := fun k => u_lay wt_R10 wt_T10 k ∈ wt_GT) (N := 0) ?_ (wt_g2 180 rfl rfl)
  exact wt_u0
theorem wt_cf10 : wt_CF wt_R10 wt_T10 15 wt_ty10 := ⟨wt_us wt_us10, by decide +kernel, wt_symN (by decide +kernel)⟩
abbrev wt_R11 : String := "WornTypeModel"
def wt_T11 : u_T := fun k => match k with
  | 0 => ("WornTypeModel", "thrown", "I", false)
  | 1 => ("WornTypeModel", "tape", "I", false)
  | 2 => ("WornTypeModel", "size", "I", false)
  | 3 => ("WornTypeModel", "place", "I", false)
  | 4 => ("WornTypeModel", "at", "I", false)
  | 5 => ("WornTypeModel", "fault", "I", false)
  | 6 => ("WornTypeModel", "faultAt", "I", false)
  | 7 => ("WornTypeModel", "clauses", "I", false)
  | 8 => ("WornTypeModel", "fed", "[I", true)
  | 9 => ("WornTypeModel", "readMany", "[I", true)
  | 10 => ("WornTypeModel", "many", "[I", true)
  | 11 => ("WornTypeModel", "readThere", "[I", true)
  | 12 => ("WornTypeModel", "there", "[I", true)
  | 13 => ("WornTypeModel", "readPrice", "[I", true)
  | 14 => ("WornTypeModel", "price", "[I", true)
  | 15 => ("WornTypeModel", "readLike", "[I", true)
  | 16 => ("WornTypeModel", "like", "[I", true)
  | 17 => ("WornTypeModel", "readFollow", "[I", true)
  | 18 => ("WornTypeModel", "follow", "[I", true)
  | 19 => ("WornTypeModel", "readLeft", "[I", true)
  | 20 => ("WornTypeModel", "left", "[I", true)
  | 21 => ("WornTypeModel", "readThereLeft", "[I", true)
  | 22 => ("WornTypeModel", "thereLeft", "[I", true)
  | 23 => ("WornTypeModel", "on", "[I", true)
  | 24 => ("WornTypeModel", "readFaint", "I", false)
  | 25 => ("WornTypeModel", "faint", "I", false)
  | 26 => ("WornTypeModel", "habit", "I", false)
  | 27 => ("WornTypeModel", "readWords", "I", false)
  | 28 => ("WornTypeModel", "words", "I", false)
  | 29 => ("WornTypeModel", "readGroups", "I", false)
  | 30 => ("WornTypeModel", "groups", "I", false)
  | 31 => ("WornTypeModel", "readLong", "[I", true)
  | 32 => ("WornTypeModel", "wordLong", "[I", true)
  | 33 => ("WornTypeModel", "readMark", "[I", true)
  | 34 => ("WornTypeModel", "mark", "[I", true)
  | 35 => ("WornTypeModel", "readGroup", "[I", true)
  | 36 => ("WornTypeModel", "group", "[I", true)
  | 37 => ("WornTypeModel", "readLetters", "[[I", true)
  | 38 => ("WornTypeModel", "letters", "[[I", true)
  | 39 => ("WornTypeModel", "texts", "I", false)
  | 40 => ("WornTypeModel", "wants", "I", false)
  | 41 => ("WornTypeModel", "images", "I", false)
  | 42 => ("WornTypeModel", "spot", "I", false)
  | 43 => ("WornTypeModel", "textLong", "[I", true)
  | 44 => ("WornTypeModel", "text", "[[I", true)
  | 45 => ("WornTypeModel", "want", "[[I", true)
  | 46 => ("WornTypeModel", "readText", "[I", true)
  | 47 => ("WornTypeModel", "pageText", "[I", true)
  | 48 => ("WornTypeModel", "pageMany", "[I", true)
  | 49 => ("WornTypeModel", "pageCells", "[[I", true)
  | 50 => ("WornTypeModel", "kept", "[[I", true)
  | 51 => ("WornTypeModel", "asideLeft", "[I", true)
  | 52 => ("WornTypeModel", "need", "[I", true)
  | 53 => ("WornTypeModel", "taken", "[I", true)
  | 54 => ("WornTypeModel", "takenMany", "I", false)
  | 55 => ("WornTypeModel", "readHere", "[I", true)
  | 56 => ("WornTypeModel", "sofar", "[I", true)
  | 57 => ("WornTypeModel", "restPrice", "[[I", true)
  | 58 => ("WornTypeModel", "restMany", "[[I", true)
  | 59 => ("WornTypeModel", "row", "[I", true)
  | 60 => ("WornTypeModel", "fitPrice", "I", false)
  | 61 => ("WornTypeModel", "fitRow", "[I", true)
  | 62 => ("WornTypeModel", "tryRow", "[I", true)
  | _ => ("WornTypeModel", "uses", "[I", true)
def wt_ty11 : Nat → FieldType := fun k => match k with
  | 0 => .int
  | 1 => .int
  | 2 => .int
  | 3 => .int
  | 4 => .int
  | 5 => .int
  | 6 => .int
  | 7 => .int
  | 8 => .array .int
  | 9 => .array .int
  | 10 => .array .int
  | 11 => .array .int
  | 12 => .array .int
  | 13 => .array .int
  | 14 => .array .int
  | 15 => .array .int
  | 16 => .array .int
  | 17 => .array .int
  | 18 => .array .int
  | 19 => .array .int
  | 20 => .array .int
  | 21 => .array .int
  | 22 => .array .int
  | 23 => .array .int
  | 24 => .int
  | 25 => .int
  | 26 => .int
  | 27 => .int
  | 28 => .int
  | 29 => .int
  | 30 => .int
  | 31 => .array .int
  | 32 => .array .int
  | 33 => .array .int
  | 34 => .array .int
  | 35 => .array .int
  | 36 => .array .int
  | 37 => .array (.array .int)
  | 38 => .array (.array .int)
  | 39 => .int
  | 40 => .int
  | 41 => .int
  | 42 => .int
  | 43 => .array .int
  | 44 => .array (.array .int)
  | 45 => .array (.array .int)
  | 46 => .array .int
  | 47 => .array .int
  | 48 => .array .int
  | 49 => .array (.array .int)
  | 50 => .array (.array .int)
  | 51 => .array .int
  | 52 => .array .int
  | 53 => .array .int
  | 54 => .int
  | 55 => .array .int
  | 56 => .array .int
  | 57 => .array (.array .int)
  | 58 => .array (.array .int)
  | 59 => .array .int
  | 60 => .int
  | 61 => .array .int
  | 62 => .array .int
  | _ => .array .int
set_option maxRecDepth 100000 in
theorem wt_us11 : ∀ k, k < 64 → u_lay wt_R11 wt_T11 k ∈ wt_GT := by
  refine wt_up (P := fun k => u_lay wt_R11 wt_T11 k ∈ wt_GT) (N := 63) ?_ (wt_g7 158 rfl rfl)
  refine wt_up (P := fun k => u_lay wt_R11 wt_T11 k ∈ wt_GT) (N := 62) ?_ (wt_g7 156 rfl rfl)
  refine wt_up (P := fun k => u_lay wt_R11 wt_T11 k ∈ wt_GT) (N := 61) ?_ (wt_g7 154 rfl rfl)
  refine wt_up (P := fun k => u_lay wt_R11 wt_T11 k ∈ wt_GT) (N := 60) ?_ (wt_g7 152 rfl rfl)
  refine wt_up (P := fun k => u_lay wt_R11 wt_T11 k ∈ wt_GT) (N := 59) ?_ (wt_g7 150 rfl rfl)
  refine wt_up (P := fun k => u_lay wt_R11 wt_T11 k ∈ wt_GT) (N := 58) ?_ (wt_g7 148 rfl rfl)
  refine wt_up (P := fun k => u_lay wt_R11 wt_T11 k ∈ wt_GT) (N := 57) ?_ (wt_g7 146 rfl rfl)
  refine wt_up (P := fun k => u_lay wt_R11 wt_T11 k ∈ wt_GT) (N := 56) ?_ (wt_g7 144 rfl rfl)
  refine wt_up (P := fun k => u_lay wt_R11 wt_T11 k ∈ wt_GT) (N := 55) ?_ (wt_g7 142 rfl rfl)
  refine wt_up (P := fun k => u_lay wt_R11 wt_T11 k ∈ wt_GT) (N := 54) ?_ (wt_g7 140 rfl rfl)
  refine wt_up (P := fun k => u_lay wt_R11 wt_T11 k ∈ wt_GT) (N := 53) ?_ (wt_g7 138 rfl rfl)
  refine wt_up (P := fun k => u_lay wt_R11 wt_T11 k ∈ wt_GT) (N := 52) ?_ (wt_g7 136 rfl rfl)
  refine wt_up (P := fun k => u_lay wt_R11 wt_T11 k ∈ wt_GT) (N := 51) ?_ (wt_g7 134 rfl rfl)
  refine wt_up (P := fun k => u_lay wt_R11 wt_T11 k ∈ wt_GT) (N := 50) ?_ (wt_g7 132 rfl rfl)
  refine wt_up (P := fun k => u_lay wt_R11 wt_T11 k ∈ wt_GT) (N := 49) ?_ (wt_g7 130 rfl rfl)
  refine wt_up (P := fun k => u_lay wt_R11 wt_T11 k ∈ wt_GT) (N := 48) ?_ (wt_g7 128 rfl rfl)
  refine wt_up (P := fun k => u_lay wt_R11 wt_T11 k ∈ wt_GT) (N := 47) ?_ (wt_g7 126 rfl rfl)
  refine wt_up (P := fun k => u_lay wt_R11 wt_T11 k ∈ wt_GT) (N := 46) ?_ (wt_g7 124 rfl rfl)
  refine wt_up (P := fun k => u_lay wt_R11 wt_T11 k ∈ wt_GT) (N := 45) ?_ (wt_g7 122 rfl rfl)
  refine wt_up (P := fun k => u_lay wt_R11 wt_T11 k ∈ wt_GT) (N := 44) ?_ (wt_g7 120 rfl rfl)
  refine wt_up (P := fun k => u_lay wt_R11 wt_T11 k ∈ wt_GT) (N := 43) ?_ (wt_g7 118 rfl rfl)
  refine wt_up (P := fun k => u_lay wt_R11 wt_T11 k ∈ wt_GT) (N := 42) ?_ (wt_g7 116 rfl rfl)
  refine wt_up (P := fun k => u_lay wt_R11 wt_T11 k ∈ wt_GT) (N := 41) ?_ (wt_g7 114 rfl rfl)
  refine wt_up (P := fun k => u_lay wt_R11 wt_T11 k ∈ wt_GT) (N := 40) ?_ (wt_g7 112 rfl rfl)
  refine wt_up (P := fun k => u_lay wt_R11 wt_T11 k ∈ wt_GT) (N := 39) ?_ (wt_g7 110 rfl rfl)
  refine wt_up (P := fun k => u_lay wt_R11 wt_T11 k ∈ wt_GT) (N := 38) ?_ (wt_g7 108 rfl rfl)
  refine wt_up (P := fun k => u_lay wt_R11 wt_T11 k ∈ wt_GT) (N := 37) ?_ (wt_g7 106 rfl rfl)
  refine wt_up (P := fun k => u_lay wt_R11 wt_T11 k ∈ wt_GT) (N := 36) ?_ (wt_g7 104 rfl rfl)
  refine wt_up (P := fun k => u_lay wt_R11 wt_T11 k ∈ wt_GT) (N := 35) ?_ (wt_g7 102 rfl rfl)
  refine wt_up (P := fun k => u_lay wt_R11 wt_T11 k ∈ wt_GT) (N := 34) ?_ (wt_g7 100 rfl rfl)
  refine wt_up (P := fun k => u_lay wt_R11 wt_T11 k ∈ wt_GT) (N := 33) ?_ (wt_g7 98 rfl rfl)
  refine wt_up (P := fun k => u_lay wt_R11 wt_T11 k ∈ wt_GT) (N := 32) ?_ (wt_g7 96 rfl rfl)
  refine wt_up (P := fun k => u_lay wt_R11 wt_T11 k ∈ wt_GT) (N := 31) ?_ (wt_g7 94 rfl rfl)
  refine wt_up (P := fun k => u_lay wt_R11 wt_T11 k ∈ wt_GT) (N := 30) ?_ (wt_g7 92 rfl rfl)
  refine wt_up (P := fun k => u_lay wt_R11 wt_T11 k ∈ wt_GT) (N := 29) ?_ (wt_g7 90 rfl rfl)
  refine wt_up (P := fun k => u_lay wt_R11 wt_T11 k ∈ wt_GT) (N := 28) ?_ (wt_g7 88 rfl rfl)
  refine wt_up (P := fun k => u_lay wt_R11 wt_T11 k ∈ wt_GT) (N := 27) ?_ (wt_g7 86 rfl rfl)
  refine wt_up (P := fun k => u_lay wt_R11 wt_T11 k ∈ wt_GT) (N := 26) ?_ (wt_g7 84 rfl rfl)
  refine wt_up (P := fun k => u_lay wt_R11 wt_T11 k ∈ wt_GT) (N := 25) ?_ (wt_g7 82 rfl rfl)
  refine wt_up (P := fun k => u_lay wt_R11 wt_T11 k ∈ wt_GT) (N := 24) ?_ (wt_g7 80 rfl rfl)
  refine wt_up (P := fun k => u_lay wt_R11 wt_T11 k ∈ wt_GT) (N := 23) ?_ (wt_g7 78 rfl rfl)
  refine wt_up (P := fun k => u_lay wt_R11 wt_T11 k ∈ wt_GT) (N := 22) ?_ (wt_g7 76 rfl rfl)
  refine wt_up (P := fun k => u_lay wt_R11 wt_T11 k ∈ wt_GT) (N := 21) ?_ (wt_g7 74 rfl rfl)
  refine wt_up (P := fun k => u_lay wt_R11 wt_T11 k ∈ wt_GT) (N := 20) ?_ (wt_g7 72 rfl rfl)
  refine wt_up (P := fun k => u_lay wt_R11 wt_T11 k ∈ wt_GT) (N := 19) ?_ (wt_g7 70 rfl rfl)
  refine wt_up (P := fun k => u_lay wt_R11 wt_T11 k ∈ wt_GT) (N := 18) ?_ (wt_g7 68 rfl rfl)
  refine wt_up (P := fun k => u_lay wt_R11 wt_T11 k ∈ wt_GT) (N := 17) ?_ (wt_g7 66 rfl rfl)
  refine wt_up (P := fun k => u_lay wt_R11 wt_T11 k ∈ wt_GT) (N := 16) ?_ (wt_g7 64 rfl rfl)
  refine wt_up (P := fun k => u_lay wt_R11 wt_T11 k ∈ wt_GT) (N := 15) ?_ (wt_g7 62 rfl rfl)
  refine wt_up (P := fun k => u_lay wt_R11 wt_T11 k ∈ wt_GT) (N := 14) ?_ (wt_g7 60 rfl rfl)
  refine wt_up (P := fun k => u_lay wt_R11 wt_T11 k ∈ wt_GT) (N := 13) ?_ (wt_g7 58 rfl rfl)
  refine wt_up (P := fun k => u_lay wt_R11 wt_T11 k ∈ wt_GT) (N := 12) ?_ (wt_g7 56 rfl rfl)
  refine wt_up (P := fun k => u_lay wt_R11 wt_T11 k ∈ wt_GT) (N := 11) ?_ (wt_g7 54 rfl rfl)
  refine wt_up (P := fun k => u_lay wt_R11 wt_T11 k ∈ wt_GT) (N := 10) ?_ (wt_g7 52 rfl rfl)
  refine wt_up (P := fun k => u_lay wt_R11 wt_T11 k ∈ wt_GT) (N := 9) ?_ (wt_g7 50 rfl rfl)
  refine wt_up (P := fun k => u_lay wt_R11 wt_T11 k ∈ wt_GT) (N := 8) ?_ (wt_g7 48 rfl rfl)
  refine wt_up (P := fun k => u_lay wt_R11 wt_T11 k ∈ wt_GT) (N := 7) ?_ (wt_g7 46 rfl rfl)
  refine wt_up (P := fun k => u_lay wt_R11 wt_T11 k ∈ wt_GT) (N := 6) ?_ (wt_g7 44 rfl rfl)
  refine wt_up (P := fun k => u_lay wt_R11 wt_T11 k ∈ wt_GT) (N := 5) ?_ (wt_g7 42 rfl rfl)
  refine wt_up (P := fun k => u_lay wt_R11 wt_T11 k ∈ wt_GT) (N := 4) ?_ (wt_g7 40 rfl rfl)
  refine wt_up (P := fun k => u_lay wt_R11 wt_T11 k ∈ wt_GT) (N := 3) ?_ (wt_g7 38 rfl rfl)
  refine wt_up (P := fun k => u_lay wt_R11 wt_T11 k ∈ wt_GT) (N := 2) ?_ (wt_g7 36 rfl rfl)
  refine wt_up (P := fun k => u_lay wt_R11 wt_T11 k ∈ wt_GT) (N := 1) ?_ (wt_g7 34 rfl rfl)
  refine wt_up (P := fun k => u_lay wt_R11 wt_T11 k ∈ wt_GT) (N := 0) ?_ (wt_g7 32 rfl rfl)
  exact wt_u0
theorem wt_cf11 : wt_CF wt_R11 wt_T11 64 wt_ty11 := ⟨wt_us wt_us11, by decide +kernel, wt_symN (by decide +kernel)⟩
abbrev wt_cl : List vw_C := [(wt_R0, wt_T0, 8), (wt_R1, wt_T1, 8), (wt_R2, wt_T2, 10), (wt_R3, wt_T3, 10), (wt_R4, wt_T4, 2), (wt_R5, wt_T5, 8), (wt_R6, wt_T6, 5), (wt_R7, wt_T7, 8), (wt_R8, wt_T8, 9), (wt_R9, wt_T9, 11), (wt_R10, wt_T10, 15), (wt_R11, wt_T11, 64)]
def wt_LAY : List (Nat × Nat × List Nat) := [(13, 0, [2, 5, 13, 21, 28, 35, 40, 49, 77, 78, 82, 87, 102, 108, 0]), (8, 0, [3, 4, 0, 0, 0, 0, 0, 0]), (0, 500, []), (0, 9, []), (3, 0, [6, 7, 8, 9, 10, 11, 12, 0]), (0, 26, []), (0, 312, []), (0, 26, []), (0, 312, []), (0, 26, []), (0, 26, []), (0, 4, []), (3, 0, [14, 15, 16, 17, 18, 19, 20, 0]), (0, 26, []), (0, 312, []), (0, 26, []), (0, 312, []), (0, 26, []), (0, 26, []), (0, 4, []), (10, 0, [22, 23, 24, 25, 26, 27, 0, 0]), (0, 540, []), (0, 60, []), (0, 60, []), (0, 60, []), (0, 20, []), (0, 20, []), (10, 0, [29, 30, 31, 32, 33, 34, 0, 0]), (0, 540, []), (0, 60, []), (0, 60, []), (0, 60, []), (0, 20, []), (0, 20, []), (9, 0, [36, 37, 38, 39, 0]), (0, 96, []), (0, 8, []), (0, 208, []), (0, 26, []), (6, 0, [41, 42, 43, 44, 45, 46, 47, 48, 0, 0]), (0, 312, []), (0, 312, []), (0, 312, []), (0, 4, []), (0, 10, []), (0, 10, []), (0, 10, []), (0, 10, []), (2, 3, [49, 9]), (6, 0, [51, 52, 53, 54, 55, 56, 57, 58, 0, 0]), (0, 312, []), (0, 312, []), (0, 312, []), (0, 4, []), (0, 10, []), (0, 10, []), (0, 10, []), (0, 10, []), (6, 0, [60, 61, 62, 63, 64, 65, 66, 67, 0, 0]), (0, 312, []), (0, 312, []), (0, 312, []), (0, 4, []), (0, 10, []), (0, 10, []), (0, 10, []), (0, 10, []), (6, 0, [69, 70, 71, 72, 73, 74, 75, 76, 0, 0]), (0, 312, []), (0, 312, []), (0, 312, []), (0, 4, []), (0, 10, []), (0, 10, []), (0, 10, []), (0, 10, []), (7, 0, [5, 40]), (4, 0, [5, 21, 35, 40, 77, 79, 80, 81]), (0, 26, []), (0, 26, []), (0, 9, []), (5, 0, [5, 21, 35, 40, 77, 83, 84, 85, 86, 0]), (0, 60, []), (0, 26, []), (0, 12, []), (0, 12, []), (12, 0, [21, 35, 40, 77, 88, 99, 100, 101, 0, 0, 0]), (1, 10, [88]), (0, 312, []), (0, 312, []), (0, 312, []), (0, 312, []), (0, 312, []), (0, 312, []), (0, 312, []), (0, 312, []), (0, 312, []), (0, 312, []), (0, 312, []), (0, 10, []), (0, 26, []), (11, 0, [5, 35, 40, 77, 103, 104, 105, 106, 107]), (0, 26, []), (0, 26, []), (0, 26, []), (0, 26, []), (0, 26, []), (0, 26, []), (14, 0, [0, 0, 0, 0, 0, 0, 0, 0, 110, 111, 112, 113, 114, 115, 116, 117, 118, 119, 120, 121, 122, 123, 124, 125, 0, 0, 0, 0, 0, 0, 0, 126, 127, 128, 129, 130, 131, 132, 193, 0, 0, 0, 0, 254, 255, 264, 275, 276, 277, 278, 283, 287, 288, 289, 0, 290, 291, 292, 305, 318, 0, 319, 320, 321]), (0, 500, []), (0, 26, []), (0, 26, []), (0, 26, []), (0, 26, []), (0, 26, []), (0, 26, []), (0, 26, []), (0, 26, []), (0, 4, []), (0, 4, []), (0, 338, []), (0, 338, []), (0, 338, []), (0, 338, []), (0, 338, []), (0, 60, []), (0, 60, []), (0, 60, []), (0, 60, []), (0, 61, []), (0, 61, []), (1, 60, [132]), (0, 9, []), (0, 9, []), (0, 9, []), (0, 9, []), (0, 9, []), (0, 9, []), (0, 9, []), (0, 9, []), (0, 9, []), (0, 9, []), (0, 9, []), (0, 9, []), (0, 9, []), (0, 9, []), (0, 9, []), (0, 9, []), (0, 9, []), (0, 9, []), (0, 9, []), (0, 9, []), (0, 9, []), (0, 9, []), (0, 9, []), (0, 9, []), (0, 9, []), (0, 9, []), (0, 9, []), (0, 9, []), (0, 9, []), (0, 9, []), (0, 9, []), (0, 9, []), (0, 9, []), (0, 9, []), (0, 9, []), (0, 9, []), (0, 9, []), (0, 9, []), (0, 9, []), (0, 9, []), (0, 9, []), (0, 9, []), (0, 9, []), (0, 9, []), (0, 9, []), (0, 9, []), (0, 9, []), (0, 9, []), (0, 9, []), (0, 9, []), (0, 9, []), (0, 9, []), (0, 9, []), (0, 9, []), (0, 9, []), (0, 9, []), (0, 9, []), (0, 9, []), (0, 9, []), (0, 9, []), (1, 60, [193]), (0, 9, []), (0, 9, []), (0, 9, []), (0, 9, []), (0, 9, []), (0, 9, []), (0, 9, []), (0, 9, []), (0, 9, []), (0, 9, []), (0, 9, []), (0, 9, []), (0, 9, []), (0, 9, []), (0, 9, []), (0, 9, []), (0, 9, []), (0, 9, []), (0, 9, []), (0, 9, []), (0, 9, []), (0, 9, []), (0, 9, []), (0, 9, []), (0, 9, []), (0, 9, []), (0, 9, []), (0, 9, []), (0, 9, []), (0, 9, []), (0, 9, []), (0, 9, []), (0, 9, []), (0, 9, []), (0, 9, []), (0, 9, []), (0, 9, []), (0, 9, []), (0, 9, []), (0, 9, []), (0, 9, []), (0, 9, []), (0, 9, []), (0, 9, []), (0, 9, []), (0, 9, []), (0, 9, []), (0, 9, []), (0, 9, []), (0, 9, []), (0, 9, []), (0, 9, []), (0, 9, []), (0, 9, []), (0, 9, []), (0, 9, []), (0, 9, []), (0, 9, []), (0, 9, []), (0, 9, []), (0, 8, []), (1, 8, [255]), (0, 12, []), (0, 12, []), (0, 12, []), (0, 12, []), (0, 12, []), (0, 12, []), (0, 12, []), (0, 12, []), (1, 10, [264]), (0, 4, []), (0, 4, []), (0, 4, []), (0, 4, []), (0, 4, []), (0, 4, []), (0, 4, []), (0, 4, []), (0, 4, []), (0, 4, []), (0, 12, []), (0, 4, []), (0, 4, []), (1, 4, [278]), (0, 108, []), (0, 108, []), (0, 108, []), (0, 108, []), (1, 3, [283]), (0, 1158, []), (0, 1158, []), (0, 1158, []), (0, 338, []), (0, 26, []), (0, 108, []), (0, 9, []), (0, 26, []), (1, 12, [292]), (0, 60, []), (0, 60, []), (0, 60, []), (0, 60, []), (0, 60, []), (0, 60, []), (0, 60, []), (0, 60, []), (0, 60, []), (0, 60, []), (0, 60, []), (0, 60, []), (1, 12, [305]), (0, 60, []), (0, 60, []), (0, 60, []), (0, 60, []), (0, 60, []), (0, 60, []), (0, 60, []), (0, 60, []), (0, 60, []), (0, 60, []), (0, 60, []), (0, 60, []), (0, 12, []), (0, 12, []), (0, 12, []), (0, 10, [])]
theorem wt_L0 : wt_LAY[0]? = some (13, 0, [2, 5, 13, 21, 28, 35, 40, 49, 77, 78, 82, 87, 102, 108, 0]) := by decide +kernel
theorem wt_L1 : wt_LAY[1]? = some (8, 0, [3, 4, 0, 0, 0, 0, 0, 0]) := by decide +kernel
theorem wt_L2 : wt_LAY[2]? = some (0, 500, []) := by decide +kernel
theorem wt_L3 : wt_LAY[3]? = some (0, 9, []) := by decide +kernel
theorem wt_L4 : wt_LAY[4]? = some (3, 0, [6, 7, 8, 9, 10, 11, 12, 0]) := by decide +kernel
theorem wt_L5 : wt_LAY[5]? = some (0, 26, []) := by decide +kernel
theorem wt_L6 : wt_LAY[6]? = some (0, 312, []) := by decide +kernel
theorem wt_L7 : wt_LAY[7]? = some (0, 26, []) := by decide +kernel
theorem wt_L8 : wt_LAY[8]? = some (0, 312, []) := by decide +kernel
theorem wt_L9 : wt_LAY[9]? = some (0, 26, []) := by decide +kernel
theorem wt_L10 : wt_LAY[10]? = some (0, 26, []) := by decide +kernel
theorem wt_L11 : wt_LAY[11]? = some (0, 4, []) := by decide +kernel
theorem wt_L12 : wt_LAY[12]? = some (3, 0, [14, 15, 16, 17, 18, 19, 20, 0]) := by decide +kernel
theorem wt_L13 : wt_LAY[13]? = some (0, 26, []) := by decide +kernel
theorem wt_L14 : wt_LAY[14]? = some (0, 312, []) := by decide +kernel
theorem wt_L15 : wt_LAY[15]? = some (0, 26, []) := by decide +kernel
theorem wt_L16 : wt_LAY[16]? = some (0, 312, []) := by decide +kernel
theorem wt_L17 : wt_LAY[17]? = some (0, 26, []) := by decide +kernel
theorem wt_L18 : wt_LAY[18]? = some (0, 26, []) := by decide +kernel
theorem wt_L19 : wt_LAY[19]? = some (0, 4, []) := by decide +kernel
theorem wt_L20 : wt_LAY[20]? = some (10, 0, [22, 23, 24, 25, 26, 27, 0, 0]) := by decide +kernel
theorem wt_L21 : wt_LAY[21]? = some (0, 540, []) := by decide +kernel
theorem wt_L22 : wt_LAY[22]? = some (0, 60, []) := by decide +kernel
theorem wt_L23 : wt_LAY[23]? = some (0, 60, []) := by decide +kernel
theorem wt_L24 : wt_LAY[24]? = some (0, 60, []) := by decide +kernel
theorem wt_L25 : wt_LAY[25]? = some (0, 20, []) := by decide +kernel
theorem wt_L26 : wt_LAY[26]? = some (0, 20, []) := by decide +kernel
theorem wt_L27 : wt_LAY[27]? = some (10, 0, [29, 30, 31, 32, 33, 34, 0, 0]) := by decide +kernel
theorem wt_L28 : wt_LAY[28]? = some (0, 540, []) := by decide +kernel
theorem wt_L29 : wt_LAY[29]? = some (0, 60, []) := by decide +kernel
theorem wt_L30 : wt_LAY[30]? = some (0, 60, []) := by decide +kernel
theorem wt_L31 : wt_LAY[31]? = some (0, 60, []) := by decide +kernel
theorem wt_L32 : wt_LAY[32]? = some (0, 20, []) := by decide +kernel
theorem wt_L33 : wt_LAY[33]? = some (0, 20, []) := by decide +kernel
theorem wt_L34 : wt_LAY[34]? = some (9, 0, [36, 37, 38, 39, 0]) := by decide +kernel
theorem wt_L35 : wt_LAY[35]? = some (0, 96, []) := by decide +kernel
theorem wt_L36 : wt_LAY[36]? = some (0, 8, []) := by decide +kernel
theorem wt_L37 : wt_LAY[37]? = some (0, 208, []) := by decide +kernel
theorem wt_L38 : wt_LAY[38]? = some (0, 26, []) := by decide +kernel
theorem wt_L39 : wt_LAY[39]? = some (6, 0, [41, 42, 43, 44, 45, 46, 47, 48, 0, 0]) := by decide +kernel
theorem wt_L40 : wt_LAY[40]? = some (0, 312, []) := by decide +kernel
theorem wt_L41 : wt_LAY[41]? = some (0, 312, []) := by decide +kernel
theorem wt_L42 : wt_LAY[42]? = some (0, 312, []) := by decide +kernel
theorem wt_L43 : wt_LAY[43]? = some (0, 4, []) := by decide +kernel
theorem wt_L44 : wt_LAY[44]? = some (0, 10, []) := by decide +kernel
theorem wt_L45 : wt_LAY[45]? = some (0, 10, []) := by decide +kernel
theorem wt_L46 : wt_LAY[46]? = some (0, 10, []) := by decide +kernel
theorem wt_L47 : wt_LAY[47]? = some (0, 10, []) := by decide +kernel
theorem wt_L48 : wt_LAY[48]? = some (2, 3, [49, 9]) := by decide +kernel
theorem wt_L49 : wt_LAY[49]? = some (6, 0, [51, 52, 53, 54, 55, 56, 57, 58, 0, 0]) := by decide +kernel
theorem wt_L50 : wt_LAY[50]? = some (0, 312, []) := by decide +kernel
theorem wt_L51 : wt_LAY[51]? = some (0, 312, []) := by decide +kernel
theorem wt_L52 : wt_LAY[52]? = some (0, 312, []) := by decide +kernel
theorem wt_L53 : wt_LAY[53]? = some (0, 4, []) := by decide +kernel
theorem wt_L54 : wt_LAY[54]? = some (0, 10, []) := by decide +kernel
theorem wt_L55 : wt_LAY[55]? = some (0, 10, []) := by decide +kernel
theorem wt_L56 : wt_LAY[56]? = some (0, 10, []) := by decide +kernel
theorem wt_L57 : wt_LAY[57]? = some (0, 10, []) := by decide +kernel
theorem wt_L58 : wt_LAY[58]? = some (6, 0, [60, 61, 62, 63, 64, 65, 66, 67, 0, 0]) := by decide +kernel
theorem wt_L59 : wt_LAY[59]? = some (0, 312, []) := by decide +kernel
theorem wt_L60 : wt_LAY[60]? = some (0, 312, []) := by decide +kernel
theorem wt_L61 : wt_LAY[61]? = some (0, 312, []) := by decide +kernel
theorem wt_L62 : wt_LAY[62]? = some (0, 4, []) := by decide +kernel
theorem wt_L63 : wt_LAY[63]? = some (0, 10, []) := by decide +kernel
theorem wt_L64 : wt_LAY[64]? = some (0, 10, []) := by decide +kernel
theorem wt_L65 : wt_LAY[65]? = some (0, 10, []) := by decide +kernel
theorem wt_L66 : wt_LAY[66]? = some (0, 10, []) := by decide +kernel
theorem wt_L67 : wt_LAY[67]? = some (6, 0, [69, 70, 71, 72, 73, 74, 75, 76, 0, 0]) := by decide +kernel
theorem wt_L68 : wt_LAY[68]? = some (0, 312, []) := by decide +kernel
theorem wt_L69 : wt_LAY[69]? = some (0, 312, []) := by decide +kernel
theorem wt_L70 : wt_LAY[70]? = some (0, 312, []) := by decide +kernel
theorem wt_L71 : wt_LAY[71]? = some (0, 4, []) := by decide +kernel
theorem wt_L72 : wt_LAY[72]? = some (0, 10, []) := by decide +kernel
theorem wt_L73 : wt_LAY[73]? = some (0, 10, []) := by decide +kernel
theorem wt_L74 : wt_LAY[74]? = some (0, 10, []) := by decide +kernel
theorem wt_L75 : wt_LAY[75]? = some (0, 10, []) := by decide +kernel
theorem wt_L76 : wt_LAY[76]? = some (7, 0, [5, 40]) := by decide +kernel
theorem wt_L77 : wt_LAY[77]? = some (4, 0, [5, 21, 35, 40, 77, 79, 80, 81]) := by decide +kernel
theorem wt_L78 : wt_LAY[78]? = some (0, 26, []) := by decide +kernel
theorem wt_L79 : wt_LAY[79]? = some (0, 26, []) := by decide +kernel
theorem wt_L80 : wt_LAY[80]? = some (0, 9, []) := by decide +kernel
theorem wt_L81 : wt_LAY[81]? = some (5, 0, [5, 21, 35, 40, 77, 83, 84, 85, 86, 0]) := by decide +kernel
theorem wt_L82 : wt_LAY[82]? = some (0, 60, []) := by decide +kernel
theorem wt_L83 : wt_LAY[83]? = some (0, 26, []) := by decide +kernel
theorem wt_L84 : wt_LAY[84]? = some (0, 12, []) := by decide +kernel
theorem wt_L85 : wt_LAY[85]? = some (0, 12, []) := by decide +kernel
theorem wt_L86 : wt_LAY[86]? = some (12, 0, [21, 35, 40, 77, 88, 99, 100, 101, 0, 0, 0]) := by decide +kernel
theorem wt_L87 : wt_LAY[87]? = some (1, 10, [88]) := by decide +kernel
theorem wt_L88 : wt_LAY[88]? = some (0, 312, []) := by decide +kernel
theorem wt_L89 : wt_LAY[89]? = some (0, 312, []) := by decide +kernel
theorem wt_L90 : wt_LAY[90]? = some (0, 312, []) := by decide +kernel
theorem wt_L91 : wt_LAY[91]? = some (0, 312, []) := by decide +kernel
theorem wt_L92 : wt_LAY[92]? = some (0, 312, []) := by decide +kernel
theorem wt_L93 : wt_LAY[93]? = some (0, 312, []) := by decide +kernel
theorem wt_L94 : wt_LAY[94]? = some (0, 312, []) := by decide +kernel
theorem wt_L95 : wt_LAY[95]? = some (0, 312, []) := by decide +kernel
theorem wt_L96 : wt_LAY[96]? = some (0, 312, []) := by decide +kernel
theorem wt_L97 : wt_LAY[97]? = some (0, 312, []) := by decide +kernel
theorem wt_L98 : wt_LAY[98]? = some (0, 312, []) := by decide +kernel
theorem wt_L99 : wt_LAY[99]? = some (0, 10, []) := by decide +kernel
theorem wt_L100 : wt_LAY[100]? = some (0, 26, []) := by decide +kernel
theorem wt_L101 : wt_LAY[101]? = some (11, 0, [5, 35, 40, 77, 103, 104, 105, 106, 107]) := by decide +kernel
theorem wt_L102 : wt_LAY[102]? = some (0, 26, []) := by decide +kernel
theorem wt_L103 : wt_LAY[103]? = some (0, 26, []) := by decide +kernel
theorem wt_L104 : wt_LAY[104]? = some (0, 26, []) := by decide +kernel
theorem wt_L105 : wt_LAY[105]? = some (0, 26, []) := by decide +kernel
theorem wt_L106 : wt_LAY[106]? = some (0, 26, []) := by decide +kernel
theorem wt_L107 : wt_LAY[107]? = some (0, 26, []) := by decide +kernel
theorem wt_L108 : wt_LAY[108]? = some (14, 0, [0, 0, 0, 0, 0, 0, 0, 0, 110, 111, 112, 113, 114, 115, 116, 117, 118, 119, 120, 121, 122, 123, 124, 125, 0, 0, 0, 0, 0, 0, 0, 126, 127, 128, 129, 130, 131, 132, 193, 0, 0, 0, 0, 254, 255, 264, 275, 276, 277, 278, 283, 287, 288, 289, 0, 290, 291, 292, 305, 318, 0, 319, 320, 321]) := by decide +kernel
theorem wt_L109 : wt_LAY[109]? = some (0, 500, []) := by decide +kernel
theorem wt_L110 : wt_LAY[110]? = some (0, 26, []) := by decide +kernel
theorem wt_L111 : wt_LAY[111]? = some (0, 26, []) := by decide +kernel
theorem wt_L112 : wt_LAY[112]? = some (0, 26, []) := by decide +kernel
theorem wt_L113 : wt_LAY[113]? = some (0, 26, []) := by decide +kernel
theorem wt_L114 : wt_LAY[114]? = some (0, 26, []) := by decide +kernel
theorem wt_L115 : wt_LAY[115]? = some (0, 26, []) := by decide +kernel
theorem wt_L116 : wt_LAY[116]? = some (0, 26, []) := by decide +kernel
theorem wt_L117 : wt_LAY[117]? = some (0, 26, []) := by decide +kernel
theorem wt_L118 : wt_LAY[118]? = some (0, 4, []) := by decide +kernel
theorem wt_L119 : wt_LAY[119]? = some (0, 4, []) := by decide +kernel
theorem wt_L120 : wt_LAY[120]? = some (0, 338, []) := by decide +kernel
theorem wt_L121 : wt_LAY[121]? = some (0, 338, []) := by decide +kernel
theorem wt_L122 : wt_LAY[122]? = some (0, 338, []) := by decide +kernel
theorem wt_L123 : wt_LAY[123]? = some (0, 338, []) := by decide +kernel
theorem wt_L124 : wt_LAY[124]? = some (0, 338, []) := by decide +kernel
theorem wt_L125 : wt_LAY[125]? = some (0, 60, []) := by decide +kernel
theorem wt_L126 : wt_LAY[126]? = some (0, 60, []) := by decide +kernel
theorem wt_L127 : wt_LAY[127]? = some (0, 60, []) := by decide +kernel
theorem wt_L128 : wt_LAY[128]? = some (0, 60, []) := by decide +kernel
theorem wt_L129 : wt_LAY[129]? = some (0, 61, []) := by decide +kernel
theorem wt_L130 : wt_LAY[130]? = some (0, 61, []) := by decide +kernel
theorem wt_L131 : wt_LAY[131]? = some (1, 60, [132]) := by decide +kernel
theorem wt_L132 : wt_LAY[132]? = some (0, 9, []) := by decide +kernel
theorem wt_L133 : wt_LAY[133]? = some (0, 9, []) := by decide +kernel
theorem wt_L134 : wt_LAY[134]? = some (0, 9, []) := by decide +kernel
theorem wt_L135 : wt_LAY[135]? = some (0, 9, []) := by decide +kernel
theorem wt_L136 : wt_LAY[136]? = some (0, 9, []) := by decide +kernel
theorem wt_L137 : wt_LAY[137]? = some (0, 9, []) := by decide +kernel
theorem wt_L138 : wt_LAY[138]? = some (0, 9, []) := by decide +kernel
theorem wt_L139 : wt_LAY[139]? = some (0, 9, []) := by decide +kernel
theorem wt_L140 : wt_LAY[140]? = some (0, 9, []) := by decide +kernel
theorem wt_L141 : wt_LAY[141]? = some (0, 9, []) := by decide +kernel
theorem wt_L142 : wt_LAY[142]? = some (0, 9, []) := by decide +kernel
theorem wt_L143 : wt_LAY[143]? = some (0, 9, []) := by decide +kernel
theorem wt_L144 : wt_LAY[144]? = some (0, 9, []) := by decide +kernel
theorem wt_L145 : wt_LAY[145]? = some (0, 9, []) := by decide +kernel
theorem wt_L146 : wt_LAY[146]? = some (0, 9, []) := by decide +kernel
theorem wt_L147 : wt_LAY[147]? = some (0, 9, []) := by decide +kernel
theorem wt_L148 : wt_LAY[148]? = some (0, 9, []) := by decide +kernel
theorem wt_L149 : wt_LAY[149]? = some (0, 9, []) := by decide +kernel
theorem wt_L150 : wt_LAY[150]? = some (0, 9, []) := by decide +kernel
theorem wt_L151 : wt_LAY[151]? = some (0, 9, []) := by decide +kernel
theorem wt_L152 : wt_LAY[152]? = some (0, 9, []) := by decide +kernel
theorem wt_L153 : wt_LAY[153]? = some (0, 9, []) := by decide +kernel
theorem wt_L154 : wt_LAY[154]? = some (0, 9, []) := by decide +kernel
theorem wt_L155 : wt_LAY[155]? = some (0, 9, []) := by decide +kernel
theorem wt_L156 : wt_LAY[156]? = some (0, 9, []) := by decide +kernel
theorem wt_L157 : wt_LAY[157]? = some (0, 9, []) := by decide +kernel
theorem wt_L158 : wt_LAY[158]? = some (0, 9, []) := by decide +kernel
theorem wt_L159 : wt_LAY[159]? = some (0, 9, []) := by decide +kernel
theorem wt_L160 : wt_LAY[160]? = some (0, 9, []) := by decide +kernel
theorem wt_L161 : wt_LAY[161]? = some (0, 9, []) := by decide +kernel
theorem wt_L162 : wt_LAY[162]? = some (0, 9, []) := by decide +kernel
theorem wt_L163 : wt_LAY[163]? = some (0, 9, []) := by decide +kernel
theorem wt_L164 : wt_LAY[164]? = some (0, 9, []) := by decide +kernel
theorem wt_L165 : wt_LAY[165]? = some (0, 9, []) := by decide +kernel
theorem wt_L166 : wt_LAY[166]? = some (0, 9, []) := by decide +kernel
theorem wt_L167 : wt_LAY[167]? = some (0, 9, []) := by decide +kernel
theorem wt_L168 : wt_LAY[168]? = some (0, 9, []) := by decide +kernel
theorem wt_L169 : wt_LAY[169]? = some (0, 9, []) := by decide +kernel
theorem wt_L170 : wt_LAY[170]? = some (0, 9, []) := by decide +kernel
theorem wt_L171 : wt_LAY[171]? = some (0, 9, []) := by decide +kernel
theorem wt_L172 : wt_LAY[172]? = some (0, 9, []) := by decide +kernel
theorem wt_L173 : wt_LAY[173]? = some (0, 9, []) := by decide +kernel
theorem wt_L174 : wt_LAY[174]? = some (0, 9, []) := by decide +kernel
theorem wt_L175 : wt_LAY[175]? = some (0, 9, []) := by decide +kernel
theorem wt_L176 : wt_LAY[176]? = some (0, 9, []) := by decide +kernel
theorem wt_L177 : wt_LAY[177]? = some (0, 9, []) := by decide +kernel
theorem wt_L178 : wt_LAY[178]? = some (0, 9, []) := by decide +kernel
theorem wt_L179 : wt_LAY[179]? = some (0, 9, []) := by decide +kernel
theorem wt_L180 : wt_LAY[180]? = some (0, 9, []) := by decide +kernel
theorem wt_L181 : wt_LAY[181]? = some (0, 9, []) := by decide +kernel
theorem wt_L182 : wt_LAY[182]? = some (0, 9, []) := by decide +kernel
theorem wt_L183 : wt_LAY[183]? = some (0, 9, []) := by decide +kernel
theorem wt_L184 : wt_LAY[184]? = some (0, 9, []) := by decide +kernel
theorem wt_L185 : wt_LAY[185]? = some (0, 9, []) := by decide +kernel
theorem wt_L186 : wt_LAY[186]? = some (0, 9, []) := by decide +kernel
theorem wt_L187 : wt_LAY[187]? = some (0, 9, []) := by decide +kernel
theorem wt_L188 : wt_LAY[188]? = some (0, 9, []) := by decide +kernel
theorem wt_L189 : wt_LAY[189]? = some (0, 9, []) := by decide +kernel
theorem wt_L190 : wt_LAY[190]? = some (0, 9, []) := by decide +kernel
theorem wt_L191 : wt_LAY[191]? = some (0, 9, []) := by decide +kernel
theorem wt_L192 : wt_LAY[192]? = some (1, 60, [193]) := by decide +kernel
theorem wt_L193 : wt_LAY[193]? = some (0, 9, []) := by decide +kernel
theorem wt_L194 : wt_LAY[194]? = some (0, 9, []) := by decide +kernel
theorem wt_L195 : wt_LAY[195]? = some (0, 9, []) := by decide +kernel
theorem wt_L196 : wt_LAY[196]? = some (0, 9, []) := by decide +kernel
theorem wt_L197 : wt_LAY[197]? = some (0, 9, []) := by decide +kernel
theorem wt_L198 : wt_LAY[198]? = some (0, 9, []) := by decide +kernel
theorem wt_L199 : wt_LAY[199]? = some (0, 9, []) := by decide +kernel
theorem wt_L200 : wt_LAY[200]? = some (0, 9, []) := by decide +kernel
theorem wt_L201 : wt_LAY[201]? = some (0, 9, []) := by decide +kernel
theorem wt_L202 : wt_LAY[202]? = some (0, 9, []) := by decide +kernel
theorem wt_L203 : wt_LAY[203]? = some (0, 9, []) := by decide +kernel
theorem wt_L204 : wt_LAY[204]? = some (0, 9, []) := by decide +kernel
theorem wt_L205 : wt_LAY[205]? = some (0, 9, []) := by decide +kernel
theorem wt_L206 : wt_LAY[206]? = some (0, 9, []) := by decide +kernel
theorem wt_L207 : wt_LAY[207]? = some (0, 9, []) := by decide +kernel
theorem wt_L208 : wt_LAY[208]? = some (0, 9, []) := by decide +kernel
theorem wt_L209 : wt_LAY[209]? = some (0, 9, []) := by decide +kernel
theorem wt_L210 : wt_LAY[210]? = some (0, 9, []) := by decide +kernel
theorem wt_L211 : wt_LAY[211]? = some (0, 9, []) := by decide +kernel
theorem wt_L212 : wt_LAY[212]? = some (0, 9, []) := by decide +kernel
theorem wt_L213 : wt_LAY[213]? = some (0, 9, []) := by decide +kernel
theorem wt_L214 : wt_LAY[214]? = some (0, 9, []) := by decide +kernel
theorem wt_L215 : wt_LAY[215]? = some (0, 9, []) := by decide +kernel
theorem wt_L216 : wt_LAY[216]? = some (0, 9, []) := by decide +kernel
theorem wt_L217 : wt_LAY[217]? = some (0, 9, []) := by decide +kernel
theorem wt_L218 : wt_LAY[218]? = some (0, 9, []) := by decide +kernel
theorem wt_L219 : wt_LAY[219]? = some (0, 9, []) := by decide +kernel
theorem wt_L220 : wt_LAY[220]? = some (0, 9, []) := by decide +kernel
theorem wt_L221 : wt_LAY[221]? = some (0, 9, []) := by decide +kernel
theorem wt_L222 : wt_LAY[222]? = some (0, 9, []) := by decide +kernel
theorem wt_L223 : wt_LAY[223]? = some (0, 9, []) := by decide +kernel
theorem wt_L224 : wt_LAY[224]? = some (0, 9, []) := by decide +kernel
theorem wt_L225 : wt_LAY[225]? = some (0, 9, []) := by decide +kernel
theorem wt_L226 : wt_LAY[226]? = some (0, 9, []) := by decide +kernel
theorem wt_L227 : wt_LAY[227]? = some (0, 9, []) := by decide +kernel
theorem wt_L228 : wt_LAY[228]? = some (0, 9, []) := by decide +kernel
theorem wt_L229 : wt_LAY[229]? = some (0, 9, []) := by decide +kernel
theorem wt_L230 : wt_LAY[230]? = some (0, 9, []) := by decide +kernel
theorem wt_L231 : wt_LAY[231]? = some (0, 9, []) := by decide +kernel
theorem wt_L232 : wt_LAY[232]? = some (0, 9, []) := by decide +kernel
theorem wt_L233 : wt_LAY[233]? = some (0, 9, []) := by decide +kernel
theorem wt_L234 : wt_LAY[234]? = some (0, 9, []) := by decide +kernel
theorem wt_L235 : wt_LAY[235]? = some (0, 9, []) := by decide +kernel
theorem wt_L236 : wt_LAY[236]? = some (0, 9, []) := by decide +kernel
theorem wt_L237 : wt_LAY[237]? = some (0, 9, []) := by decide +kernel
theorem wt_L238 : wt_LAY[238]? = some (0, 9, []) := by decide +kernel
theorem wt_L239 : wt_LAY[239]? = some (0, 9, []) := by decide +kernel
theorem wt_L240 : wt_LAY[240]? = some (0, 9, []) := by decide +kernel
theorem wt_L241 : wt_LAY[241]? = some (0, 9, []) := by decide +kernel
theorem wt_L242 : wt_LAY[242]? = some (0, 9, []) := by decide +kernel
theorem wt_L243 : wt_LAY[243]? = some (0, 9, []) := by decide +kernel
theorem wt_L244 : wt_LAY[244]? = some (0, 9, []) := by decide +kernel
theorem wt_L245 : wt_LAY[245]? = some (0, 9, []) := by decide +kernel
theorem wt_L246 : wt_LAY[246]? = some (0, 9, []) := by decide +kernel
theorem wt_L247 : wt_LAY[247]? = some (0, 9, []) := by decide +kernel
theorem wt_L248 : wt_LAY[248]? = some (0, 9, []) := by decide +kernel
theorem wt_L249 : wt_LAY[249]? = some (0, 9, []) := by decide +kernel
theorem wt_L250 : wt_LAY[250]? = some (0, 9, []) := by decide +kernel
theorem wt_L251 : wt_LAY[251]? = some (0, 9, []) := by decide +kernel
theorem wt_L252 : wt_LAY[252]? = some (0, 9, []) := by decide +kernel
theorem wt_L253 : wt_LAY[253]? = some (0, 8, []) := by decide +kernel
theorem wt_L254 : wt_LAY[254]? = some (1, 8, [255]) := by decide +kernel
theorem wt_L255 : wt_LAY[255]? = some (0, 12, []) := by decide +kernel
theorem wt_L256 : wt_LAY[256]? = some (0, 12, []) := by decide +kernel
theorem wt_L257 : wt_LAY[257]? = some (0, 12, []) := by decide +kernel
theorem wt_L258 : wt_LAY[258]? = some (0, 12, []) := by decide +kernel
theorem wt_L259 : wt_LAY[259]? = some (0, 12, []) := by decide +kernel
theorem wt_L260 : wt_LAY[260]? = some (0, 12, []) := by decide +kernel
theorem wt_L261 : wt_LAY[261]? = some (0, 12, []) := by decide +kernel
theorem wt_L262 : wt_LAY[262]? = some (0, 12, []) := by decide +kernel
theorem wt_L263 : wt_LAY[263]? = some (1, 10, [264]) := by decide +kernel
theorem wt_L264 : wt_LAY[264]? = some (0, 4, []) := by decide +kernel
theorem wt_L265 : wt_LAY[265]? = some (0, 4, []) := by decide +kernel
theorem wt_L266 : wt_LAY[266]? = some (0, 4, []) := by decide +kernel
theorem wt_L267 : wt_LAY[267]? = some (0, 4, []) := by decide +kernel
theorem wt_L268 : wt_LAY[268]? = some (0, 4, []) := by decide +kernel
theorem wt_L269 : wt_LAY[269]? = some (0, 4, []) := by decide +kernel
theorem wt_L270 : wt_LAY[270]? = some (0, 4, []) := by decide +kernel
theorem wt_L271 : wt_LAY[271]? = some (0, 4, []) := by decide +kernel
theorem wt_L272 : wt_LAY[272]? = some (0, 4, []) := by decide +kernel
theorem wt_L273 : wt_LAY[273]? = some (0, 4, []) := by decide +kernel
theorem wt_L274 : wt_LAY[274]? = some (0, 12, []) := by decide +kernel
theorem wt_L275 : wt_LAY[275]? = some (0, 4, []) := by decide +kernel
theorem wt_L276 : wt_LAY[276]? = some (0, 4, []) := by decide +kernel
theorem wt_L277 : wt_LAY[277]? = some (1, 4, [278]) := by decide +kernel
theorem wt_L278 : wt_LAY[278]? = some (0, 108, []) := by decide +kernel
theorem wt_L279 : wt_LAY[279]? = some (0, 108, []) := by decide +kernel
theorem wt_L280 : wt_LAY[280]? = some (0, 108, []) := by decide +kernel
theorem wt_L281 : wt_LAY[281]? = some (0, 108, []) := by decide +kernel
theorem wt_L282 : wt_LAY[282]? = some (1, 3, [283]) := by decide +kernel
theorem wt_L283 : wt_LAY[283]? = some (0, 1158, []) := by decide +kernel
theorem wt_L284 : wt_LAY[284]? = some (0, 1158, []) := by decide +kernel
theorem wt_L285 : wt_LAY[285]? = some (0, 1158, []) := by decide +kernel
theorem wt_L286 : wt_LAY[286]? = some (0, 338, []) := by decide +kernel
theorem wt_L287 : wt_LAY[287]? = some (0, 26, []) := by decide +kernel
theorem wt_L288 : wt_LAY[288]? = some (0, 108, []) := by decide +kernel
theorem wt_L289 : wt_LAY[289]? = some (0, 9, []) := by decide +kernel
theorem wt_L290 : wt_LAY[290]? = some (0, 26, []) := by decide +kernel
theorem wt_L291 : wt_LAY[291]? = some (1, 12, [292]) := by decide +kernel
theorem wt_L292 : wt_LAY[292]? = some (0, 60, []) := by decide +kernel
theorem wt_L293 : wt_LAY[293]? = some (0, 60, []) := by decide +kernel
theorem wt_L294 : wt_LAY[294]? = some (0, 60, []) := by decide +kernel
theorem wt_L295 : wt_LAY[295]? = some (0, 60, []) := by decide +kernel
theorem wt_L296 : wt_LAY[296]? = some (0, 60, []) := by decide +kernel
theorem wt_L297 : wt_LAY[297]? = some (0, 60, []) := by decide +kernel
theorem wt_L298 : wt_LAY[298]? = some (0, 60, []) := by decide +kernel
theorem wt_L299 : wt_LAY[299]? = some (0, 60, []) := by decide +kernel
theorem wt_L300 : wt_LAY[300]? = some (0, 60, []) := by decide +kernel
theorem wt_L301 : wt_LAY[301]? = some (0, 60, []) := by decide +kernel
theorem wt_L302 : wt_LAY[302]? = some (0, 60, []) := by decide +kernel
theorem wt_L303 : wt_LAY[303]? = some (0, 60, []) := by decide +kernel
theorem wt_L304 : wt_LAY[304]? = some (1, 12, [305]) := by decide +kernel
theorem wt_L305 : wt_LAY[305]? = some (0, 60, []) := by decide +kernel
theorem wt_L306 : wt_LAY[306]? = some (0, 60, []) := by decide +kernel
theorem wt_L307 : wt_LAY[307]? = some (0, 60, []) := by decide +kernel
theorem wt_L308 : wt_LAY[308]? = some (0, 60, []) := by decide +kernel
theorem wt_L309 : wt_LAY[309]? = some (0, 60, []) := by decide +kernel
theorem wt_L310 : wt_LAY[310]? = some (0, 60, []) := by decide +kernel
theorem wt_L311 : wt_LAY[311]? = some (0, 60, []) := by decide +kernel
theorem wt_L312 : wt_LAY[312]? = some (0, 60, []) := by decide +kernel
theorem wt_L313 : wt_LAY[313]? = some (0, 60, []) := by decide +kernel
theorem wt_L314 : wt_LAY[314]? = some (0, 60, []) := by decide +kernel
theorem wt_L315 : wt_LAY[315]? = some (0, 60, []) := by decide +kernel
theorem wt_L316 : wt_LAY[316]? = some (0, 60, []) := by decide +kernel
theorem wt_L317 : wt_LAY[317]? = some (0, 12, []) := by decide +kernel
theorem wt_L318 : wt_LAY[318]? = some (0, 12, []) := by decide +kernel
theorem wt_L319 : wt_LAY[319]? = some (0, 12, []) := by decide +kernel
theorem wt_L320 : wt_LAY[320]? = some (0, 10, []) := by decide +kernel
theorem wt_G88 : ∀ j, j < 10 → wt_LAY[88 + j]? = some (0, 312, []) := by decide +kernel
theorem wt_G132 : ∀ j, j < 60 → wt_LAY[132 + j]? = some (0, 9, []) := by decide +kernel
theorem wt_G193 : ∀ j, j < 60 → wt_LAY[193 + j]? = some (0, 9, []) := by decide +kernel
theorem wt_G255 : ∀ j, j < 8 → wt_LAY[255 + j]? = some (0, 12, []) := by decide +kernel
theorem wt_G264 : ∀ j, j < 10 → wt_LAY[264 + j]? = some (0, 4, []) := by decide +kernel
theorem wt_G278 : ∀ j, j < 4 → wt_LAY[278 + j]? = some (0, 108, []) := by decide +kernel
theorem wt_G283 : ∀ j, j < 3 → wt_LAY[283 + j]? = some (0, 1158, []) := by decide +kernel
theorem wt_G292 : ∀ j, j < 12 → wt_LAY[292 + j]? = some (0, 60, []) := by decide +kernel
theorem wt_G305 : ∀ j, j < 12 → wt_LAY[305 + j]? = some (0, 60, []) := by decide +kernel
