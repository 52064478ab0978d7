abbrev eI (z : Int) : Int32 := Int32.ofInt z
abbrev eJ (z : Int) : Int64 := Int64.ofInt z
abbrev e_C : Type := (Nat × List Value) ⊕ (Nat × Nat × (Nat → Value))
abbrev e_W : Type := Nat → Option e_C
/-- the first cell of ours; the classes' numbers and slots; the addresses of the static rows -/
abbrev e_K : Type := Nat × va_G × (Nat → Nat)
def e_fr (K : e_K) : Addr → Prop := fun q => K.1 ≤ q
abbrev e_cl : List vw_C := [(RX0, TX0, 5), (RX1, TX1, 5), (RX2, TX2, 2), (RX3, TX3, 5), (RX4, TX4, 2), (RX5, TX5, 6), (RJ4, TJ4, 4), (RJ0, TJ0, 4)]
def e_isN : Cond → Bool
  | .fieldLinkNest _ _ _ _ _ _ => true
  | .methodLinkNest _ _ _ _ => true
  | .castable _ _ => true
  | .declares _ => true
  | .arrayOver _ => true
  | _ => false
/-- words that follow from the tables at the start: which code a private method of StringBuilder's superclass is -/
def e_XT : List Cond := [.selects RJ4 yJ5_ensureCapacityInternal_d00df yJ5_ensureCapacityInternal_d00df, .selects RJ4 yJ5_newCapacity_0f7a4 yJ5_newCapacity_0f7a4]
def e_TB : List Cond := (lw_tbl ++ e_XT).filter goodWord
def e_NW : List Cond := lw_tbl.filter e_isN
theorem e_tb (i : Nat) {w : Cond} (h : tables_1[i]? = some w) (g : goodWord w = true) : w ∈ e_TB := List.mem_filter.mpr ⟨List.mem_append_left _ (List.mem_append_right _ (List.mem_of_getElem? h)), g⟩
theorem e_tp (i : Nat) {w : Cond} (h : (k2_sels lw_privs)[i]? = some w) (g : goodWord w = true) : w ∈ e_TB := List.mem_filter.mpr ⟨List.mem_append_left _ (List.mem_append_left _ (List.mem_of_getElem? h)), g⟩
theorem e_tx (i : Nat) {w : Cond} (h : e_XT[i]? = some w) (g : goodWord w = true) : w ∈ e_TB := List.mem_filter.mpr ⟨List.mem_append_right _ (List.mem_of_getElem? h), g⟩