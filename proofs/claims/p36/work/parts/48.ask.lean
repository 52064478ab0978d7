/-! the reference: what its public methods stand on -/
def thB (set st : Int) : Nat → Bool
  | 0 => true
  | k + 1 => thB set st k && (!decide (hs set ((k : Int) + 1)) || decide (hs st ((k : Int) + 1)))
theorem thB_mono {set st : Int} {j M : Nat} (h : j ≤ M) (hM : thB set st M = true) : thB set st j = true := by
  induction M with
  | zero => rw [show j = 0 by omega]; rfl
  | succ M ih =>
    by_cases e : j = M + 1
    · rw [e]; exact hM
    · have h2 : (thB set st M && (!decide (hs set ((M : Int) + 1)) || decide (hs st ((M : Int) + 1)))) = true := hM
      exact ih (by omega) (by simp only [Bool.and_eq_true] at h2; exact h2.1)
theorem hiK_congr {P Q : Int → Int} (k : Nat) (h : ∀ j : Int, 0 ≤ j → j < k → P j = Q j) : hiK P k = hiK Q k := by
  induction k with
  | zero => rfl
  | succ k ih =>
    show (if P (k : Int) ≠ 0 then (k : Int) else hiK P k) = (if Q (k : Int) ≠ 0 then (k : Int) else hiK Q k)
    rw [ih (fun j h1 h2 => h j h1 (by omega)), h (k : Int) (by omega) (by omega)]
abbrev agD (wh : Nat) (r : RD) (set : Int) : Prop := hiK (trK wh set r.A (ho wh).toNat).1 7 ≤ r.dg
def foK (dg st : Int) : Nat → Int
  | 0 => 0
  | k + 1 => if hs st ((k : Int) + 1) ∧ bc (foK dg st k) ≤ dg then foK dg st k + 2 ^ k else foK dg st k
theorem foK_rg (dg st : Int) (k : Nat) : 0 ≤ foK dg st k ∧ foK dg st k < 2 ^ k := by
  induction k with
  | zero => unfold foK; decide
  | succ k ih =>
    unfold foK
    have hp : (0 : Int) < 2 ^ k := Int.pow_pos (by omega)
    rw [Int.pow_succ]
    split <;> omega
def foV (wh : Nat) (r : RD) : Int := if r.dg < bc (foK r.dg (st7 r.A) (ho wh).toNat) then foK r.dg (st7 r.A) (ho wh).toNat else 0
theorem foV_rg {wh : Nat} (hwh : wh < 7) (r : RD) : 0 ≤ foV wh r ∧ foV wh r < 128 := by
  have hho := ho_rg wh hwh
  have h1 := foK_rg r.dg (st7 r.A) (ho wh).toNat
  have h2 := pow_le7 (k := (ho wh).toNat) (by omega)
  have h3 : (2 : Int) ^ 7 = 128 := by decide
  unfold foV
  split <;> omega
def suK (wh : Nat) (r : RD) : Nat → Int
  | 0 => 0
  | k + 1 => if hs (st7 r.A) ((k : Int) + 1) ∧ agD wh r (st7 r.A - 2 ^ k) then suK wh r k + 2 ^ k else suK wh r k
theorem suK_rg (wh : Nat) (r : RD) (k : Nat) : 0 ≤ suK wh r k ∧ suK wh r k < 2 ^ k := by
  induction k with
  | zero => unfold suK; decide
  | succ k ih =>
    unfold suK
    have hp : (0 : Int) < 2 ^ k := Int.pow_pos (by omega)
    rw [Int.pow_succ]
    split <;> omega
def wrV (wh : Nat) (r : RD) : Int := if r.dg = -1 then -9 else if agD wh r (st7 r.A) then 0 else if bc (st7 r.A) < r.dg + 3 then -9 else ffd (suK wh r (ho wh).toNat) (ho wh) (ho wh).toNat
def stV (wh : Nat) (r : RD) (k : Int) : Int := if r.hp = 1 ∧ k ≤ r.dg then sl wh (r.E k) else -1
abbrev fiV (wh : Nat) (r : RD) (h : Int) : Prop := r.A h = hv (pr wh) h r.E ((r.dg.toNat + 1 : Nat) : Int) (r.dg.toNat + 1)
def puR (r : RD) (h v : Int) : RD := (r.dg, r.hp, e_fu r.A h v, r.E)
def emR (r : RD) : RD := (-1, 0, fun _ => -1, r.E)
def fdR (R : Nat → RD) : Nat → Int
  | 0 => 0
  | k + 1 => fdR R k + (if (R k).dg = -1 then 0 else 1)
theorem fdR_rg (R : Nat → RD) (k : Nat) : 0 ≤ fdR R k ∧ fdR R k ≤ k := by
  induction k with
  | zero => unfold fdR; decide
  | succ k ih => unfold fdR; split <;> omega
def hoR (wh : Nat) (kn : Int) (R : Nat → RD) (c : Int) : Int := if c = 5 then fdR R 6 else if c = 0 then (wh : Int) else if c = 1 then pr wh else if c = 2 then gr wh else if c = 3 then bs wh else if c = 4 then ho wh else kn
theorem MW.up {w w' : e_W} {y wh i : Nat} {kn t : Int} {R : Nat → RD} {G G2 : Int → Int} {SS PP S2 P2 : Int → Option Nat} {r : RD} (hwh : wh < 7) (hGe : ∀ j : Nat, j < 6 → G (j : Int) = (R j).dg) (hMD : ∀ j : Nat, j < 6 → MD w y wh (SS (j : Int)) (PP (j : Int)) (R j)) (hRV : ∀ j : Nat, j < 6 → RV wh (R j))
    (h0 : w' y = some (MO y t wh kn)) (h1 : w' (y + 1) = some (e_ia 6 G2)) (h2 : w' (y + 2) = some (e_ra 6 S2)) (h3 : w' (y + 3) = some (e_ra 6 P2)) (hk : ∀ q e, y + 3 < q → w q = some e → w' q = some e)
    (g1 : ∀ j : Nat, j < 6 → G2 (j : Int) = if j = i then r.dg else G (j : Int)) (g2 : ∀ j : Nat, j < 6 → j ≠ i → S2 (j : Int) = SS (j : Int)) (g3 : ∀ j : Nat, j < 6 → j ≠ i → P2 (j : Int) = PP (j : Int)) (hd : MD w' y wh (S2 (i : Int)) (P2 (i : Int)) r) (hr : RV wh r) : MW w' y wh kn t (updR R i r) := by
  refine ⟨h0, hwh, ⟨G2, h1, fun j hj => ?_⟩, ⟨S2, P2, h2, h3, fun j hj => ?_⟩, fun j hj => ?_⟩
  · rw [g1 j hj]
    unfold updR
    split
    · rfl
    · exact hGe j hj
  · unfold updR
    by_cases e : j = i
    · rw [if_pos e, e]; exact hd
    · rw [if_neg e, g2 j hj e, g3 j hj e]; exact (hMD j hj).to hk
  · unfold updR
    split
    · exact hr
    · exact hRV j hj
set_option maxHeartbeats 4000000 in
set_option maxRecDepth 100000 in
theorem c_X5_isThere {K : e_K} {l : Launch} {w : e_W} {n : Nat} {y wh : Nat} {t kn : Int} {R : Nat → RD} (hM : MW w y wh kn t R) {i : Nat} (hi : i < 6) {set : Int} (hs0 : 0 ≤ set) (hs1 : set < 128) : e_Met K l yX5_isThere (Cond.code yX5_isThere cX5_isThere 4 (Option.some .boolean) :: e_TB) (3) (0) [.ref y, .int (eI (i : Int)), .int (eI set)] w n (fun r w' n' => r = some (.int (eI (b01 (thB set (st7 (R i).A) (ho wh).toNat = true ∧ (R i).dg ≠ -1)))) ∧ w' = w ∧ n' = n) (e_px0) := by
  refine e_ofV rfl (Nat.le_of_ble_eq_true rfl) ?_
  intro P9 E9 S9 M9 A9 B9 T9 C9 F hnm
  obtain ⟨hY, hwh, ⟨G, hG, hGe⟩, ⟨SS, PP, hS, hP, hMD⟩, hRV⟩ := id hM
  have hp := pr_rg wh hwh
  have hho := ho_rg wh hwh
  have hdg := MD.dg (hMD i hi)
  have hGi := hGe i hi
  have hRi := hRV i hi
  have hst := st7_rg (R i).A
  have lp : ∀ (N : Nat) (k : Nat), (8 - k) < N → ((k : Int) ≤ ho wh ∧ thB set (st7 (R i).A) k = true) → e_V K P9 l E9 (3) (0) S9 M9 A9 B9 T9 C9 4 (fun r w' n' => r = some (.int (eI (b01 (thB set (st7 (R i).A) (ho wh).toNat = true ∧ (R i).dg ≠ -1)))) ∧ w' = w ∧ n' = n) (e_px0) 2 [(0, .ref y), (1, .int (eI (i : Int))), (2, .int (eI set)), (3, .int (eI ((k : Int) + 1)))] [] w n (0) := by
    intro N
    induction N with
    | zero => intro k hN; exact absurd hN (Nat.not_lt_zero _)
    | succ N ih =>
      intro k hN ⟨hk, hb⟩
      refine e_iload_n F dX5_isThere_2 rfl ?_
      refine e_aload_n F dX5_isThere_3 rfl ?_
      refine e_callVV F u_X5_holders (by rfl) (c_X5_holders hY hwh) hY rfl rfl w_ml_RX5_52 dX5_isThere_4 (by rfl) (Nat.le_of_ble_eq_true rfl) (by decide) (by omega) (fun _ _ _ h _ => False.elim h) (fun r_4 w_4 n_4 h_4 hn_4 => ?_)
      obtain ⟨rfl, ew_4, en_4⟩ := h_4
      rw [ew_4, en_4]
      refine e_icmp_gt F 38 dX5_isThere_7 (by decide) (⟨by omega, by omega⟩) (⟨by omega, by omega⟩) (fun c_7 => ?_) (fun c_7 => ?_)
      ·
        obtain rfl : k = (ho wh).toNat := by omega
        refine e_aload_n F dX5_isThere_38 rfl ?_
        refine e_iload_n F dX5_isThere_39 rfl ?_
        refine e_callVV F u_X5_isEmpty (by rfl) (c_X5_isEmpty hM (i := i) hi) hY rfl rfl w_ml_RX5_113 dX5_isThere_40 (by rfl) (Nat.le_of_ble_eq_true rfl) (by decide) (by omega) (fun _ _ _ h _ => False.elim h) (fun r_40 w_40 n_40 h_40 hn_40 => ?_)
        obtain ⟨rfl, ew_40, en_40⟩ := h_40
        rw [ew_40, en_40]
        refine e_if_ne F 50 dX5_isThere_43 (by decide) (b01_r _) (fun c_43 => ?_) (fun c_43 => ?_)
        ·
          rw [ne_eq, b01_0, Classical.not_not] at c_43
          refine e_iconst F dX5_isThere_50 ?_
          refine e_zret F rfl (by omega) (by omega) ?_ dX5_isThere_51
          refine ⟨?_, rfl, rfl⟩
          first | rw [b01_t (And.intro hb c_43)] | rw [b01_f (fun q => q.2 c_43)]
        ·
          rw [b01_0] at c_43
          refine e_iconst F dX5_isThere_46 ?_
          refine e_goto F 51 dX5_isThere_47 (by decide) ?_
          refine e_zret F rfl (by omega) (by omega) ?_ dX5_isThere_51
          refine ⟨?_, rfl, rfl⟩
          first | rw [b01_t (And.intro hb c_43)] | rw [b01_f (fun q => q.2 c_43)]
      · refine e_iload_n F dX5_isThere_10 rfl ?_
        refine e_iload_n F dX5_isThere_11 rfl ?_
        refine e_callSS F u_X5_has (by rfl) (c_X5_has hs0 (by omega) (h := (k : Int) + 1) (by omega) (by omega)) w_ml_RX5_87 dX5_isThere_12 (by rfl) (Nat.le_of_ble_eq_true rfl) (by decide) (by omega) (fun _ _ _ h _ => False.elim h) (fun r_12 w_12 n_12 h_12 hn_12 => ?_)
        obtain ⟨rfl, ew_12, en_12⟩ := h_12
        rw [ew_12, en_12]
        refine e_if_eq F 32 dX5_isThere_15 (by decide) (b01_r _) (fun c_15 => ?_) (fun c_15 => ?_)
        ·
          rw [b01_0] at c_15
          refine e_iinc F dX5_isThere_32 rfl (by decide) ?_
          refine e_goto F 2 dX5_isThere_35 (by decide) ?_
          have e9 : thB set (st7 (R i).A) (k + 1) = true := by
            show (thB set (st7 (R i).A) k && (!decide (hs set ((k : Int) + 1)) || decide (hs (st7 (R i).A) ((k : Int) + 1)))) = true
            rw [hb]
            first | (rw [decide_eq_false c_15]; rfl) | (rw [decide_eq_true c_27, Bool.or_true]; rfl)
          exact e_go (ih (k + 1) (by omega) ⟨by omega, e9⟩) (And.intro rfl (And.intro rfl (And.intro rfl (And.intro rfl (trivial)))))
        ·
          rw [b01_0, Classical.not_not] at c_15
          refine e_aload_n F dX5_isThere_18 rfl ?_
          refine e_iload_n F dX5_isThere_19 rfl ?_
          refine e_callVV F u_X5_setOf (by rfl) (c_X5_setOf hM (i := i) hi) hY rfl rfl w_ml_RX5_116 dX5_isThere_20 (by rfl) (Nat.le_of_ble_eq_true rfl) (by decide) (by omega) (fun _ _ _ h _ => False.elim h) (fun r_20 w_20 n_20 h_20 hn_20 => ?_)
          obtain ⟨rfl, ew_20, en_20⟩ := h_20
          rw [ew_20, en_20]
          refine e_iload_n F dX5_isThere_23 rfl ?_
          refine e_callSS F u_X5_has (by rfl) (c_X5_has hst.1 (by omega) (h := (k : Int) + 1) (by omega) (by omega)) w_ml_RX5_87 dX5_isThere_24 (by rfl) (Nat.le_of_ble_eq_true rfl) (by decide) (by omega) (fun _ _ _ h _ => False.elim h) (fun r_24 w_24 n_24 h_24 hn_24 => ?_)
          obtain ⟨rfl, ew_24, en_24⟩ := h_24
          rw [ew_24, en_24]
          refine e_if_ne F 32 dX5_isThere_27 (by decide) (b01_r _) (fun c_27 => ?_) (fun c_27 => ?_)
          ·
            rw [ne_eq, b01_0, Classical.not_not] at c_27
            refine e_iinc F dX5_isThere_32 rfl (by decide) ?_
            refine e_goto F 2 dX5_isThere_35 (by decide) ?_
            have e9 : thB set (st7 (R i).A) (k + 1) = true := by
              show (thB set (st7 (R i).A) k && (!decide (hs set ((k : Int) + 1)) || decide (hs (st7 (R i).A) ((k : Int) + 1)))) = true
              rw [hb]
              first | (rw [decide_eq_false c_15]; rfl) | (rw [decide_eq_true c_27, Bool.or_true]; rfl)
            exact e_go (ih (k + 1) (by omega) ⟨by omega, e9⟩) (And.intro rfl (And.intro rfl (And.intro rfl (And.intro rfl (trivial)))))
          ·
            rw [b01_0] at c_27
            refine e_iconst F dX5_isThere_30 ?_
            refine e_zret F rfl (by omega) (Or.inl rfl) ?_ dX5_isThere_31
            refine ⟨?_, rfl, rfl⟩
            rw [b01_f (fun q => ?_)]
            have q2 : (thB set (st7 (R i).A) k && (!decide (hs set ((k : Int) + 1)) || decide (hs (st7 (R i).A) ((k : Int) + 1)))) = true := thB_mono (j := k + 1) (M := (ho wh).toNat) (by omega) q.1
            simp only [Bool.and_eq_true, Bool.or_eq_true, Bool.not_eq_true', decide_eq_true_eq, decide_eq_false_iff_not] at q2
            exact q2.2.elim (fun z => z c_15) (fun z => c_27 z)
  refine e_iconst F dX5_isThere_0 ?_
  refine e_istore_n F dX5_isThere_1 (by decide) ?_
  exact e_go (lp 9 0 (by omega) ⟨by omega, rfl⟩) (And.intro rfl (And.intro rfl (And.intro rfl (And.intro rfl (trivial)))))
set_option maxHeartbeats 4000000 in
set_option maxRecDepth 100000 in
theorem c_X5_isEnough {K : e_K} {l : Launch} {w : e_W} {n : Nat} {y wh : Nat} {t kn : Int} {R : Nat → RD} (hM : MW w y wh kn t R) {i : Nat} (hi : i < 6) {set : Int} (hs0 : 0 ≤ set) (hs1 : set < 128) : e_Met K l yX5_isEnough (Cond.code yX5_isEnough cX5_isEnough 3 (Option.some .boolean) :: e_TB) (4) (0) [.ref y, .int (eI (i : Int)), .int (eI set)] w n (fun r w' n' => r = some (.int (eI (b01 ((thB set (st7 (R i).A) (ho wh).toNat = true ∧ (R i).dg ≠ -1) ∧ (R i).dg < bc set)))) ∧ w' = w ∧ n' = n) (e_px0) := by
  refine e_ofV rfl (Nat.le_of_ble_eq_true rfl) ?_
  intro P9 E9 S9 M9 A9 B9 T9 C9 F hnm
  obtain ⟨hY, hwh, ⟨G, hG, hGe⟩, ⟨SS, PP, hS, hP, hMD⟩, hRV⟩ := id hM
  have hp := pr_rg wh hwh
  have hho := ho_rg wh hwh
  have hdg := MD.dg (hMD i hi)
  have hGi := hGe i hi
  have hRi := hRV i hi
  have hbr : 0 ≤ bc set ∧ bc set ≤ 7 := bc_rg hs0 hs1
  refine e_aload_n F dX5_isEnough_0 rfl ?_
  refine e_iload_n F dX5_isEnough_1 rfl ?_
  refine e_iload_n F dX5_isEnough_2 rfl ?_
  refine e_callVV F u_X5_isThere (by rfl) (c_X5_isThere hM hi hs0 hs1) hY rfl rfl w_ml_RX5_122 dX5_isEnough_3 (by rfl) (Nat.le_of_ble_eq_true rfl) (by decide) (by omega) (fun _ _ _ h _ => False.elim h) (fun r_3 w_3 n_3 h_3 hn_3 => ?_)
  obtain ⟨rfl, ew_3, en_3⟩ := h_3
  rw [ew_3, en_3]
  refine e_if_eq F 26 dX5_isEnough_6 (by decide) (b01_r _) (fun c_6 => ?_) (fun c_6 => ?_)
  ·
    rw [b01_0] at c_6
    refine e_iconst F dX5_isEnough_26 ?_
    refine e_zret F rfl (by omega) (by omega) ?_ dX5_isEnough_27
    refine ⟨?_, rfl, rfl⟩
    first | rw [b01_t (And.intro c_6 (show (R i).dg < bc set by omega))] | rw [b01_f (fun q => c_6 q.1)] | rw [b01_f (fun q => by have := q.2; omega)]
  ·
    rw [b01_0, Classical.not_not] at c_6
    refine e_iload_n F dX5_isEnough_9 rfl ?_
    refine e_callSS F u_X5_many (by rfl) (c_X5_many hs0 hs1) w_ml_RX5_119 dX5_isEnough_10 (by rfl) (Nat.le_of_ble_eq_true rfl) (by decide) (by omega) (fun _ _ _ h _ => False.elim h) (fun r_10 w_10 n_10 h_10 hn_10 => ?_)
    obtain ⟨rfl, ew_10, en_10⟩ := h_10
    rw [ew_10, en_10]
    refine e_aload_n F dX5_isEnough_13 rfl ?_
    refine e_get (ci := 5) (fi := 3) (q := (RX5, TX5, 6)) F hY rfl (by decide) w_fl_RX5_13 (by rfl) dX5_isEnough_14 ?_
    refine e_iload_n F dX5_isEnough_17 rfl ?_
    refine e_iald F hG (by omega) (by omega) (by first | decide | omega) dX5_isEnough_18 ?_
    rw [hGi]
    refine e_icmp_le F 26 dX5_isEnough_19 (by decide) (⟨by omega, by omega⟩) (⟨by omega, by omega⟩) (fun c_19 => ?_) (fun c_19 => ?_)
    · refine e_iconst F dX5_isEnough_26 ?_
      refine e_zret F rfl (by omega) (by omega) ?_ dX5_isEnough_27
      refine ⟨?_, rfl, rfl⟩
      first | rw [b01_t (And.intro c_6 (show (R i).dg < bc set by omega))] | rw [b01_f (fun q => c_6 q.1)] | rw [b01_f (fun q => by have := q.2; omega)]
    · refine e_iconst F dX5_isEnough_22 ?_
      refine e_goto F 27 dX5_isEnough_23 (by decide) ?_
      refine e_zret F rfl (by omega) (by omega) ?_ dX5_isEnough_27
      refine ⟨?_, rfl, rfl⟩
      first | rw [b01_t (And.intro c_6 (show (R i).dg < bc set by omega))] | rw [b01_f (fun q => c_6 q.1)] | rw [b01_f (fun q => by have := q.2; omega)]
set_option maxHeartbeats 4000000 in
set_option maxRecDepth 100000 in
theorem c_X5_isAgreed {K : e_K} {l : Launch} {w : e_W} {n : Nat} {y wh : Nat} {t kn : Int} {R : Nat → RD} (hM : MW w y wh kn t R) {i : Nat} (hi : i < 6) {set : Int} (hs0 : 0 ≤ set) (hs1 : set < 128) (hne : ¬ (R i).dg = -1) : e_Met K l yX5_isAgreed (Cond.code yX5_isAgreed cX5_isAgreed 3 (Option.some .boolean) :: e_TB) (4) (2) [.ref y, .int (eI (i : Int)), .int (eI set)] w n (fun r w' n' => r = some (.int (eI (b01 (agD wh (R i) set)))) ∧ KB w w' n) (e_px0) := by
  refine e_ofV rfl (Nat.le_of_ble_eq_true rfl) ?_
  intro P9 E9 S9 M9 A9 B9 T9 C9 F hnm
  obtain ⟨hY, hwh, ⟨G, hG, hGe⟩, ⟨SS, PP, hS, hP, hMD⟩, hRV⟩ := id hM
  have hp := pr_rg wh hwh
  have hho := ho_rg wh hwh
  have hdg := MD.dg (hMD i hi)
  have hGi := hGe i hi
  have hRi := hRV i hi
  obtain ⟨a, f, hSa, hya, hwa, hfr, hfA⟩ := MD.row (hMD i hi)  hne
  refine e_dom ?_
  intro hdom
  have hyn := hdom _ _ hY
  have hgn := hdom _ _ hG
  refine e_aload_n F dX5_isAgreed_0 rfl ?_
  refine e_aload_n F dX5_isAgreed_1 rfl ?_
  refine e_get (ci := 5) (fi := 4) (q := (RX5, TX5, 6)) F hY rfl (by decide) w_fl_RX5_18 (by rfl) dX5_isAgreed_2 ?_
  refine e_iload_n F dX5_isAgreed_5 rfl ?_
  refine e_aaldr F hS (by omega) (by omega) (by decide) (hSa) dX5_isAgreed_6 ?_
  refine e_iload_n F dX5_isAgreed_7 rfl ?_
  refine e_callVV F u_X5_through (by rfl) (c_X5_through hY hwh hwa (by omega) hfr hs0 hs1) hY rfl rfl w_ml_RX5_95 dX5_isAgreed_8 (by rfl) (Nat.le_of_ble_eq_true rfl) (by decide) (by omega) (fun _ _ _ h _ => False.elim h) (fun r_8 w_8 n_8 h_8 hn_8 => ?_)
  obtain ⟨rfl, ⟨g, hg, he⟩, gK, en_8⟩ := h_8
  rw [en_8]
  have gY : w_8 y = some (MO y t wh kn) := (gK y (by omega)).trans hY
  have gG : w_8 (y + 1) = some (e_ia 6 G) := (gK _ (by omega)).trans hG
  have eT : trK wh set f (ho wh).toNat = trK wh set (R i).A (ho wh).toNat := trK_congr _ (fun j j0 j1 => hfA j j0 (by omega))
  rw [eT] at he
  have hr := fun c => (trK_rg hwh set (R i).A (ho wh).toNat c).1
  refine e_callSS F u_X5_degreeOf (by rfl) (c_X5_degreeOf hg (fun j j0 j1 => by rw [he j j0 j1]; have := hr j; omega)) w_ml_RX5_125 dX5_isAgreed_11 (by rfl) (Nat.le_of_ble_eq_true rfl) (by decide) (by omega) (fun _ _ _ h _ => False.elim h) (fun r_11 w_11 n_11 h_11 hn_11 => ?_)
  obtain ⟨rfl, ew_11, en_11⟩ := h_11
  have e11 : hiK g 7 = hiK (trK wh set (R i).A (ho wh).toNat).1 7 := hiK_congr 7 (fun j j0 j1 => he j j0 (by omega))
  rw [ew_11, en_11, e11]
  have hh9 := hiK_rg (trK wh set (R i).A (ho wh).toNat).1 7
  refine e_aload_n F dX5_isAgreed_14 rfl ?_
  refine e_get (ci := 5) (fi := 3) (q := (RX5, TX5, 6)) F gY rfl (by decide) w_fl_RX5_13 (by rfl) dX5_isAgreed_15 ?_
  refine e_iload_n F dX5_isAgreed_18 rfl ?_
  refine e_iald F gG (by omega) (by omega) (by first | decide | omega) dX5_isAgreed_19 ?_
  rw [hGi]
  refine e_icmp_gt F 27 dX5_isAgreed_20 (by decide) (⟨by omega, by omega⟩) (⟨by omega, by omega⟩) (fun c_20 => ?_) (fun c_20 => ?_)
  · refine e_iconst F dX5_isAgreed_27 ?_
    refine e_zret F rfl (by omega) (by omega) ?_ dX5_isAgreed_28
    refine ⟨?_, gK⟩
    first | rw [b01_t (by unfold agD; omega)] | rw [b01_f (by unfold agD; omega)]
  · refine e_iconst F dX5_isAgreed_23 ?_
    refine e_goto F 28 dX5_isAgreed_24 (by decide) ?_
    refine e_zret F rfl (by omega) (by omega) ?_ dX5_isAgreed_28
    refine ⟨?_, gK⟩
    first | rw [b01_t (by unfold agD; omega)] | rw [b01_f (by unfold agD; omega)]
set_option maxHeartbeats 4000000 in
set_option maxRecDepth 100000 in
theorem c_X5_firstOf {K : e_K} {l : Launch} {w : e_W} {n : Nat} {y wh : Nat} {t kn : Int} {R : Nat → RD} (hM : MW w y wh kn t R) {i : Nat} (hi : i < 6) : e_Met K l yX5_firstOf (Cond.code yX5_firstOf cX5_firstOf 4 (Option.some .int) :: e_TB) (3) (0) [.ref y, .int (eI (i : Int))] w n (fun r w' n' => r = some (.int (eI (foV wh (R i)))) ∧ w' = w ∧ n' = n) (e_px0) := by
  refine e_ofV rfl (Nat.le_of_ble_eq_true rfl) ?_
  intro P9 E9 S9 M9 A9 B9 T9 C9 F hnm
  obtain ⟨hY, hwh, ⟨G, hG, hGe⟩, ⟨SS, PP, hS, hP, hMD⟩, hRV⟩ := id hM
  have hp := pr_rg wh hwh
  have hho := ho_rg wh hwh
  have hdg := MD.dg (hMD i hi)
  have hGi := hGe i hi
  have hRi := hRV i hi
  have hst := st7_rg (R i).A
  have lp : ∀ (N : Nat) (k : Nat), (8 - k) < N → (k : Int) ≤ ho wh → e_V K P9 l E9 (3) (0) S9 M9 A9 B9 T9 C9 4 (fun r w' n' => r = some (.int (eI (foV wh (R i)))) ∧ w' = w ∧ n' = n) (e_px0) 4 [(0, .ref y), (1, .int (eI (i : Int))), (2, .int (eI (foK (R i).dg (st7 (R i).A) k))), (3, .int (eI ((k : Int) + 1)))] [] w n (0) := by
    intro N
    induction N with
    | zero => intro k hN; exact absurd hN (Nat.not_lt_zero _)
    | succ N ih =>
      intro k hN hk
      refine e_iload_n F dX5_firstOf_4 rfl ?_
      refine e_aload_n F dX5_firstOf_5 rfl ?_
      refine e_callVV F u_X5_holders (by rfl) (c_X5_holders hY hwh) hY rfl rfl w_ml_RX5_52 dX5_firstOf_6 (by rfl) (Nat.le_of_ble_eq_true rfl) (by decide) (by omega) (fun _ _ _ h _ => False.elim h) (fun r_6 w_6 n_6 h_6 hn_6 => ?_)
      obtain ⟨rfl, ew_6, en_6⟩ := h_6
      rw [ew_6, en_6]
      refine e_icmp_gt F 51 dX5_firstOf_9 (by decide) (⟨by omega, by omega⟩) (⟨by omega, by omega⟩) (fun c_9 => ?_) (fun c_9 => ?_)
      ·
        obtain rfl : k = (ho wh).toNat := by omega
        refine e_iload_n F dX5_firstOf_51 rfl ?_
        have hfo := foK_rg (R i).dg (st7 (R i).A) (ho wh).toNat
        have hpw := pow_le7 (k := (ho wh).toNat) (by omega)
        have h128 : (2 : Int) ^ 7 = 128 := by decide
        have hbf : 0 ≤ bc (foK (R i).dg (st7 (R i).A) (ho wh).toNat) ∧ bc (foK (R i).dg (st7 (R i).A) (ho wh).toNat) ≤ 7 := bc_rg hfo.1 (by omega)
        refine e_callSS F u_X5_many (by rfl) (c_X5_many hfo.1 (by omega)) w_ml_RX5_119 dX5_firstOf_52 (by rfl) (Nat.le_of_ble_eq_true rfl) (by decide) (by omega) (fun _ _ _ h _ => False.elim h) (fun r_52 w_52 n_52 h_52 hn_52 => ?_)
        obtain ⟨rfl, ew_52, en_52⟩ := h_52
        rw [ew_52, en_52]
        refine e_aload_n F dX5_firstOf_55 rfl ?_
        refine e_get (ci := 5) (fi := 3) (q := (RX5, TX5, 6)) F hY rfl (by decide) w_fl_RX5_13 (by rfl) dX5_firstOf_56 ?_
        refine e_iload_n F dX5_firstOf_59 rfl ?_
        refine e_iald F hG (by omega) (by omega) (by first | decide | omega) dX5_firstOf_60 ?_
        rw [hGi]
        refine e_icmp_le F 68 dX5_firstOf_61 (by decide) (⟨by omega, by omega⟩) (⟨by omega, by omega⟩) (fun c_61 => ?_) (fun c_61 => ?_)
        · refine e_iconst F dX5_firstOf_68 ?_
          refine e_iret F rfl (by omega) ?_ dX5_firstOf_69
          refine ⟨?_, rfl, rfl⟩
          unfold foV
          first | rw [if_pos (by omega)] | rw [if_neg (by omega)]
        · refine e_iload_n F dX5_firstOf_64 rfl ?_
          refine e_goto F 69 dX5_firstOf_65 (by decide) ?_
          refine e_iret F rfl (by omega) ?_ dX5_firstOf_69
          refine ⟨?_, rfl, rfl⟩
          unfold foV
          first | rw [if_pos (by omega)] | rw [if_neg (by omega)]
      ·
        have hfo := foK_rg (R i).dg (st7 (R i).A) k
        have hpw := pow_le7 (k := k) (by omega)
        have h128 : (2 : Int) ^ 7 = 128 := by decide
        have hbf : 0 ≤ bc (foK (R i).dg (st7 (R i).A) k) ∧ bc (foK (R i).dg (st7 (R i).A) k) ≤ 7 := bc_rg hfo.1 (by omega)
        refine e_aload_n F dX5_firstOf_12 rfl ?_
        refine e_iload_n F dX5_firstOf_13 rfl ?_
        refine e_callVV F u_X5_setOf (by rfl) (c_X5_setOf hM (i := i) hi) hY rfl rfl w_ml_RX5_116 dX5_firstOf_14 (by rfl) (Nat.le_of_ble_eq_true rfl) (by decide) (by omega) (fun _ _ _ h _ => False.elim h) (fun r_14 w_14 n_14 h_14 hn_14 => ?_)
        obtain ⟨rfl, ew_14, en_14⟩ := h_14
        rw [ew_14, en_14]
        refine e_iload_n F dX5_firstOf_17 rfl ?_
        refine e_callSS F u_X5_has (by rfl) (c_X5_has hst.1 (by omega) (h := (k : Int) + 1) (by omega) (by omega)) w_ml_RX5_87 dX5_firstOf_18 (by rfl) (Nat.le_of_ble_eq_true rfl) (by decide) (by omega) (fun _ _ _ h _ => False.elim h) (fun r_18 w_18 n_18 h_18 hn_18 => ?_)
        obtain ⟨rfl, ew_18, en_18⟩ := h_18
        rw [ew_18, en_18]
        refine e_if_eq F 45 dX5_firstOf_21 (by decide) (b01_r _) (fun c_21 => ?_) (fun c_21 => ?_)
        ·
          rw [b01_0] at c_21
          refine e_iinc F dX5_firstOf_45 rfl (by decide) ?_
          refine e_goto F 4 dX5_firstOf_48 (by decide) ?_
          first
          | (have e9 : foK (R i).dg (st7 (R i).A) (k + 1) = (foK (R i).dg (st7 (R i).A) k) + 2 ^ k := if_pos ⟨c_21, by omega⟩
             refine e_go (ih (k + 1) (by omega) (by omega)) ?_
             rw [e9]
             exact (And.intro rfl (And.intro rfl (And.intro rfl (And.intro rfl (trivial))))))
          | (have e9 : foK (R i).dg (st7 (R i).A) (k + 1) = (foK (R i).dg (st7 (R i).A) k) := if_neg (fun q => c_21 q.1)
             refine e_go (ih (k + 1) (by omega) (by omega)) ?_
             rw [e9]
             exact (And.intro rfl (And.intro rfl (And.intro rfl (And.intro rfl (trivial))))))
          | (have e9 : foK (R i).dg (st7 (R i).A) (k + 1) = (foK (R i).dg (st7 (R i).A) k) := if_neg (fun q => by have := q.2; omega)
             refine e_go (ih (k + 1) (by omega) (by omega)) ?_
             rw [e9]
             exact (And.intro rfl (And.intro rfl (And.intro rfl (And.intro rfl (trivial))))))
        ·
          rw [b01_0, Classical.not_not] at c_21
          refine e_iload_n F dX5_firstOf_24 rfl ?_
          refine e_callSS F u_X5_many (by rfl) (c_X5_many hfo.1 (by omega)) w_ml_RX5_119 dX5_firstOf_25 (by rfl) (Nat.le_of_ble_eq_true rfl) (by decide) (by omega) (fun _ _ _ h _ => False.elim h) (fun r_25 w_25 n_25 h_25 hn_25 => ?_)
          obtain ⟨rfl, ew_25, en_25⟩ := h_25
          rw [ew_25, en_25]
          refine e_aload_n F dX5_firstOf_28 rfl ?_
          refine e_get (ci := 5) (fi := 3) (q := (RX5, TX5, 6)) F hY rfl (by decide) w_fl_RX5_13 (by rfl) dX5_firstOf_29 ?_
          refine e_iload_n F dX5_firstOf_32 rfl ?_
          refine e_iald F hG (by omega) (by omega) (by first | decide | omega) dX5_firstOf_33 ?_
          rw [hGi]
          refine e_icmp_gt F 45 dX5_firstOf_34 (by decide) (⟨by omega, by omega⟩) (⟨by omega, by omega⟩) (fun c_34 => ?_) (fun c_34 => ?_)
          · refine e_iinc F dX5_firstOf_45 rfl (by decide) ?_
            refine e_goto F 4 dX5_firstOf_48 (by decide) ?_
            first
            | (have e9 : foK (R i).dg (st7 (R i).A) (k + 1) = (foK (R i).dg (st7 (R i).A) k) + 2 ^ k := if_pos ⟨c_21, by omega⟩
               refine e_go (ih (k + 1) (by omega) (by omega)) ?_
               rw [e9]
               exact (And.intro rfl (And.intro rfl (And.intro rfl (And.intro rfl (trivial))))))
            | (have e9 : foK (R i).dg (st7 (R i).A) (k + 1) = (foK (R i).dg (st7 (R i).A) k) := if_neg (fun q => c_21 q.1)
               refine e_go (ih (k + 1) (by omega) (by omega)) ?_
               rw [e9]
               exact (And.intro rfl (And.intro rfl (And.intro rfl (And.intro rfl (trivial))))))
            | (have e9 : foK (R i).dg (st7 (R i).A) (k + 1) = (foK (R i).dg (st7 (R i).A) k) := if_neg (fun q => by have := q.2; omega)
               refine e_go (ih (k + 1) (by omega) (by omega)) ?_
               rw [e9]
               exact (And.intro rfl (And.intro rfl (And.intro rfl (And.intro rfl (trivial))))))
          · refine e_iload_n F dX5_firstOf_37 rfl ?_
            refine e_iconst F dX5_firstOf_38 ?_
            refine e_iload_n F dX5_firstOf_39 rfl ?_
            refine e_iconst F dX5_firstOf_40 ?_
            refine e_isub F dX5_firstOf_41 ?_
            rw [show (k : Int) + 1 - 1 = (k : Int) by omega]
            refine e_ishl F dX5_firstOf_42 (eI_shl1 k (by omega)) ?_
            refine e_iadd F dX5_firstOf_43 ?_
            refine e_istore_n F dX5_firstOf_44 (by decide) ?_
            refine e_iinc F dX5_firstOf_45 rfl (by decide) ?_
            refine e_goto F 4 dX5_firstOf_48 (by decide) ?_
            first
            | (have e9 : foK (R i).dg (st7 (R i).A) (k + 1) = (foK (R i).dg (st7 (R i).A) k) + 2 ^ k := if_pos ⟨c_21, by omega⟩
               refine e_go (ih (k + 1) (by omega) (by omega)) ?_
               rw [e9]
               exact (And.intro rfl (And.intro rfl (And.intro rfl (And.intro rfl (trivial))))))
            | (have e9 : foK (R i).dg (st7 (R i).A) (k + 1) = (foK (R i).dg (st7 (R i).A) k) := if_neg (fun q => c_21 q.1)
               refine e_go (ih (k + 1) (by omega) (by omega)) ?_
               rw [e9]
               exact (And.intro rfl (And.intro rfl (And.intro rfl (And.intro rfl (trivial))))))
            | (have e9 : foK (R i).dg (st7 (R i).A) (k + 1) = (foK (R i).dg (st7 (R i).A) k) := if_neg (fun q => by have := q.2; omega)
               refine e_go (ih (k + 1) (by omega) (by omega)) ?_
               rw [e9]
               exact (And.intro rfl (And.intro rfl (And.intro rfl (And.intro rfl (trivial))))))
  refine e_iconst F dX5_firstOf_0 ?_
  refine e_istore_n F dX5_firstOf_1 (by decide) ?_
  refine e_iconst F dX5_firstOf_2 ?_
  refine e_istore_n F dX5_firstOf_3 (by decide) ?_
  exact e_go (lp 9 0 (by omega) (by omega)) (And.intro rfl (And.intro rfl (And.intro rfl (And.intro rfl (trivial)))))
set_option maxHeartbeats 4000000 in
set_option maxRecDepth 100000 in
theorem c_X5_suspectsOf {K : e_K} {l : Launch} {w : e_W} {n : Nat} {y wh : Nat} {t kn : Int} {R : Nat → RD} (hM : MW w y wh kn t R) {i : Nat} (hi : i < 6) (hne : ¬ (R i).dg = -1) : e_Met K l yX5_suspectsOf (Cond.code yX5_suspectsOf cX5_suspectsOf 5 (Option.some .int) :: e_TB) (5) (14) [.ref y, .int (eI (i : Int))] w n (fun r w' n' => r = some (.int (eI (suK wh (R i) (ho wh).toNat))) ∧ KB w w' n) (e_px0) := by
  refine e_ofV rfl (Nat.le_of_ble_eq_true rfl) ?_
  intro P9 E9 S9 M9 A9 B9 T9 C9 F hnm
  obtain ⟨hY, hwh, ⟨G, hG, hGe⟩, ⟨SS, PP, hS, hP, hMD⟩, hRV⟩ := id hM
  have hp := pr_rg wh hwh
  have hho := ho_rg wh hwh
  have hdg := MD.dg (hMD i hi)
  have hGi := hGe i hi
  have hRi := hRV i hi
  refine e_dom ?_
  intro hdom
  have hyn := hdom _ _ hY
  have hst := st7_rg (R i).A
  have lp : ∀ (N k nl : Nat) (wl : e_W), 8 - k < N → ((k : Int) ≤ ho wh ∧ KB w wl n ∧ n ≤ nl) → e_V K P9 l E9 (5) (14) S9 M9 A9 B9 T9 C9 5 (fun r w' n' => r = some (.int (eI (suK wh (R i) (ho wh).toNat))) ∧ KB w w' n) (e_px0) 11 [(0, .ref y), (1, .int (eI (i : Int))), (2, .int (eI (st7 (R i).A))), (3, .int (eI (suK wh (R i) k))), (4, .int (eI ((k : Int) + 1)))] [] wl nl ((2 * k)) := by
    intro N
    induction N with
    | zero => intro k nl wl hN; exact absurd hN (Nat.not_lt_zero _)
    | succ N ih =>
      intro k nl wl hN ⟨hk, gK, gn⟩
      have gM := hM.kb hdom gK
      have gY := gM.1
      refine e_iload F dX5_suspectsOf_11 rfl ?_
      refine e_aload_n F dX5_suspectsOf_13 rfl ?_
      refine e_callVV F u_X5_holders (by rfl) (c_X5_holders gY hwh) gY rfl rfl w_ml_RX5_52 dX5_suspectsOf_14 (by rfl) (Nat.le_of_ble_eq_true rfl) (by decide) (by omega) (fun _ _ _ h _ => False.elim h) (fun r_14 w_14 n_14 h_14 hn_14 => ?_)
      obtain ⟨rfl, ew_14, en_14⟩ := h_14
      rw [ew_14, en_14]
      refine e_icmp_gt F 60 dX5_suspectsOf_17 (by decide) (⟨by omega, by omega⟩) (⟨by omega, by omega⟩) (fun c_17 => ?_) (fun c_17 => ?_)
      ·
        obtain rfl : k = (ho wh).toNat := by omega
        refine e_iload_n F dX5_suspectsOf_60 rfl ?_
        refine e_iret F rfl (by omega) ?_ dX5_suspectsOf_61
        exact ⟨rfl, gK⟩
      ·
        have hk7 : k < 7 := by omega
        refine e_iload_n F dX5_suspectsOf_20 rfl ?_
        refine e_iload F dX5_suspectsOf_21 rfl ?_
        refine e_callSS F u_X5_has (by rfl) (c_X5_has hst.1 (by omega) (h := (k : Int) + 1) (by omega) (by omega)) w_ml_RX5_87 dX5_suspectsOf_23 (by rfl) (Nat.le_of_ble_eq_true rfl) (by decide) (by omega) (fun _ _ _ h _ => False.elim h) (fun r_23 w_23 n_23 h_23 hn_23 => ?_)
        obtain ⟨rfl, ew_23, en_23⟩ := h_23
        rw [ew_23, en_23]
        refine e_if_eq F 54 dX5_suspectsOf_26 (by decide) (b01_r _) (fun c_26 => ?_) (fun c_26 => ?_)
        ·
          rw [b01_0] at c_26
          refine e_iinc F dX5_suspectsOf_54 rfl (by decide) ?_
          refine e_goto F 11 dX5_suspectsOf_57 (by decide) ?_
          first
          | (have e9 : suK wh (R i) (k + 1) = (suK wh (R i) k) + 2 ^ k := if_pos ⟨c_26, c_42⟩
             refine e_wid (by omega) (e_go (ih (k + 1) n_39 w_39 (by omega) ⟨by omega, fun j hj => (gK2 j (by omega)).trans (gK j hj), by omega⟩) ?_)
             rw [e9]
             exact (And.intro rfl (And.intro rfl (And.intro rfl (And.intro rfl (And.intro rfl (trivial)))))))
          | (have e9 : suK wh (R i) (k + 1) = (suK wh (R i) k) := if_neg (fun q => c_42 q.2)
             refine e_wid (by omega) (e_go (ih (k + 1) n_39 w_39 (by omega) ⟨by omega, fun j hj => (gK2 j (by omega)).trans (gK j hj), by omega⟩) ?_)
             rw [e9]
             exact (And.intro rfl (And.intro rfl (And.intro rfl (And.intro rfl (And.intro rfl (trivial)))))))
          | (have e9 : suK wh (R i) (k + 1) = (suK wh (R i) k) := if_neg (fun q => c_26 q.1)
             refine e_wid (by omega) (e_go (ih (k + 1) nl wl (by omega) ⟨by omega, gK, by omega⟩) ?_)
             rw [e9]
             exact (And.intro rfl (And.intro rfl (And.intro rfl (And.intro rfl (And.intro rfl (trivial)))))))
        ·
          rw [b01_0, Classical.not_not] at c_26
          have hle := hs_le (k := k) hst.1 hst.2 hk7 c_26
          have hp0 : (0 : Int) < 2 ^ k := Int.pow_pos (by omega)
          refine e_aload_n F dX5_suspectsOf_29 rfl ?_
          refine e_iload_n F dX5_suspectsOf_30 rfl ?_
          refine e_iload_n F dX5_suspectsOf_31 rfl ?_
          refine e_iconst F dX5_suspectsOf_32 ?_
          refine e_iload F dX5_suspectsOf_33 rfl ?_
          refine e_iconst F dX5_suspectsOf_35 ?_
          refine e_isub F dX5_suspectsOf_36 ?_
          rw [show (k : Int) + 1 - 1 = (k : Int) by omega]
          refine e_ishl F dX5_suspectsOf_37 (eI_shl1 k (by omega)) ?_
          refine e_isub F dX5_suspectsOf_38 ?_
          refine e_callVV F u_X5_isAgreed (by rfl) (c_X5_isAgreed gM hi (set := st7 (R i).A - 2 ^ k) (by omega) (by omega) hne) gY rfl rfl w_ml_RX5_168 dX5_suspectsOf_39 (by rfl) (Nat.le_of_ble_eq_true rfl) (by decide) (by omega) (fun _ _ _ h _ => False.elim h) (fun r_39 w_39 n_39 h_39 hn_39 => ?_)
          obtain ⟨rfl, gK2⟩ := h_39
          refine e_if_eq F 54 dX5_suspectsOf_42 (by decide) (b01_r _) (fun c_42 => ?_) (fun c_42 => ?_)
          ·
            rw [b01_0] at c_42
            refine e_iinc F dX5_suspectsOf_54 rfl (by decide) ?_
            refine e_goto F 11 dX5_suspectsOf_57 (by decide) ?_
            first
            | (have e9 : suK wh (R i) (k + 1) = (suK wh (R i) k) + 2 ^ k := if_pos ⟨c_26, c_42⟩
               refine e_wid (by omega) (e_go (ih (k + 1) n_39 w_39 (by omega) ⟨by omega, fun j hj => (gK2 j (by omega)).trans (gK j hj), by omega⟩) ?_)
               rw [e9]
               exact (And.intro rfl (And.intro rfl (And.intro rfl (And.intro rfl (And.intro rfl (trivial)))))))
            | (have e9 : suK wh (R i) (k + 1) = (suK wh (R i) k) := if_neg (fun q => c_42 q.2)
               refine e_wid (by omega) (e_go (ih (k + 1) n_39 w_39 (by omega) ⟨by omega, fun j hj => (gK2 j (by omega)).trans (gK j hj), by omega⟩) ?_)
               rw [e9]
               exact (And.intro rfl (And.intro rfl (And.intro rfl (And.intro rfl (And.intro rfl (trivial)))))))
            | (have e9 : suK wh (R i) (k + 1) = (suK wh (R i) k) := if_neg (fun q => c_26 q.1)
               refine e_wid (by omega) (e_go (ih (k + 1) nl wl (by omega) ⟨by omega, gK, by omega⟩) ?_)
               rw [e9]
               exact (And.intro rfl (And.intro rfl (And.intro rfl (And.intro rfl (And.intro rfl (trivial)))))))
          ·
            rw [b01_0, Classical.not_not] at c_42
            refine e_iload_n F dX5_suspectsOf_45 rfl ?_
            refine e_iconst F dX5_suspectsOf_46 ?_
            refine e_iload F dX5_suspectsOf_47 rfl ?_
            refine e_iconst F dX5_suspectsOf_49 ?_
            refine e_isub F dX5_suspectsOf_50 ?_
            rw [show (k : Int) + 1 - 1 = (k : Int) by omega]
            refine e_ishl F dX5_suspectsOf_51 (eI_shl1 k (by omega)) ?_
            refine e_iadd F dX5_suspectsOf_52 ?_
            refine e_istore_n F dX5_suspectsOf_53 (by decide) ?_
            refine e_iinc F dX5_suspectsOf_54 rfl (by decide) ?_
            refine e_goto F 11 dX5_suspectsOf_57 (by decide) ?_
            first
            | (have e9 : suK wh (R i) (k + 1) = (suK wh (R i) k) + 2 ^ k := if_pos ⟨c_26, c_42⟩
               refine e_wid (by omega) (e_go (ih (k + 1) n_39 w_39 (by omega) ⟨by omega, fun j hj => (gK2 j (by omega)).trans (gK j hj), by omega⟩) ?_)
               rw [e9]
               exact (And.intro rfl (And.intro rfl (And.intro rfl (And.intro rfl (And.intro rfl (trivial)))))))
            | (have e9 : suK wh (R i) (k + 1) = (suK wh (R i) k) := if_neg (fun q => c_42 q.2)
               refine e_wid (by omega) (e_go (ih (k + 1) n_39 w_39 (by omega) ⟨by omega, fun j hj => (gK2 j (by omega)).trans (gK j hj), by omega⟩) ?_)
               rw [e9]
               exact (And.intro rfl (And.intro rfl (And.intro rfl (And.intro rfl (And.intro rfl (trivial)))))))
            | (have e9 : suK wh (R i) (k + 1) = (suK wh (R i) k) := if_neg (fun q => c_26 q.1)
               refine e_wid (by omega) (e_go (ih (k + 1) nl wl (by omega) ⟨by omega, gK, by omega⟩) ?_)
               rw [e9]
               exact (And.intro rfl (And.intro rfl (And.intro rfl (And.intro rfl (And.intro rfl (trivial)))))))
  refine e_aload_n F dX5_suspectsOf_0 rfl ?_
  refine e_iload_n F dX5_suspectsOf_1 rfl ?_
  refine e_callVV F u_X5_setOf (by rfl) (c_X5_setOf hM (i := i) hi) hY rfl rfl w_ml_RX5_116 dX5_suspectsOf_2 (by rfl) (Nat.le_of_ble_eq_true rfl) (by decide) (by omega) (fun _ _ _ h _ => False.elim h) (fun r_2 w_2 n_2 h_2 hn_2 => ?_)
  obtain ⟨rfl, ew_2, en_2⟩ := h_2
  rw [ew_2, en_2]
  refine e_istore_n F dX5_suspectsOf_5 (by decide) ?_
  refine e_iconst F dX5_suspectsOf_6 ?_
  refine e_istore_n F dX5_suspectsOf_7 (by decide) ?_
  refine e_iconst F dX5_suspectsOf_8 ?_
  refine e_istore F dX5_suspectsOf_9 (by decide) ?_
  exact e_wid (by omega) (e_go (lp 9 0 n w (by omega) ⟨by omega, fun _ _ => rfl, Nat.le_refl _⟩) (And.intro rfl (And.intro rfl (And.intro rfl (And.intro rfl (And.intro rfl (trivial)))))))
set_option maxHeartbeats 4000000 in
set_option maxRecDepth 100000 in
theorem c_X5_wrongOf {K : e_K} {l : Launch} {w : e_W} {n : Nat} {y wh : Nat} {t kn : Int} {R : Nat → RD} (hM : MW w y wh kn t R) {i : Nat} (hi : i < 6) : e_Met K l yX5_wrongOf (Cond.code yX5_wrongOf cX5_wrongOf 4 (Option.some .int) :: e_TB) (6) (16) [.ref y, .int (eI (i : Int))] w n (fun r w' n' => r = some (.int (eI (wrV wh (R i)))) ∧ KB w w' n) (e_px0) := by
  refine e_ofV rfl (Nat.le_of_ble_eq_true rfl) ?_
  intro P9 E9 S9 M9 A9 B9 T9 C9 F hnm
  obtain ⟨hY, hwh, ⟨G, hG, hGe⟩, ⟨SS, PP, hS, hP, hMD⟩, hRV⟩ := id hM
  have hp := pr_rg wh hwh
  have hho := ho_rg wh hwh
  have hdg := MD.dg (hMD i hi)
  have hGi := hGe i hi
  have hRi := hRV i hi
  refine e_dom ?_
  intro hdom
  have hyn := hdom _ _ hY
  have hst := st7_rg (R i).A
  have hbr : 0 ≤ bc (st7 (R i).A) ∧ bc (st7 (R i).A) ≤ 7 := bc_rg hst.1 hst.2
  have hsu := suK_rg wh (R i) (ho wh).toNat
  have hpw := pow_le7 (k := (ho wh).toNat) (by omega)
  have h128 : (2 : Int) ^ 7 = 128 := by decide
  have lp : ¬ (R i).dg = -1 → ¬ agD wh (R i) (st7 (R i).A) → ¬ bc (st7 (R i).A) < (R i).dg + 3 → ∀ (N k nl : Nat) (wl : e_W), 8 - k < N → ((k : Int) ≤ ho wh ∧ ffd (suK wh (R i) (ho wh).toNat) (ho wh) (ho wh).toNat = ffd (suK wh (R i) (ho wh).toNat) (ho wh) ((ho wh).toNat - k) ∧ KB w wl n) → e_V K P9 l E9 (6) (16) S9 M9 A9 B9 T9 C9 4 (fun r w' n' => r = some (.int (eI (wrV wh (R i)))) ∧ KB w w' n) (e_px0) 56 [(0, .ref y), (2, .int (eI (suK wh (R i) (ho wh).toNat))), (3, .int (eI ((k : Int) + 1)))] [] wl nl (16) := by
    intro hne ha hb N
    induction N with
    | zero => intro k nl wl hN; exact absurd hN (Nat.not_lt_zero _)
    | succ N ih =>
      intro k nl wl hN ⟨hk, he, gK⟩
      have gM := hM.kb hdom gK
      have gY := gM.1
      refine e_iload_n F dX5_wrongOf_56 rfl ?_
      refine e_aload_n F dX5_wrongOf_57 rfl ?_
      refine e_callVV F u_X5_holders (by rfl) (c_X5_holders gY hwh) gY rfl rfl w_ml_RX5_52 dX5_wrongOf_58 (by rfl) (Nat.le_of_ble_eq_true rfl) (by decide) (by omega) (fun _ _ _ h _ => False.elim h) (fun r_58 w_58 n_58 h_58 hn_58 => ?_)
      obtain ⟨rfl, ew_58, en_58⟩ := h_58
      rw [ew_58, en_58]
      refine e_icmp_gt F 80 dX5_wrongOf_61 (by decide) (⟨by omega, by omega⟩) (⟨by omega, by omega⟩) (fun c_61 => ?_) (fun c_61 => ?_)
      ·
        obtain rfl : k = (ho wh).toNat := by omega
        refine e_bipush F dX5_wrongOf_80 (by decide) ?_
        refine e_iret F rfl (by omega) ?_ dX5_wrongOf_82
        refine ⟨?_, gK⟩
        unfold wrV
        rw [if_neg hne, if_neg ha, if_neg hb, he, Nat.sub_self]
        rfl
      · refine e_iload_n F dX5_wrongOf_64 rfl ?_
        refine e_iload_n F dX5_wrongOf_65 rfl ?_
        refine e_callSS F u_X5_has (by rfl) (c_X5_has hsu.1 (by omega) (h := (k : Int) + 1) (by omega) (by omega)) w_ml_RX5_87 dX5_wrongOf_66 (by rfl) (Nat.le_of_ble_eq_true rfl) (by decide) (by omega) (fun _ _ _ h _ => False.elim h) (fun r_66 w_66 n_66 h_66 hn_66 => ?_)
        obtain ⟨rfl, ew_66, en_66⟩ := h_66
        rw [ew_66, en_66]
        refine e_if_eq F 74 dX5_wrongOf_69 (by decide) (b01_r _) (fun c_69 => ?_) (fun c_69 => ?_)
        ·
          rw [b01_0] at c_69
          have e8 : (ho wh).toNat - k = ((ho wh).toNat - (k + 1)) + 1 := by omega
          have e7 : ffd (suK wh (R i) (ho wh).toNat) (ho wh) ((ho wh).toNat - k) = if hs (suK wh (R i) (ho wh).toNat) (ho wh - ((((ho wh).toNat - (k + 1) : Nat)) : Int)) then ho wh - ((((ho wh).toNat - (k + 1) : Nat)) : Int) else ffd (suK wh (R i) (ho wh).toNat) (ho wh) ((ho wh).toNat - (k + 1)) := by rw [e8]; rfl
          rw [show ho wh - ((((ho wh).toNat - (k + 1) : Nat)) : Int) = (k : Int) + 1 by omega] at e7
          refine e_iinc F dX5_wrongOf_74 rfl (by decide) ?_
          refine e_goto F 56 dX5_wrongOf_77 (by decide) ?_
          refine e_go (ih (k + 1) _ _ (by omega) ⟨by omega, by rw [he, e7, if_neg c_69], gK⟩) ?_
          exact (And.intro rfl (And.intro rfl (And.intro rfl (trivial))))
        ·
          rw [b01_0, Classical.not_not] at c_69
          have e8 : (ho wh).toNat - k = ((ho wh).toNat - (k + 1)) + 1 := by omega
          have e7 : ffd (suK wh (R i) (ho wh).toNat) (ho wh) ((ho wh).toNat - k) = if hs (suK wh (R i) (ho wh).toNat) (ho wh - ((((ho wh).toNat - (k + 1) : Nat)) : Int)) then ho wh - ((((ho wh).toNat - (k + 1) : Nat)) : Int) else ffd (suK wh (R i) (ho wh).toNat) (ho wh) ((ho wh).toNat - (k + 1)) := by rw [e8]; rfl
          rw [show ho wh - ((((ho wh).toNat - (k + 1) : Nat)) : Int) = (k : Int) + 1 by omega] at e7
          refine e_iload_n F dX5_wrongOf_72 rfl ?_
          refine e_iret F rfl (by omega) ?_ dX5_wrongOf_73
          refine ⟨?_, gK⟩
          unfold wrV
          rw [if_neg hne, if_neg ha, if_neg hb, he, e7, if_pos c_69]
  refine e_aload_n F dX5_wrongOf_0 rfl ?_
  refine e_iload_n F dX5_wrongOf_1 rfl ?_
  refine e_callVV F u_X5_isEmpty (by rfl) (c_X5_isEmpty hM (i := i) hi) hY rfl rfl w_ml_RX5_113 dX5_wrongOf_2 (by rfl) (Nat.le_of_ble_eq_true rfl) (by decide) (by omega) (fun _ _ _ h _ => False.elim h) (fun r_2 w_2 n_2 h_2 hn_2 => ?_)
  obtain ⟨rfl, ew_2, en_2⟩ := h_2
  rw [ew_2, en_2]
  refine e_if_eq F 11 dX5_wrongOf_5 (by decide) (b01_r _) (fun c_5 => ?_) (fun c_5 => ?_)
  ·
    rw [b01_0] at c_5
    refine e_aload_n F dX5_wrongOf_11 rfl ?_
    refine e_iload_n F dX5_wrongOf_12 rfl ?_
    refine e_aload_n F dX5_wrongOf_13 rfl ?_
    refine e_iload_n F dX5_wrongOf_14 rfl ?_
    refine e_callVV F u_X5_setOf (by rfl) (c_X5_setOf hM (i := i) hi) hY rfl rfl w_ml_RX5_116 dX5_wrongOf_15 (by rfl) (Nat.le_of_ble_eq_true rfl) (by decide) (by omega) (fun _ _ _ h _ => False.elim h) (fun r_15 w_15 n_15 h_15 hn_15 => ?_)
    obtain ⟨rfl, ew_15, en_15⟩ := h_15
    rw [ew_15, en_15]
    refine e_callVV F u_X5_isAgreed (by rfl) (c_X5_isAgreed hM hi (set := st7 (R i).A) hst.1 hst.2 c_5) hY rfl rfl w_ml_RX5_168 dX5_wrongOf_18 (by rfl) (Nat.le_of_ble_eq_true rfl) (by decide) (by omega) (fun _ _ _ h _ => False.elim h) (fun r_18 w_18 n_18 h_18 hn_18 => ?_)
    obtain ⟨rfl, gK⟩ := h_18
    have gM := hM.kb hdom gK
    have gY := gM.1
    have gG : w_18 (y + 1) = some (e_ia 6 G) := (gK _ (by have := hdom _ _ hG; omega)).trans hG
    refine e_if_eq F 26 dX5_wrongOf_21 (by decide) (b01_r _) (fun c_21 => ?_) (fun c_21 => ?_)
    ·
      rw [b01_0] at c_21
      refine e_aload_n F dX5_wrongOf_26 rfl ?_
      refine e_iload_n F dX5_wrongOf_27 rfl ?_
      refine e_callVV F u_X5_setOf (by rfl) (c_X5_setOf gM (i := i) hi) gY rfl rfl w_ml_RX5_116 dX5_wrongOf_28 (by rfl) (Nat.le_of_ble_eq_true rfl) (by decide) (by omega) (fun _ _ _ h _ => False.elim h) (fun r_28 w_28 n_28 h_28 hn_28 => ?_)
      obtain ⟨rfl, ew_28, en_28⟩ := h_28
      rw [ew_28, en_28]
      refine e_callSS F u_X5_many (by rfl) (c_X5_many hst.1 hst.2) w_ml_RX5_119 dX5_wrongOf_31 (by rfl) (Nat.le_of_ble_eq_true rfl) (by decide) (by omega) (fun _ _ _ h _ => False.elim h) (fun r_31 w_31 n_31 h_31 hn_31 => ?_)
      obtain ⟨rfl, ew_31, en_31⟩ := h_31
      rw [ew_31, en_31]
      refine e_aload_n F dX5_wrongOf_34 rfl ?_
      refine e_get (ci := 5) (fi := 3) (q := (RX5, TX5, 6)) F gY rfl (by decide) w_fl_RX5_13 (by rfl) dX5_wrongOf_35 ?_
      refine e_iload_n F dX5_wrongOf_38 rfl ?_
      refine e_iald F gG (by omega) (by omega) (by first | decide | omega) dX5_wrongOf_39 ?_
      rw [hGi]
      refine e_iconst F dX5_wrongOf_40 ?_
      refine e_iadd F dX5_wrongOf_41 ?_
      refine e_icmp_ge F 48 dX5_wrongOf_42 (by decide) (⟨by omega, by omega⟩) (⟨by omega, by omega⟩) (fun c_42 => ?_) (fun c_42 => ?_)
      · refine e_aload_n F dX5_wrongOf_48 rfl ?_
        refine e_iload_n F dX5_wrongOf_49 rfl ?_
        refine e_callVV F u_X5_suspectsOf (by rfl) (c_X5_suspectsOf gM hi c_5) gY rfl rfl w_ml_RX5_171 dX5_wrongOf_50 (by rfl) (Nat.le_of_ble_eq_true rfl) (by decide) (by omega) (fun _ _ _ h _ => False.elim h) (fun r_50 w_50 n_50 h_50 hn_50 => ?_)
        obtain ⟨rfl, gK2⟩ := h_50
        refine e_istore_n F dX5_wrongOf_53 (by decide) ?_
        refine e_iconst F dX5_wrongOf_54 ?_
        refine e_istore_n F dX5_wrongOf_55 (by decide) ?_
        exact e_wid (by omega) (e_go (lp c_5 c_21 (by omega) 9 0 _ _ (by omega) ⟨by omega, rfl, fun j hj => (gK2 j (by omega)).trans (gK j hj)⟩) (And.intro rfl (And.intro rfl (And.intro rfl (trivial)))))
      · refine e_bipush F dX5_wrongOf_45 (by decide) ?_
        refine e_iret F rfl (by omega) ?_ dX5_wrongOf_47
        refine ⟨?_, gK⟩
        unfold wrV
        rw [if_neg c_5, if_neg c_21, if_pos (by omega)]
    ·
      rw [b01_0, Classical.not_not] at c_21
      refine e_iconst F dX5_wrongOf_24 ?_
      refine e_iret F rfl (by omega) ?_ dX5_wrongOf_25
      refine ⟨?_, gK⟩
      unfold wrV
      rw [if_neg c_5, if_pos c_21]
  ·
    rw [b01_0, Classical.not_not] at c_5
    refine e_bipush F dX5_wrongOf_8 (by decide) ?_
    refine e_iret F rfl (by omega) ?_ dX5_wrongOf_10
    refine ⟨?_, fun _ _ => rfl⟩
    unfold wrV
    rw [if_pos c_5]
set_option maxHeartbeats 4000000 in
set_option maxRecDepth 100000 in
theorem c_X5_shareOf {K : e_K} {l : Launch} {w : e_W} {n : Nat} {y wh : Nat} {t kn : Int} {R : Nat → RD} (hM : MW w y wh kn t R) {i : Nat} (hi : i < 6) {h : Int} (h1 : 1 ≤ h) (h2 : h ≤ ho wh) : e_Met K l yX5_shareOf (Cond.code yX5_shareOf cX5_shareOf 3 (Option.some .int) :: e_TB) (2) (0) [.ref y, .int (eI (i : Int)), .int (eI h)] w n (fun r w' n' => r = some (.int (eI ((R i).A h))) ∧ w' = w ∧ n' = n) (e_px0) := by
  refine e_ofV rfl (Nat.le_of_ble_eq_true rfl) ?_
  intro P9 E9 S9 M9 A9 B9 T9 C9 F hnm
  obtain ⟨hY, hwh, ⟨G, hG, hGe⟩, ⟨SS, PP, hS, hP, hMD⟩, hRV⟩ := id hM
  have hp := pr_rg wh hwh
  have hho := ho_rg wh hwh
  have hdg := MD.dg (hMD i hi)
  have hGi := hGe i hi
  have hRi := hRV i hi
  refine e_aload_n F dX5_shareOf_0 rfl ?_
  refine e_iload_n F dX5_shareOf_1 rfl ?_
  refine e_callVV F u_X5_isEmpty (by rfl) (c_X5_isEmpty hM (i := i) hi) hY rfl rfl w_ml_RX5_113 dX5_shareOf_2 (by rfl) (Nat.le_of_ble_eq_true rfl) (by decide) (by omega) (fun _ _ _ h _ => False.elim h) (fun r_2 w_2 n_2 h_2 hn_2 => ?_)
  obtain ⟨rfl, ew_2, en_2⟩ := h_2
  rw [ew_2, en_2]
  refine e_if_eq F 12 dX5_shareOf_5 (by decide) (b01_r _) (fun c_5 => ?_) (fun c_5 => ?_)
  ·
    rw [b01_0] at c_5
    obtain ⟨a, f, hSa, hya, hwa, hfr, hfA⟩ := MD.row (hMD i hi)  c_5
    refine e_aload_n F dX5_shareOf_12 rfl ?_
    refine e_get (ci := 5) (fi := 4) (q := (RX5, TX5, 6)) F hY rfl (by decide) w_fl_RX5_18 (by rfl) dX5_shareOf_13 ?_
    refine e_iload_n F dX5_shareOf_16 rfl ?_
    refine e_aaldr F hS (by omega) (by omega) (by decide) (hSa) dX5_shareOf_17 ?_
    refine e_iload_n F dX5_shareOf_18 rfl ?_
    refine e_iald F hwa (by omega) (by omega) (by first | decide | omega) dX5_shareOf_19 ?_
    try rw [hfA _ (by omega) (by omega)]
    refine e_iret F rfl (by omega) ?_ dX5_shareOf_20
    first | exact ⟨rfl, rfl, rfl⟩ | exact ⟨by rw [hRi.2.2 c_5 h h1 (by omega)], rfl, rfl⟩
  ·
    rw [b01_0, Classical.not_not] at c_5
    refine e_iconst F dX5_shareOf_8 ?_
    refine e_goto F 20 dX5_shareOf_9 (by decide) ?_
    try rw [hfA _ (by omega) (by omega)]
    refine e_iret F rfl (by omega) ?_ dX5_shareOf_20
    first | exact ⟨rfl, rfl, rfl⟩ | exact ⟨by rw [hRi.2.2 c_5 h h1 (by omega)], rfl, rfl⟩
set_option maxHeartbeats 4000000 in
set_option maxRecDepth 100000 in
theorem c_X5_sealTold {K : e_K} {l : Launch} {w : e_W} {n : Nat} {y wh : Nat} {t kn : Int} {R : Nat → RD} (hM : MW w y wh kn t R) {i : Nat} (hi : i < 6) {k9 : Int} (hk0 : 0 ≤ k9) (hk1 : k9 ≤ 6) : e_Met K l yX5_sealTold (Cond.code yX5_sealTold cX5_sealTold 3 (Option.some .int) :: e_TB) (2) (0) [.ref y, .int (eI (i : Int)), .int (eI k9)] w n (fun r w' n' => r = some (.int (eI (stV wh (R i) k9))) ∧ w' = w ∧ n' = n) (e_px0) := by
  refine e_ofV rfl (Nat.le_of_ble_eq_true rfl) ?_
  intro P9 E9 S9 M9 A9 B9 T9 C9 F hnm
  obtain ⟨hY, hwh, ⟨G, hG, hGe⟩, ⟨SS, PP, hS, hP, hMD⟩, hRV⟩ := id hM
  have hp := pr_rg wh hwh
  have hho := ho_rg wh hwh
  have hdg := MD.dg (hMD i hi)
  have hGi := hGe i hi
  have hRi := hRV i hi
  rcases MD.pw (hMD i hi) with ⟨hp0, hPn⟩ | ⟨hp1, ⟨b, g, hPb, hyb, hwb, hgr, hgE⟩, hd0⟩
  ·
    refine e_aload_n F dX5_sealTold_0 rfl ?_
    refine e_get (ci := 5) (fi := 5) (q := (RX5, TX5, 6)) F hY rfl (by decide) w_fl_RX5_22 (by rfl) dX5_sealTold_1 ?_
    refine e_iload_n F dX5_sealTold_4 rfl ?_
    refine e_aaldn F hP (by omega) (by omega) (by decide) (hPn) dX5_sealTold_5 ?_
    refine e_ifnullN F 20 dX5_sealTold_6 (by decide) ?_
    refine e_iconst F dX5_sealTold_20 ?_
    refine e_goto F 36 dX5_sealTold_21 (by decide) ?_
    refine e_iret F rfl (by omega) ?_ dX5_sealTold_36
    exact ⟨by unfold stV; rw [if_neg (fun q => by have := q.1; omega)], rfl, rfl⟩
  ·
    refine e_aload_n F dX5_sealTold_0 rfl ?_
    refine e_get (ci := 5) (fi := 5) (q := (RX5, TX5, 6)) F hY rfl (by decide) w_fl_RX5_22 (by rfl) dX5_sealTold_1 ?_
    refine e_iload_n F dX5_sealTold_4 rfl ?_
    refine e_aaldr F hP (by omega) (by omega) (by decide) (hPb) dX5_sealTold_5 ?_
    refine e_ifnull F dX5_sealTold_6 ?_
    refine e_iload_n F dX5_sealTold_9 rfl ?_
    refine e_aload_n F dX5_sealTold_10 rfl ?_
    refine e_get (ci := 5) (fi := 5) (q := (RX5, TX5, 6)) F hY rfl (by decide) w_fl_RX5_22 (by rfl) dX5_sealTold_11 ?_
    refine e_iload_n F dX5_sealTold_14 rfl ?_
    refine e_aaldr F hP (by omega) (by omega) (by decide) (hPb) dX5_sealTold_15 ?_
    refine e_alenI F hwb dX5_sealTold_16 ?_
    refine e_icmp_lt F 24 dX5_sealTold_17 (by decide) (⟨by omega, by omega⟩) (⟨by omega, by omega⟩) (fun c_17 => ?_) (fun c_17 => ?_)
    · refine e_aload_n F dX5_sealTold_24 rfl ?_
      refine e_aload_n F dX5_sealTold_25 rfl ?_
      refine e_get (ci := 5) (fi := 5) (q := (RX5, TX5, 6)) F hY rfl (by decide) w_fl_RX5_22 (by rfl) dX5_sealTold_26 ?_
      refine e_iload_n F dX5_sealTold_29 rfl ?_
      refine e_aaldr F hP (by omega) (by omega) (by decide) (hPb) dX5_sealTold_30 ?_
      refine e_iload_n F dX5_sealTold_31 rfl ?_
      refine e_iald F hwb (by omega) (by omega) (by first | decide | omega) dX5_sealTold_32 ?_
      rw [hgE _ (by omega) (by omega)]
      have hEr := hRi.2.1 hp1 k9 (by omega) (by omega)
      refine e_callVV F u_X5_sealBy (by rfl) (c_X5_sealBy hY hwh hEr.1 hEr.2) hY rfl rfl w_ml_RX5_84 dX5_sealTold_33 (by rfl) (Nat.le_of_ble_eq_true rfl) (by decide) (by omega) (fun _ _ _ h _ => False.elim h) (fun r_33 w_33 n_33 h_33 hn_33 => ?_)
      obtain ⟨rfl, ew_33, en_33⟩ := h_33
      rw [ew_33, en_33]
      refine e_iret F rfl (by omega) ?_ dX5_sealTold_36
      first
      | exact ⟨by unfold stV; rw [if_pos ⟨hp1, by omega⟩], rfl, rfl⟩
      | exact ⟨by unfold stV; rw [if_neg (fun q => by have := q.2; omega)], rfl, rfl⟩
    · refine e_iconst F dX5_sealTold_20 ?_
      refine e_goto F 36 dX5_sealTold_21 (by decide) ?_
      refine e_iret F rfl (by omega) ?_ dX5_sealTold_36
      first
      | exact ⟨by unfold stV; rw [if_pos ⟨hp1, by omega⟩], rfl, rfl⟩
      | exact ⟨by unfold stV; rw [if_neg (fun q => by have := q.2; omega)], rfl, rfl⟩
set_option maxHeartbeats 4000000 in
set_option maxRecDepth 100000 in
theorem c_X5_isFit {K : e_K} {l : Launch} {w : e_W} {n : Nat} {y wh : Nat} {t kn : Int} {R : Nat → RD} (hM : MW w y wh kn t R) {i : Nat} (hi : i < 6) {h : Int} (h1 : 1 ≤ h) (h2 : h ≤ ho wh) (hp1 : (R i).hp = 1) : e_Met K l yX5_isFit (Cond.code yX5_isFit cX5_isFit 3 (Option.some .boolean) :: e_TB) (2) (0) [.ref y, .int (eI (i : Int)), .int (eI h)] w n (fun r w' n' => r = some (.int (eI (b01 (fiV wh (R i) h)))) ∧ w' = w ∧ n' = n) (e_px0) := by
  refine e_ofV rfl (Nat.le_of_ble_eq_true rfl) ?_
  intro P9 E9 S9 M9 A9 B9 T9 C9 F hnm
  obtain ⟨hY, hwh, ⟨G, hG, hGe⟩, ⟨SS, PP, hS, hP, hMD⟩, hRV⟩ := id hM
  have hp := pr_rg wh hwh
  have hho := ho_rg wh hwh
  have hdg := MD.dg (hMD i hi)
  have hGi := hGe i hi
  have hRi := hRV i hi
  obtain ⟨_, ⟨b, g, hPb, hyb, hwb, hgr, hgE⟩, hd0⟩ := (MD.pw (hMD i hi)).resolve_left (fun q => by have := q.1; omega)
  obtain ⟨a, f, hSa, hya, hwa, hfr, hfA⟩ := MD.row (hMD i hi)  (by omega)
  have hAr := hM.rgA hi (j := h) (by omega) (by omega)
  refine e_aload_n F dX5_isFit_0 rfl ?_
  refine e_get (ci := 5) (fi := 4) (q := (RX5, TX5, 6)) F hY rfl (by decide) w_fl_RX5_18 (by rfl) dX5_isFit_1 ?_
  refine e_iload_n F dX5_isFit_4 rfl ?_
  refine e_aaldr F hS (by omega) (by omega) (by decide) (hSa) dX5_isFit_5 ?_
  refine e_iload_n F dX5_isFit_6 rfl ?_
  refine e_iald F hwa (by omega) (by omega) (by first | decide | omega) dX5_isFit_7 ?_
  rw [hfA _ (by omega) (by omega)]
  refine e_aload_n F dX5_isFit_8 rfl ?_
  refine e_aload_n F dX5_isFit_9 rfl ?_
  refine e_get (ci := 5) (fi := 5) (q := (RX5, TX5, 6)) F hY rfl (by decide) w_fl_RX5_22 (by rfl) dX5_isFit_10 ?_
  refine e_iload_n F dX5_isFit_13 rfl ?_
  refine e_aaldr F hP (by omega) (by omega) (by decide) (hPb) dX5_isFit_14 ?_
  refine e_iload_n F dX5_isFit_15 rfl ?_
  refine e_callVV F u_X5_value (by rfl) (c_X5_value hY hwh (x := h) hwb (by omega) (fun j j0 j1 => by rw [hgE j j0 (by omega)]; exact hRi.2.1 hp1 j j0 (by omega)) (by omega) (by omega)) hY rfl rfl w_ml_RX5_91 dX5_isFit_16 (by rfl) (Nat.le_of_ble_eq_true rfl) (by decide) (by omega) (fun _ _ _ h _ => False.elim h) (fun r_16 w_16 n_16 h_16 hn_16 => ?_)
  obtain ⟨rfl, ew_16, en_16⟩ := h_16
  have e16 : hv (pr wh) h g (((R i).dg.toNat + 1 : Nat) : Int) ((R i).dg.toNat + 1) = hv (pr wh) h (R i).E (((R i).dg.toNat + 1 : Nat) : Int) ((R i).dg.toNat + 1) := hv_congr _ (by omega) (fun j j0 j1 => hgE j j0 j1)
  rw [ew_16, en_16, e16]
  have hv16 := hv_rg (x := h) (P := (R i).E) (N := (((R i).dg.toNat + 1 : Nat) : Int)) (show 0 < pr wh by omega) ((R i).dg.toNat + 1)
  refine e_icmp_ne F 26 dX5_isFit_19 (by decide) (⟨by omega, by omega⟩) (⟨by omega, by omega⟩) (fun c_19 => ?_) (fun c_19 => ?_)
  · refine e_iconst F dX5_isFit_26 ?_
    refine e_zret F rfl (by omega) (by omega) ?_ dX5_isFit_27
    refine ⟨?_, rfl, rfl⟩
    first | rw [b01_t (show fiV wh (R i) h from c_19)] | rw [b01_f (fun q => c_19 q)]
  · refine e_iconst F dX5_isFit_22 ?_
    refine e_goto F 27 dX5_isFit_23 (by decide) ?_
    refine e_zret F rfl (by omega) (by omega) ?_ dX5_isFit_27
    refine ⟨?_, rfl, rfl⟩
    first | rw [b01_t (show fiV wh (R i) h from c_19)] | rw [b01_f (fun q => c_19 q)]
set_option maxHeartbeats 4000000 in
set_option maxRecDepth 100000 in
theorem c_X5_put {K : e_K} {l : Launch} {w : e_W} {n : Nat} {y wh : Nat} {t kn : Int} {R : Nat → RD} (hM : MW w y wh kn t R) {i : Nat} (hi : i < 6) {h : Int} (h1 : 1 ≤ h) (h2 : h ≤ ho wh) {v : Int} (hv : v = -1 ∨ (0 ≤ v ∧ v < pr wh)) (hne : ¬ (R i).dg = -1) : e_Met K l yX5_put (Cond.code yX5_put cX5_put 5 none :: e_TB) (1) (1) [.ref y, .int (eI (i : Int)), .int (eI h), .int (eI v)] w n (fun r w' n' => r = none ∧ MW w' y wh kn t (updR R i (puR (R i) h v)) ∧ FM w w' y n) (e_px0) := by
  refine e_ofV rfl (Nat.le_of_ble_eq_true rfl) ?_
  intro P9 E9 S9 M9 A9 B9 T9 C9 F hnm
  obtain ⟨hY, hwh, ⟨G, hG, hGe⟩, ⟨SS, PP, hS, hP, hMD⟩, hRV⟩ := id hM
  have hp := pr_rg wh hwh
  have hho := ho_rg wh hwh
  have hdg := MD.dg (hMD i hi)
  have hGi := hGe i hi
  have hRi := hRV i hi
  obtain ⟨a, f, hSa, hya, hwa, hfr, hfA⟩ := MD.row (hMD i hi)  hne
  refine e_dom ?_
  intro hdom
  have hyn := hdom _ _ hY
  have hsn := hdom _ _ hS
  have hpn := hdom _ _ hP
  have han := hdom _ _ hwa
  refine e_aload_n F dX5_put_0 rfl ?_
  refine e_get (ci := 5) (fi := 4) (q := (RX5, TX5, 6)) F hY rfl (by decide) w_fl_RX5_18 (by rfl) dX5_put_1 ?_
  refine e_iload_n F dX5_put_4 rfl ?_
  refine e_aaldr F hS (by omega) (by omega) (by decide) (hSa) dX5_put_5 ?_
  refine e_cloneX F (i0 := 0) (ty := .int) (ai := 8) rfl hwa (by omega) (by omega) (e_nmI F) (fun _ _ => rfl) w_ml_RX5_144 w_sa__I_clone w_nat_clone_20 w_im_java_lang_Object_clone___Ljava_lang_Object_ w_sx__I__I_clone___Ljava_lang_Object_ w_ca__I_RJx8e188 dX5_put_6 (Nat.le_of_ble_eq_true rfl) (by decide) ?_
  refine e_castA F (ai := 8) e_up_s (e_nmI F) w_cl_RX5_17 dX5_put_9 ?_
  refine e_astore F dX5_put_12 (by decide) ?_
  refine e_aload F dX5_put_14 rfl ?_
  refine e_iload_n F dX5_put_16 rfl ?_
  refine e_iload_n F dX5_put_17 rfl ?_
  refine e_iast F e_up_s (by omega) (by omega) (by first | decide | omega) dX5_put_18 ?_
  refine e_aload_n F dX5_put_19 rfl ?_
  refine e_get (ci := 5) (fi := 4) (q := (RX5, TX5, 6)) F (show e_up (e_up w n _) n _ y = _ by rw [e_up_n (by omega), e_up_n (by omega)]; exact hY) rfl (by decide) w_fl_RX5_18 (by rfl) dX5_put_20 ?_
  refine e_iload_n F dX5_put_23 rfl ?_
  refine e_aload F dX5_put_24 rfl ?_
  refine e_aastR F (f := SS) (show e_up (e_up w n _) n _ (y + 2) = _ by rw [e_up_n (by omega), e_up_n (by omega)]; exact hS) e_up_s (by omega) (by omega) (by decide) dX5_put_26 ?_
  refine e_vret F rfl (by omega) ?_ dX5_put_27
  have hw9 : ∀ q, q < n → q ≠ y + 2 → e_up (e_up (e_up w n (e_ia ((ho wh).toNat + 1) f)) n (e_ia ((ho wh).toNat + 1) (e_fu f h v))) (y + 2) (e_ra 6 (e_fu SS (i : Int) (some n))) q = w q := fun q q1 q2 => by rw [e_up_n q2, e_up_n (by omega), e_up_n (by omega)]
  refine ⟨rfl, ?_, fun q q1 q2 => hw9 q q1 (by omega)⟩
  refine MW.up (w := w) (G := G) (G2 := G) (SS := SS) (PP := PP) (P2 := PP) (S2 := e_fu SS (i : Int) (some n)) hwh hGe hMD hRV (by rw [hw9 y (by omega) (by omega)]; exact hY) (by rw [hw9 _ (by have := hdom _ _ hG; omega) (by omega)]; exact hG) e_up_s (by rw [hw9 _ (by omega) (by omega)]; exact hP) (fun q e q1 q2 => by rw [hw9 q (hdom _ _ q2) (by omega)]; exact q2) (fun j hj => ?_) (fun j hj q => ?_) (fun _ _ _ => rfl) ?_ ?_
  · by_cases e : j = i
    · rw [if_pos e, e]; exact hGi
    · rw [if_neg e]
  · unfold e_fu
    rw [if_neg (by omega)]
  · have e1 : e_fu SS (i : Int) (some n) (i : Int) = some n := if_pos rfl
    rw [e1]
    have hto : ∀ q e, y + 3 < q → w q = some e → e_up (e_up (e_up w n (e_ia ((ho wh).toNat + 1) f)) n (e_ia ((ho wh).toNat + 1) (e_fu f h v))) (y + 2) (e_ra 6 (e_fu SS (i : Int) (some n))) q = some e := fun q e q1 q2 => by rw [hw9 q (hdom _ _ q2) (by omega)]; exact q2
    rcases (hMD i hi) with q | ⟨q1, q2, q3⟩
    · exact absurd q.1 hne
    · refine Or.inr ⟨q1, ⟨n, e_fu f h v, rfl, by omega, by rw [e_up_n (by omega)]; exact e_up_s, fun j j0 j1 => ?_, fun j j0 j1 => ?_⟩, q3.imp id (fun z => ⟨z.1, z.2.to hto⟩)⟩
      · unfold e_fu
        split
        · rcases hv with z | z <;> omega
        · exact hfr j j0 j1
      · show e_fu f h v j = e_fu (R i).A h v j
        unfold e_fu
        split
        · rfl
        · exact hfA j j0 j1
  · refine ⟨fun j j0 j1 => ?_, hRi.2.1, fun q => absurd q hne⟩
    show e_fu (R i).A h v j = -1 ∨ (0 ≤ e_fu (R i).A h v j ∧ e_fu (R i).A h v j < pr wh ∧ j ≤ ho wh)
    unfold e_fu
    split
    · rcases hv with z | z <;> omega
    · exact hRi.1 j j0 j1
