/-! the reference: laying -/
def W3 (w : e_W) (y : Nat) (G : Int → Int) (SS PP : Int → Option Nat) (i : Nat) (g : Int) (o1 o2 : Option Nat) : e_W := e_up (e_up (e_up w (y + 1) (e_ia 6 (e_fu G (i : Int) g))) (y + 2) (e_ra 6 (e_fu SS (i : Int) o1))) (y + 3) (e_ra 6 (e_fu PP (i : Int) o2))
theorem W3.n {w : e_W} {y : Nat} {G : Int → Int} {SS PP : Int → Option Nat} {i : Nat} {g : Int} {o1 o2 : Option Nat} {q : Nat} (h1 : q ≠ y + 1) (h2 : q ≠ y + 2) (h3 : q ≠ y + 3) : W3 w y G SS PP i g o1 o2 q = w q := by
  unfold W3
  rw [e_up_n h3, e_up_n h2, e_up_n h1]
theorem MW.lay {w : e_W} {y wh i : Nat} {kn t : Int} {R : Nat → RD} {G : Int → Int} {SS PP : Int → Option Nat} {r : RD} {o1 o2 : Option Nat} (hi : i < 6) (hY : w y = some (MO y t wh kn)) (hwh : wh < 7) (hGe : ∀ j : Nat, j < 6 → G (j : Int) = (R j).dg) (hMD : ∀ j : Nat, j < 6 → MD w y wh (SS (j : Int)) (PP (j : Int)) (R j)) (hRV : ∀ j : Nat, j < 6 → RV wh (R j)) (hd : MD w y wh o1 o2 r) (hr : RV wh r) : MW (W3 w y G SS PP i r.dg o1 o2) y wh kn t (updR R i r) := by
  refine MW.up (w := w) (G := G) (SS := SS) (PP := PP) (G2 := e_fu G (i : Int) r.dg) (S2 := e_fu SS (i : Int) o1) (P2 := e_fu PP (i : Int) o2) hwh hGe hMD hRV (by rw [W3.n (by omega) (by omega) (by omega)]; exact hY) (by unfold W3; rw [e_up_n (by omega), e_up_n (by omega)]; exact e_up_s) (by unfold W3; rw [e_up_n (by omega)]; exact e_up_s) (by unfold W3; exact e_up_s) (fun q e q1 q2 => by rw [W3.n (by omega) (by omega) (by omega)]; exact q2) (fun j hj => ?_) (fun j hj q => ?_) (fun j hj q => ?_) ?_ hr
  · unfold e_fu
    by_cases e : j = i
    · rw [if_pos (by omega), if_pos e]
    · rw [if_neg (by omega), if_neg e]
  · unfold e_fu
    rw [if_neg (by omega)]
  · unfold e_fu
    rw [if_neg (by omega)]
  · have e1 : e_fu SS (i : Int) o1 (i : Int) = o1 := if_pos rfl
    have e2 : e_fu PP (i : Int) o2 (i : Int) = o2 := if_pos rfl
    rw [e1, e2]
    exact hd.to (fun q e q1 q2 => by rw [W3.n (by omega) (by omega) (by omega)]; exact q2)
theorem emR_MD {w : e_W} {y wh : Nat} (r : RD) : MD w y wh none none (emR r) := Or.inl ⟨rfl, rfl, rfl, rfl⟩
theorem emR_RV {wh : Nat} (r : RD) : RV wh (emR r) := ⟨fun _ _ _ => Or.inl rfl, fun h => absurd h (show ¬ ((0 : Int) = 1) by decide), fun _ _ _ _ => rfl⟩
theorem updR_s {R : Nat → RD} {i : Nat} {r : RD} : updR R i r i = r := if_pos rfl
def noT (wh : Nat) (i s9 : Int) : Int := if ¬ (0 ≤ i ∧ i < 6) then 1 else if ¬ (1 ≤ s9 ∧ s9 ≤ fl wh) then 2 else 0
def feB (wh : Nat) (r : RD) (set : Int) : Nat → Bool
  | 0 => true
  | k + 1 => feB wh r set k && (!decide (hs set ((k : Int) + 1)) || decide (fiV wh r ((k : Int) + 1)))
theorem feB_mono {wh : Nat} {r : RD} {set : Int} {j M : Nat} (h : j ≤ M) (hM : feB wh r set M = true) : feB wh r set j = true := by
  induction M with
  | zero => rw [show j = 0 by omega]; rfl
  | succ M ih =>
    by_cases e : j = M + 1
    · rw [e]; exact hM
    · have h2 : (feB wh r set M && (!decide (hs set ((M : Int) + 1)) || decide (fiV wh r ((M : Int) + 1)))) = true := hM
      exact ih (by omega) (by simp only [Bool.and_eq_true] at h2; exact h2.1)
abbrev fsV (wh : Nat) (r : RD) : Prop := foV wh r = 0 ∨ ¬ (feB wh r (foV wh r) (ho wh).toNat = true) ∨ sl wh (atV wh (foV wh r) r.A 0) = stV wh r 0
def fwK (wh : Nat) (R : Nat → RD) : Nat → Bool
  | 0 => true
  | k + 1 => if (R (5 - k)).hp = 1 then decide (fsV wh (R (5 - k))) else fwK wh R k
abbrev whV (wh : Nat) (R : Nat → RD) : Prop := atV wh (fl wh) (fun _ => 1) 0 = 1 ∧ fwK wh R 6 = true
def mdV (wh : Nat) (r : RD) (c : Int) : Int := if c = 0 then r.dg else if c = 1 then bc (st7 r.A) else if c = 2 then st7 r.A else if c = 3 then r.hp else if c = 4 then b01 (r.dg ≠ -1 ∧ agD wh r (st7 r.A)) else (if r.dg = -1 ∨ foV wh r = 0 then -1 else atV wh (foV wh r) r.A 0)
theorem atV_rg {wh : Nat} (hwh : wh < 7) (set : Int) (A : Int → Int) (x : Int) : 0 ≤ atV wh set A x ∧ atV wh set A x < pr wh := hv_rg (by have := pr_rg wh hwh; omega) 7
theorem stV_rg {wh : Nat} (hwh : wh < 7) (r : RD) (k : Int) : -1 ≤ stV wh r k ∧ stV wh r k < gr wh ∧ (r.hp = 1 → k ≤ r.dg → 1 ≤ stV wh r k) := by
  have hg := gr_rg wh hwh
  have h1 := sl_rg (v := r.E k) hwh
  have h2 := un_ne hwh (un_sl hwh (r.E k)) h1.1
  unfold stV
  split
  · exact ⟨by omega, by omega, fun _ _ => h2⟩
  · rename_i q
    exact ⟨by omega, by omega, fun a b => absurd ⟨a, b⟩ q⟩
set_option maxHeartbeats 4000000 in
set_option maxRecDepth 100000 in
theorem c_X5_layRR {K : e_K} {l : Launch} {w : e_W} {n : Nat} {y wh : Nat} {t kn : Int} {R : Nat → RD} (hM : MW w y wh kn t R) {i : Nat} (hi : i < 6) {a : Nat} {b : Nat} {r : RD} (hd : MD w y wh (some a) (some b) r) (hr : RV wh r) : e_Met K l yX5_lay (Cond.code yX5_lay cX5_lay 5 (Option.some .int) :: e_TB) (3) (0) [.ref y, .int (eI (i : Int)), .int (eI r.dg), .ref a, .ref b] w n (fun r' w' n' => r' = some (.int (eI (bc (st7 r.A)))) ∧ n' = n ∧ MW w' y wh kn t (updR R i r) ∧ FM w w' y n) (e_px0) := by
  refine e_ofV rfl (Nat.le_of_ble_eq_true rfl) ?_
  intro P9 E9 S9 M9 A9 B9 T9 C9 F hnm
  obtain ⟨hY, hwh, ⟨G, hG, hGe⟩, ⟨SS, PP, hS, hP, hMD⟩, hRV⟩ := id hM
  have hp := pr_rg wh hwh
  have hho := ho_rg wh hwh
  have hst := st7_rg r.A
  obtain ⟨a2, f, ha2, hya, hwa, hfr, hfA⟩ : RW w y (some a) ((ho wh).toNat + 1) (pr wh) 1 r.A := MD.row hd (fun q => by rcases hd with z | z; exact absurd z.2.1 (by simp); omega)
  cases ha2
  obtain ⟨_, ⟨b2, g, hb2, hyb, hwb, hgr, hgE⟩, hd0⟩ := (MD.pw hd).resolve_left (fun q => absurd q.2 (by simp))
  cases hb2
  refine e_aload_n F dX5_lay_0 rfl ?_
  refine e_get (ci := 5) (fi := 3) (q := (RX5, TX5, 6)) F hY rfl (by decide) w_fl_RX5_13 (by rfl) dX5_lay_1 ?_
  refine e_iload_n F dX5_lay_4 rfl ?_
  refine e_iload_n F dX5_lay_5 rfl ?_
  refine e_iast F hG (by omega) (by omega) (by first | decide | omega) dX5_lay_6 ?_
  refine e_aload_n F dX5_lay_7 rfl ?_
  refine e_get (ci := 5) (fi := 4) (q := (RX5, TX5, 6)) F (show e_up w (y + 1) _ y = _ by rw [e_up_n (by omega)]; exact hY) rfl (by decide) w_fl_RX5_18 (by rfl) dX5_lay_8 ?_
  refine e_iload_n F dX5_lay_11 rfl ?_
  refine e_aload_n F dX5_lay_12 rfl ?_
  refine e_aastR F (f := SS) (show e_up w (y + 1) _ (y + 2) = _ by rw [e_up_n (by omega)]; exact hS) (show e_up w (y + 1) _ a = _ by rw [e_up_n (by omega)]; exact hwa) (by omega) (by omega) (by decide) dX5_lay_13 ?_
  refine e_aload_n F dX5_lay_14 rfl ?_
  refine e_get (ci := 5) (fi := 5) (q := (RX5, TX5, 6)) F (show e_up (e_up w (y + 1) _) (y + 2) _ y = _ by rw [e_up_n (by omega), e_up_n (by omega)]; exact hY) rfl (by decide) w_fl_RX5_22 (by rfl) dX5_lay_15 ?_
  refine e_iload_n F dX5_lay_18 rfl ?_
  refine e_aload F dX5_lay_19 rfl ?_
  refine e_aastR F (f := PP) (show e_up (e_up w (y + 1) _) (y + 2) _ (y + 3) = _ by rw [e_up_n (by omega), e_up_n (by omega)]; exact hP) (show e_up (e_up w (y + 1) _) (y + 2) _ b = _ by rw [e_up_n (by omega), e_up_n (by omega)]; exact hwb) (by omega) (by omega) (by decide) dX5_lay_21 ?_
  have gM := MW.lay (i := i) hi hY hwh hGe hMD hRV hd hr
  change e_V _ _ _ _ _ _ _ _ _ _ _ _ _ _ _ _ _ _ (W3 w y G SS PP i r.dg (some a) (some b)) _ _
  refine e_aload_n F dX5_lay_22 rfl ?_
  refine e_iload_n F dX5_lay_23 rfl ?_
  refine e_callVV F u_X5_setOf (by rfl) (c_X5_setOf gM hi) gM.1 rfl rfl w_ml_RX5_116 dX5_lay_24 (by rfl) (Nat.le_of_ble_eq_true rfl) (by decide) (by omega) (fun _ _ _ h _ => False.elim h) (fun r_24 w_24 n_24 h_24 hn_24 => ?_)
  obtain ⟨rfl, ew_24, en_24⟩ := h_24
  rw [ew_24, en_24, updR_s]
  refine e_callSS F u_X5_many (by rfl) (c_X5_many hst.1 hst.2) w_ml_RX5_119 dX5_lay_27 (by rfl) (Nat.le_of_ble_eq_true rfl) (by decide) (by omega) (fun _ _ _ h _ => False.elim h) (fun r_27 w_27 n_27 h_27 hn_27 => ?_)
  obtain ⟨rfl, ew_27, en_27⟩ := h_27
  rw [ew_27, en_27]
  refine e_iret F rfl (by omega) ?_ dX5_lay_30
  exact ⟨rfl, rfl, gM, fun q q1 q2 => W3.n (by omega) (by omega) (by omega)⟩
set_option maxHeartbeats 4000000 in
set_option maxRecDepth 100000 in
theorem c_X5_layRN {K : e_K} {l : Launch} {w : e_W} {n : Nat} {y wh : Nat} {t kn : Int} {R : Nat → RD} (hM : MW w y wh kn t R) {i : Nat} (hi : i < 6) {a : Nat} {r : RD} (hd : MD w y wh (some a) (none) r) (hr : RV wh r) : e_Met K l yX5_lay (Cond.code yX5_lay cX5_lay 5 (Option.some .int) :: e_TB) (3) (0) [.ref y, .int (eI (i : Int)), .int (eI r.dg), .ref a, .null] w n (fun r' w' n' => r' = some (.int (eI (bc (st7 r.A)))) ∧ n' = n ∧ MW w' y wh kn t (updR R i r) ∧ FM w w' y n) (e_px0) := by
  refine e_ofV rfl (Nat.le_of_ble_eq_true rfl) ?_
  intro P9 E9 S9 M9 A9 B9 T9 C9 F hnm
  obtain ⟨hY, hwh, ⟨G, hG, hGe⟩, ⟨SS, PP, hS, hP, hMD⟩, hRV⟩ := id hM
  have hp := pr_rg wh hwh
  have hho := ho_rg wh hwh
  have hst := st7_rg r.A
  obtain ⟨a2, f, ha2, hya, hwa, hfr, hfA⟩ : RW w y (some a) ((ho wh).toNat + 1) (pr wh) 1 r.A := MD.row hd (fun q => by rcases hd with z | z; exact absurd z.2.1 (by simp); omega)
  cases ha2
  refine e_aload_n F dX5_lay_0 rfl ?_
  refine e_get (ci := 5) (fi := 3) (q := (RX5, TX5, 6)) F hY rfl (by decide) w_fl_RX5_13 (by rfl) dX5_lay_1 ?_
  refine e_iload_n F dX5_lay_4 rfl ?_
  refine e_iload_n F dX5_lay_5 rfl ?_
  refine e_iast F hG (by omega) (by omega) (by first | decide | omega) dX5_lay_6 ?_
  refine e_aload_n F dX5_lay_7 rfl ?_
  refine e_get (ci := 5) (fi := 4) (q := (RX5, TX5, 6)) F (show e_up w (y + 1) _ y = _ by rw [e_up_n (by omega)]; exact hY) rfl (by decide) w_fl_RX5_18 (by rfl) dX5_lay_8 ?_
  refine e_iload_n F dX5_lay_11 rfl ?_
  refine e_aload_n F dX5_lay_12 rfl ?_
  refine e_aastR F (f := SS) (show e_up w (y + 1) _ (y + 2) = _ by rw [e_up_n (by omega)]; exact hS) (show e_up w (y + 1) _ a = _ by rw [e_up_n (by omega)]; exact hwa) (by omega) (by omega) (by decide) dX5_lay_13 ?_
  refine e_aload_n F dX5_lay_14 rfl ?_
  refine e_get (ci := 5) (fi := 5) (q := (RX5, TX5, 6)) F (show e_up (e_up w (y + 1) _) (y + 2) _ y = _ by rw [e_up_n (by omega), e_up_n (by omega)]; exact hY) rfl (by decide) w_fl_RX5_22 (by rfl) dX5_lay_15 ?_
  refine e_iload_n F dX5_lay_18 rfl ?_
  refine e_aloadN F dX5_lay_19 rfl ?_
  refine e_aastRN F (f := PP) (show e_up (e_up w (y + 1) _) (y + 2) _ (y + 3) = _ by rw [e_up_n (by omega), e_up_n (by omega)]; exact hP) (by omega) (by omega) (by decide) dX5_lay_21 ?_
  have gM := MW.lay (i := i) hi hY hwh hGe hMD hRV hd hr
  change e_V _ _ _ _ _ _ _ _ _ _ _ _ _ _ _ _ _ _ (W3 w y G SS PP i r.dg (some a) (none)) _ _
  refine e_aload_n F dX5_lay_22 rfl ?_
  refine e_iload_n F dX5_lay_23 rfl ?_
  refine e_callVV F u_X5_setOf (by rfl) (c_X5_setOf gM hi) gM.1 rfl rfl w_ml_RX5_116 dX5_lay_24 (by rfl) (Nat.le_of_ble_eq_true rfl) (by decide) (by omega) (fun _ _ _ h _ => False.elim h) (fun r_24 w_24 n_24 h_24 hn_24 => ?_)
  obtain ⟨rfl, ew_24, en_24⟩ := h_24
  rw [ew_24, en_24, updR_s]
  refine e_callSS F u_X5_many (by rfl) (c_X5_many hst.1 hst.2) w_ml_RX5_119 dX5_lay_27 (by rfl) (Nat.le_of_ble_eq_true rfl) (by decide) (by omega) (fun _ _ _ h _ => False.elim h) (fun r_27 w_27 n_27 h_27 hn_27 => ?_)
  obtain ⟨rfl, ew_27, en_27⟩ := h_27
  rw [ew_27, en_27]
  refine e_iret F rfl (by omega) ?_ dX5_lay_30
  exact ⟨rfl, rfl, gM, fun q q1 q2 => W3.n (by omega) (by omega) (by omega)⟩
set_option maxHeartbeats 4000000 in
set_option maxRecDepth 100000 in
theorem c_X5_layNN {K : e_K} {l : Launch} {w : e_W} {n : Nat} {y wh : Nat} {t kn : Int} {R : Nat → RD} (hM : MW w y wh kn t R) {i : Nat} (hi : i < 6) {r : RD} (hd : MD w y wh (none) (none) r) (hr : RV wh r) : e_Met K l yX5_lay (Cond.code yX5_lay cX5_lay 5 (Option.some .int) :: e_TB) (3) (0) [.ref y, .int (eI (i : Int)), .int (eI r.dg), .null, .null] w n (fun r' w' n' => r' = some (.int (eI (bc (st7 r.A)))) ∧ n' = n ∧ MW w' y wh kn t (updR R i r) ∧ FM w w' y n) (e_px0) := by
  refine e_ofV rfl (Nat.le_of_ble_eq_true rfl) ?_
  intro P9 E9 S9 M9 A9 B9 T9 C9 F hnm
  obtain ⟨hY, hwh, ⟨G, hG, hGe⟩, ⟨SS, PP, hS, hP, hMD⟩, hRV⟩ := id hM
  have hp := pr_rg wh hwh
  have hho := ho_rg wh hwh
  have hst := st7_rg r.A
  refine e_aload_n F dX5_lay_0 rfl ?_
  refine e_get (ci := 5) (fi := 3) (q := (RX5, TX5, 6)) F hY rfl (by decide) w_fl_RX5_13 (by rfl) dX5_lay_1 ?_
  refine e_iload_n F dX5_lay_4 rfl ?_
  refine e_iload_n F dX5_lay_5 rfl ?_
  refine e_iast F hG (by omega) (by omega) (by first | decide | omega) dX5_lay_6 ?_
  refine e_aload_n F dX5_lay_7 rfl ?_
  refine e_get (ci := 5) (fi := 4) (q := (RX5, TX5, 6)) F (show e_up w (y + 1) _ y = _ by rw [e_up_n (by omega)]; exact hY) rfl (by decide) w_fl_RX5_18 (by rfl) dX5_lay_8 ?_
  refine e_iload_n F dX5_lay_11 rfl ?_
  refine e_aload_nN F dX5_lay_12 rfl ?_
  refine e_aastRN F (f := SS) (show e_up w (y + 1) _ (y + 2) = _ by rw [e_up_n (by omega)]; exact hS) (by omega) (by omega) (by decide) dX5_lay_13 ?_
  refine e_aload_n F dX5_lay_14 rfl ?_
  refine e_get (ci := 5) (fi := 5) (q := (RX5, TX5, 6)) F (show e_up (e_up w (y + 1) _) (y + 2) _ y = _ by rw [e_up_n (by omega), e_up_n (by omega)]; exact hY) rfl (by decide) w_fl_RX5_22 (by rfl) dX5_lay_15 ?_
  refine e_iload_n F dX5_lay_18 rfl ?_
  refine e_aloadN F dX5_lay_19 rfl ?_
  refine e_aastRN F (f := PP) (show e_up (e_up w (y + 1) _) (y + 2) _ (y + 3) = _ by rw [e_up_n (by omega), e_up_n (by omega)]; exact hP) (by omega) (by omega) (by decide) dX5_lay_21 ?_
  have gM := MW.lay (i := i) hi hY hwh hGe hMD hRV hd hr
  change e_V _ _ _ _ _ _ _ _ _ _ _ _ _ _ _ _ _ _ (W3 w y G SS PP i r.dg (none) (none)) _ _
  refine e_aload_n F dX5_lay_22 rfl ?_
  refine e_iload_n F dX5_lay_23 rfl ?_
  refine e_callVV F u_X5_setOf (by rfl) (c_X5_setOf gM hi) gM.1 rfl rfl w_ml_RX5_116 dX5_lay_24 (by rfl) (Nat.le_of_ble_eq_true rfl) (by decide) (by omega) (fun _ _ _ h _ => False.elim h) (fun r_24 w_24 n_24 h_24 hn_24 => ?_)
  obtain ⟨rfl, ew_24, en_24⟩ := h_24
  rw [ew_24, en_24, updR_s]
  refine e_callSS F u_X5_many (by rfl) (c_X5_many hst.1 hst.2) w_ml_RX5_119 dX5_lay_27 (by rfl) (Nat.le_of_ble_eq_true rfl) (by decide) (by omega) (fun _ _ _ h _ => False.elim h) (fun r_27 w_27 n_27 h_27 hn_27 => ?_)
  obtain ⟨rfl, ew_27, en_27⟩ := h_27
  rw [ew_27, en_27]
  refine e_iret F rfl (by omega) ?_ dX5_lay_30
  exact ⟨rfl, rfl, gM, fun q q1 q2 => W3.n (by omega) (by omega) (by omega)⟩
set_option maxHeartbeats 4000000 in
set_option maxRecDepth 100000 in
theorem c_X5_empty {K : e_K} {l : Launch} {w : e_W} {n : Nat} {y wh : Nat} {t kn : Int} {R : Nat → RD} (hM : MW w y wh kn t R) {i : Nat} (hi : i < 6) : e_Met K l yX5_empty (Cond.code yX5_empty cX5_empty 2 none :: e_TB) (0) (0) [.ref y, .int (eI (i : Int))] w n (fun r w' n' => r = none ∧ n' = n ∧ MW w' y wh kn t (updR R i (emR (R i))) ∧ FM w w' y n) (e_px0) := by
  refine e_ofV rfl (Nat.le_of_ble_eq_true rfl) ?_
  intro P9 E9 S9 M9 A9 B9 T9 C9 F hnm
  obtain ⟨hY, hwh, ⟨G, hG, hGe⟩, ⟨SS, PP, hS, hP, hMD⟩, hRV⟩ := id hM
  have hp := pr_rg wh hwh
  have hho := ho_rg wh hwh
  refine e_aload_n F dX5_empty_0 rfl ?_
  refine e_get (ci := 5) (fi := 3) (q := (RX5, TX5, 6)) F hY rfl (by decide) w_fl_RX5_13 (by rfl) dX5_empty_1 ?_
  refine e_iload_n F dX5_empty_4 rfl ?_
  refine e_iconst F dX5_empty_5 ?_
  refine e_iast F hG (by omega) (by omega) (by first | decide | omega) dX5_empty_6 ?_
  refine e_aload_n F dX5_empty_7 rfl ?_
  refine e_get (ci := 5) (fi := 4) (q := (RX5, TX5, 6)) F (show e_up w (y + 1) _ y = _ by rw [e_up_n (by omega)]; exact hY) rfl (by decide) w_fl_RX5_18 (by rfl) dX5_empty_8 ?_
  refine e_iload_n F dX5_empty_11 rfl ?_
  refine e_null F dX5_empty_12 ?_
  refine e_aastRN F (f := SS) (show e_up w (y + 1) _ (y + 2) = _ by rw [e_up_n (by omega)]; exact hS) (by omega) (by omega) (by decide) dX5_empty_13 ?_
  refine e_aload_n F dX5_empty_14 rfl ?_
  refine e_get (ci := 5) (fi := 5) (q := (RX5, TX5, 6)) F (show e_up (e_up w (y + 1) _) (y + 2) _ y = _ by rw [e_up_n (by omega), e_up_n (by omega)]; exact hY) rfl (by decide) w_fl_RX5_22 (by rfl) dX5_empty_15 ?_
  refine e_iload_n F dX5_empty_18 rfl ?_
  refine e_null F dX5_empty_19 ?_
  refine e_aastRN F (f := PP) (show e_up (e_up w (y + 1) _) (y + 2) _ (y + 3) = _ by rw [e_up_n (by omega), e_up_n (by omega)]; exact hP) (by omega) (by omega) (by decide) dX5_empty_20 ?_
  refine e_vret F rfl (by omega) ?_ dX5_empty_21
  exact ⟨rfl, rfl, MW.lay (i := i) hi hY hwh hGe hMD hRV (emR_MD (R i)) (emR_RV (R i)), fun q q1 q2 => W3.n (by omega) (by omega) (by omega)⟩
set_option maxHeartbeats 4000000 in
set_option maxRecDepth 100000 in
theorem c_X5_areNoDeals {K : e_K} {l : Launch} {w : e_W} {n : Nat} {y : Nat} {i : Int} (hi : e_r i) {j : Int} (hj : e_r j) {k9 : Int} (hk9 : e_r k9) : e_Met K l yX5_areNoDeals (Cond.code yX5_areNoDeals cX5_areNoDeals 4 (Option.some .boolean) :: e_TB) (2) (0) [.ref y, .int (eI i), .int (eI j), .int (eI k9)] w n (fun r w' n' => r = some (.int (eI (b01 (¬ ((0 ≤ i ∧ i < 6) ∧ (0 ≤ j ∧ j < 6) ∧ (0 ≤ k9 ∧ k9 < 6)))))) ∧ w' = w ∧ n' = n) (e_px0) := by
  refine e_ofV rfl (Nat.le_of_ble_eq_true rfl) ?_
  intro P9 E9 S9 M9 A9 B9 T9 C9 F hnm
  refine e_iload_n F dX5_areNoDeals_0 rfl ?_
  refine e_callSS F u_X5_isNoDeal (by rfl) (c_X5_isNoDeal hi) w_ml_RX5_129 dX5_areNoDeals_1 (by rfl) (Nat.le_of_ble_eq_true rfl) (by decide) (by omega) (fun _ _ _ h _ => False.elim h) (fun r_1 w_1 n_1 h_1 hn_1 => ?_)
  obtain ⟨rfl, ew_1, en_1⟩ := h_1
  rw [ew_1, en_1]
  refine e_if_ne F 21 dX5_areNoDeals_4 (by decide) (b01_r _) (fun c_4 => ?_) (fun c_4 => ?_)
  ·
    rw [ne_eq, b01_0, Classical.not_not] at c_4
    refine e_iconst F dX5_areNoDeals_21 ?_
    refine e_goto F 26 dX5_areNoDeals_22 (by decide) ?_
    refine e_zret F rfl (by omega) (by omega) ?_ dX5_areNoDeals_26
    refine ⟨?_, rfl, rfl⟩
    first | rw [b01_t (by omega)] | rw [b01_f (by omega)]
  ·
    rw [b01_0] at c_4
    refine e_iload_n F dX5_areNoDeals_7 rfl ?_
    refine e_callSS F u_X5_isNoDeal (by rfl) (c_X5_isNoDeal hj) w_ml_RX5_129 dX5_areNoDeals_8 (by rfl) (Nat.le_of_ble_eq_true rfl) (by decide) (by omega) (fun _ _ _ h _ => False.elim h) (fun r_8 w_8 n_8 h_8 hn_8 => ?_)
    obtain ⟨rfl, ew_8, en_8⟩ := h_8
    rw [ew_8, en_8]
    refine e_if_ne F 21 dX5_areNoDeals_11 (by decide) (b01_r _) (fun c_11 => ?_) (fun c_11 => ?_)
    ·
      rw [ne_eq, b01_0, Classical.not_not] at c_11
      refine e_iconst F dX5_areNoDeals_21 ?_
      refine e_goto F 26 dX5_areNoDeals_22 (by decide) ?_
      refine e_zret F rfl (by omega) (by omega) ?_ dX5_areNoDeals_26
      refine ⟨?_, rfl, rfl⟩
      first | rw [b01_t (by omega)] | rw [b01_f (by omega)]
    ·
      rw [b01_0] at c_11
      refine e_iload_n F dX5_areNoDeals_14 rfl ?_
      refine e_callSS F u_X5_isNoDeal (by rfl) (c_X5_isNoDeal hk9) w_ml_RX5_129 dX5_areNoDeals_15 (by rfl) (Nat.le_of_ble_eq_true rfl) (by decide) (by omega) (fun _ _ _ h _ => False.elim h) (fun r_15 w_15 n_15 h_15 hn_15 => ?_)
      obtain ⟨rfl, ew_15, en_15⟩ := h_15
      rw [ew_15, en_15]
      refine e_if_eq F 25 dX5_areNoDeals_18 (by decide) (b01_r _) (fun c_18 => ?_) (fun c_18 => ?_)
      ·
        rw [b01_0] at c_18
        refine e_iconst F dX5_areNoDeals_25 ?_
        refine e_zret F rfl (by omega) (by omega) ?_ dX5_areNoDeals_26
        refine ⟨?_, rfl, rfl⟩
        first | rw [b01_t (by omega)] | rw [b01_f (by omega)]
      ·
        rw [b01_0, Classical.not_not] at c_18
        refine e_iconst F dX5_areNoDeals_21 ?_
        refine e_goto F 26 dX5_areNoDeals_22 (by decide) ?_
        refine e_zret F rfl (by omega) (by omega) ?_ dX5_areNoDeals_26
        refine ⟨?_, rfl, rfl⟩
        first | rw [b01_t (by omega)] | rw [b01_f (by omega)]
theorem st1 (c : Prop) [Decidable c] : (if b01 (¬ c) = 1 then (1 : Int) else 0) = if c then 0 else 1 := by
  by_cases h : c
  · rw [b01_f (fun q => q h), if_pos h]; rfl
  · rw [b01_t h, if_neg h]; rfl
theorem rf2 (c : Prop) [Decidable c] : (if b01 (¬ c) = 1 ∧ (0 : Int) = 0 then (2 : Int) else 0) = if c then 0 else 2 := by
  by_cases h : c
  · rw [b01_f (fun q => q h), if_pos h]; rfl
  · rw [b01_t h, if_neg h]; rfl
theorem rf3 (c : Prop) [Decidable c] : b01 (0 < (if c then (0 : Int) else 2)) = b01 (¬ c) := by
  by_cases h : c
  · rw [if_pos h, b01_f (c := ¬ c) (fun q => q h)]; rfl
  · rw [if_neg h, b01_t (c := ¬ c) h]; rfl
set_option maxHeartbeats 4000000 in
set_option maxRecDepth 100000 in
theorem c_X5_isNo {K : e_K} {l : Launch} {w : e_W} {n : Nat} {y wh : Nat} {t kn : Int} (hY : w y = some (MO y t wh kn)) (hwh : wh < 7) {i : Int} (hi : e_r i) {s9 : Int} (hs9 : e_r s9) : e_Met K l yX5_isNo (Cond.code yX5_isNo cX5_isNo 3 (Option.some .boolean) :: e_TB) (3) (0) [.ref y, .int (eI i), .int (eI s9)] w n (fun r w' n' => r = some (.int (eI (b01 (¬ ((0 ≤ i ∧ i < 6) ∧ (1 ≤ s9 ∧ s9 ≤ fl wh)))))) ∧ n' = n ∧ w' = e_up w y (MO y (noT wh i s9) wh kn)) (e_px0) := by
  refine e_ofV rfl (Nat.le_of_ble_eq_true rfl) ?_
  intro P9 E9 S9 M9 A9 B9 T9 C9 F hnm
  refine e_aload_n F dX5_isNo_0 rfl ?_
  refine e_iload_n F dX5_isNo_1 rfl ?_
  refine e_callSS F u_X5_isNoDeal (by rfl) (c_X5_isNoDeal hi) w_ml_RX5_129 dX5_isNo_2 (by rfl) (Nat.le_of_ble_eq_true rfl) (by decide) (by omega) (fun _ _ _ h _ => False.elim h) (fun r_2 w_2 n_2 h_2 hn_2 => ?_)
  obtain ⟨rfl, ew_2, en_2⟩ := h_2
  rw [ew_2, en_2]
  refine e_iconst F dX5_isNo_5 ?_
  refine e_callVV F u_X5_start (by rfl) (c_X5_start hY (b01_or _) (by decide) (by decide)) hY rfl rfl w_ml_RX5_69 dX5_isNo_6 (by rfl) (Nat.le_of_ble_eq_true rfl) (by decide) (by omega) (fun _ _ _ h _ => False.elim h) (fun r_6 w_6 n_6 h_6 hn_6 => ?_)
  obtain ⟨rfl, en_6, ew_6⟩ := h_6
  rw [en_6, ew_6, st1]
  refine e_if_ne F 25 dX5_isNo_9 (by decide) (b01_r _) (fun c_9 => ?_) (fun c_9 => ?_)
  ·
    rw [ne_eq, b01_0, Classical.not_not] at c_9
    rw [if_neg c_9]
    refine e_iconst F dX5_isNo_25 ?_
    refine e_goto F 30 dX5_isNo_26 (by decide) ?_
    refine e_zret F rfl (by omega) (by omega) ?_ dX5_isNo_30
    refine ⟨?_, rfl, ?_⟩
    · first | rw [b01_f (by omega)] | rw [b01_t (by omega)]
    · unfold noT
      first | rw [if_pos c_9] | rw [if_neg (fun q => q c_9), if_pos c_22] | rw [if_neg (fun q => q c_9), if_neg (fun q => q c_22)]
  ·
    rw [b01_0, Classical.not_not] at c_9
    rw [if_pos c_9]
    have gY0 : e_up w y (MO y 0 wh kn) y = some (MO y 0 wh kn) := e_up_s
    refine e_aload_n F dX5_isNo_12 rfl ?_
    refine e_aload_n F dX5_isNo_13 rfl ?_
    refine e_iload_n F dX5_isNo_14 rfl ?_
    refine e_callVV F u_X5_isNoSet (by rfl) (c_X5_isNoSet gY0 hwh hs9) gY0 rfl rfl w_ml_RX5_103 dX5_isNo_15 (by rfl) (Nat.le_of_ble_eq_true rfl) (by decide) (by omega) (fun _ _ _ h _ => False.elim h) (fun r_15 w_15 n_15 h_15 hn_15 => ?_)
    obtain ⟨rfl, ew_15, en_15⟩ := h_15
    rw [ew_15, en_15]
    refine e_iconst F dX5_isNo_18 ?_
    refine e_callVV F u_X5_refuse (by rfl) (c_X5_refuse gY0 (by decide) (by decide) (b01_or _) (by decide) (by decide)) gY0 rfl rfl w_ml_RX5_28 dX5_isNo_19 (by rfl) (Nat.le_of_ble_eq_true rfl) (by decide) (by omega) (fun _ _ _ h _ => False.elim h) (fun r_19 w_19 n_19 h_19 hn_19 => ?_)
    obtain ⟨rfl, en_19, ew_19⟩ := h_19
    rw [en_19, ew_19, e_up_up, rf2, rf3]
    refine e_if_eq F 29 dX5_isNo_22 (by decide) (b01_r _) (fun c_22 => ?_) (fun c_22 => ?_)
    ·
      rw [b01_0, Classical.not_not] at c_22
      rw [if_pos c_22]
      refine e_iconst F dX5_isNo_29 ?_
      refine e_zret F rfl (by omega) (by omega) ?_ dX5_isNo_30
      refine ⟨?_, rfl, ?_⟩
      · first | rw [b01_f (by omega)] | rw [b01_t (by omega)]
      · unfold noT
        first | rw [if_pos c_9] | rw [if_neg (fun q => q c_9), if_pos c_22] | rw [if_neg (fun q => q c_9), if_neg (fun q => q c_22)]
    ·
      rw [b01_0, Classical.not_not] at c_22
      rw [if_neg c_22]
      refine e_iconst F dX5_isNo_25 ?_
      refine e_goto F 30 dX5_isNo_26 (by decide) ?_
      refine e_zret F rfl (by omega) (by omega) ?_ dX5_isNo_30
      refine ⟨?_, rfl, ?_⟩
      · first | rw [b01_f (by omega)] | rw [b01_t (by omega)]
      · unfold noT
        first | rw [if_pos c_9] | rw [if_neg (fun q => q c_9), if_pos c_22] | rw [if_neg (fun q => q c_9), if_neg (fun q => q c_22)]
set_option maxHeartbeats 4000000 in
set_option maxRecDepth 100000 in
theorem c_X5_houseTold {K : e_K} {l : Launch} {w : e_W} {n : Nat} {y wh : Nat} {t kn : Int} {R : Nat → RD} (hM : MW w y wh kn t R) {c9 : Int} (hc9 : e_r c9) : e_Met K l yX5_houseTold (Cond.code yX5_houseTold cX5_houseTold 4 (Option.some .int) :: e_TB) (2) (0) [.ref y, .int (eI c9)] w n (fun r w' n' => r = some (.int (eI (hoR wh kn R c9))) ∧ w' = w ∧ n' = n) (e_px0) := by
  refine e_ofV rfl (Nat.le_of_ble_eq_true rfl) ?_
  intro P9 E9 S9 M9 A9 B9 T9 C9 F hnm
  obtain ⟨hY, hwh, ⟨G, hG, hGe⟩, ⟨SS, PP, hS, hP, hMD⟩, hRV⟩ := id hM
  have hp := pr_rg wh hwh
  have hho := ho_rg wh hwh
  have lp : c9 = 5 → ∀ (N k : Nat), 8 - k < N → (k ≤ 6) → e_V K P9 l E9 (2) (0) S9 M9 A9 B9 T9 C9 4 (fun r w' n' => r = some (.int (eI (hoR wh kn R c9))) ∧ w' = w ∧ n' = n) (e_px0) 9 [(0, .ref y), (2, .int (eI (fdR R k))), (3, .int (eI (k : Int)))] [] w n (0) := by
    intro hc5 N
    induction N with
    | zero => intro k hN; exact absurd hN (Nat.not_lt_zero _)
    | succ N ih =>
      intro k hN hk
      refine e_iload_n F dX5_houseTold_9 rfl ?_
      refine e_bipush F dX5_houseTold_10 (by decide) ?_
      refine e_icmp_ge F 40 dX5_houseTold_12 (by decide) (⟨by omega, by omega⟩) (⟨by omega, by omega⟩) (fun c_12 => ?_) (fun c_12 => ?_)
      ·
        obtain rfl : k = 6 := by omega
        refine e_iload_n F dX5_houseTold_40 rfl ?_
        refine e_iret F rfl (by omega) ?_ dX5_houseTold_41
        exact ⟨by unfold hoR; rw [if_pos hc5], rfl, rfl⟩
      · refine e_iload_n F dX5_houseTold_15 rfl ?_
        refine e_aload_n F dX5_houseTold_16 rfl ?_
        refine e_iload_n F dX5_houseTold_17 rfl ?_
        refine e_callVV F u_X5_isEmpty (by rfl) (c_X5_isEmpty hM (i := k) (by omega)) hY rfl rfl w_ml_RX5_113 dX5_houseTold_18 (by rfl) (Nat.le_of_ble_eq_true rfl) (by decide) (by omega) (fun _ _ _ h _ => False.elim h) (fun r_18 w_18 n_18 h_18 hn_18 => ?_)
        obtain ⟨rfl, ew_18, en_18⟩ := h_18
        rw [ew_18, en_18]
        refine e_if_ne F 28 dX5_houseTold_21 (by decide) (b01_r _) (fun c_21 => ?_) (fun c_21 => ?_)
        ·
          rw [ne_eq, b01_0, Classical.not_not] at c_21
          refine e_iconst F dX5_houseTold_28 ?_
          refine e_callSS F u_X5_one (by rfl) (c_X5_one (b := _) (by first | exact Or.inl rfl | exact Or.inr rfl)) w_ml_RX5_80 dX5_houseTold_29 (by rfl) (Nat.le_of_ble_eq_true rfl) (by decide) (by omega) (fun _ _ _ h _ => False.elim h) (fun r_29 w_29 n_29 h_29 hn_29 => ?_)
          obtain ⟨rfl, ew_29, en_29⟩ := h_29
          rw [ew_29, en_29]
          refine e_iadd F dX5_houseTold_32 ?_
          refine e_istore_n F dX5_houseTold_33 (by decide) ?_
          refine e_iinc F dX5_houseTold_34 rfl (by decide) ?_
          refine e_goto F 9 dX5_houseTold_37 (by decide) ?_
          first
          | (have e9 : fdR R (k + 1) = fdR R k + 0 := by
               show fdR R k + (if _ then _ else _) = _
               rw [if_pos c_21]
             refine e_go (ih (k + 1) (by omega) (by omega)) ?_
             rw [e9]
             exact (And.intro rfl (And.intro rfl (And.intro rfl (trivial)))))
          | (have e9 : fdR R (k + 1) = fdR R k + 1 := by
               show fdR R k + (if _ then _ else _) = _
               rw [if_neg c_21]
             refine e_go (ih (k + 1) (by omega) (by omega)) ?_
             rw [e9]
             exact (And.intro rfl (And.intro rfl (And.intro rfl (trivial)))))
        ·
          rw [b01_0] at c_21
          refine e_iconst F dX5_houseTold_24 ?_
          refine e_goto F 29 dX5_houseTold_25 (by decide) ?_
          refine e_callSS F u_X5_one (by rfl) (c_X5_one (b := _) (by first | exact Or.inl rfl | exact Or.inr rfl)) w_ml_RX5_80 dX5_houseTold_29 (by rfl) (Nat.le_of_ble_eq_true rfl) (by decide) (by omega) (fun _ _ _ h _ => False.elim h) (fun r_29 w_29 n_29 h_29 hn_29 => ?_)
          obtain ⟨rfl, ew_29, en_29⟩ := h_29
          rw [ew_29, en_29]
          refine e_iadd F dX5_houseTold_32 ?_
          refine e_istore_n F dX5_houseTold_33 (by decide) ?_
          refine e_iinc F dX5_houseTold_34 rfl (by decide) ?_
          refine e_goto F 9 dX5_houseTold_37 (by decide) ?_
          first
          | (have e9 : fdR R (k + 1) = fdR R k + 0 := by
               show fdR R k + (if _ then _ else _) = _
               rw [if_pos c_21]
             refine e_go (ih (k + 1) (by omega) (by omega)) ?_
             rw [e9]
             exact (And.intro rfl (And.intro rfl (And.intro rfl (trivial)))))
          | (have e9 : fdR R (k + 1) = fdR R k + 1 := by
               show fdR R k + (if _ then _ else _) = _
               rw [if_neg c_21]
             refine e_go (ih (k + 1) (by omega) (by omega)) ?_
             rw [e9]
             exact (And.intro rfl (And.intro rfl (And.intro rfl (trivial)))))
  refine e_iload_n F dX5_houseTold_0 rfl ?_
  refine e_iconst F dX5_houseTold_1 ?_
  refine e_icmp_ne F 42 dX5_houseTold_2 (by decide) (⟨by omega, by omega⟩) (⟨by omega, by omega⟩) (fun c_2 => ?_) (fun c_2 => ?_)
  · refine e_iload_n F dX5_houseTold_42 rfl ?_
    refine e_if_ne F 53 dX5_houseTold_43 (by decide) (⟨by omega, by omega⟩) (fun c_43 => ?_) (fun c_43 => ?_)
    · refine e_iload_n F dX5_houseTold_53 rfl ?_
      refine e_iconst F dX5_houseTold_54 ?_
      refine e_icmp_ne F 65 dX5_houseTold_55 (by decide) (⟨by omega, by omega⟩) (⟨by omega, by omega⟩) (fun c_55 => ?_) (fun c_55 => ?_)
      · refine e_iload_n F dX5_houseTold_65 rfl ?_
        refine e_iconst F dX5_houseTold_66 ?_
        refine e_icmp_ne F 77 dX5_houseTold_67 (by decide) (⟨by omega, by omega⟩) (⟨by omega, by omega⟩) (fun c_67 => ?_) (fun c_67 => ?_)
        · refine e_iload_n F dX5_houseTold_77 rfl ?_
          refine e_iconst F dX5_houseTold_78 ?_
          refine e_icmp_ne F 93 dX5_houseTold_79 (by decide) (⟨by omega, by omega⟩) (⟨by omega, by omega⟩) (fun c_79 => ?_) (fun c_79 => ?_)
          · refine e_iload_n F dX5_houseTold_93 rfl ?_
            refine e_iconst F dX5_houseTold_94 ?_
            refine e_icmp_ne F 105 dX5_houseTold_95 (by decide) (⟨by omega, by omega⟩) (⟨by omega, by omega⟩) (fun c_95 => ?_) (fun c_95 => ?_)
            · refine e_aload_n F dX5_houseTold_105 rfl ?_
              refine e_get (ci := 5) (fi := 2) (q := (RX5, TX5, 6)) F hY rfl (by decide) w_fl_RX5_177 (by rfl) dX5_houseTold_106 ?_
              refine e_iret F rfl (by omega) ?_ dX5_houseTold_109
              refine ⟨?_, rfl, rfl⟩
              show some (Value.int _) = some (Value.int (eI (hoR wh kn R c9)))
              unfold hoR
              first | rfl | rw [if_neg (by omega), if_pos (by omega)] | rw [if_neg (by omega), if_neg (by omega), if_pos (by omega)] | rw [if_neg (by omega), if_neg (by omega), if_neg (by omega), if_pos (by omega)] | rw [if_neg (by omega), if_neg (by omega), if_neg (by omega), if_neg (by omega), if_pos (by omega)] | rw [if_neg (by omega), if_neg (by omega), if_neg (by omega), if_neg (by omega), if_neg (by omega), if_pos (by omega)] | rw [if_neg (by omega), if_neg (by omega), if_neg (by omega), if_neg (by omega), if_neg (by omega), if_neg (by omega)]
              try rfl
            · refine e_aload_n F dX5_houseTold_98 rfl ?_
              refine e_callVV F u_X5_holders (by rfl) (c_X5_holders hY hwh) hY rfl rfl w_ml_RX5_52 dX5_houseTold_99 (by rfl) (Nat.le_of_ble_eq_true rfl) (by decide) (by omega) (fun _ _ _ h _ => False.elim h) (fun r_99 w_99 n_99 h_99 hn_99 => ?_)
              obtain ⟨rfl, ew_99, en_99⟩ := h_99
              rw [ew_99, en_99]
              refine e_goto F 109 dX5_houseTold_102 (by decide) ?_
              refine e_iret F rfl (by omega) ?_ dX5_houseTold_109
              refine ⟨?_, rfl, rfl⟩
              show some (Value.int _) = some (Value.int (eI (hoR wh kn R c9)))
              unfold hoR
              first | rfl | rw [if_neg (by omega), if_pos (by omega)] | rw [if_neg (by omega), if_neg (by omega), if_pos (by omega)] | rw [if_neg (by omega), if_neg (by omega), if_neg (by omega), if_pos (by omega)] | rw [if_neg (by omega), if_neg (by omega), if_neg (by omega), if_neg (by omega), if_pos (by omega)] | rw [if_neg (by omega), if_neg (by omega), if_neg (by omega), if_neg (by omega), if_neg (by omega), if_pos (by omega)] | rw [if_neg (by omega), if_neg (by omega), if_neg (by omega), if_neg (by omega), if_neg (by omega), if_neg (by omega)]
              try rfl
          · refine e_gets F (i := 5) rfl w_fl_RX5_59 dX5_houseTold_82 ?_
            refine e_aload_n F dX5_houseTold_85 rfl ?_
            refine e_get (ci := 5) (fi := 1) (q := (RX5, TX5, 6)) F hY rfl (by decide) w_fl_RX5_7 (by rfl) dX5_houseTold_86 ?_
            refine e_ialdS F (i := 5) (by decide) (by omega) (by omega) dX5_houseTold_89 ?_
            refine e_goto F 109 dX5_houseTold_90 (by decide) ?_
            refine e_iret F rfl (by omega) ?_ dX5_houseTold_109
            refine ⟨?_, rfl, rfl⟩
            show some (Value.int _) = some (Value.int (eI (hoR wh kn R c9)))
            unfold hoR
            first | rfl | rw [if_neg (by omega), if_pos (by omega)] | rw [if_neg (by omega), if_neg (by omega), if_pos (by omega)] | rw [if_neg (by omega), if_neg (by omega), if_neg (by omega), if_pos (by omega)] | rw [if_neg (by omega), if_neg (by omega), if_neg (by omega), if_neg (by omega), if_pos (by omega)] | rw [if_neg (by omega), if_neg (by omega), if_neg (by omega), if_neg (by omega), if_neg (by omega), if_pos (by omega)] | rw [if_neg (by omega), if_neg (by omega), if_neg (by omega), if_neg (by omega), if_neg (by omega), if_neg (by omega)]
            try rfl
        · refine e_aload_n F dX5_houseTold_70 rfl ?_
          refine e_callVV F u_X5_q (by rfl) (c_X5_q hY hwh) hY rfl rfl w_ml_RX5_62 dX5_houseTold_71 (by rfl) (Nat.le_of_ble_eq_true rfl) (by decide) (by omega) (fun _ _ _ h _ => False.elim h) (fun r_71 w_71 n_71 h_71 hn_71 => ?_)
          obtain ⟨rfl, ew_71, en_71⟩ := h_71
          rw [ew_71, en_71]
          refine e_goto F 109 dX5_houseTold_74 (by decide) ?_
          refine e_iret F rfl (by omega) ?_ dX5_houseTold_109
          refine ⟨?_, rfl, rfl⟩
          show some (Value.int _) = some (Value.int (eI (hoR wh kn R c9)))
          unfold hoR
          first | rfl | rw [if_neg (by omega), if_pos (by omega)] | rw [if_neg (by omega), if_neg (by omega), if_pos (by omega)] | rw [if_neg (by omega), if_neg (by omega), if_neg (by omega), if_pos (by omega)] | rw [if_neg (by omega), if_neg (by omega), if_neg (by omega), if_neg (by omega), if_pos (by omega)] | rw [if_neg (by omega), if_neg (by omega), if_neg (by omega), if_neg (by omega), if_neg (by omega), if_pos (by omega)] | rw [if_neg (by omega), if_neg (by omega), if_neg (by omega), if_neg (by omega), if_neg (by omega), if_neg (by omega)]
          try rfl
      · refine e_aload_n F dX5_houseTold_58 rfl ?_
        refine e_callVV F u_X5_p (by rfl) (c_X5_p hY hwh) hY rfl rfl w_ml_RX5_38 dX5_houseTold_59 (by rfl) (Nat.le_of_ble_eq_true rfl) (by decide) (by omega) (fun _ _ _ h _ => False.elim h) (fun r_59 w_59 n_59 h_59 hn_59 => ?_)
        obtain ⟨rfl, ew_59, en_59⟩ := h_59
        rw [ew_59, en_59]
        refine e_goto F 109 dX5_houseTold_62 (by decide) ?_
        refine e_iret F rfl (by omega) ?_ dX5_houseTold_109
        refine ⟨?_, rfl, rfl⟩
        show some (Value.int _) = some (Value.int (eI (hoR wh kn R c9)))
        unfold hoR
        first | rfl | rw [if_neg (by omega), if_pos (by omega)] | rw [if_neg (by omega), if_neg (by omega), if_pos (by omega)] | rw [if_neg (by omega), if_neg (by omega), if_neg (by omega), if_pos (by omega)] | rw [if_neg (by omega), if_neg (by omega), if_neg (by omega), if_neg (by omega), if_pos (by omega)] | rw [if_neg (by omega), if_neg (by omega), if_neg (by omega), if_neg (by omega), if_neg (by omega), if_pos (by omega)] | rw [if_neg (by omega), if_neg (by omega), if_neg (by omega), if_neg (by omega), if_neg (by omega), if_neg (by omega)]
        try rfl
    · refine e_aload_n F dX5_houseTold_46 rfl ?_
      refine e_get (ci := 5) (fi := 1) (q := (RX5, TX5, 6)) F hY rfl (by decide) w_fl_RX5_7 (by rfl) dX5_houseTold_47 ?_
      refine e_goto F 109 dX5_houseTold_50 (by decide) ?_
      refine e_iret F rfl (by omega) ?_ dX5_houseTold_109
      refine ⟨?_, rfl, rfl⟩
      show some (Value.int _) = some (Value.int (eI (hoR wh kn R c9)))
      unfold hoR
      first | rfl | rw [if_neg (by omega), if_pos (by omega)] | rw [if_neg (by omega), if_neg (by omega), if_pos (by omega)] | rw [if_neg (by omega), if_neg (by omega), if_neg (by omega), if_pos (by omega)] | rw [if_neg (by omega), if_neg (by omega), if_neg (by omega), if_neg (by omega), if_pos (by omega)] | rw [if_neg (by omega), if_neg (by omega), if_neg (by omega), if_neg (by omega), if_neg (by omega), if_pos (by omega)] | rw [if_neg (by omega), if_neg (by omega), if_neg (by omega), if_neg (by omega), if_neg (by omega), if_neg (by omega)]
      try rfl
  · refine e_iconst F dX5_houseTold_5 ?_
    refine e_istore_n F dX5_houseTold_6 (by decide) ?_
    refine e_iconst F dX5_houseTold_7 ?_
    refine e_istore_n F dX5_houseTold_8 (by decide) ?_
    exact e_go (lp c_2 9 0 (by omega) (by omega)) (And.intro rfl (And.intro rfl (And.intro rfl (trivial))))
set_option maxHeartbeats 4000000 in
set_option maxRecDepth 100000 in
theorem c_X5_isFirstSealed {K : e_K} {l : Launch} {w : e_W} {n : Nat} {y wh : Nat} {t kn : Int} {R : Nat → RD} (hM : MW w y wh kn t R) {i : Nat} (hi : i < 6) (hp1 : (R i).hp = 1) : e_Met K l yX5_isFirstSealed (Cond.code yX5_isFirstSealed cX5_isFirstSealed 4 (Option.some .boolean) :: e_TB) (5) (2) [.ref y, .int (eI (i : Int))] w n (fun r w' n' => r = some (.int (eI (b01 (fsV wh (R i))))) ∧ KB w w' n) (e_px0) := by
  refine e_ofV rfl (Nat.le_of_ble_eq_true rfl) ?_
  intro P9 E9 S9 M9 A9 B9 T9 C9 F hnm
  obtain ⟨hY, hwh, ⟨G, hG, hGe⟩, ⟨SS, PP, hS, hP, hMD⟩, hRV⟩ := id hM
  have hp := pr_rg wh hwh
  have hho := ho_rg wh hwh
  have hdg := MD.dg (hMD i hi)
  have hGi := hGe i hi
  have hRi := hRV i hi
  refine e_dom ?_
  intro hdom
  have hyn := hdom _ _ hY
  have hfo := foV_rg hwh (R i)
  have hne : ¬ (R i).dg = -1 := fun q => by rcases hMD i hi with z | z; exact absurd (z.2.2.2.symm.trans hp1) (by decide); omega
  obtain ⟨a, f, hSa, hya, hwa, hfr, hfA⟩ := MD.row (hMD i hi)  hne
  have lp : ¬ (foV wh (R i)) = 0 → ∀ (N k : Nat), 8 - k < N → ((k : Int) ≤ ho wh ∧ feB wh (R i) (foV wh (R i)) k = true) → e_V K P9 l E9 (5) (2) S9 M9 A9 B9 T9 C9 4 (fun r w' n' => r = some (.int (eI (b01 (fsV wh (R i))))) ∧ KB w w' n) (e_px0) 14 [(0, .ref y), (1, .int (eI (i : Int))), (2, .int (eI (foV wh (R i)))), (3, .int (eI ((k : Int) + 1)))] [] w n (0) := by
    intro hf0 N
    induction N with
    | zero => intro k hN; exact absurd hN (Nat.not_lt_zero _)
    | succ N ih =>
      intro k hN ⟨hk, hb⟩
      refine e_iload_n F dX5_isFirstSealed_14 rfl ?_
      refine e_aload_n F dX5_isFirstSealed_15 rfl ?_
      refine e_callVV F u_X5_holders (by rfl) (c_X5_holders hY hwh) hY rfl rfl w_ml_RX5_52 dX5_isFirstSealed_16 (by rfl) (Nat.le_of_ble_eq_true rfl) (by decide) (by omega) (fun _ _ _ h _ => False.elim h) (fun r_16 w_16 n_16 h_16 hn_16 => ?_)
      obtain ⟨rfl, ew_16, en_16⟩ := h_16
      rw [ew_16, en_16]
      refine e_icmp_gt F 47 dX5_isFirstSealed_19 (by decide) (⟨by omega, by omega⟩) (⟨by omega, by omega⟩) (fun c_19 => ?_) (fun c_19 => ?_)
      ·
        obtain rfl : k = (ho wh).toNat := by omega
        refine e_aload_n F dX5_isFirstSealed_47 rfl ?_
        refine e_aload_n F dX5_isFirstSealed_48 rfl ?_
        refine e_aload_n F dX5_isFirstSealed_49 rfl ?_
        refine e_get (ci := 5) (fi := 4) (q := (RX5, TX5, 6)) F hY rfl (by decide) w_fl_RX5_18 (by rfl) dX5_isFirstSealed_50 ?_
        refine e_iload_n F dX5_isFirstSealed_53 rfl ?_
        refine e_aaldr F hS (by omega) (by omega) (by decide) (hSa) dX5_isFirstSealed_54 ?_
        refine e_iload_n F dX5_isFirstSealed_55 rfl ?_
        refine e_iconst F dX5_isFirstSealed_56 ?_
        refine e_callVV F u_X5_at (by rfl) (c_X5_at hY hwh hwa (by omega) hfr hfo.1 hfo.2 (x := 0) (by decide)) hY rfl rfl w_ml_RX5_106 dX5_isFirstSealed_57 (by rfl) (Nat.le_of_ble_eq_true rfl) (by decide) (by omega) (fun _ _ _ h _ => False.elim h) (fun r_57 w_57 n_57 h_57 hn_57 => ?_)
        obtain ⟨rfl, gK⟩ := h_57
        have eT : atV wh (foV wh (R i)) f 0 = atV wh (foV wh (R i)) (R i).A 0 := by
          unfold atV
          rw [trK_congr (A2 := (R i).A) (ho wh).toNat (fun j j0 j1 => hfA j j0 (by omega))]
        rw [eT]
        have gM := hM.kb hdom gK
        have har := atV_rg hwh (foV wh (R i)) (R i).A 0
        have hsr := sl_rg (v := atV wh (foV wh (R i)) (R i).A 0) hwh
        have hg9 := gr_rg wh hwh
        have hsv := stV_rg hwh (R i) 0
        refine e_callVV F u_X5_sealBy (by rfl) (c_X5_sealBy gM.1 hwh har.1 har.2) gM.1 rfl rfl w_ml_RX5_84 dX5_isFirstSealed_60 (by rfl) (Nat.le_of_ble_eq_true rfl) (by decide) (by omega) (fun _ _ _ h _ => False.elim h) (fun r_60 w_60 n_60 h_60 hn_60 => ?_)
        obtain ⟨rfl, ew_60, en_60⟩ := h_60
        rw [ew_60, en_60]
        refine e_aload_n F dX5_isFirstSealed_63 rfl ?_
        refine e_iload_n F dX5_isFirstSealed_64 rfl ?_
        refine e_iconst F dX5_isFirstSealed_65 ?_
        refine e_callVV F u_X5_sealTold (by rfl) (c_X5_sealTold gM hi (k9 := 0) (by decide) (by decide)) gM.1 rfl rfl w_ml_RX5_194 dX5_isFirstSealed_66 (by rfl) (Nat.le_of_ble_eq_true rfl) (by decide) (by omega) (fun _ _ _ h _ => False.elim h) (fun r_66 w_66 n_66 h_66 hn_66 => ?_)
        obtain ⟨rfl, ew_66, en_66⟩ := h_66
        rw [ew_66, en_66]
        refine e_icmp_ne F 76 dX5_isFirstSealed_69 (by decide) (⟨by omega, by omega⟩) (⟨by omega, by omega⟩) (fun c_69 => ?_) (fun c_69 => ?_)
        · refine e_iconst F dX5_isFirstSealed_76 ?_
          refine e_zret F rfl (by omega) (by omega) ?_ dX5_isFirstSealed_77
          refine ⟨?_, gK⟩
          first | rw [b01_t (show fsV wh (R i) from Or.inr (Or.inr c_69))] | (rw [b01_f (show ¬ fsV wh (R i) from fun q => by rcases q with q | q | q; exact hf0 q; exact q hb; exact c_69 q)])
        · refine e_iconst F dX5_isFirstSealed_72 ?_
          refine e_goto F 77 dX5_isFirstSealed_73 (by decide) ?_
          refine e_zret F rfl (by omega) (by omega) ?_ dX5_isFirstSealed_77
          refine ⟨?_, gK⟩
          first | rw [b01_t (show fsV wh (R i) from Or.inr (Or.inr c_69))] | (rw [b01_f (show ¬ fsV wh (R i) from fun q => by rcases q with q | q | q; exact hf0 q; exact q hb; exact c_69 q)])
      · refine e_iload_n F dX5_isFirstSealed_22 rfl ?_
        refine e_iload_n F dX5_isFirstSealed_23 rfl ?_
        refine e_callSS F u_X5_has (by rfl) (c_X5_has hfo.1 (by omega) (h := (k : Int) + 1) (by omega) (by omega)) w_ml_RX5_87 dX5_isFirstSealed_24 (by rfl) (Nat.le_of_ble_eq_true rfl) (by decide) (by omega) (fun _ _ _ h _ => False.elim h) (fun r_24 w_24 n_24 h_24 hn_24 => ?_)
        obtain ⟨rfl, ew_24, en_24⟩ := h_24
        rw [ew_24, en_24]
        refine e_if_eq F 41 dX5_isFirstSealed_27 (by decide) (b01_r _) (fun c_27 => ?_) (fun c_27 => ?_)
        ·
          rw [b01_0] at c_27
          refine e_iinc F dX5_isFirstSealed_41 rfl (by decide) ?_
          refine e_goto F 14 dX5_isFirstSealed_44 (by decide) ?_
          have e9 : feB wh (R i) (foV wh (R i)) (k + 1) = true := by
            show (feB wh (R i) (foV wh (R i)) k && (!decide (hs (foV wh (R i)) ((k : Int) + 1)) || decide (fiV wh (R i) ((k : Int) + 1)))) = true
            rw [hb]
            first | (rw [decide_eq_false c_27]; rfl) | (rw [decide_eq_true c_36, Bool.or_true]; rfl)
          exact e_go (ih (k + 1) (by omega) ⟨by omega, e9⟩) (And.intro rfl (And.intro rfl (And.intro rfl (And.intro rfl (trivial)))))
        ·
          rw [b01_0, Classical.not_not] at c_27
          refine e_aload_n F dX5_isFirstSealed_30 rfl ?_
          refine e_iload_n F dX5_isFirstSealed_31 rfl ?_
          refine e_iload_n F dX5_isFirstSealed_32 rfl ?_
          refine e_callVV F u_X5_isFit (by rfl) (c_X5_isFit hM hi (h := (k : Int) + 1) (by omega) (by omega) hp1) hY rfl rfl w_ml_RX5_197 dX5_isFirstSealed_33 (by rfl) (Nat.le_of_ble_eq_true rfl) (by decide) (by omega) (fun _ _ _ h _ => False.elim h) (fun r_33 w_33 n_33 h_33 hn_33 => ?_)
          obtain ⟨rfl, ew_33, en_33⟩ := h_33
          rw [ew_33, en_33]
          refine e_if_ne F 41 dX5_isFirstSealed_36 (by decide) (b01_r _) (fun c_36 => ?_) (fun c_36 => ?_)
          ·
            rw [ne_eq, b01_0, Classical.not_not] at c_36
            refine e_iinc F dX5_isFirstSealed_41 rfl (by decide) ?_
            refine e_goto F 14 dX5_isFirstSealed_44 (by decide) ?_
            have e9 : feB wh (R i) (foV wh (R i)) (k + 1) = true := by
              show (feB wh (R i) (foV wh (R i)) k && (!decide (hs (foV wh (R i)) ((k : Int) + 1)) || decide (fiV wh (R i) ((k : Int) + 1)))) = true
              rw [hb]
              first | (rw [decide_eq_false c_27]; rfl) | (rw [decide_eq_true c_36, Bool.or_true]; rfl)
            exact e_go (ih (k + 1) (by omega) ⟨by omega, e9⟩) (And.intro rfl (And.intro rfl (And.intro rfl (And.intro rfl (trivial)))))
          ·
            rw [b01_0] at c_36
            refine e_iconst F dX5_isFirstSealed_39 ?_
            refine e_zret F rfl (by omega) (Or.inr rfl) ?_ dX5_isFirstSealed_40
            refine ⟨?_, fun _ _ => rfl⟩
            rw [b01_t (show fsV wh (R i) from Or.inr (Or.inl (fun q => ?_)))]
            have q2 : (feB wh (R i) (foV wh (R i)) k && (!decide (hs (foV wh (R i)) ((k : Int) + 1)) || decide (fiV wh (R i) ((k : Int) + 1)))) = true := feB_mono (j := k + 1) (M := (ho wh).toNat) (by omega) q
            simp only [Bool.and_eq_true, Bool.or_eq_true, Bool.not_eq_true', decide_eq_true_eq, decide_eq_false_iff_not] at q2
            exact q2.2.elim (fun z => z c_27) (fun z => c_36 z)
  refine e_aload_n F dX5_isFirstSealed_0 rfl ?_
  refine e_iload_n F dX5_isFirstSealed_1 rfl ?_
  refine e_callVV F u_X5_firstOf (by rfl) (c_X5_firstOf hM hi) hY rfl rfl w_ml_RX5_183 dX5_isFirstSealed_2 (by rfl) (Nat.le_of_ble_eq_true rfl) (by decide) (by omega) (fun _ _ _ h _ => False.elim h) (fun r_2 w_2 n_2 h_2 hn_2 => ?_)
  obtain ⟨rfl, ew_2, en_2⟩ := h_2
  rw [ew_2, en_2]
  refine e_istore_n F dX5_isFirstSealed_5 (by decide) ?_
  refine e_iload_n F dX5_isFirstSealed_6 rfl ?_
  refine e_if_ne F 12 dX5_isFirstSealed_7 (by decide) (⟨by omega, by omega⟩) (fun c_7 => ?_) (fun c_7 => ?_)
  · refine e_iconst F dX5_isFirstSealed_12 ?_
    refine e_istore_n F dX5_isFirstSealed_13 (by decide) ?_
    exact e_go (lp c_7 9 0 (by omega) ⟨by omega, rfl⟩) (And.intro rfl (And.intro rfl (And.intro rfl (And.intro rfl (trivial)))))
  · refine e_iconst F dX5_isFirstSealed_10 ?_
    refine e_zret F rfl (by omega) (Or.inr rfl) ?_ dX5_isFirstSealed_11
    refine ⟨?_, fun _ _ => rfl⟩
    rw [b01_t (show fsV wh (R i) from Or.inl (by omega))]
set_option maxHeartbeats 4000000 in
set_option maxRecDepth 100000 in
theorem c_X5_dealTold {K : e_K} {l : Launch} {w : e_W} {n : Nat} {y wh : Nat} {t kn : Int} {R : Nat → RD} (hM : MW w y wh kn t R) {i : Nat} (hi : i < 6) {c9 : Int} (hc0 : 0 ≤ c9) (hc1 : c9 ≤ 5) : e_Met K l yX5_dealTold (Cond.code yX5_dealTold cX5_dealTold 3 (Option.some .int) :: e_TB) (5) (2) [.ref y, .int (eI (i : Int)), .int (eI c9)] w n (fun r w' n' => r = some (.int (eI (mdV wh (R i) c9))) ∧ KB w w' n) (e_px0) := by
  refine e_ofV rfl (Nat.le_of_ble_eq_true rfl) ?_
  intro P9 E9 S9 M9 A9 B9 T9 C9 F hnm
  obtain ⟨hY, hwh, ⟨G, hG, hGe⟩, ⟨SS, PP, hS, hP, hMD⟩, hRV⟩ := id hM
  have hp := pr_rg wh hwh
  have hho := ho_rg wh hwh
  have hdg := MD.dg (hMD i hi)
  have hGi := hGe i hi
  have hRi := hRV i hi
  refine e_dom ?_
  intro hdom
  have hyn := hdom _ _ hY
  have hfo := foV_rg hwh (R i)
  have hst := st7_rg (R i).A
  rcases MD.pw (hMD i hi) with ⟨hp0, hPn⟩ | ⟨hp1, ⟨b, g, hPb, hyb, hwb, hgr, hgE⟩, hd0⟩
  ·
    refine e_iload_n F dX5_dealTold_0 rfl ?_
    refine e_if_ne F 11 dX5_dealTold_1 (by decide) (⟨by omega, by omega⟩) (fun c_1 => ?_) (fun c_1 => ?_)
    · refine e_iload_n F dX5_dealTold_11 rfl ?_
      refine e_iconst F dX5_dealTold_12 ?_
      refine e_icmp_ne F 25 dX5_dealTold_13 (by decide) (⟨by omega, by omega⟩) (⟨by omega, by omega⟩) (fun c_13 => ?_) (fun c_13 => ?_)
      · refine e_iload_n F dX5_dealTold_25 rfl ?_
        refine e_iconst F dX5_dealTold_26 ?_
        refine e_icmp_ne F 36 dX5_dealTold_27 (by decide) (⟨by omega, by omega⟩) (⟨by omega, by omega⟩) (fun c_27 => ?_) (fun c_27 => ?_)
        · refine e_iload_n F dX5_dealTold_36 rfl ?_
          refine e_iconst F dX5_dealTold_37 ?_
          refine e_icmp_ne F 59 dX5_dealTold_38 (by decide) (⟨by omega, by omega⟩) (⟨by omega, by omega⟩) (fun c_38 => ?_) (fun c_38 => ?_)
          · refine e_iload_n F dX5_dealTold_59 rfl ?_
            refine e_iconst F dX5_dealTold_60 ?_
            refine e_icmp_ne F 94 dX5_dealTold_61 (by decide) (⟨by omega, by omega⟩) (⟨by omega, by omega⟩) (fun c_61 => ?_) (fun c_61 => ?_)
            · refine e_aload_n F dX5_dealTold_94 rfl ?_
              refine e_iload_n F dX5_dealTold_95 rfl ?_
              refine e_callVV F u_X5_isEmpty (by rfl) (c_X5_isEmpty hM (i := i) hi) hY rfl rfl w_ml_RX5_113 dX5_dealTold_96 (by rfl) (Nat.le_of_ble_eq_true rfl) (by decide) (by omega) (fun _ _ _ h _ => False.elim h) (fun r_96 w_96 n_96 h_96 hn_96 => ?_)
              obtain ⟨rfl, ew_96, en_96⟩ := h_96
              rw [ew_96, en_96]
              refine e_if_ne F 110 dX5_dealTold_99 (by decide) (b01_r _) (fun c_99 => ?_) (fun c_99 => ?_)
              ·
                rw [ne_eq, b01_0, Classical.not_not] at c_99
                refine e_iconst F dX5_dealTold_110 ?_
                refine e_goto F 130 dX5_dealTold_111 (by decide) ?_
                refine e_iret F rfl (by omega) ?_ dX5_dealTold_130
                first
                | (refine ⟨?_, gK⟩
                   unfold mdV
                   rw [if_neg (by omega), if_neg (by omega), if_neg (by omega), if_neg (by omega), if_neg (by omega)]
                   rw [if_neg (fun q => by rcases q with q | q; exact c_99 q; exact c_107 q)])
                | (refine ⟨?_, fun _ _ => rfl⟩
                   unfold mdV
                   rw [if_neg (by omega), if_neg (by omega), if_neg (by omega), if_neg (by omega), if_neg (by omega)]
                   rw [if_pos (by first | exact Or.inl c_99 | exact Or.inr (by omega))])
              ·
                rw [b01_0] at c_99
                obtain ⟨a, f, hSa, hya, hwa, hfr, hfA⟩ := MD.row (hMD i hi)  c_99
                refine e_aload_n F dX5_dealTold_102 rfl ?_
                refine e_iload_n F dX5_dealTold_103 rfl ?_
                refine e_callVV F u_X5_firstOf (by rfl) (c_X5_firstOf hM hi) hY rfl rfl w_ml_RX5_183 dX5_dealTold_104 (by rfl) (Nat.le_of_ble_eq_true rfl) (by decide) (by omega) (fun _ _ _ h _ => False.elim h) (fun r_104 w_104 n_104 h_104 hn_104 => ?_)
                obtain ⟨rfl, ew_104, en_104⟩ := h_104
                rw [ew_104, en_104]
                refine e_if_ne F 114 dX5_dealTold_107 (by decide) (⟨by omega, by omega⟩) (fun c_107 => ?_) (fun c_107 => ?_)
                · refine e_aload_n F dX5_dealTold_114 rfl ?_
                  refine e_aload_n F dX5_dealTold_115 rfl ?_
                  refine e_get (ci := 5) (fi := 4) (q := (RX5, TX5, 6)) F hY rfl (by decide) w_fl_RX5_18 (by rfl) dX5_dealTold_116 ?_
                  refine e_iload_n F dX5_dealTold_119 rfl ?_
                  refine e_aaldr F hS (by omega) (by omega) (by decide) (hSa) dX5_dealTold_120 ?_
                  refine e_aload_n F dX5_dealTold_121 rfl ?_
                  refine e_iload_n F dX5_dealTold_122 rfl ?_
                  refine e_callVV F u_X5_firstOf (by rfl) (c_X5_firstOf hM hi) hY rfl rfl w_ml_RX5_183 dX5_dealTold_123 (by rfl) (Nat.le_of_ble_eq_true rfl) (by decide) (by omega) (fun _ _ _ h _ => False.elim h) (fun r_123 w_123 n_123 h_123 hn_123 => ?_)
                  obtain ⟨rfl, ew_123, en_123⟩ := h_123
                  rw [ew_123, en_123]
                  refine e_iconst F dX5_dealTold_126 ?_
                  refine e_callVV F u_X5_at (by rfl) (c_X5_at hY hwh hwa (by omega) hfr hfo.1 hfo.2 (x := 0) (by decide)) hY rfl rfl w_ml_RX5_106 dX5_dealTold_127 (by rfl) (Nat.le_of_ble_eq_true rfl) (by decide) (by omega) (fun _ _ _ h _ => False.elim h) (fun r_127 w_127 n_127 h_127 hn_127 => ?_)
                  obtain ⟨rfl, gK⟩ := h_127
                  have eT : atV wh (foV wh (R i)) f 0 = atV wh (foV wh (R i)) (R i).A 0 := by
                    unfold atV
                    rw [trK_congr (A2 := (R i).A) (ho wh).toNat (fun j j0 j1 => hfA j j0 (by omega))]
                  rw [eT]
                  refine e_iret F rfl (by omega) ?_ dX5_dealTold_130
                  first
                  | (refine ⟨?_, gK⟩
                     unfold mdV
                     rw [if_neg (by omega), if_neg (by omega), if_neg (by omega), if_neg (by omega), if_neg (by omega)]
                     rw [if_neg (fun q => by rcases q with q | q; exact c_99 q; exact c_107 q)])
                  | (refine ⟨?_, fun _ _ => rfl⟩
                     unfold mdV
                     rw [if_neg (by omega), if_neg (by omega), if_neg (by omega), if_neg (by omega), if_neg (by omega)]
                     rw [if_pos (by first | exact Or.inl c_99 | exact Or.inr (by omega))])
                · refine e_iconst F dX5_dealTold_110 ?_
                  refine e_goto F 130 dX5_dealTold_111 (by decide) ?_
                  refine e_iret F rfl (by omega) ?_ dX5_dealTold_130
                  first
                  | (refine ⟨?_, gK⟩
                     unfold mdV
                     rw [if_neg (by omega), if_neg (by omega), if_neg (by omega), if_neg (by omega), if_neg (by omega)]
                     rw [if_neg (fun q => by rcases q with q | q; exact c_99 q; exact c_107 q)])
                  | (refine ⟨?_, fun _ _ => rfl⟩
                     unfold mdV
                     rw [if_neg (by omega), if_neg (by omega), if_neg (by omega), if_neg (by omega), if_neg (by omega)]
                     rw [if_pos (by first | exact Or.inl c_99 | exact Or.inr (by omega))])
            · refine e_aload_n F dX5_dealTold_64 rfl ?_
              refine e_iload_n F dX5_dealTold_65 rfl ?_
              refine e_callVV F u_X5_isEmpty (by rfl) (c_X5_isEmpty hM (i := i) hi) hY rfl rfl w_ml_RX5_113 dX5_dealTold_66 (by rfl) (Nat.le_of_ble_eq_true rfl) (by decide) (by omega) (fun _ _ _ h _ => False.elim h) (fun r_66 w_66 n_66 h_66 hn_66 => ?_)
              obtain ⟨rfl, ew_66, en_66⟩ := h_66
              rw [ew_66, en_66]
              refine e_if_ne F 89 dX5_dealTold_69 (by decide) (b01_r _) (fun c_69 => ?_) (fun c_69 => ?_)
              ·
                rw [ne_eq, b01_0, Classical.not_not] at c_69
                refine e_iconst F dX5_dealTold_89 ?_
                refine e_callSS F u_X5_one (by rfl) (c_X5_one (b := _) (by first | exact Or.inl rfl | exact Or.inr rfl)) w_ml_RX5_80 dX5_dealTold_90 (by rfl) (Nat.le_of_ble_eq_true rfl) (by decide) (by omega) (fun _ _ _ h _ => False.elim h) (fun r_90 w_90 n_90 h_90 hn_90 => ?_)
                obtain ⟨rfl, ew_90, en_90⟩ := h_90
                rw [ew_90, en_90]
                refine e_iret F rfl (by omega) ?_ dX5_dealTold_93
                first
                | (refine ⟨?_, gK⟩
                   unfold mdV
                   rw [if_neg (by omega), if_neg (by omega), if_neg (by omega), if_neg (by omega), if_pos (by omega)]
                   first | rw [b01_t (And.intro c_69 c_82)] | rw [b01_f (fun q => c_82 q.2)])
                | (refine ⟨?_, fun _ _ => rfl⟩
                   unfold mdV
                   rw [if_neg (by omega), if_neg (by omega), if_neg (by omega), if_neg (by omega), if_pos (by omega)]
                   rw [b01_f (fun q => q.1 c_69)])
              ·
                rw [b01_0] at c_69
                refine e_aload_n F dX5_dealTold_72 rfl ?_
                refine e_iload_n F dX5_dealTold_73 rfl ?_
                refine e_aload_n F dX5_dealTold_74 rfl ?_
                refine e_iload_n F dX5_dealTold_75 rfl ?_
                refine e_callVV F u_X5_setOf (by rfl) (c_X5_setOf hM (i := i) hi) hY rfl rfl w_ml_RX5_116 dX5_dealTold_76 (by rfl) (Nat.le_of_ble_eq_true rfl) (by decide) (by omega) (fun _ _ _ h _ => False.elim h) (fun r_76 w_76 n_76 h_76 hn_76 => ?_)
                obtain ⟨rfl, ew_76, en_76⟩ := h_76
                rw [ew_76, en_76]
                refine e_callVV F u_X5_isAgreed (by rfl) (c_X5_isAgreed hM hi (set := st7 (R i).A) hst.1 hst.2 c_69) hY rfl rfl w_ml_RX5_168 dX5_dealTold_79 (by rfl) (Nat.le_of_ble_eq_true rfl) (by decide) (by omega) (fun _ _ _ h _ => False.elim h) (fun r_79 w_79 n_79 h_79 hn_79 => ?_)
                obtain ⟨rfl, gK⟩ := h_79
                refine e_if_eq F 89 dX5_dealTold_82 (by decide) (b01_r _) (fun c_82 => ?_) (fun c_82 => ?_)
                ·
                  rw [b01_0] at c_82
                  refine e_iconst F dX5_dealTold_89 ?_
                  refine e_callSS F u_X5_one (by rfl) (c_X5_one (b := _) (by first | exact Or.inl rfl | exact Or.inr rfl)) w_ml_RX5_80 dX5_dealTold_90 (by rfl) (Nat.le_of_ble_eq_true rfl) (by decide) (by omega) (fun _ _ _ h _ => False.elim h) (fun r_90 w_90 n_90 h_90 hn_90 => ?_)
                  obtain ⟨rfl, ew_90, en_90⟩ := h_90
                  rw [ew_90, en_90]
                  refine e_iret F rfl (by omega) ?_ dX5_dealTold_93
                  first
                  | (refine ⟨?_, gK⟩
                     unfold mdV
                     rw [if_neg (by omega), if_neg (by omega), if_neg (by omega), if_neg (by omega), if_pos (by omega)]
                     first | rw [b01_t (And.intro c_69 c_82)] | rw [b01_f (fun q => c_82 q.2)])
                  | (refine ⟨?_, fun _ _ => rfl⟩
                     unfold mdV
                     rw [if_neg (by omega), if_neg (by omega), if_neg (by omega), if_neg (by omega), if_pos (by omega)]
                     rw [b01_f (fun q => q.1 c_69)])
                ·
                  rw [b01_0, Classical.not_not] at c_82
                  refine e_iconst F dX5_dealTold_85 ?_
                  refine e_goto F 90 dX5_dealTold_86 (by decide) ?_
                  refine e_callSS F u_X5_one (by rfl) (c_X5_one (b := _) (by first | exact Or.inl rfl | exact Or.inr rfl)) w_ml_RX5_80 dX5_dealTold_90 (by rfl) (Nat.le_of_ble_eq_true rfl) (by decide) (by omega) (fun _ _ _ h _ => False.elim h) (fun r_90 w_90 n_90 h_90 hn_90 => ?_)
                  obtain ⟨rfl, ew_90, en_90⟩ := h_90
                  rw [ew_90, en_90]
                  refine e_iret F rfl (by omega) ?_ dX5_dealTold_93
                  first
                  | (refine ⟨?_, gK⟩
                     unfold mdV
                     rw [if_neg (by omega), if_neg (by omega), if_neg (by omega), if_neg (by omega), if_pos (by omega)]
                     first | rw [b01_t (And.intro c_69 c_82)] | rw [b01_f (fun q => c_82 q.2)])
                  | (refine ⟨?_, fun _ _ => rfl⟩
                     unfold mdV
                     rw [if_neg (by omega), if_neg (by omega), if_neg (by omega), if_neg (by omega), if_pos (by omega)]
                     rw [b01_f (fun q => q.1 c_69)])
          · refine e_aload_n F dX5_dealTold_41 rfl ?_
            refine e_get (ci := 5) (fi := 5) (q := (RX5, TX5, 6)) F hY rfl (by decide) w_fl_RX5_22 (by rfl) dX5_dealTold_42 ?_
            refine e_iload_n F dX5_dealTold_45 rfl ?_
            refine e_aaldn F hP (by omega) (by omega) (by decide) (hPn) dX5_dealTold_46 ?_
            refine e_ifnullN F 54 dX5_dealTold_47 (by decide) ?_
            refine e_iconst F dX5_dealTold_54 ?_
            refine e_callSS F u_X5_one (by rfl) (c_X5_one (b := _) (by first | exact Or.inl rfl | exact Or.inr rfl)) w_ml_RX5_80 dX5_dealTold_55 (by rfl) (Nat.le_of_ble_eq_true rfl) (by decide) (by omega) (fun _ _ _ h _ => False.elim h) (fun r_55 w_55 n_55 h_55 hn_55 => ?_)
            obtain ⟨rfl, ew_55, en_55⟩ := h_55
            rw [ew_55, en_55]
            refine e_iret F rfl (by omega) ?_ dX5_dealTold_58
            refine ⟨?_, fun _ _ => rfl⟩
            unfold mdV
            rw [if_neg (by omega), if_neg (by omega), if_neg (by omega), if_pos (by omega)]
            rw [hp0]
        · refine e_aload_n F dX5_dealTold_30 rfl ?_
          refine e_iload_n F dX5_dealTold_31 rfl ?_
          refine e_callVV F u_X5_setOf (by rfl) (c_X5_setOf hM (i := i) hi) hY rfl rfl w_ml_RX5_116 dX5_dealTold_32 (by rfl) (Nat.le_of_ble_eq_true rfl) (by decide) (by omega) (fun _ _ _ h _ => False.elim h) (fun r_32 w_32 n_32 h_32 hn_32 => ?_)
          obtain ⟨rfl, ew_32, en_32⟩ := h_32
          rw [ew_32, en_32]
          refine e_iret F rfl (by omega) ?_ dX5_dealTold_35
          exact ⟨by unfold mdV; rw [if_neg (by omega), if_neg (by omega), if_pos (by omega)], fun _ _ => rfl⟩
      · refine e_aload_n F dX5_dealTold_16 rfl ?_
        refine e_iload_n F dX5_dealTold_17 rfl ?_
        refine e_callVV F u_X5_setOf (by rfl) (c_X5_setOf hM (i := i) hi) hY rfl rfl w_ml_RX5_116 dX5_dealTold_18 (by rfl) (Nat.le_of_ble_eq_true rfl) (by decide) (by omega) (fun _ _ _ h _ => False.elim h) (fun r_18 w_18 n_18 h_18 hn_18 => ?_)
        obtain ⟨rfl, ew_18, en_18⟩ := h_18
        rw [ew_18, en_18]
        refine e_callSS F u_X5_many (by rfl) (c_X5_many hst.1 hst.2) w_ml_RX5_119 dX5_dealTold_21 (by rfl) (Nat.le_of_ble_eq_true rfl) (by decide) (by omega) (fun _ _ _ h _ => False.elim h) (fun r_21 w_21 n_21 h_21 hn_21 => ?_)
        obtain ⟨rfl, ew_21, en_21⟩ := h_21
        rw [ew_21, en_21]
        refine e_iret F rfl (by omega) ?_ dX5_dealTold_24
        exact ⟨by unfold mdV; rw [if_neg (by omega), if_pos (by omega)], fun _ _ => rfl⟩
    · refine e_aload_n F dX5_dealTold_4 rfl ?_
      refine e_get (ci := 5) (fi := 3) (q := (RX5, TX5, 6)) F hY rfl (by decide) w_fl_RX5_13 (by rfl) dX5_dealTold_5 ?_
      refine e_iload_n F dX5_dealTold_8 rfl ?_
      refine e_iald F hG (by omega) (by omega) (by first | decide | omega) dX5_dealTold_9 ?_
      rw [hGi]
      refine e_iret F rfl (by omega) ?_ dX5_dealTold_10
      exact ⟨by unfold mdV; rw [if_pos (by omega)], fun _ _ => rfl⟩
  ·
    refine e_iload_n F dX5_dealTold_0 rfl ?_
    refine e_if_ne F 11 dX5_dealTold_1 (by decide) (⟨by omega, by omega⟩) (fun c_1 => ?_) (fun c_1 => ?_)
    · refine e_iload_n F dX5_dealTold_11 rfl ?_
      refine e_iconst F dX5_dealTold_12 ?_
      refine e_icmp_ne F 25 dX5_dealTold_13 (by decide) (⟨by omega, by omega⟩) (⟨by omega, by omega⟩) (fun c_13 => ?_) (fun c_13 => ?_)
      · refine e_iload_n F dX5_dealTold_25 rfl ?_
        refine e_iconst F dX5_dealTold_26 ?_
        refine e_icmp_ne F 36 dX5_dealTold_27 (by decide) (⟨by omega, by omega⟩) (⟨by omega, by omega⟩) (fun c_27 => ?_) (fun c_27 => ?_)
        · refine e_iload_n F dX5_dealTold_36 rfl ?_
          refine e_iconst F dX5_dealTold_37 ?_
          refine e_icmp_ne F 59 dX5_dealTold_38 (by decide) (⟨by omega, by omega⟩) (⟨by omega, by omega⟩) (fun c_38 => ?_) (fun c_38 => ?_)
          · refine e_iload_n F dX5_dealTold_59 rfl ?_
            refine e_iconst F dX5_dealTold_60 ?_
            refine e_icmp_ne F 94 dX5_dealTold_61 (by decide) (⟨by omega, by omega⟩) (⟨by omega, by omega⟩) (fun c_61 => ?_) (fun c_61 => ?_)
            · refine e_aload_n F dX5_dealTold_94 rfl ?_
              refine e_iload_n F dX5_dealTold_95 rfl ?_
              refine e_callVV F u_X5_isEmpty (by rfl) (c_X5_isEmpty hM (i := i) hi) hY rfl rfl w_ml_RX5_113 dX5_dealTold_96 (by rfl) (Nat.le_of_ble_eq_true rfl) (by decide) (by omega) (fun _ _ _ h _ => False.elim h) (fun r_96 w_96 n_96 h_96 hn_96 => ?_)
              obtain ⟨rfl, ew_96, en_96⟩ := h_96
              rw [ew_96, en_96]
              refine e_if_ne F 110 dX5_dealTold_99 (by decide) (b01_r _) (fun c_99 => ?_) (fun c_99 => ?_)
              ·
                rw [ne_eq, b01_0, Classical.not_not] at c_99
                refine e_iconst F dX5_dealTold_110 ?_
                refine e_goto F 130 dX5_dealTold_111 (by decide) ?_
                refine e_iret F rfl (by omega) ?_ dX5_dealTold_130
                first
                | (refine ⟨?_, gK⟩
                   unfold mdV
                   rw [if_neg (by omega), if_neg (by omega), if_neg (by omega), if_neg (by omega), if_neg (by omega)]
                   rw [if_neg (fun q => by rcases q with q | q; exact c_99 q; exact c_107 q)])
                | (refine ⟨?_, fun _ _ => rfl⟩
                   unfold mdV
                   rw [if_neg (by omega), if_neg (by omega), if_neg (by omega), if_neg (by omega), if_neg (by omega)]
                   rw [if_pos (by first | exact Or.inl c_99 | exact Or.inr (by omega))])
              ·
                rw [b01_0] at c_99
                obtain ⟨a, f, hSa, hya, hwa, hfr, hfA⟩ := MD.row (hMD i hi)  c_99
                refine e_aload_n F dX5_dealTold_102 rfl ?_
                refine e_iload_n F dX5_dealTold_103 rfl ?_
                refine e_callVV F u_X5_firstOf (by rfl) (c_X5_firstOf hM hi) hY rfl rfl w_ml_RX5_183 dX5_dealTold_104 (by rfl) (Nat.le_of_ble_eq_true rfl) (by decide) (by omega) (fun _ _ _ h _ => False.elim h) (fun r_104 w_104 n_104 h_104 hn_104 => ?_)
                obtain ⟨rfl, ew_104, en_104⟩ := h_104
                rw [ew_104, en_104]
                refine e_if_ne F 114 dX5_dealTold_107 (by decide) (⟨by omega, by omega⟩) (fun c_107 => ?_) (fun c_107 => ?_)
                · refine e_aload_n F dX5_dealTold_114 rfl ?_
                  refine e_aload_n F dX5_dealTold_115 rfl ?_
                  refine e_get (ci := 5) (fi := 4) (q := (RX5, TX5, 6)) F hY rfl (by decide) w_fl_RX5_18 (by rfl) dX5_dealTold_116 ?_
                  refine e_iload_n F dX5_dealTold_119 rfl ?_
                  refine e_aaldr F hS (by omega) (by omega) (by decide) (hSa) dX5_dealTold_120 ?_
                  refine e_aload_n F dX5_dealTold_121 rfl ?_
                  refine e_iload_n F dX5_dealTold_122 rfl ?_
                  refine e_callVV F u_X5_firstOf (by rfl) (c_X5_firstOf hM hi) hY rfl rfl w_ml_RX5_183 dX5_dealTold_123 (by rfl) (Nat.le_of_ble_eq_true rfl) (by decide) (by omega) (fun _ _ _ h _ => False.elim h) (fun r_123 w_123 n_123 h_123 hn_123 => ?_)
                  obtain ⟨rfl, ew_123, en_123⟩ := h_123
                  rw [ew_123, en_123]
                  refine e_iconst F dX5_dealTold_126 ?_
                  refine e_callVV F u_X5_at (by rfl) (c_X5_at hY hwh hwa (by omega) hfr hfo.1 hfo.2 (x := 0) (by decide)) hY rfl rfl w_ml_RX5_106 dX5_dealTold_127 (by rfl) (Nat.le_of_ble_eq_true rfl) (by decide) (by omega) (fun _ _ _ h _ => False.elim h) (fun r_127 w_127 n_127 h_127 hn_127 => ?_)
                  obtain ⟨rfl, gK⟩ := h_127
                  have eT : atV wh (foV wh (R i)) f 0 = atV wh (foV wh (R i)) (R i).A 0 := by
                    unfold atV
                    rw [trK_congr (A2 := (R i).A) (ho wh).toNat (fun j j0 j1 => hfA j j0 (by omega))]
                  rw [eT]
                  refine e_iret F rfl (by omega) ?_ dX5_dealTold_130
                  first
                  | (refine ⟨?_, gK⟩
                     unfold mdV
                     rw [if_neg (by omega), if_neg (by omega), if_neg (by omega), if_neg (by omega), if_neg (by omega)]
                     rw [if_neg (fun q => by rcases q with q | q; exact c_99 q; exact c_107 q)])
                  | (refine ⟨?_, fun _ _ => rfl⟩
                     unfold mdV
                     rw [if_neg (by omega), if_neg (by omega), if_neg (by omega), if_neg (by omega), if_neg (by omega)]
                     rw [if_pos (by first | exact Or.inl c_99 | exact Or.inr (by omega))])
                · refine e_iconst F dX5_dealTold_110 ?_
                  refine e_goto F 130 dX5_dealTold_111 (by decide) ?_
                  refine e_iret F rfl (by omega) ?_ dX5_dealTold_130
                  first
                  | (refine ⟨?_, gK⟩
                     unfold mdV
                     rw [if_neg (by omega), if_neg (by omega), if_neg (by omega), if_neg (by omega), if_neg (by omega)]
                     rw [if_neg (fun q => by rcases q with q | q; exact c_99 q; exact c_107 q)])
                  | (refine ⟨?_, fun _ _ => rfl⟩
                     unfold mdV
                     rw [if_neg (by omega), if_neg (by omega), if_neg (by omega), if_neg (by omega), if_neg (by omega)]
                     rw [if_pos (by first | exact Or.inl c_99 | exact Or.inr (by omega))])
            · refine e_aload_n F dX5_dealTold_64 rfl ?_
              refine e_iload_n F dX5_dealTold_65 rfl ?_
              refine e_callVV F u_X5_isEmpty (by rfl) (c_X5_isEmpty hM (i := i) hi) hY rfl rfl w_ml_RX5_113 dX5_dealTold_66 (by rfl) (Nat.le_of_ble_eq_true rfl) (by decide) (by omega) (fun _ _ _ h _ => False.elim h) (fun r_66 w_66 n_66 h_66 hn_66 => ?_)
              obtain ⟨rfl, ew_66, en_66⟩ := h_66
              rw [ew_66, en_66]
              refine e_if_ne F 89 dX5_dealTold_69 (by decide) (b01_r _) (fun c_69 => ?_) (fun c_69 => ?_)
              ·
                rw [ne_eq, b01_0, Classical.not_not] at c_69
                refine e_iconst F dX5_dealTold_89 ?_
                refine e_callSS F u_X5_one (by rfl) (c_X5_one (b := _) (by first | exact Or.inl rfl | exact Or.inr rfl)) w_ml_RX5_80 dX5_dealTold_90 (by rfl) (Nat.le_of_ble_eq_true rfl) (by decide) (by omega) (fun _ _ _ h _ => False.elim h) (fun r_90 w_90 n_90 h_90 hn_90 => ?_)
                obtain ⟨rfl, ew_90, en_90⟩ := h_90
                rw [ew_90, en_90]
                refine e_iret F rfl (by omega) ?_ dX5_dealTold_93
                first
                | (refine ⟨?_, gK⟩
                   unfold mdV
                   rw [if_neg (by omega), if_neg (by omega), if_neg (by omega), if_neg (by omega), if_pos (by omega)]
                   first | rw [b01_t (And.intro c_69 c_82)] | rw [b01_f (fun q => c_82 q.2)])
                | (refine ⟨?_, fun _ _ => rfl⟩
                   unfold mdV
                   rw [if_neg (by omega), if_neg (by omega), if_neg (by omega), if_neg (by omega), if_pos (by omega)]
                   rw [b01_f (fun q => q.1 c_69)])
              ·
                rw [b01_0] at c_69
                refine e_aload_n F dX5_dealTold_72 rfl ?_
                refine e_iload_n F dX5_dealTold_73 rfl ?_
                refine e_aload_n F dX5_dealTold_74 rfl ?_
                refine e_iload_n F dX5_dealTold_75 rfl ?_
                refine e_callVV F u_X5_setOf (by rfl) (c_X5_setOf hM (i := i) hi) hY rfl rfl w_ml_RX5_116 dX5_dealTold_76 (by rfl) (Nat.le_of_ble_eq_true rfl) (by decide) (by omega) (fun _ _ _ h _ => False.elim h) (fun r_76 w_76 n_76 h_76 hn_76 => ?_)
                obtain ⟨rfl, ew_76, en_76⟩ := h_76
                rw [ew_76, en_76]
                refine e_callVV F u_X5_isAgreed (by rfl) (c_X5_isAgreed hM hi (set := st7 (R i).A) hst.1 hst.2 c_69) hY rfl rfl w_ml_RX5_168 dX5_dealTold_79 (by rfl) (Nat.le_of_ble_eq_true rfl) (by decide) (by omega) (fun _ _ _ h _ => False.elim h) (fun r_79 w_79 n_79 h_79 hn_79 => ?_)
                obtain ⟨rfl, gK⟩ := h_79
                refine e_if_eq F 89 dX5_dealTold_82 (by decide) (b01_r _) (fun c_82 => ?_) (fun c_82 => ?_)
                ·
                  rw [b01_0] at c_82
                  refine e_iconst F dX5_dealTold_89 ?_
                  refine e_callSS F u_X5_one (by rfl) (c_X5_one (b := _) (by first | exact Or.inl rfl | exact Or.inr rfl)) w_ml_RX5_80 dX5_dealTold_90 (by rfl) (Nat.le_of_ble_eq_true rfl) (by decide) (by omega) (fun _ _ _ h _ => False.elim h) (fun r_90 w_90 n_90 h_90 hn_90 => ?_)
                  obtain ⟨rfl, ew_90, en_90⟩ := h_90
                  rw [ew_90, en_90]
                  refine e_iret F rfl (by omega) ?_ dX5_dealTold_93
                  first
                  | (refine ⟨?_, gK⟩
                     unfold mdV
                     rw [if_neg (by omega), if_neg (by omega), if_neg (by omega), if_neg (by omega), if_pos (by omega)]
                     first | rw [b01_t (And.intro c_69 c_82)] | rw [b01_f (fun q => c_82 q.2)])
                  | (refine ⟨?_, fun _ _ => rfl⟩
                     unfold mdV
                     rw [if_neg (by omega), if_neg (by omega), if_neg (by omega), if_neg (by omega), if_pos (by omega)]
                     rw [b01_f (fun q => q.1 c_69)])
                ·
                  rw [b01_0, Classical.not_not] at c_82
                  refine e_iconst F dX5_dealTold_85 ?_
                  refine e_goto F 90 dX5_dealTold_86 (by decide) ?_
                  refine e_callSS F u_X5_one (by rfl) (c_X5_one (b := _) (by first | exact Or.inl rfl | exact Or.inr rfl)) w_ml_RX5_80 dX5_dealTold_90 (by rfl) (Nat.le_of_ble_eq_true rfl) (by decide) (by omega) (fun _ _ _ h _ => False.elim h) (fun r_90 w_90 n_90 h_90 hn_90 => ?_)
                  obtain ⟨rfl, ew_90, en_90⟩ := h_90
                  rw [ew_90, en_90]
                  refine e_iret F rfl (by omega) ?_ dX5_dealTold_93
                  first
                  | (refine ⟨?_, gK⟩
                     unfold mdV
                     rw [if_neg (by omega), if_neg (by omega), if_neg (by omega), if_neg (by omega), if_pos (by omega)]
                     first | rw [b01_t (And.intro c_69 c_82)] | rw [b01_f (fun q => c_82 q.2)])
                  | (refine ⟨?_, fun _ _ => rfl⟩
                     unfold mdV
                     rw [if_neg (by omega), if_neg (by omega), if_neg (by omega), if_neg (by omega), if_pos (by omega)]
                     rw [b01_f (fun q => q.1 c_69)])
          · refine e_aload_n F dX5_dealTold_41 rfl ?_
            refine e_get (ci := 5) (fi := 5) (q := (RX5, TX5, 6)) F hY rfl (by decide) w_fl_RX5_22 (by rfl) dX5_dealTold_42 ?_
            refine e_iload_n F dX5_dealTold_45 rfl ?_
            refine e_aaldr F hP (by omega) (by omega) (by decide) (hPb) dX5_dealTold_46 ?_
            refine e_ifnull F dX5_dealTold_47 ?_
            refine e_iconst F dX5_dealTold_50 ?_
            refine e_goto F 55 dX5_dealTold_51 (by decide) ?_
            refine e_callSS F u_X5_one (by rfl) (c_X5_one (b := _) (by first | exact Or.inl rfl | exact Or.inr rfl)) w_ml_RX5_80 dX5_dealTold_55 (by rfl) (Nat.le_of_ble_eq_true rfl) (by decide) (by omega) (fun _ _ _ h _ => False.elim h) (fun r_55 w_55 n_55 h_55 hn_55 => ?_)
            obtain ⟨rfl, ew_55, en_55⟩ := h_55
            rw [ew_55, en_55]
            refine e_iret F rfl (by omega) ?_ dX5_dealTold_58
            refine ⟨?_, fun _ _ => rfl⟩
            unfold mdV
            rw [if_neg (by omega), if_neg (by omega), if_neg (by omega), if_pos (by omega)]
            rw [hp1]
        · refine e_aload_n F dX5_dealTold_30 rfl ?_
          refine e_iload_n F dX5_dealTold_31 rfl ?_
          refine e_callVV F u_X5_setOf (by rfl) (c_X5_setOf hM (i := i) hi) hY rfl rfl w_ml_RX5_116 dX5_dealTold_32 (by rfl) (Nat.le_of_ble_eq_true rfl) (by decide) (by omega) (fun _ _ _ h _ => False.elim h) (fun r_32 w_32 n_32 h_32 hn_32 => ?_)
          obtain ⟨rfl, ew_32, en_32⟩ := h_32
          rw [ew_32, en_32]
          refine e_iret F rfl (by omega) ?_ dX5_dealTold_35
          exact ⟨by unfold mdV; rw [if_neg (by omega), if_neg (by omega), if_pos (by omega)], fun _ _ => rfl⟩
      · refine e_aload_n F dX5_dealTold_16 rfl ?_
        refine e_iload_n F dX5_dealTold_17 rfl ?_
        refine e_callVV F u_X5_setOf (by rfl) (c_X5_setOf hM (i := i) hi) hY rfl rfl w_ml_RX5_116 dX5_dealTold_18 (by rfl) (Nat.le_of_ble_eq_true rfl) (by decide) (by omega) (fun _ _ _ h _ => False.elim h) (fun r_18 w_18 n_18 h_18 hn_18 => ?_)
        obtain ⟨rfl, ew_18, en_18⟩ := h_18
        rw [ew_18, en_18]
        refine e_callSS F u_X5_many (by rfl) (c_X5_many hst.1 hst.2) w_ml_RX5_119 dX5_dealTold_21 (by rfl) (Nat.le_of_ble_eq_true rfl) (by decide) (by omega) (fun _ _ _ h _ => False.elim h) (fun r_21 w_21 n_21 h_21 hn_21 => ?_)
        obtain ⟨rfl, ew_21, en_21⟩ := h_21
        rw [ew_21, en_21]
        refine e_iret F rfl (by omega) ?_ dX5_dealTold_24
        exact ⟨by unfold mdV; rw [if_neg (by omega), if_pos (by omega)], fun _ _ => rfl⟩
    · refine e_aload_n F dX5_dealTold_4 rfl ?_
      refine e_get (ci := 5) (fi := 3) (q := (RX5, TX5, 6)) F hY rfl (by decide) w_fl_RX5_13 (by rfl) dX5_dealTold_5 ?_
      refine e_iload_n F dX5_dealTold_8 rfl ?_
      refine e_iald F hG (by omega) (by omega) (by first | decide | omega) dX5_dealTold_9 ?_
      rw [hGi]
      refine e_iret F rfl (by omega) ?_ dX5_dealTold_10
      exact ⟨by unfold mdV; rw [if_pos (by omega)], fun _ _ => rfl⟩
