section ZHI
theorem z_tsw4 {C : zC} {g : zG} {N nL cells slots : Nat} {I : Nat → Nat → Int32} {P : Nat → Nat → Option Nat} {J : Nat → Nat → Int64} {pc : Nat} {lv : List (Nat × Value)} {st : List Value} {cc : ByteArray} {own : String} {Ts : List Cond} (hC : zX C cc nL own Ts g N) {x : Int32} {d o1 o2 o3 o4 : Int} {t0 t1 t2 t3 t4 len : Nat} (hdg : decode cc pc = .ok (.tableswitch d 1 4 #[o1, o2, o3, o4], len)) (h0 : (pc : Int) + d = (t0 : Int)) (h1 : (pc : Int) + o1 = (t1 : Int)) (h2 : (pc : Int) + o2 = (t2 : Int)) (h3 : (pc : Int) + o3 = (t3 : Int)) (h4 : (pc : Int) + o4 = (t4 : Int))
    (k1 : x = 1 → zJ C g N nL cells slots I P J t1 lv st) (k2 : x = 2 → zJ C g N nL cells slots I P J t2 lv st) (k3 : x = 3 → zJ C g N nL cells slots I P J t3 lv st) (k4 : x = 4 → zJ C g N nL cells slots I P J t4 lv st) (k0 : ¬ x = 1 → ¬ x = 2 → ¬ x = 3 → ¬ x = 4 → zJ C g N nL cells slots I P J t0 lv st) : zJ C g N nL cells slots I P J pc lv (.int x :: st) := by
  intro H locs ls hP hS hl
  by_cases e1 : x = 1
  · exact lv_tableIn hC.1 hC.2.1 hdg (by rw [e1]; decide) (by rw [e1]; decide) (off := o1) (by rw [e1]; rfl) h1 (k1 e1 H locs ls hP hS hl)
  · by_cases e2 : x = 2
    · exact lv_tableIn hC.1 hC.2.1 hdg (by rw [e2]; decide) (by rw [e2]; decide) (off := o2) (by rw [e2]; rfl) h2 (k2 e2 H locs ls hP hS hl)
    · by_cases e3 : x = 3
      · exact lv_tableIn hC.1 hC.2.1 hdg (by rw [e3]; decide) (by rw [e3]; decide) (off := o3) (by rw [e3]; rfl) h3 (k3 e3 H locs ls hP hS hl)
      · by_cases e4 : x = 4
        · exact lv_tableIn hC.1 hC.2.1 hdg (by rw [e4]; decide) (by rw [e4]; decide) (off := o4) (by rw [e4]; rfl) h4 (k4 e4 H locs ls hP hS hl)
        · refine lv_tableOut hC.1 hC.2.1 hdg ?_ h0 (k0 e1 e2 e3 e4 H locs ls hP hS hl)
          have n1 := lv_neT (a := 1) e1 rfl
          have n2 := lv_neT (a := 2) e2 rfl
          have n3 := lv_neT (a := 3) e3 rfl
          have n4 := lv_neT (a := 4) e4 rfl
          omega
theorem z_lsw2 {C : zC} {g : zG} {N nL cells slots : Nat} {I : Nat → Nat → Int32} {P : Nat → Nat → Option Nat} {J : Nat → Nat → Int64} {pc : Nat} {lv : List (Nat × Value)} {st : List Value} {cc : ByteArray} {own : String} {Ts : List Cond} (hC : zX C cc nL own Ts g N) {x : Int32} {d o1 o2 : Int} {t0 t1 t2 len : Nat} (hdg : decode cc pc = .ok (.lookupswitch d #[(1, o1), (2, o2)], len)) (h0 : (pc : Int) + d = (t0 : Int)) (h1 : (pc : Int) + o1 = (t1 : Int)) (h2 : (pc : Int) + o2 = (t2 : Int))
    (k1 : x = 1 → zJ C g N nL cells slots I P J t1 lv st) (k2 : x = 2 → zJ C g N nL cells slots I P J t2 lv st) (k0 : ¬ x = 1 → ¬ x = 2 → zJ C g N nL cells slots I P J t0 lv st) : zJ C g N nL cells slots I P J pc lv (.int x :: st) := by
  intro H locs ls hP hS hl
  by_cases e1 : x = 1
  · exact lv_lookup hC.1 hC.2.1 hdg (by rfl) (off := o1) (by rw [e1]; exact (Op.lookupswitch.offset_cons _ _ _ _ _).trans (if_pos rfl)) h1 (k1 e1 H locs ls hP hS hl)
  · by_cases e2 : x = 2
    · exact lv_lookup hC.1 hC.2.1 hdg (by rfl) (off := o2) ((lv_osw e1 rfl).trans (by rw [e2]; exact (Op.lookupswitch.offset_cons _ _ _ _ _).trans (if_pos rfl))) h2 (k2 e2 H locs ls hP hS hl)
    · exact lv_lookup hC.1 hC.2.1 hdg (by rfl) (off := d) ((lv_osw e1 rfl).trans ((lv_osw e2 rfl).trans (by rfl))) h0 (k0 e1 e2 H locs ls hP hS hl)
theorem zmx_nn (f : Nat → Int32) : ∀ n, 0 ≤ zmx f n
  | 0 => show (0 : Int32) ≤ 0 by decide
  | n + 1 => by
    have := zmx_nn f n
    show 0 ≤ (if zmx f n < f n then f n else zmx f n)
    split
    · rename_i h
      rw [zi_le] at this ⊢
      rw [zi_lt] at h
      omega
    · exact this
theorem zmx_0 {f : Nat → Int32} {n : Nat} (h : f n = 0) : zmx f (n + 1) = zmx f n := by
  show (if zmx f n < f n then f n else zmx f n) = _
  rw [h, if_neg (Int32.not_lt.mpr (zmx_nn f n))]
theorem zmx_z {f : Nat → Int32} : ∀ {n : Nat}, (∀ i, i < n → f i = 0) → zmx f n = 0
  | 0, _ => rfl
  | n + 1, h => by
    rw [zmx_0 (h n (by omega))]
    exact zmx_z (fun i hi => h i (by omega))
theorem zmx_tail {f : Nat → Int32} {z : Nat} : ∀ {d : Nat}, (∀ i, z ≤ i → i < z + d → f i = 0) → zmx f (z + d) = zmx f z
  | 0, _ => rfl
  | d + 1, h => by
    rw [show z + (d + 1) = (z + d) + 1 from rfl, zmx_0 (h (z + d) (by omega) (by omega))]
    exact zmx_tail (fun i h1 h2 => h i h1 (by omega))
theorem zmx_head {f : Nat → Int32} {a : Nat} (h : ∀ i, i < a → f i = 0) : ∀ d, zmx f (a + d) = zmx (fun j => f (a + j)) d
  | 0 => zmx_z h
  | d + 1 => by
    show (if zmx f (a + d) < f (a + d) then f (a + d) else zmx f (a + d)) = (if zmx (fun j => f (a + j)) d < f (a + d) then f (a + d) else zmx (fun j => f (a + j)) d)
    rw [zmx_head h d]
theorem zmx_seg {f : Nat → Int32} {a z n : Nat} (haz : a ≤ z) (hz : z ≤ n) (h1 : ∀ i, i < a → f i = 0) (h2 : ∀ i, z ≤ i → i < n → f i = 0) : zmx f n = zmx (fun j => f (a + j)) (z - a) := by
  have e := zmx_tail (f := f) (z := z) (d := n - z) (fun i k1 k2 => h2 i k1 (by omega))
  rw [show z + (n - z) = n by omega] at e
  have e2 := zmx_head h1 (z - a)
  rw [show a + (z - a) = z by omega] at e2
  rw [e, e2]
/-- what of a line is ahead of it and behind it stands in other lines -/
theorem zend_out {ln : Nat → Nat} (hs : zstep ln) {n a : Nat} (h : a < n) (ha : zbeg ln a = a) : (∀ i, i < a → ln i ≠ ln a) ∧ ∀ i, zend ln n a ≤ i → i < n → ln i ≠ ln a := by
  refine ⟨fun i hi => ?_, fun i h1 h2 => ?_⟩
  · cases a with
    | zero => omega
    | succ a =>
      have e : ln (a + 1) ≠ ln a := fun q => by
        have q1 : zbeg ln (a + 1) = zbeg ln a := if_pos q
        have q2 := zbeg_le (ln := ln) a
        omega
      have := zstep_mono hs (i := i) (d := a - i)
      rw [show i + (a - i) = a by omega] at this
      have := hs.2 a
      omega
  · have e := (zend_ln hs h).1 (by omega)
    have := zstep_mono hs (i := zend ln n a) (d := i - zend ln n a)
    rw [show zend ln n a + (i - zend ln n a) = i by omega] at this
    omega
theorem sLH_line {σ : zS} {nh : Nat → Int32} {p : Nat} {a l : Nat} (ha : a < kn σ p) (hal : zbeg (sLn σ (sNW σ) p (sWD σ p)) a = a ∧ sLn σ (sNW σ) p (sWD σ p) a = l) : sLH σ nh p (sWD σ p) l = zmx (fun j => sO σ nh (kd σ p (a + j))) (zend (sLn σ (sNW σ) p (sWD σ p)) (kn σ p) a - a) := by
  obtain ⟨h1, h2⟩ := hal
  have ho := zend_out (sLn_step σ (sNW σ) p (sWD σ p)) ha h1
  have hz := zend_spec (ln := sLn σ (sNW σ) p (sWD σ p)) ha
  unfold sLH
  rw [zmx_seg (a := a) (z := zend (sLn σ (sNW σ) p (sWD σ p)) (kn σ p) a) (by omega) hz.2.1 (fun i hi => if_neg (by rw [← h2]; exact ho.1 i hi)) (fun i k1 k2 => if_neg (by rw [← h2]; exact ho.2 i k1 k2))]
  exact zmx_congr (fun j hj => if_pos (by rw [← h2]; exact hz.2.2.1 (a + j) (by omega) (by omega)))
theorem zln_last {σ : zS} {nw : Nat → Int32} {p : Nat} {W : Int32} {a l : Nat} (ha : a < kn σ p) (hal : a < kn σ p → zbeg (sLn σ nw p W) a = a ∧ sLn σ nw p W a = l) : zend (sLn σ nw p W) (kn σ p) a = kn σ p → l + 1 = sLCn σ nw p W := fun q => by
  have := (zend_ln (sLn_step σ nw p W) ha).2 q
  have := (hal ha).2
  unfold sLCn
  rw [if_neg (show ¬ kn σ p = 0 by omega)]
  omega
/-- .. and of a column: each box a line -/
theorem sLH_col {σ : zS} {nh : Nat → Int32} {p : Nat} {W : Int32} {i : Nat} (hcol : sSt σ p 0 = 1) (hi : i < kn σ p) (hnn : 0 ≤ sO σ nh (kd σ p i)) : sLH σ nh p W i = sO σ nh (kd σ p i) := by
  unfold sLH
  rw [zmx_seg (a := i) (z := i + 1) (by omega) hi (fun j hj => if_neg (by rw [sLn_col hcol]; omega)) (fun j h1 h2 => if_neg (by rw [sLn_col hcol]; omega)), show i + 1 - i = 1 by omega]
  show (if (0 : Int32) < (if sLn σ (sNW σ) p W (i + 0) = i then _ else _) then (if sLn σ (sNW σ) p W (i + 0) = i then sO σ nh (kd σ p (i + 0)) else 0) else (0 : Int32)) = _
  rw [if_pos (show sLn σ (sNW σ) p W (i + 0) = i from sLn_col hcol i)]
  show (if (0 : Int32) < sO σ nh (kd σ p i) then sO σ nh (kd σ p i) else 0) = _
  split
  · rfl
  · rename_i h
    exact (Int32.le_antisymm (Int32.not_lt.mp h) hnn).symm
theorem sO_nn {σ : zS} (hw : sWF σ) {nh : Nat → Int32} {b : Nat} (he : sEx σ b = true) (hn : 0 ≤ (nh b).toInt ∧ (nh b).toInt ≤ 10000) : (sO σ nh b).toInt = (nh b).toInt + 2 * (sSt σ b 6).toInt := by
  have h := (sSt_p hw he).2.2.1
  unfold sO
  have e2 : (2 * sSt σ b 6).toInt = 2 * (sSt σ b 6).toInt := by
    rw [Int32.toInt_mul]
    apply Int.bmod_eq_of_le
    · show -(2 ^ 32 : Int) / 2 ≤ 2 * _
      omega
    · show (2 : Int) * _ < _
      omega
  rw [Int32.toInt_add, e2]
  apply Int.bmod_eq_of_le <;> omega
theorem sCH_line {σ : zS} (hw : sWF σ) {nh : Nat → Int32} {b : Nat} (hb : zbd σ b nh) (hc : sCon σ b = true) : zgap (nI (sLCn σ (sNW σ) b (sWD σ b))) (sSt σ b 4) + zsum (sLH σ nh b (sWD σ b)) (sLCn σ (sNW σ) b (sWD σ b)) = sCH σ nh b := by
  unfold sCH
  rw [if_pos hc, Int32.add_comm]
  split
  · rename_i hcol
    rw [sLCn_col hcol]
    congr 1
    exact zsum_congr (fun i hi => sLH_col hcol hi (by
      have hm := kd_mem hi
      rw [zi_le, sO_nn hw (sKids_lt hw hm).2.2.1 (hb _ hm)]
      have := (sSt_p hw (sKids_lt hw hm).2.2.1).2.2.1
      have := hb _ hm
      have e0 : (0 : Int32).toInt = 0 := rfl
      omega))
  · rfl
end ZHI
