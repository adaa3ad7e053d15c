section ZLI1
set_option maxHeartbeats 4000000 in
set_option maxRecDepth 100000 in
theorem kL_limit (lx : Launch) (g : zG) (N : Nat) (I : Nat → Nat → Int32) (P : Nat → Nat → Option Nat) (J : Nat → Nat → Int64) (x lo hi : Int32) : z_Ct lx yL_limit (zT yL_limit cL_limit 4 (Option.some FieldType.int)) ({ frames := 0, cells := 0, slots := 0, locals := 0 } : Room) g N I P J [.int x, .int lo, .int hi] (zMu (some (.int (zlim x lo hi))) I P J) 0 0 := by
  refine z_of (by decide) (Nat.le_of_ble_eq_true rfl) (lv0 := [(0, .int x), (1, .int lo), (2, .int hi)]) rfl ?_
  intro C hlx hC hE hRm
  have hC : zX C cL_limit 4 RL (zT yL_limit cL_limit 4 (Option.some FieldType.int)) g N := hC
  refine z_iload_n (pc := 0) hC 0 dL_limit_0 rfl rfl ?_
  refine z_iload_n (pc := 1) hC 2 dL_limit_1 rfl rfl ?_
  refine z_icmp_ge (pc := 2) (tgt := 9) hC dL_limit_2 (by decide) (fun h2 => ?_) (fun h2 => ?_)
  · skip
    have g2 := Int32.not_lt.mpr h2
    refine z_iload_n (pc := 9) hC 2 dL_limit_9 rfl rfl ?_
    refine z_istore_n (pc := 10) (lv' := [(3, .int hi), (0, .int x), (1, .int lo), (2, .int hi)]) hC dL_limit_10 rfl (by decide) rfl ?_
    refine z_iload_n (pc := 11) hC 0 dL_limit_11 rfl rfl ?_
    refine z_iload_n (pc := 12) hC 2 dL_limit_12 rfl rfl ?_
    refine z_icmp_le (pc := 13) (tgt := 20) hC dL_limit_13 (by decide) (fun h13 => ?_) (fun h13 => ?_)
    · skip
      have g13 := Int32.not_lt.mpr h13
      refine z_iload_n (pc := 20) hC 2 dL_limit_20 rfl rfl ?_
      exact z_iret (pc := 21) hC hE dL_limit_21 (zMu_i (by simp [zlim, h2, g2, h13, g13]))
    · skip
      have g13 := Int32.not_le.mp h13
      refine z_iload_n (pc := 16) hC 0 dL_limit_16 rfl rfl ?_
      refine z_goto (pc := 17) (tgt := 21) hC dL_limit_17 (by decide) ?_
      exact z_iret (pc := 21) hC hE dL_limit_21 (zMu_i (by simp [zlim, h2, g2, h13, g13]))
  · skip
    have g2 := Int32.not_le.mp h2
    refine z_iload_n (pc := 5) hC 0 dL_limit_5 rfl rfl ?_
    refine z_goto (pc := 6) (tgt := 10) hC dL_limit_6 (by decide) ?_
    refine z_istore_n (pc := 10) (lv' := [(3, .int x), (0, .int x), (1, .int lo), (2, .int hi)]) hC dL_limit_10 rfl (by decide) rfl ?_
    refine z_iload_n (pc := 11) hC 0 dL_limit_11 rfl rfl ?_
    refine z_iload_n (pc := 12) hC 2 dL_limit_12 rfl rfl ?_
    refine z_icmp_le (pc := 13) (tgt := 20) hC dL_limit_13 (by decide) (fun h13 => ?_) (fun h13 => ?_)
    · skip
      have g13 := Int32.not_lt.mpr h13
      refine z_iload_n (pc := 20) hC 2 dL_limit_20 rfl rfl ?_
      exact z_iret (pc := 21) hC hE dL_limit_21 (zMu_i (by simp [zlim, h2, g2, h13, g13]))
    · skip
      have g13 := Int32.not_le.mp h13
      refine z_iload_n (pc := 16) hC 0 dL_limit_16 rfl rfl ?_
      refine z_goto (pc := 17) (tgt := 21) hC dL_limit_17 (by decide) ?_
      exact z_iret (pc := 21) hC hE dL_limit_21 (zMu_i (by simp [zlim, h2, g2, h13, g13]))
end ZLI1
