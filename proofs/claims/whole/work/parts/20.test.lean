section
variable {ad : zA} {S : zSh} {I X : zI} {Y : zY} {sz : Nat}
theorem c_X3_has {k c : Nat} {row : Int32} (hT : S 3 k = some (.inr (.inl (3, [.inl (zr 3 c), .inr none, .inr none])))) :
    zC0 mX3_has 0 [zr 3 k, zi row] (some (zi (zb (0 ≤ row ∧ row < I 3 k 2) inferInstance))) ad S I X Y sz I X Y := by
  refine zgo (own := RX3) (k := 0) (by decide +kernel) rfl rfl rfl (fun C hC hnm hE => ?_)
  refine z_iload_n hC dX3_has_0 rfl ?_
  refine z_if_lt hC dX3_has_1 (tgt := 16) (by decide) (fun c1 => ?_) (fun c1 => ?_)
  · refine z_iconst hC dX3_has_16 (v := 0) rfl ?_
    refine z_zret hC dX3_has_17 rfl ?_
    exact hE.to (by grind [zb]) rfl rfl rfl
  refine z_iload_n hC dX3_has_4 rfl ?_
  refine z_aload_n hC dX3_has_5 rfl ?_
  refine z_getI hC dX3_has_6 hT zfX3_25 rfl ?_
  refine z_icmp_ge hC dX3_has_9 (tgt := 16) (by decide) (fun c2 => ?_) (fun c2 => ?_)
  · refine z_iconst hC dX3_has_16 (v := 0) rfl ?_
    refine z_zret hC dX3_has_17 rfl ?_
    exact hE.to (by grind [zb]) rfl rfl rfl
  refine z_iconst hC dX3_has_12 (v := 1) rfl ?_
  refine z_goto hC dX3_has_13 (tgt := 17) (by decide) ?_
  refine z_zret hC dX3_has_17 rfl ?_
  exact hE.to (by grind [zb]) rfl rfl rfl
theorem c_X3_cellOf {k c : Nat} {row col : Int32} (hT : S 3 k = some (.inr (.inl (3, [.inl (zr 3 c), .inr none, .inr none])))) :
    zC0 mX3_cellOf 1 [zr 3 k, zi row, zi col] (some (zi (if (0 ≤ row ∧ row < I 3 k 2) ∧ 0 ≤ col ∧ col < I 3 k 1 then row * I 3 k 1 + col else -1))) ad S I X Y sz I X Y := by
  refine zgo (own := RX3) (k := 0) (by decide +kernel) rfl rfl rfl (fun C hC hnm hE => ?_)
  refine z_aload_n hC dX3_cellOf_0 rfl ?_
  refine z_iload_n hC dX3_cellOf_1 rfl ?_
  refine zVv hC dX3_cellOf_2 zlX3_44 (c_X3_has hT) hT rfl rfl rfl rfl rfl rfl ?_
  refine z_ifb_eq hC dX3_cellOf_5 (tgt := 31) (by decide) (fun c1 => ?_) (fun c1 => ?_)
  · refine z_iconst hC dX3_cellOf_31 (v := -1) rfl ?_
    refine z_iret hC dX3_cellOf_32 ?_
    exact hE.to (by grind) rfl rfl rfl
  sorry
end
