set_option linter.all false
/-! the tables hold what the machine has -/
def xchk (Tc : List (List Cond)) (C : String) (T : u_T) (N : Nat) (ps : List Nat) : Bool := (List.range N).all (fun k => xwg Tc (ps.getD k 0) (u_lay C T k))
theorem xchk_of {Tc : List (List Cond)} {C : String} {T : u_T} {N : Nat} {ps : List Nat} (h : xchk Tc C T N ps = true) : ∀ w ∈ u_ws C T N, w ∈ xTs Tc := by
  intro w hw
  obtain ⟨k, hk, rfl⟩ := List.mem_map.mp hw
  exact xwg_of (List.all_eq_true.mp h k hk)
theorem xcl_0 : xTb (xTs xTc) RX0 TX0 13 := ⟨xchk_of (ps := [9288, 9290, 9292, 9294, 9296, 9298, 9300, 9302, 9304, 9306, 9308, 9310, 9312]) (by decide +kernel), ⟨tyX0, tyX0_ok⟩, nmX0⟩
theorem xcl_1 : xTb (xTs xTc) RX1 TX1 14 := ⟨xchk_of (ps := [10283, 10285, 10287, 10289, 10291, 10293, 10295, 10297, 10299, 10301, 10303, 10305, 10307, 10309]) (by decide +kernel), ⟨tyX1, tyX1_ok⟩, nmX1⟩
theorem xcl_2 : xTb (xTs xTc) RX2 TX2 10 := ⟨xchk_of (ps := [9449, 9451, 9453, 9455, 10241, 10243, 10245, 10247, 10249, 10251]) (by decide +kernel), ⟨tyX2, tyX2_ok⟩, nmX2⟩
theorem xcl_3 : xTb (xTs xTc) RX3 TX3 2 := ⟨xchk_of (ps := [11274, 11276]) (by decide +kernel), ⟨tyX3, tyX3_ok⟩, nmX3⟩
theorem xcl_4 : xTb (xTs xTc) RX4 TX4 16 := ⟨xchk_of (ps := [10354, 10356, 10358, 10360, 10362, 10364, 10366, 10368, 10370, 10372, 10374, 10376, 10378, 10380, 10382, 10384]) (by decide +kernel), ⟨tyX4, tyX4_ok⟩, nmX4⟩
theorem xcl_5 : xTb (xTs xTc) RX5 TX5 3 := ⟨xchk_of (ps := [10442, 10444, 10446]) (by decide +kernel), ⟨tyX5, tyX5_ok⟩, nmX5⟩
theorem xcl_6 : xTb (xTs xTc) RX6 TX6 5 := ⟨xchk_of (ps := [11292, 11294, 11296, 11298, 11300]) (by decide +kernel), ⟨tyX6, tyX6_ok⟩, nmX6⟩
theorem xcl_7 : xTb (xTs xTc) RX7 TX7 5 := ⟨xchk_of (ps := [9413, 9415, 9417, 9419, 9421]) (by decide +kernel), ⟨tyX7, tyX7_ok⟩, nmX7⟩
theorem xcl_8 : xTb (xTs xTc) RX8 TX8 8 := ⟨xchk_of (ps := [10465, 10467, 10469, 10471, 10473, 10475, 10477, 10479]) (by decide +kernel), ⟨tyX8, tyX8_ok⟩, nmX8⟩
theorem xcl_9 : xTb (xTs xTc) RX9 TX9 11 := ⟨xchk_of (ps := [10409, 10411, 10413, 10415, 10417, 10419, 10421, 10423, 10425, 10427, 10429]) (by decide +kernel), ⟨tyX9, tyX9_ok⟩, nmX9⟩
theorem xcl_10 : xTb (xTs xTc) RX10 TX10 14 := ⟨xchk_of (ps := [9362, 9364, 9366, 9368, 9370, 9372, 9374, 9376, 9378, 9380, 9382, 9384, 9386, 9388]) (by decide +kernel), ⟨tyX10, tyX10_ok⟩, nmX10⟩
theorem xcl_11 : xTb (xTs xTc) RX11 TX11 16 := ⟨xchk_of (ps := [11319, 11321, 11323, 11325, 11327, 11329, 11331, 11333, 11335, 11337, 11339, 11341, 11343, 11345, 11347, 11349]) (by decide +kernel), ⟨tyX11, tyX11_ok⟩, nmX11⟩
theorem xcl_12 : xTb (xTs xTc) RX12 TX12 40 := ⟨xchk_of (ps := [16400, 16402, 16404, 16406, 16408, 16410, 16412, 16414, 16416, 16418, 16420, 16422, 16424, 16426, 16428, 16430, 16432, 16434, 16436, 16438, 16440, 16442, 16444, 16446, 16448, 16450, 16452, 16454, 16456, 16458, 16460, 16462, 16464, 16466, 16468, 16470, 16472, 16474, 16476, 16478]) (by decide +kernel), ⟨tyX12, tyX12_ok⟩, nmX12⟩
