theorem ck119 : mt119.all (fun e => chk 10 cX10_gate e) = true := by decide +kernel
theorem ck120 : mt120.all (fun e => chk 10 cX10_isGate e) = true := by decide +kernel
theorem ck121 : mt121.all (fun e => chk 10 cX10_isLine e) = true := by decide +kernel
theorem ck125 : mt125.all (fun e => chk 10 cX10_gateIs e) = true := by decide +kernel
theorem ck126 : mt126.all (fun e => chk 10 cX10_ahead e) = true := by decide +kernel
theorem ck127 : mt127.all (fun e => chk 10 cX10_circuitIs e) = true := by decide +kernel
theorem ck128 : mt128.all (fun e => chk 10 cX10_circuitHas e) = true := by decide +kernel
theorem ck129 : mt129.all (fun e => chk 10 cX10_shorter e) = true := by decide +kernel
theorem ck130 : mt130.all (fun e => chk 10 cX10_shortest e) = true := by decide +kernel
theorem ck131 : mt131.all (fun e => chk 10 cX10_isState e) = true := by decide +kernel
theorem ck132 : mt132.all (fun e => chk 10 cX10_amplitude e) = true := by decide +kernel
theorem ck133 : mt133.all (fun e => chk 10 cX10_chance e) = true := by decide +kernel
theorem ck134 : mt134.all (fun e => chk 10 cX10_spread e) = true := by decide +kernel
theorem ck135 : mt135.all (fun e => chk 10 cX10_same e) = true := by decide +kernel
theorem ck136 : mt136.all (fun e => chk 10 cX10_passBoth e) = true := by decide +kernel
theorem ck137 : mt137.all (fun e => chk 10 cX10_turnsAlike e) = true := by decide +kernel
theorem ck138 : mt138.all (fun e => chk 10 cX10_ordersAlike e) = true := by decide +kernel
theorem ck139 : mt139.all (fun e => chk 10 cX10_lowestOf e) = true := by decide +kernel
theorem ck160 : mt160.all (fun e => chk 10 cX10_keep e) = true := by decide +kernel
theorem ck161 : mt161.all (fun e => chk 10 cX10_undo e) = true := by decide +kernel
theorem ck162 : mt162.all (fun e => chk 10 cX10_count e) = true := by decide +kernel
theorem ck163 : mt163.all (fun e => chk 12 cL_tell e) = true := by decide +kernel
theorem ck164 : mt164.all (fun e => chk 12 cL_next e) = true := by decide +kernel
theorem ck165 : mt165.all (fun e => chk 12 cL_drawn e) = true := by decide +kernel
theorem ck166 : mt166.all (fun e => chk 12 cL_circuit e) = true := by decide +kernel
theorem ck167 : mt167.all (fun e => chk 12 cL_all e) = true := by decide +kernel
theorem ck168 : mt168.all (fun e => chk 12 cL_same e) = true := by decide +kernel
theorem ck169 : mt169.all (fun e => chk 12 cL_chances e) = true := by decide +kernel
theorem ck170 : mt170.all (fun e => chk 12 cL_ahead e) = true := by decide +kernel
theorem ck171 : mt171.all (fun e => chk 12 cL_shorter e) = true := by decide +kernel
theorem ck284 : mt284.all (fun e => chk 14 Lib.Math.max.code e) = true := by decide +kernel
theorem ck285 : mt285.all (fun e => chk 14 Lib.Math.min.code e) = true := by decide +kernel
theorem ck286 : mt286.all (fun e => chk 15 cJ7_fill_d0a16 e) = true := by decide +kernel
theorem ck287 : mt287.all (fun e => chk 15 cJ7_fill_53178 e) = true := by decide +kernel
theorem ckl0 : ((mt288.drop 0).take 40).all (fun e => chk 12 code e) = true := by decide +kernel
theorem ckl1 : ((mt288.drop 40).take 40).all (fun e => chk 12 code e) = true := by decide +kernel
theorem ckl2 : ((mt288.drop 80).take 40).all (fun e => chk 12 code e) = true := by decide +kernel
theorem ckl3 : ((mt288.drop 120).take 40).all (fun e => chk 12 code e) = true := by decide +kernel
theorem ckl4 : ((mt288.drop 160).take 40).all (fun e => chk 12 code e) = true := by decide +kernel
theorem ckl5 : ((mt288.drop 200).take 40).all (fun e => chk 12 code e) = true := by decide +kernel
theorem ck288 : mt288.all (fun e => chk 12 code e) = true := by
  have hs : mt288 = (mt288.drop 0).take 40 ++ (mt288.drop 40).take 40 ++ (mt288.drop 80).take 40 ++ (mt288.drop 120).take 40 ++ (mt288.drop 160).take 40 ++ (mt288.drop 200).take 40 := by decide +kernel
  rw [hs]
  simp only [List.all_append, ckl0, ckl1, ckl2, ckl3, ckl4, ckl5, Bool.and_self]
theorem ck289 : mt289.all (fun e => chk 10 cX10_putAt e) = true := by decide +kernel
theorem ck1 : mt1.all (fun e => chk 99 ⟨#[]⟩ e) = true := rfl
theorem ck6 : mt6.all (fun e => chk 99 ⟨#[]⟩ e) = true := rfl
theorem ck7 : mt7.all (fun e => chk 99 ⟨#[]⟩ e) = true := rfl
theorem ck9 : mt9.all (fun e => chk 99 ⟨#[]⟩ e) = true := rfl
theorem ck10 : mt10.all (fun e => chk 99 ⟨#[]⟩ e) = true := rfl
theorem ck11 : mt11.all (fun e => chk 99 ⟨#[]⟩ e) = true := rfl
theorem ck26 : mt26.all (fun e => chk 99 ⟨#[]⟩ e) = true := rfl
theorem ck27 : mt27.all (fun e => chk 99 ⟨#[]⟩ e) = true := rfl
theorem ck28 : mt28.all (fun e => chk 99 ⟨#[]⟩ e) = true := rfl
theorem ck29 : mt29.all (fun e => chk 99 ⟨#[]⟩ e) = true := rfl
theorem ck30 : mt30.all (fun e => chk 99 ⟨#[]⟩ e) = true := rfl
theorem ck31 : mt31.all (fun e => chk 99 ⟨#[]⟩ e) = true := rfl
theorem ck32 : mt32.all (fun e => chk 99 ⟨#[]⟩ e) = true := rfl
theorem ck33 : mt33.all (fun e => chk 99 ⟨#[]⟩ e) = true := rfl
theorem ck34 : mt34.all (fun e => chk 99 ⟨#[]⟩ e) = true := rfl
theorem ck35 : mt35.all (fun e => chk 99 ⟨#[]⟩ e) = true := rfl
theorem ck36 : mt36.all (fun e => chk 99 ⟨#[]⟩ e) = true := rfl
theorem ck38 : mt38.all (fun e => chk 99 ⟨#[]⟩ e) = true := rfl
theorem ck39 : mt39.all (fun e => chk 99 ⟨#[]⟩ e) = true := rfl
theorem ck40 : mt40.all (fun e => chk 99 ⟨#[]⟩ e) = true := rfl
theorem ck41 : mt41.all (fun e => chk 99 ⟨#[]⟩ e) = true := rfl
theorem ck42 : mt42.all (fun e => chk 99 ⟨#[]⟩ e) = true := rfl
theorem ck43 : mt43.all (fun e => chk 99 ⟨#[]⟩ e) = true := rfl
theorem ck66 : mt66.all (fun e => chk 99 ⟨#[]⟩ e) = true := rfl
theorem ck78 : mt78.all (fun e => chk 99 ⟨#[]⟩ e) = true := rfl
theorem ck79 : mt79.all (fun e => chk 99 ⟨#[]⟩ e) = true := rfl
theorem ck81 : mt81.all (fun e => chk 99 ⟨#[]⟩ e) = true := rfl
theorem ck82 : mt82.all (fun e => chk 99 ⟨#[]⟩ e) = true := rfl
theorem ck83 : mt83.all (fun e => chk 99 ⟨#[]⟩ e) = true := rfl
theorem ck84 : mt84.all (fun e => chk 99 ⟨#[]⟩ e) = true := rfl
theorem ck86 : mt86.all (fun e => chk 99 ⟨#[]⟩ e) = true := rfl
theorem ck87 : mt87.all (fun e => chk 99 ⟨#[]⟩ e) = true := rfl
