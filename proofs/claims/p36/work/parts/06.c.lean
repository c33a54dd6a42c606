theorem ck137 : mt137.all (fun e => chk 10 cX10_turnsAlike e) = true := by decide +kernel
theorem ck138 : mt138.all (fun e => chk 10 cX10_ordersAlike e) = true := by decide +kernel
theorem ck139 : mt139.all (fun e => chk 10 cX10_lowestOf e) = true := by decide +kernel
theorem ck160 : mt160.all (fun e => chk 10 cX10_keep e) = true := by decide +kernel
theorem ck161 : mt161.all (fun e => chk 10 cX10_undo e) = true := by decide +kernel
theorem ck162 : mt162.all (fun e => chk 10 cX10_count e) = true := by decide +kernel
theorem ck163 : mt163.all (fun e => chk 12 cL_tell e) = true := by decide +kernel
theorem ck164 : mt164.all (fun e => chk 12 cL_next e) = true := by decide +kernel
theorem ck165 : mt165.all (fun e => chk 12 cL_drawn e) = true := by decide +kernel
theorem ckl166_0 : ((mt166.drop 0).take 40).all (fun e => chk 12 cL_circuit e) = true := by decide +kernel
theorem ckl166_1 : ((mt166.drop 40).take 40).all (fun e => chk 12 cL_circuit e) = true := by decide +kernel
theorem ckl166_2 : ((mt166.drop 80).take 40).all (fun e => chk 12 cL_circuit e) = true := by decide +kernel
theorem ckl166_3 : ((mt166.drop 120).take 40).all (fun e => chk 12 cL_circuit e) = true := by decide +kernel
theorem ckl166_4 : ((mt166.drop 160).take 40).all (fun e => chk 12 cL_circuit e) = true := by decide +kernel
theorem ckl166_5 : ((mt166.drop 200).take 40).all (fun e => chk 12 cL_circuit e) = true := by decide +kernel
theorem ckl166_6 : ((mt166.drop 240).take 40).all (fun e => chk 12 cL_circuit e) = true := by decide +kernel
theorem ckl166_7 : ((mt166.drop 280).take 40).all (fun e => chk 12 cL_circuit e) = true := by decide +kernel
theorem ckl166_8 : ((mt166.drop 320).take 40).all (fun e => chk 12 cL_circuit e) = true := by decide +kernel
theorem ckl166_9 : ((mt166.drop 360).take 40).all (fun e => chk 12 cL_circuit e) = true := by decide +kernel
theorem ckl166_10 : ((mt166.drop 400).take 40).all (fun e => chk 12 cL_circuit e) = true := by decide +kernel
theorem ckl166_11 : ((mt166.drop 440).take 40).all (fun e => chk 12 cL_circuit e) = true := by decide +kernel
theorem ckl166_12 : ((mt166.drop 480).take 40).all (fun e => chk 12 cL_circuit e) = true := by decide +kernel
theorem ckl166_13 : ((mt166.drop 520).take 40).all (fun e => chk 12 cL_circuit e) = true := by decide +kernel
theorem ckl166_14 : ((mt166.drop 560).take 40).all (fun e => chk 12 cL_circuit e) = true := by decide +kernel
theorem ckl166_15 : ((mt166.drop 600).take 40).all (fun e => chk 12 cL_circuit e) = true := by decide +kernel
theorem ckl166_16 : ((mt166.drop 640).take 40).all (fun e => chk 12 cL_circuit e) = true := by decide +kernel
theorem ckl166_17 : ((mt166.drop 680).take 40).all (fun e => chk 12 cL_circuit e) = true := by decide +kernel
theorem ckl166_18 : ((mt166.drop 720).take 40).all (fun e => chk 12 cL_circuit e) = true := by decide +kernel
theorem ckl166_19 : ((mt166.drop 760).take 40).all (fun e => chk 12 cL_circuit e) = true := by decide +kernel
theorem ckl166_20 : ((mt166.drop 800).take 40).all (fun e => chk 12 cL_circuit e) = true := by decide +kernel
theorem ckl166_21 : ((mt166.drop 840).take 40).all (fun e => chk 12 cL_circuit e) = true := by decide +kernel
theorem ckl166_22 : ((mt166.drop 880).take 40).all (fun e => chk 12 cL_circuit e) = true := by decide +kernel
theorem ckl166_23 : ((mt166.drop 920).take 40).all (fun e => chk 12 cL_circuit e) = true := by decide +kernel
theorem ckl166_24 : ((mt166.drop 960).take 40).all (fun e => chk 12 cL_circuit e) = true := by decide +kernel
theorem ckl166_25 : ((mt166.drop 1000).take 40).all (fun e => chk 12 cL_circuit e) = true := by decide +kernel
theorem ckl166_26 : ((mt166.drop 1040).take 40).all (fun e => chk 12 cL_circuit e) = true := by decide +kernel
theorem ckl166_27 : ((mt166.drop 1080).take 40).all (fun e => chk 12 cL_circuit e) = true := by decide +kernel
theorem ckl166_28 : ((mt166.drop 1120).take 40).all (fun e => chk 12 cL_circuit e) = true := by decide +kernel
theorem ckl166_29 : ((mt166.drop 1160).take 40).all (fun e => chk 12 cL_circuit e) = true := by decide +kernel
theorem ckl166_30 : ((mt166.drop 1200).take 40).all (fun e => chk 12 cL_circuit e) = true := by decide +kernel
theorem ckl166_31 : ((mt166.drop 1240).take 40).all (fun e => chk 12 cL_circuit e) = true := by decide +kernel
theorem ckl166_32 : ((mt166.drop 1280).take 40).all (fun e => chk 12 cL_circuit e) = true := by decide +kernel
theorem ck166 : mt166.all (fun e => chk 12 cL_circuit e) = true := (ckallk (l := mt166) (a := 0) (b := 40) rfl ckl166_0 (ckallk (l := mt166) (a := 40) (b := 80) rfl ckl166_1 (ckallk (l := mt166) (a := 80) (b := 120) rfl ckl166_2 (ckallk (l := mt166) (a := 120) (b := 160) rfl ckl166_3 (ckallk (l := mt166) (a := 160) (b := 200) rfl ckl166_4 (ckallk (l := mt166) (a := 200) (b := 240) rfl ckl166_5 (ckallk (l := mt166) (a := 240) (b := 280) rfl ckl166_6 (ckallk (l := mt166) (a := 280) (b := 320) rfl ckl166_7 (ckallk (l := mt166) (a := 320) (b := 360) rfl ckl166_8 (ckallk (l := mt166) (a := 360) (b := 400) rfl ckl166_9 (ckallk (l := mt166) (a := 400) (b := 440) rfl ckl166_10 (ckallk (l := mt166) (a := 440) (b := 480) rfl ckl166_11 (ckallk (l := mt166) (a := 480) (b := 520) rfl ckl166_12 (ckallk (l := mt166) (a := 520) (b := 560) rfl ckl166_13 (ckallk (l := mt166) (a := 560) (b := 600) rfl ckl166_14 (ckallk (l := mt166) (a := 600) (b := 640) rfl ckl166_15 (ckallk (l := mt166) (a := 640) (b := 680) rfl ckl166_16 (ckallk (l := mt166) (a := 680) (b := 720) rfl ckl166_17 (ckallk (l := mt166) (a := 720) (b := 760) rfl ckl166_18 (ckallk (l := mt166) (a := 760) (b := 800) rfl ckl166_19 (ckallk (l := mt166) (a := 800) (b := 840) rfl ckl166_20 (ckallk (l := mt166) (a := 840) (b := 880) rfl ckl166_21 (ckallk (l := mt166) (a := 880) (b := 920) rfl ckl166_22 (ckallk (l := mt166) (a := 920) (b := 960) rfl ckl166_23 (ckallk (l := mt166) (a := 960) (b := 1000) rfl ckl166_24 (ckallk (l := mt166) (a := 1000) (b := 1040) rfl ckl166_25 (ckallk (l := mt166) (a := 1040) (b := 1080) rfl ckl166_26 (ckallk (l := mt166) (a := 1080) (b := 1120) rfl ckl166_27 (ckallk (l := mt166) (a := 1120) (b := 1160) rfl ckl166_28 (ckallk (l := mt166) (a := 1160) (b := 1200) rfl ckl166_29 (ckallk (l := mt166) (a := 1200) (b := 1240) rfl ckl166_30 (ckallk (l := mt166) (a := 1240) (b := 1280) rfl ckl166_31 (ckallk (l := mt166) (a := 1280) (b := 1320) rfl ckl166_32 (by decide +kernel))))))))))))))))))))))))))))))))))
theorem ck167 : mt167.all (fun e => chk 12 cL_all e) = true := by decide +kernel
theorem ck168 : mt168.all (fun e => chk 12 cL_same e) = true := by decide +kernel
theorem ckl169_0 : ((mt169.drop 0).take 40).all (fun e => chk 12 cL_chances e) = true := by decide +kernel
theorem ckl169_1 : ((mt169.drop 40).take 40).all (fun e => chk 12 cL_chances e) = true := by decide +kernel
theorem ckl169_2 : ((mt169.drop 80).take 40).all (fun e => chk 12 cL_chances e) = true := by decide +kernel
theorem ckl169_3 : ((mt169.drop 120).take 40).all (fun e => chk 12 cL_chances e) = true := by decide +kernel
theorem ckl169_4 : ((mt169.drop 160).take 40).all (fun e => chk 12 cL_chances e) = true := by decide +kernel
theorem ckl169_5 : ((mt169.drop 200).take 40).all (fun e => chk 12 cL_chances e) = true := by decide +kernel
theorem ck169 : mt169.all (fun e => chk 12 cL_chances e) = true := (ckallk (l := mt169) (a := 0) (b := 40) rfl ckl169_0 (ckallk (l := mt169) (a := 40) (b := 80) rfl ckl169_1 (ckallk (l := mt169) (a := 80) (b := 120) rfl ckl169_2 (ckallk (l := mt169) (a := 120) (b := 160) rfl ckl169_3 (ckallk (l := mt169) (a := 160) (b := 200) rfl ckl169_4 (ckallk (l := mt169) (a := 200) (b := 240) rfl ckl169_5 (by decide +kernel)))))))
theorem ckl170_0 : ((mt170.drop 0).take 40).all (fun e => chk 12 cL_ahead e) = true := by decide +kernel
theorem ckl170_1 : ((mt170.drop 40).take 40).all (fun e => chk 12 cL_ahead e) = true := by decide +kernel
theorem ckl170_2 : ((mt170.drop 80).take 40).all (fun e => chk 12 cL_ahead e) = true := by decide +kernel
theorem ckl170_3 : ((mt170.drop 120).take 40).all (fun e => chk 12 cL_ahead e) = true := by decide +kernel
theorem ckl170_4 : ((mt170.drop 160).take 40).all (fun e => chk 12 cL_ahead e) = true := by decide +kernel
theorem ckl170_5 : ((mt170.drop 200).take 40).all (fun e => chk 12 cL_ahead e) = true := by decide +kernel
theorem ckl170_6 : ((mt170.drop 240).take 40).all (fun e => chk 12 cL_ahead e) = true := by decide +kernel
theorem ckl170_7 : ((mt170.drop 280).take 40).all (fun e => chk 12 cL_ahead e) = true := by decide +kernel
theorem ckl170_8 : ((mt170.drop 320).take 40).all (fun e => chk 12 cL_ahead e) = true := by decide +kernel
theorem ckl170_9 : ((mt170.drop 360).take 40).all (fun e => chk 12 cL_ahead e) = true := by decide +kernel
theorem ckl170_10 : ((mt170.drop 400).take 40).all (fun e => chk 12 cL_ahead e) = true := by decide +kernel
theorem ck170 : mt170.all (fun e => chk 12 cL_ahead e) = true := (ckallk (l := mt170) (a := 0) (b := 40) rfl ckl170_0 (ckallk (l := mt170) (a := 40) (b := 80) rfl ckl170_1 (ckallk (l := mt170) (a := 80) (b := 120) rfl ckl170_2 (ckallk (l := mt170) (a := 120) (b := 160) rfl ckl170_3 (ckallk (l := mt170) (a := 160) (b := 200) rfl ckl170_4 (ckallk (l := mt170) (a := 200) (b := 240) rfl ckl170_5 (ckallk (l := mt170) (a := 240) (b := 280) rfl ckl170_6 (ckallk (l := mt170) (a := 280) (b := 320) rfl ckl170_7 (ckallk (l := mt170) (a := 320) (b := 360) rfl ckl170_8 (ckallk (l := mt170) (a := 360) (b := 400) rfl ckl170_9 (ckallk (l := mt170) (a := 400) (b := 440) rfl ckl170_10 (by decide +kernel))))))))))))
theorem ckl171_0 : ((mt171.drop 0).take 40).all (fun e => chk 12 cL_shorter e) = true := by decide +kernel
theorem ckl171_1 : ((mt171.drop 40).take 40).all (fun e => chk 12 cL_shorter e) = true := by decide +kernel
theorem ckl171_2 : ((mt171.drop 80).take 40).all (fun e => chk 12 cL_shorter e) = true := by decide +kernel
theorem ckl171_3 : ((mt171.drop 120).take 40).all (fun e => chk 12 cL_shorter e) = true := by decide +kernel
theorem ckl171_4 : ((mt171.drop 160).take 40).all (fun e => chk 12 cL_shorter e) = true := by decide +kernel
theorem ckl171_5 : ((mt171.drop 200).take 40).all (fun e => chk 12 cL_shorter e) = true := by decide +kernel
theorem ckl171_6 : ((mt171.drop 240).take 40).all (fun e => chk 12 cL_shorter e) = true := by decide +kernel
theorem ck171 : mt171.all (fun e => chk 12 cL_shorter e) = true := (ckallk (l := mt171) (a := 0) (b := 40) rfl ckl171_0 (ckallk (l := mt171) (a := 40) (b := 80) rfl ckl171_1 (ckallk (l := mt171) (a := 80) (b := 120) rfl ckl171_2 (ckallk (l := mt171) (a := 120) (b := 160) rfl ckl171_3 (ckallk (l := mt171) (a := 160) (b := 200) rfl ckl171_4 (ckallk (l := mt171) (a := 200) (b := 240) rfl ckl171_5 (ckallk (l := mt171) (a := 240) (b := 280) rfl ckl171_6 (by decide +kernel))))))))
theorem ck284 : mt284.all (fun e => chk 14 Lib.Math.max.code e) = true := by decide +kernel
theorem ck285 : mt285.all (fun e => chk 14 Lib.Math.min.code e) = true := by decide +kernel
theorem ck286 : mt286.all (fun e => chk 15 cJ7_fill_d0a16 e) = true := by decide +kernel
theorem ck287 : mt287.all (fun e => chk 15 cJ7_fill_53178 e) = true := by decide +kernel
theorem ckl0 : ((mt288.drop 0).take 40).all (fun e => chk 12 code e) = true := by decide +kernel
theorem ckl1 : ((mt288.drop 40).take 40).all (fun e => chk 12 code e) = true := by decide +kernel
theorem ckl2 : ((mt288.drop 80).take 40).all (fun e => chk 12 code e) = true := by decide +kernel
theorem ckl3 : ((mt288.drop 120).take 40).all (fun e => chk 12 code e) = true := by decide +kernel
theorem ckl4 : ((mt288.drop 160).take 40).all (fun e => chk 12 code e) = true := by decide +kernel
theorem ckl5 : ((mt288.drop 200).take 40).all (fun e => chk 12 code e) = true := by decide +kernel
theorem ck288 : mt288.all (fun e => chk 12 code e) = true := by
  have hs : mt288 = (mt288.drop 0).take 40 ++ (mt288.drop 40).take 40 ++ (mt288.drop 80).take 40 ++ (mt288.drop 120).take 40 ++ (mt288.drop 160).take 40 ++ (mt288.drop 200).take 40 := by decide +kernel
  rw [hs]
  simp only [List.all_append, ckl0, ckl1, ckl2, ckl3, ckl4, ckl5, Bool.and_self]
theorem ck289 : mt289.all (fun e => chk 10 cX10_putAt e) = true := by decide +kernel
theorem ck1 : mt1.all (fun e => chk 99 ⟨#[]⟩ e) = true := rfl
theorem ck6 : mt6.all (fun e => chk 99 ⟨#[]⟩ e) = true := rfl
theorem ck7 : mt7.all (fun e => chk 99 ⟨#[]⟩ e) = true := rfl
theorem ck9 : mt9.all (fun e => chk 99 ⟨#[]⟩ e) = true := rfl
theorem ck10 : mt10.all (fun e => chk 99 ⟨#[]⟩ e) = true := rfl
