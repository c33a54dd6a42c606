theorem ck234 : mt234.all (fun e => chk 11 cX11_edgesAt e) = true := by decide +kernel
theorem ck235 : mt235.all (fun e => chk 11 cX11_boardIs e) = true := by decide +kernel
theorem ck236 : mt236.all (fun e => chk 11 cX11_far e) = true := by decide +kernel
theorem ck237 : mt237.all (fun e => chk 11 cX11_gateFar e) = true := by decide +kernel
theorem ck238 : mt238.all (fun e => chk 11 cX11_isGood e) = true := by decide +kernel
theorem ck239 : mt239.all (fun e => chk 11 cX11_layoutFar e) = true := by decide +kernel
theorem ck240 : mt240.all (fun e => chk 11 cX11_lineAt e) = true := by decide +kernel
theorem ck241 : mt241.all (fun e => chk 11 cX11_layout e) = true := by decide +kernel
theorem ck242 : mt242.all (fun e => chk 11 cX11_laysTried e) = true := by decide +kernel
theorem ck243 : mt243.all (fun e => chk 11 cX11_good e) = true := by decide +kernel
theorem ck244 : mt244.all (fun e => chk 11 cX11_waits e) = true := by decide +kernel
theorem ck245 : mt245.all (fun e => chk 11 cX11_notes e) = true := by decide +kernel
theorem ck246 : mt246.all (fun e => chk 11 cX11_isReady e) = true := by decide +kernel
theorem ck247 : mt247.all (fun e => chk 11 cX11_fits e) = true := by decide +kernel
theorem ck248 : mt248.all (fun e => chk 11 cX11_doesGate e) = true := by decide +kernel
theorem ck249 : mt249.all (fun e => chk 11 cX11_nextDone e) = true := by decide +kernel
theorem ck250 : mt250.all (fun e => chk 11 cX11_doesAll e) = true := by decide +kernel
theorem ck251 : mt251.all (fun e => chk 11 cX11_findsFront e) = true := by decide +kernel
theorem ck252 : mt252.all (fun e => chk 11 cX11_swapsAt e) = true := by decide +kernel
theorem ck253 : mt253.all (fun e => chk 11 cX11_farOfAll e) = true := by decide +kernel
theorem ck254 : mt254.all (fun e => chk 11 cX11_isOfFront e) = true := by decide +kernel
theorem ck255 : mt255.all (fun e => chk 11 cX11_costOf e) = true := by decide +kernel
theorem ck256 : mt256.all (fun e => chk 11 cX11_cheapest e) = true := by decide +kernel
theorem ck257 : mt257.all (fun e => chk 11 cX11_routes e) = true := by decide +kernel
theorem ck258 : mt258.all (fun e => chk 11 cX11_routedDepth e) = true := by decide +kernel
theorem ck259 : mt259.all (fun e => chk 11 cX11_isLook e) = true := by decide +kernel
theorem ck260 : mt260.all (fun e => chk 11 cX11_route e) = true := by decide +kernel
theorem ck261 : mt261.all (fun e => chk 11 cX11_routed e) = true := by decide +kernel
theorem ck262 : mt262.all (fun e => chk 11 cX11_bestLook e) = true := by decide +kernel
theorem ck263 : mt263.all (fun e => chk 11 cX11_isTooFar e) = true := by decide +kernel
theorem ck264 : mt264.all (fun e => chk 11 cX11_takesFloor e) = true := by decide +kernel
theorem ck265 : mt265.all (fun e => chk 11 cX11_keepsFloor e) = true := by decide +kernel
theorem ck266 : mt266.all (fun e => chk 11 cX11_isIdle e) = true := by decide +kernel
theorem ck267 : mt267.all (fun e => chk 11 cX11_isEnough e) = true := by decide +kernel
theorem ck268 : mt268.all (fun e => chk 11 cX11_isEnoughFrom e) = true := by decide +kernel
theorem ck269 : mt269.all (fun e => chk 11 cX11_fewestBy e) = true := by decide +kernel
theorem ck270 : mt270.all (fun e => chk 11 cX11_fewest e) = true := by decide +kernel
theorem ck271 : mt271.all (fun e => chk 11 cX11_fewestOfAll e) = true := by decide +kernel
theorem ck272 : mt272.all (fun e => chk 11 cX11_fewestOf e) = true := by decide +kernel
theorem ck273 : mt273.all (fun e => chk 11 cX11_spend e) = true := by decide +kernel
theorem ck274 : mt274.all (fun e => chk 11 cX11_lastsBy e) = true := by decide +kernel
theorem ck275 : mt275.all (fun e => chk 11 cX11_routedLasts e) = true := by decide +kernel
theorem ck276 : mt276.all (fun e => chk 11 cX11_lasts e) = true := by decide +kernel
theorem ck277 : mt277.all (fun e => chk 11 cX11_urgent e) = true := by decide +kernel
theorem ck278 : mt278.all (fun e => chk 11 cX11_seed e) = true := by decide +kernel
theorem ck279 : mt279.all (fun e => chk 11 cX11_keep e) = true := by decide +kernel
theorem ck280 : mt280.all (fun e => chk 11 cX11_undo e) = true := by decide +kernel
theorem ck281 : mt281.all (fun e => chk 11 cX11_check e) = true := by decide +kernel
theorem ck282 : mt282.all (fun e => chk 11 cX11_count e) = true := by decide +kernel
theorem ck283 : mt283.all (fun e => chk 13 cJ6_bitCount_0f7a4 e) = true := by decide +kernel
theorem ck284 : mt284.all (fun e => chk 14 Lib.Math.max.code e) = true := by decide +kernel
theorem ck285 : mt285.all (fun e => chk 14 Lib.Math.min.code e) = true := by decide +kernel
theorem ck286 : mt286.all (fun e => chk 15 cJ7_fill_d0a16 e) = true := by decide +kernel
theorem ck287 : mt287.all (fun e => chk 15 cJ7_fill_53178 e) = true := by decide +kernel
theorem ckl0 : ((mt288.drop 0).take 40).all (fun e => chk 12 code e) = true := by decide +kernel
theorem ckl1 : ((mt288.drop 40).take 40).all (fun e => chk 12 code e) = true := by decide +kernel
theorem ckl2 : ((mt288.drop 80).take 40).all (fun e => chk 12 code e) = true := by decide +kernel
theorem ckl3 : ((mt288.drop 120).take 40).all (fun e => chk 12 code e) = true := by decide +kernel
theorem ckl4 : ((mt288.drop 160).take 40).all (fun e => chk 12 code e) = true := by decide +kernel
theorem ckl5 : ((mt288.drop 200).take 40).all (fun e => chk 12 code e) = true := by decide +kernel
theorem ckl6 : ((mt288.drop 240).take 40).all (fun e => chk 12 code e) = true := by decide +kernel
theorem ckl7 : ((mt288.drop 280).take 40).all (fun e => chk 12 code e) = true := by decide +kernel
theorem ckl8 : ((mt288.drop 320).take 40).all (fun e => chk 12 code e) = true := by decide +kernel
theorem ckl9 : ((mt288.drop 360).take 40).all (fun e => chk 12 code e) = true := by decide +kernel
theorem ckl10 : ((mt288.drop 400).take 40).all (fun e => chk 12 code e) = true := by decide +kernel
theorem ckl11 : ((mt288.drop 440).take 40).all (fun e => chk 12 code e) = true := by decide +kernel
theorem ckl12 : ((mt288.drop 480).take 40).all (fun e => chk 12 code e) = true := by decide +kernel
theorem ckl13 : ((mt288.drop 520).take 40).all (fun e => chk 12 code e) = true := by decide +kernel
theorem ckl14 : ((mt288.drop 560).take 40).all (fun e => chk 12 code e) = true := by decide +kernel
theorem ckl15 : ((mt288.drop 600).take 40).all (fun e => chk 12 code e) = true := by decide +kernel
theorem ckl16 : ((mt288.drop 640).take 40).all (fun e => chk 12 code e) = true := by decide +kernel
theorem ckl17 : ((mt288.drop 680).take 40).all (fun e => chk 12 code e) = true := by decide +kernel
theorem ckl18 : ((mt288.drop 720).take 40).all (fun e => chk 12 code e) = true := by decide +kernel
theorem ck288 : mt288.all (fun e => chk 12 code e) = true := by
  have hs : mt288 = (mt288.drop 0).take 40 ++ (mt288.drop 40).take 40 ++ (mt288.drop 80).take 40 ++ (mt288.drop 120).take 40 ++ (mt288.drop 160).take 40 ++ (mt288.drop 200).take 40 ++ (mt288.drop 240).take 40 ++ (mt288.drop 280).take 40 ++ (mt288.drop 320).take 40 ++ (mt288.drop 360).take 40 ++ (mt288.drop 400).take 40 ++ (mt288.drop 440).take 40 ++ (mt288.drop 480).take 40 ++ (mt288.drop 520).take 40 ++ (mt288.drop 560).take 40 ++ (mt288.drop 600).take 40 ++ (mt288.drop 640).take 40 ++ (mt288.drop 680).take 40 ++ (mt288.drop 720).take 40 := by decide +kernel
  rw [hs]
  simp only [List.all_append, ckl0, ckl1, ckl2, ckl3, ckl4, ckl5, ckl6, ckl7, ckl8, ckl9, ckl10, ckl11, ckl12, ckl13, ckl14, ckl15, ckl16, ckl17, ckl18, Bool.and_self]
theorem ck289 : mt289.all (fun e => chk 10 cX10_putAt e) = true := by decide +kernel
