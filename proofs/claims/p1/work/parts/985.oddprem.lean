set_option maxRecDepth 16384 in
theorem od_w1_0 : (tables_1_1.take 40).all (fun c => c.before start1.args0 od) = true := by decide +kernel
set_option maxRecDepth 16384 in
theorem od_w1_1 : ((tables_1_1.drop 40).take 40).all (fun c => c.before start1.args0 od) = true := by decide +kernel
set_option maxRecDepth 16384 in
theorem od_w1_2 : (((tables_1_1.drop 40).drop 40).take 40).all (fun c => c.before start1.args0 od) = true := by decide +kernel
set_option maxRecDepth 16384 in
theorem od_w1_3 : ((((tables_1_1.drop 40).drop 40).drop 40).take 40).all (fun c => c.before start1.args0 od) = true := by decide +kernel
set_option maxRecDepth 16384 in
theorem od_w1_4 : (((((tables_1_1.drop 40).drop 40).drop 40).drop 40).take 40).all (fun c => c.before start1.args0 od) = true := by decide +kernel
set_option maxRecDepth 16384 in
theorem od_w1_5 : (((((tables_1_1.drop 40).drop 40).drop 40).drop 40).drop 40).all (fun c => c.before start1.args0 od) = true := by decide +kernel
set_option maxRecDepth 16384 in
theorem od_w2_0 : (tables_1_2.take 40).all (fun c => c.before start1.args0 od) = true := by decide +kernel
set_option maxRecDepth 16384 in
theorem od_w2_1 : ((tables_1_2.drop 40).take 40).all (fun c => c.before start1.args0 od) = true := by decide +kernel
set_option maxRecDepth 16384 in
theorem od_w2_2 : (((tables_1_2.drop 40).drop 40).take 40).all (fun c => c.before start1.args0 od) = true := by decide +kernel
set_option maxRecDepth 16384 in
theorem od_w2_3 : ((((tables_1_2.drop 40).drop 40).drop 40).take 40).all (fun c => c.before start1.args0 od) = true := by decide +kernel
set_option maxRecDepth 16384 in
theorem od_w2_4 : (((((tables_1_2.drop 40).drop 40).drop 40).drop 40).take 40).all (fun c => c.before start1.args0 od) = true := by decide +kernel
set_option maxRecDepth 16384 in
theorem od_w2_5 : (((((tables_1_2.drop 40).drop 40).drop 40).drop 40).drop 40).all (fun c => c.before start1.args0 od) = true := by decide +kernel
set_option maxRecDepth 16384 in
theorem od_w3_0 : (tables_1_3.take 40).all (fun c => c.before start1.args0 od) = true := by decide +kernel
set_option maxRecDepth 16384 in
theorem od_w3_1 : ((tables_1_3.drop 40).take 40).all (fun c => c.before start1.args0 od) = true := by decide +kernel
set_option maxRecDepth 16384 in
theorem od_w3_2 : (((tables_1_3.drop 40).drop 40).take 40).all (fun c => c.before start1.args0 od) = true := by decide +kernel
set_option maxRecDepth 16384 in
theorem od_w3_3 : ((((tables_1_3.drop 40).drop 40).drop 40).take 40).all (fun c => c.before start1.args0 od) = true := by decide +kernel
set_option maxRecDepth 16384 in
theorem od_w3_4 : (((((tables_1_3.drop 40).drop 40).drop 40).drop 40).take 40).all (fun c => c.before start1.args0 od) = true := by decide +kernel
set_option maxRecDepth 16384 in
theorem od_w3_5 : (((((tables_1_3.drop 40).drop 40).drop 40).drop 40).drop 40).all (fun c => c.before start1.args0 od) = true := by decide +kernel
set_option maxRecDepth 16384 in
theorem od_w4_0 : (tables_1_4.take 40).all (fun c => c.before start1.args0 od) = true := by decide +kernel
set_option maxRecDepth 16384 in
theorem od_w4_1 : ((tables_1_4.drop 40).take 40).all (fun c => c.before start1.args0 od) = true := by decide +kernel
set_option maxRecDepth 16384 in
theorem od_w4_2 : (((tables_1_4.drop 40).drop 40).take 40).all (fun c => c.before start1.args0 od) = true := by decide +kernel
set_option maxRecDepth 16384 in
theorem od_w4_3 : ((((tables_1_4.drop 40).drop 40).drop 40).take 40).all (fun c => c.before start1.args0 od) = true := by decide +kernel
set_option maxRecDepth 16384 in
theorem od_w4_4 : (((((tables_1_4.drop 40).drop 40).drop 40).drop 40).take 40).all (fun c => c.before start1.args0 od) = true := by decide +kernel
set_option maxRecDepth 16384 in
theorem od_w4_5 : (((((tables_1_4.drop 40).drop 40).drop 40).drop 40).drop 40).all (fun c => c.before start1.args0 od) = true := by decide +kernel
set_option maxRecDepth 16384 in
theorem od_w5_0 : tables_1_5.all (fun c => c.before start1.args0 od) = true := by decide +kernel
