/-! the methods' code, decoded by program -/
def mi_dchk (q : mi_Mt) : Bool := q.2.2.2.2.2.2.all (mi_dec (mi_bt q))
theorem mi_cw_law : mi_cw 99999 = none := by decide +kernel
theorem mi_d0_0 : ((mi_mt_0.drop 0).take 8).all mi_dchk = true := by decide +kernel
theorem mi_d0_8 : ((mi_mt_0.drop 8).take 8).all mi_dchk = true := by decide +kernel
theorem mi_d0_16 : ((mi_mt_0.drop 16).take 8).all mi_dchk = true := by decide +kernel
theorem mi_d0_24 : ((mi_mt_0.drop 24).take 8).all mi_dchk = true := by decide +kernel
theorem mi_d0_32 : ((mi_mt_0.drop 32).take 8).all mi_dchk = true := by decide +kernel
theorem mi_d1_0 : ((mi_mt_1.drop 0).take 8).all mi_dchk = true := by decide +kernel
theorem mi_d1_8 : ((mi_mt_1.drop 8).take 8).all mi_dchk = true := by decide +kernel
theorem mi_d1_16 : ((mi_mt_1.drop 16).take 8).all mi_dchk = true := by decide +kernel
theorem mi_d1_24 : ((mi_mt_1.drop 24).take 8).all mi_dchk = true := by decide +kernel
theorem mi_d1_32 : ((mi_mt_1.drop 32).take 8).all mi_dchk = true := by decide +kernel
theorem mi_d2_0 : ((mi_mt_2.drop 0).take 8).all mi_dchk = true := by decide +kernel
theorem mi_d2_8 : ((mi_mt_2.drop 8).take 8).all mi_dchk = true := by decide +kernel
theorem mi_d2_16 : ((mi_mt_2.drop 16).take 8).all mi_dchk = true := by decide +kernel
theorem mi_d2_24 : ((mi_mt_2.drop 24).take 8).all mi_dchk = true := by decide +kernel
theorem mi_d2_32 : ((mi_mt_2.drop 32).take 8).all mi_dchk = true := by decide +kernel
theorem mi_d3_0 : ((mi_mt_3.drop 0).take 8).all mi_dchk = true := by decide +kernel
theorem mi_d3_8 : ((mi_mt_3.drop 8).take 8).all mi_dchk = true := by decide +kernel
theorem mi_d3_16 : ((mi_mt_3.drop 16).take 8).all mi_dchk = true := by decide +kernel
theorem mi_d3_24 : ((mi_mt_3.drop 24).take 8).all mi_dchk = true := by decide +kernel
theorem mi_d3_32 : ((mi_mt_3.drop 32).take 8).all mi_dchk = true := by decide +kernel
theorem mi_d4_0 : ((mi_mt_4.drop 0).take 8).all mi_dchk = true := by decide +kernel
theorem mi_d4_8 : ((mi_mt_4.drop 8).take 8).all mi_dchk = true := by decide +kernel
theorem mi_d4_16 : ((mi_mt_4.drop 16).take 8).all mi_dchk = true := by decide +kernel
theorem mi_d4_24 : ((mi_mt_4.drop 24).take 8).all mi_dchk = true := by decide +kernel
theorem mi_d4_32 : ((mi_mt_4.drop 32).take 8).all mi_dchk = true := by decide +kernel
theorem mi_d5_0 : ((mi_mt_5.drop 0).take 8).all mi_dchk = true := by decide +kernel
theorem mi_d5_8 : ((mi_mt_5.drop 8).take 8).all mi_dchk = true := by decide +kernel
theorem mi_d5_16 : ((mi_mt_5.drop 16).take 8).all mi_dchk = true := by decide +kernel
theorem mi_d5_24 : ((mi_mt_5.drop 24).take 7).all mi_dchk = true := by decide +kernel
theorem mi_dl_0 : ((mi_k231.drop 0).take 140).all (mi_dec code) = true := by decide +kernel
theorem mi_dl_140 : ((mi_k231.drop 140).take 140).all (mi_dec code) = true := by decide +kernel
theorem mi_dl_280 : ((mi_k231.drop 280).take 140).all (mi_dec code) = true := by decide +kernel
theorem mi_dl_420 : ((mi_k231.drop 420).take 140).all (mi_dec code) = true := by decide +kernel
theorem mi_dl_560 : ((mi_k231.drop 560).take 140).all (mi_dec code) = true := by decide +kernel
theorem mi_dl_700 : ((mi_k231.drop 700).take 140).all (mi_dec code) = true := by decide +kernel
theorem mi_dl_840 : ((mi_k231.drop 840).take 140).all (mi_dec code) = true := by decide +kernel
theorem mi_dl_980 : (mi_k231.drop 980).all (mi_dec code) = true := by decide +kernel
