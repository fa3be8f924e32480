theorem nx_Is : (.instantiable R_Is 6 : Cond) ∈ tb_G := tb_in 328 (by decide +kernel) (by decide +kernel)
theorem oa_Is : (Bundle.ownAtoms R_De 53 R_Is th_up).all th_ok = true := by decide +kernel
theorem bf_Is : Bundle.fit R_Is = true := by decide +kernel
theorem nx_Ia : (.instantiable R_Ia 6 : Cond) ∈ tb_G := tb_in 415 (by decide +kernel) (by decide +kernel)
theorem oa_Ia : (Bundle.ownAtoms R_De 75 R_Ia th_up).all th_ok = true := by decide +kernel
theorem bf_Ia : Bundle.fit R_Ia = true := by decide +kernel
theorem sr_51 : (Cond.stringRef R_De 51 "there are 14 desks") ∈ lw_tbl := List.mem_of_getElem? (i := 367) (by decide +kernel)
theorem sr_63 : (Cond.stringRef R_De 63 "there are 10 persons") ∈ lw_tbl := List.mem_of_getElem? (i := 401) (by decide +kernel)
theorem sr_200 : (Cond.stringRef R_De 200 "there is no such person") ∈ lw_tbl := List.mem_of_getElem? (i := 423) (by decide +kernel)
theorem sr_202 : (Cond.stringRef R_De 202 "there is no such desk") ∈ lw_tbl := List.mem_of_getElem? (i := 434) (by decide +kernel)
theorem sr_73 : (Cond.stringRef R_De 73 "a wish is 0 .. 1000") ∈ lw_tbl := List.mem_of_getElem? (i := 435) (by decide +kernel)
theorem sr_210 : (Cond.stringRef R_De 210 "it is the old desk of another person") ∈ lw_tbl := List.mem_of_getElem? (i := 454) (by decide +kernel)
theorem sr_208 : (Cond.stringRef R_De 208 "no seating is made") ∈ lw_tbl := List.mem_of_getElem? (i := 473) (by decide +kernel)
theorem sr_121 : (Cond.stringRef R_De 121 "what is 0 .. 2, k is not below 0") ∈ lw_tbl := List.mem_of_getElem? (i := 481) (by decide +kernel)
theorem sr_123 : (Cond.stringRef R_De 123 "there is no such step") ∈ lw_tbl := List.mem_of_getElem? (i := 482) (by decide +kernel)
theorem sr_134 : (Cond.stringRef R_De 134 "places are 1 .. 200") ∈ lw_tbl := List.mem_of_getElem? (i := 504) (by decide +kernel)
theorem sr_139 : (Cond.stringRef R_De 139 "there are 8 rooms") ∈ lw_tbl := List.mem_of_getElem? (i := 505) (by decide +kernel)
theorem sr_144 : (Cond.stringRef R_De 144 "persons are 1 .. 200") ∈ lw_tbl := List.mem_of_getElem? (i := 513) (by decide +kernel)
theorem sr_146 : (Cond.stringRef R_De 146 "minutes are 0 .. 10080, from before to") ∈ lw_tbl := List.mem_of_getElem? (i := 514) (by decide +kernel)
theorem sr_151 : (Cond.stringRef R_De 151 "there were 300 bookings") ∈ lw_tbl := List.mem_of_getElem? (i := 515) (by decide +kernel)
theorem sr_212 : (Cond.stringRef R_De 212 "there never was such a booking") ∈ lw_tbl := List.mem_of_getElem? (i := 568) (by decide +kernel)
theorem sr_204 : (Cond.stringRef R_De 204 "there is no such room") ∈ lw_tbl := List.mem_of_getElem? (i := 591) (by decide +kernel)
theorem sr_206 : (Cond.stringRef R_De 206 "a minute is 0 .. 10079") ∈ lw_tbl := List.mem_of_getElem? (i := 596) (by decide +kernel)
theorem sr_190 : (Cond.stringRef R_De 190 "minutes are 1 .. 10080") ∈ lw_tbl := List.mem_of_getElem? (i := 604) (by decide +kernel)
