/-! every word that the methods need stands in the tables -/
set_option maxRecDepth 20000 in
theorem in_wc0 : ∀ w ∈ wc0, w ∈ lw_tbl := fun w h => (goodIn_p wc0 [45, 133, 624, 565, 405, 569, 531, 50, 457, 586, 755, 582, 844, 858] (by decide +kernel) (by decide +kernel) w h).1
set_option maxRecDepth 20000 in
theorem in_wc1 : ∀ w ∈ wc1, w ∈ lw_tbl := fun w h => (goodIn_p wc1 [153, 123, 127, 536] (by decide +kernel) (by decide +kernel) w h).1
set_option maxRecDepth 20000 in
theorem in_wc2 : ∀ w ∈ wc2, w ∈ lw_tbl := fun w h => (goodIn_p wc2 [526, 494, 693, 725, 649, 663, 577, 522, 574, 561, 668, 628, 557, 701] (by decide +kernel) (by decide +kernel) w h).1
set_option maxRecDepth 20000 in
theorem in_wc3 : ∀ w ∈ wc3, w ∈ lw_tbl := fun w h => (goodIn_p wc3 [78, 435, 465, 705, 427, 470, 636, 117] (by decide +kernel) (by decide +kernel) w h).1
set_option maxRecDepth 20000 in
theorem in_wc4 : ∀ w ∈ wc4, w ∈ lw_tbl := fun w h => (goodIn_p wc4 [516, 681, 603, 672, 644, 478, 729, 545, 592] (by decide +kernel) (by decide +kernel) w h).1
set_option maxRecDepth 20000 in
theorem in_wc5 : ∀ w ∈ wc5, w ∈ lw_tbl := fun w h => (goodIn_p wc5 [721, 685, 620] (by decide +kernel) (by decide +kernel) w h).1
set_option maxRecDepth 20000 in
theorem in_wc6 : ∀ w ∈ wc6, w ∈ lw_tbl := fun w h => (goodIn_p wc6 [689, 632, 616, 710, 718, 714, 697] (by decide +kernel) (by decide +kernel) w h).1
set_option maxRecDepth 20000 in
theorem in_wc7 : ∀ w ∈ wc7, w ∈ lw_tbl := fun w h => (goodIn_p wc7 [677, 869, 612, 809, 775, 771, 541, 553, 595, 607, 640, 654] (by decide +kernel) (by decide +kernel) w h).1
set_option maxRecDepth 20000 in
theorem in_wc8 : ∀ w ∈ wc8, w ∈ lw_tbl := fun w h => (goodIn_p wc8 [599, 658, 549, 787, 791, 759, 763] (by decide +kernel) (by decide +kernel) w h).1
set_option maxRecDepth 20000 in
theorem in_wc9 : ∀ w ∈ wc9, w ∈ lw_tbl := fun w h => (goodIn_p wc9 [854, 461, 490, 486, 501, 498, 508, 42, 335, 332, 438, 408] (by decide +kernel) (by decide +kernel) w h).1
set_option maxRecDepth 20000 in
theorem in_wc10 : ∀ w ∈ wc10, w ∈ lw_tbl := fun w h => (goodIn_p wc10 [840, 897, 402, 431] (by decide +kernel) (by decide +kernel) w h).1
set_option maxRecDepth 20000 in
theorem in_wc11 : ∀ w ∈ wc11, w ∈ lw_tbl := fun w h => (goodIn_p wc11 [750, 474, 865, 901, 882, 737, 873, 887] (by decide +kernel) (by decide +kernel) w h).1
set_option maxRecDepth 20000 in
theorem in_wc12 : ∀ w ∈ wc12, w ∈ lw_tbl := fun w h => (goodIn_p wc12 [783, 795, 800, 804, 821] (by decide +kernel) (by decide +kernel) w h).1
set_option maxRecDepth 20000 in
theorem in_wc13 : ∀ w ∈ wc13, w ∈ lw_tbl := fun w h => (goodIn_p wc13 [482, 814, 767, 512, 733, 779] (by decide +kernel) (by decide +kernel) w h).1
set_option maxRecDepth 20000 in
theorem in_wc14 : ∀ w ∈ wc14, w ∈ lw_tbl := fun w h => (goodIn_p wc14 [743, 826, 830, 834, 877, 891] (by decide +kernel) (by decide +kernel) w h).1
set_option maxRecDepth 20000 in
theorem in_wc15 : ∀ w ∈ wc15, w ∈ lw_tbl := fun w h => (goodIn_p wc15 [861, 907, 904] (by decide +kernel) (by decide +kernel) w h).1
set_option maxRecDepth 20000 in
theorem in_wc16 : ∀ w ∈ wc16, w ∈ lw_tbl := fun w h => (goodIn_p wc16 [] (by decide +kernel) (by decide +kernel) w h).1
set_option maxRecDepth 20000 in
theorem in_wsU0 : ∀ w ∈ wsU0, w ∈ lw_tbl := fun w h => (goodIn_p wsU0 [] (by decide +kernel) (by decide +kernel) w h).1
set_option maxRecDepth 20000 in
theorem in_wsU1 : ∀ w ∈ wsU1, w ∈ lw_tbl := fun w h => (goodIn_p wsU1 [] (by decide +kernel) (by decide +kernel) w h).1
set_option maxRecDepth 20000 in
theorem in_wsU2 : ∀ w ∈ wsU2, w ∈ lw_tbl := fun w h => (goodIn_p wsU2 [] (by decide +kernel) (by decide +kernel) w h).1
set_option maxRecDepth 20000 in
theorem in_wsU3 : ∀ w ∈ wsU3, w ∈ lw_tbl := fun w h => (goodIn_p wsU3 [] (by decide +kernel) (by decide +kernel) w h).1
set_option maxRecDepth 20000 in
theorem in_wsU4 : ∀ w ∈ wsU4, w ∈ lw_tbl := fun w h => (goodIn_p wsU4 [] (by decide +kernel) (by decide +kernel) w h).1
set_option maxRecDepth 20000 in
theorem in_wsU5 : ∀ w ∈ wsU5, w ∈ lw_tbl := fun w h => (goodIn_p wsU5 [] (by decide +kernel) (by decide +kernel) w h).1
set_option maxRecDepth 20000 in
theorem in_wsU6 : ∀ w ∈ wsU6, w ∈ lw_tbl := fun w h => (goodIn_p wsU6 [] (by decide +kernel) (by decide +kernel) w h).1
theorem WM_in : ∀ w ∈ WM, w ∈ lw_tbl := fun w h => (fun h => (List.mem_append.mp h).elim (fun h => in_wc0 w h) (fun h => (List.mem_append.mp h).elim (fun h => in_wc1 w h) (fun h => (List.mem_append.mp h).elim (fun h => in_wc2 w h) (fun h => (List.mem_append.mp h).elim (fun h => in_wc3 w h) (fun h => (List.mem_append.mp h).elim (fun h => in_wc4 w h) (fun h => (List.mem_append.mp h).elim (fun h => in_wc5 w h) (fun h => (List.mem_append.mp h).elim (fun h => in_wc6 w h) (fun h => (List.mem_append.mp h).elim (fun h => in_wc7 w h) (fun h => (List.mem_append.mp h).elim (fun h => in_wc8 w h) (fun h => (List.mem_append.mp h).elim (fun h => in_wc9 w h) (fun h => (List.mem_append.mp h).elim (fun h => in_wc10 w h) (fun h => (List.mem_append.mp h).elim (fun h => in_wc11 w h) (fun h => (List.mem_append.mp h).elim (fun h => in_wc12 w h) (fun h => (List.mem_append.mp h).elim (fun h => in_wc13 w h) (fun h => (List.mem_append.mp h).elim (fun h => in_wc14 w h) (fun h => (List.mem_append.mp h).elim (fun h => in_wc15 w h) (fun h => (List.mem_append.mp h).elim (fun h => in_wc16 w h) (fun h => (List.mem_append.mp h).elim (fun h => in_wsU0 w h) (fun h => (List.mem_append.mp h).elim (fun h => in_wsU1 w h) (fun h => (List.mem_append.mp h).elim (fun h => in_wsU2 w h) (fun h => (List.mem_append.mp h).elim (fun h => in_wsU3 w h) (fun h => (List.mem_append.mp h).elim (fun h => in_wsU4 w h) (fun h => (List.mem_append.mp h).elim (fun h => in_wsU5 w h) (fun h => in_wsU6 w h)))))))))))))))))))))))) h
