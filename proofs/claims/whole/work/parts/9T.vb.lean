/-! ===== the law's blocks are its code ===== -/
set_option maxRecDepth 100000 in
set_option maxHeartbeats 4000000 in
theorem oW_law_0 : okS 12 8 2048 84000 (some .boolean) code false false iW_law kW_law_0 0 = true := by decide +kernel
set_option maxRecDepth 100000 in
set_option maxHeartbeats 4000000 in
theorem oW_law_23 : okS 12 8 2048 84000 (some .boolean) code false false iW_law kW_law_23 23 = true := by decide +kernel
set_option maxRecDepth 100000 in
set_option maxHeartbeats 4000000 in
theorem oW_law_172 : okS 12 8 2048 84000 (some .boolean) code false false iW_law kW_law_172 172 = true := by decide +kernel
set_option maxRecDepth 100000 in
set_option maxHeartbeats 4000000 in
theorem oW_law_245 : okS 12 8 2048 84000 (some .boolean) code false false iW_law kW_law_245 245 = true := by decide +kernel
set_option maxRecDepth 100000 in
set_option maxHeartbeats 4000000 in
theorem oW_law_281 : okS 12 8 2048 84000 (some .boolean) code false false iW_law kW_law_281 281 = true := by decide +kernel
set_option maxRecDepth 100000 in
set_option maxHeartbeats 4000000 in
theorem oW_law_298 : okS 12 8 2048 84000 (some .boolean) code false false iW_law kW_law_298 298 = true := by decide +kernel
set_option maxRecDepth 100000 in
set_option maxHeartbeats 4000000 in
theorem oW_law_301 : okS 12 8 2048 84000 (some .boolean) code false false iW_law kW_law_301 301 = true := by decide +kernel
set_option maxRecDepth 100000 in
set_option maxHeartbeats 4000000 in
theorem oW_law_314 : okS 12 8 2048 84000 (some .boolean) code false false iW_law kW_law_314 314 = true := by decide +kernel
set_option maxRecDepth 100000 in
set_option maxHeartbeats 4000000 in
theorem oW_law_327 : okS 12 8 2048 84000 (some .boolean) code false false iW_law kW_law_327 327 = true := by decide +kernel
set_option maxRecDepth 100000 in
set_option maxHeartbeats 4000000 in
theorem oW_law_340 : okS 12 8 2048 84000 (some .boolean) code false false iW_law kW_law_340 340 = true := by decide +kernel
set_option maxRecDepth 100000 in
set_option maxHeartbeats 4000000 in
theorem oW_law_353 : okS 12 8 2048 84000 (some .boolean) code false false iW_law kW_law_353 353 = true := by decide +kernel
set_option maxRecDepth 100000 in
set_option maxHeartbeats 4000000 in
theorem oW_law_366 : okS 12 8 2048 84000 (some .boolean) code false false iW_law kW_law_366 366 = true := by decide +kernel
set_option maxRecDepth 100000 in
set_option maxHeartbeats 4000000 in
theorem oW_law_402 : okS 12 8 2048 84000 (some .boolean) code false false iW_law kW_law_402 402 = true := by decide +kernel
set_option maxRecDepth 100000 in
set_option maxHeartbeats 4000000 in
theorem oW_law_419 : okS 12 8 2048 84000 (some .boolean) code false false iW_law kW_law_419 419 = true := by decide +kernel
set_option maxRecDepth 100000 in
set_option maxHeartbeats 4000000 in
theorem oW_law_422 : okS 12 8 2048 84000 (some .boolean) code false false iW_law kW_law_422 422 = true := by decide +kernel
set_option maxRecDepth 100000 in
set_option maxHeartbeats 4000000 in
theorem oW_law_458 : okS 12 8 2048 84000 (some .boolean) code false false iW_law kW_law_458 458 = true := by decide +kernel
set_option maxRecDepth 100000 in
set_option maxHeartbeats 4000000 in
theorem oW_law_475 : okS 12 8 2048 84000 (some .boolean) code false false iW_law kW_law_475 475 = true := by decide +kernel
set_option maxRecDepth 100000 in
set_option maxHeartbeats 4000000 in
theorem oW_law_478 : okS 12 8 2048 84000 (some .boolean) code false false iW_law kW_law_478 478 = true := by decide +kernel
set_option maxRecDepth 100000 in
set_option maxHeartbeats 4000000 in
theorem oW_law_491 : okS 12 8 2048 84000 (some .boolean) code false false iW_law kW_law_491 491 = true := by decide +kernel
set_option maxRecDepth 100000 in
set_option maxHeartbeats 4000000 in
theorem oW_law_527 : okS 12 8 2048 84000 (some .boolean) code false false iW_law kW_law_527 527 = true := by decide +kernel
set_option maxRecDepth 100000 in
set_option maxHeartbeats 4000000 in
theorem oW_law_544 : okS 12 8 2048 84000 (some .boolean) code false false iW_law kW_law_544 544 = true := by decide +kernel
set_option maxRecDepth 100000 in
set_option maxHeartbeats 4000000 in
theorem oW_law_547 : okS 12 8 2048 84000 (some .boolean) code false false iW_law kW_law_547 547 = true := by decide +kernel
set_option maxRecDepth 100000 in
set_option maxHeartbeats 4000000 in
theorem oW_law_595 : okS 12 8 2048 84000 (some .boolean) code false false iW_law kW_law_595 595 = true := by decide +kernel
set_option maxRecDepth 100000 in
set_option maxHeartbeats 4000000 in
theorem oW_law_612 : okS 12 8 2048 84000 (some .boolean) code false false iW_law kW_law_612 612 = true := by decide +kernel
set_option maxRecDepth 100000 in
set_option maxHeartbeats 4000000 in
theorem oW_law_615 : okS 12 8 2048 84000 (some .boolean) code false false iW_law kW_law_615 615 = true := by decide +kernel
set_option maxRecDepth 100000 in
set_option maxHeartbeats 4000000 in
theorem oW_law_651 : okS 12 8 2048 84000 (some .boolean) code false false iW_law kW_law_651 651 = true := by decide +kernel
set_option maxRecDepth 100000 in
set_option maxHeartbeats 4000000 in
theorem oW_law_668 : okS 12 8 2048 84000 (some .boolean) code false false iW_law kW_law_668 668 = true := by decide +kernel
set_option maxRecDepth 100000 in
set_option maxHeartbeats 4000000 in
theorem oW_law_671 : okS 12 8 2048 84000 (some .boolean) code false false iW_law kW_law_671 671 = true := by decide +kernel
set_option maxRecDepth 100000 in
set_option maxHeartbeats 4000000 in
theorem oW_law_707 : okS 12 8 2048 84000 (some .boolean) code false false iW_law kW_law_707 707 = true := by decide +kernel
set_option maxRecDepth 100000 in
set_option maxHeartbeats 4000000 in
theorem oW_law_724 : okS 12 8 2048 84000 (some .boolean) code false false iW_law kW_law_724 724 = true := by decide +kernel
set_option maxRecDepth 100000 in
set_option maxHeartbeats 4000000 in
theorem oW_law_725 : okS 12 8 2048 84000 (some .boolean) code false false iW_law kW_law_725 725 = true := by decide +kernel
set_option maxRecDepth 100000 in
set_option maxHeartbeats 4000000 in
theorem oW_law_731 : okS 12 8 2048 84000 (some .boolean) code false false iW_law kW_law_731 731 = true := by decide +kernel
set_option maxRecDepth 100000 in
set_option maxHeartbeats 4000000 in
theorem oW_law_734 : okS 12 8 2048 84000 (some .boolean) code false false iW_law kW_law_734 734 = true := by decide +kernel
set_option maxRecDepth 100000 in
set_option maxHeartbeats 4000000 in
theorem oW_law_770 : okS 12 8 2048 84000 (some .boolean) code false false iW_law kW_law_770 770 = true := by decide +kernel
set_option maxRecDepth 100000 in
set_option maxHeartbeats 4000000 in
theorem oW_law_787 : okS 12 8 2048 84000 (some .boolean) code false false iW_law kW_law_787 787 = true := by decide +kernel
set_option maxRecDepth 100000 in
set_option maxHeartbeats 4000000 in
theorem oW_law_788 : okS 12 8 2048 84000 (some .boolean) code false false iW_law kW_law_788 788 = true := by decide +kernel
set_option maxRecDepth 100000 in
set_option maxHeartbeats 4000000 in
theorem oW_law_794 : okS 12 8 2048 84000 (some .boolean) code false false iW_law kW_law_794 794 = true := by decide +kernel
set_option maxRecDepth 100000 in
set_option maxHeartbeats 4000000 in
theorem oW_law_797 : okS 12 8 2048 84000 (some .boolean) code false false iW_law kW_law_797 797 = true := by decide +kernel
set_option maxRecDepth 100000 in
set_option maxHeartbeats 4000000 in
theorem oW_law_833 : okS 12 8 2048 84000 (some .boolean) code false false iW_law kW_law_833 833 = true := by decide +kernel
set_option maxRecDepth 100000 in
set_option maxHeartbeats 4000000 in
theorem oW_law_850 : okS 12 8 2048 84000 (some .boolean) code false false iW_law kW_law_850 850 = true := by decide +kernel
set_option maxRecDepth 100000 in
set_option maxHeartbeats 4000000 in
theorem oW_law_853 : okS 12 8 2048 84000 (some .boolean) code false false iW_law kW_law_853 853 = true := by decide +kernel
set_option maxRecDepth 100000 in
set_option maxHeartbeats 4000000 in
theorem oW_law_889 : okS 12 8 2048 84000 (some .boolean) code false false iW_law kW_law_889 889 = true := by decide +kernel
set_option maxRecDepth 100000 in
set_option maxHeartbeats 4000000 in
theorem oW_law_906 : okS 12 8 2048 84000 (some .boolean) code false false iW_law kW_law_906 906 = true := by decide +kernel
set_option maxRecDepth 100000 in
set_option maxHeartbeats 4000000 in
theorem oW_law_909 : okS 12 8 2048 84000 (some .boolean) code false false iW_law kW_law_909 909 = true := by decide +kernel
set_option maxRecDepth 100000 in
set_option maxHeartbeats 4000000 in
theorem oW_law_945 : okS 12 8 2048 84000 (some .boolean) code false false iW_law kW_law_945 945 = true := by decide +kernel
set_option maxRecDepth 100000 in
set_option maxHeartbeats 4000000 in
theorem oW_law_962 : okS 12 8 2048 84000 (some .boolean) code false false iW_law kW_law_962 962 = true := by decide +kernel
set_option maxRecDepth 100000 in
set_option maxHeartbeats 4000000 in
theorem oW_law_965 : okS 12 8 2048 84000 (some .boolean) code false false iW_law kW_law_965 965 = true := by decide +kernel
set_option maxRecDepth 100000 in
set_option maxHeartbeats 4000000 in
theorem oW_law_1001 : okS 12 8 2048 84000 (some .boolean) code false false iW_law kW_law_1001 1001 = true := by decide +kernel
set_option maxRecDepth 100000 in
set_option maxHeartbeats 4000000 in
theorem oW_law_1018 : okS 12 8 2048 84000 (some .boolean) code false false iW_law kW_law_1018 1018 = true := by decide +kernel
set_option maxRecDepth 100000 in
set_option maxHeartbeats 4000000 in
theorem oW_law_1021 : okS 12 8 2048 84000 (some .boolean) code false false iW_law kW_law_1021 1021 = true := by decide +kernel
set_option maxRecDepth 100000 in
set_option maxHeartbeats 4000000 in
theorem oW_law_1057 : okS 12 8 2048 84000 (some .boolean) code false false iW_law kW_law_1057 1057 = true := by decide +kernel
set_option maxRecDepth 100000 in
set_option maxHeartbeats 4000000 in
theorem oW_law_1073 : okS 12 8 2048 84000 (some .boolean) code false false iW_law kW_law_1073 1073 = true := by decide +kernel
set_option maxRecDepth 100000 in
set_option maxHeartbeats 4000000 in
theorem oW_law_1076 : okS 12 8 2048 84000 (some .boolean) code false false iW_law kW_law_1076 1076 = true := by decide +kernel
set_option maxRecDepth 100000 in
set_option maxHeartbeats 4000000 in
theorem oW_law_1124 : okS 12 8 2048 84000 (some .boolean) code false false iW_law kW_law_1124 1124 = true := by decide +kernel
set_option maxRecDepth 100000 in
set_option maxHeartbeats 4000000 in
theorem oW_law_1141 : okS 12 8 2048 84000 (some .boolean) code false false iW_law kW_law_1141 1141 = true := by decide +kernel
set_option maxRecDepth 100000 in
set_option maxHeartbeats 4000000 in
theorem oW_law_1144 : okS 12 8 2048 84000 (some .boolean) code false false iW_law kW_law_1144 1144 = true := by decide +kernel
set_option maxRecDepth 100000 in
set_option maxHeartbeats 4000000 in
theorem oW_law_1192 : okS 12 8 2048 84000 (some .boolean) code false false iW_law kW_law_1192 1192 = true := by decide +kernel
set_option maxRecDepth 100000 in
set_option maxHeartbeats 4000000 in
theorem oW_law_1209 : okS 12 8 2048 84000 (some .boolean) code false false iW_law kW_law_1209 1209 = true := by decide +kernel
set_option maxRecDepth 100000 in
set_option maxHeartbeats 4000000 in
theorem oW_law_1212 : okS 12 8 2048 84000 (some .boolean) code false false iW_law kW_law_1212 1212 = true := by decide +kernel
set_option maxRecDepth 100000 in
set_option maxHeartbeats 4000000 in
theorem oW_law_1260 : okS 12 8 2048 84000 (some .boolean) code false false iW_law kW_law_1260 1260 = true := by decide +kernel
set_option maxRecDepth 100000 in
set_option maxHeartbeats 4000000 in
theorem oW_law_1277 : okS 12 8 2048 84000 (some .boolean) code false false iW_law kW_law_1277 1277 = true := by decide +kernel
set_option maxRecDepth 100000 in
set_option maxHeartbeats 4000000 in
theorem oW_law_1280 : okS 12 8 2048 84000 (some .boolean) code false false iW_law kW_law_1280 1280 = true := by decide +kernel
set_option maxRecDepth 100000 in
set_option maxHeartbeats 4000000 in
theorem oW_law_1340 : okS 12 8 2048 84000 (some .boolean) code false false iW_law kW_law_1340 1340 = true := by decide +kernel
set_option maxRecDepth 100000 in
set_option maxHeartbeats 4000000 in
theorem oW_law_1357 : okS 12 8 2048 84000 (some .boolean) code false false iW_law kW_law_1357 1357 = true := by decide +kernel
set_option maxRecDepth 100000 in
set_option maxHeartbeats 4000000 in
theorem oW_law_1360 : okS 12 8 2048 84000 (some .boolean) code false false iW_law kW_law_1360 1360 = true := by decide +kernel
set_option maxRecDepth 100000 in
set_option maxHeartbeats 4000000 in
theorem oW_law_1396 : okS 12 8 2048 84000 (some .boolean) code false false iW_law kW_law_1396 1396 = true := by decide +kernel
set_option maxRecDepth 100000 in
set_option maxHeartbeats 4000000 in
theorem oW_law_1413 : okS 12 8 2048 84000 (some .boolean) code false false iW_law kW_law_1413 1413 = true := by decide +kernel
set_option maxRecDepth 100000 in
set_option maxHeartbeats 4000000 in
theorem oW_law_1416 : okS 12 8 2048 84000 (some .boolean) code false false iW_law kW_law_1416 1416 = true := by decide +kernel
set_option maxRecDepth 100000 in
set_option maxHeartbeats 4000000 in
theorem oW_law_1452 : okS 12 8 2048 84000 (some .boolean) code false false iW_law kW_law_1452 1452 = true := by decide +kernel
set_option maxRecDepth 100000 in
set_option maxHeartbeats 4000000 in
theorem oW_law_1469 : okS 12 8 2048 84000 (some .boolean) code false false iW_law kW_law_1469 1469 = true := by decide +kernel
set_option maxRecDepth 100000 in
set_option maxHeartbeats 4000000 in
theorem oW_law_1472 : okS 12 8 2048 84000 (some .boolean) code false false iW_law kW_law_1472 1472 = true := by decide +kernel
set_option maxRecDepth 100000 in
set_option maxHeartbeats 4000000 in
theorem oW_law_1520 : okS 12 8 2048 84000 (some .boolean) code false false iW_law kW_law_1520 1520 = true := by decide +kernel
set_option maxRecDepth 100000 in
set_option maxHeartbeats 4000000 in
theorem oW_law_1537 : okS 12 8 2048 84000 (some .boolean) code false false iW_law kW_law_1537 1537 = true := by decide +kernel
set_option maxRecDepth 100000 in
set_option maxHeartbeats 4000000 in
theorem oW_law_1540 : okS 12 8 2048 84000 (some .boolean) code false false iW_law kW_law_1540 1540 = true := by decide +kernel
set_option maxRecDepth 100000 in
set_option maxHeartbeats 4000000 in
theorem oW_law_1553 : okS 12 8 2048 84000 (some .boolean) code false false iW_law kW_law_1553 1553 = true := by decide +kernel
set_option maxRecDepth 100000 in
set_option maxHeartbeats 4000000 in
theorem oW_law_1567 : okS 12 8 2048 84000 (some .boolean) code false false iW_law kW_law_1567 1567 = true := by decide +kernel
set_option maxRecDepth 100000 in
set_option maxHeartbeats 4000000 in
theorem oW_law_1573 : okS 12 8 2048 84000 (some .boolean) code false false iW_law kW_law_1573 1573 = true := by decide +kernel
theorem oW_law : okC 12 8 2048 84000 (some .boolean) code false false iW_law kW_law = true := by
  unfold okC kW_law
  simp only [List.all_cons, List.all_nil, Bool.and_true, oW_law_0, oW_law_23, oW_law_172, oW_law_245, oW_law_281, oW_law_298, oW_law_301, oW_law_314, oW_law_327, oW_law_340, oW_law_353, oW_law_366, oW_law_402, oW_law_419, oW_law_422, oW_law_458, oW_law_475, oW_law_478, oW_law_491, oW_law_527, oW_law_544, oW_law_547, oW_law_595, oW_law_612, oW_law_615, oW_law_651, oW_law_668, oW_law_671, oW_law_707, oW_law_724, oW_law_725, oW_law_731, oW_law_734, oW_law_770, oW_law_787, oW_law_788, oW_law_794, oW_law_797, oW_law_833, oW_law_850, oW_law_853, oW_law_889, oW_law_906, oW_law_909, oW_law_945, oW_law_962, oW_law_965, oW_law_1001, oW_law_1018, oW_law_1021, oW_law_1057, oW_law_1073, oW_law_1076, oW_law_1124, oW_law_1141, oW_law_1144, oW_law_1192, oW_law_1209, oW_law_1212, oW_law_1260, oW_law_1277, oW_law_1280, oW_law_1340, oW_law_1357, oW_law_1360, oW_law_1396, oW_law_1413, oW_law_1416, oW_law_1452, oW_law_1469, oW_law_1472, oW_law_1520, oW_law_1537, oW_law_1540, oW_law_1553, oW_law_1567, oW_law_1573]
