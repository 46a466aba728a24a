/-! THE METHODS, ONE BY ONE -/
theorem pg_d200 : px_chkL 11 prog_13_method_66_code 0 pg_c200 = true := by decide +kernel
theorem pg_y200 : px_chkY pg_m200 1 (1806, 1805, 77) = true := by decide +kernel
theorem pg_d201 : px_chkL 11 prog_13_method_73_code 0 pg_c201 = true := by decide +kernel
theorem pg_y201 : px_chkY pg_m201 1 (1810, 1809, 78) = true := by decide +kernel
theorem pg_d202 : px_chkL 11 prog_13_method_71_code 0 pg_c202 = true := by decide +kernel
theorem pg_y202 : px_chkY pg_m202 1 (1814, 1813, 79) = true := by decide +kernel
theorem pg_d203 : px_chkL 11 prog_13_method_70_code 0 pg_c203 = true := by decide +kernel
theorem pg_y203 : px_chkY pg_m203 1 (1818, 1817, 80) = true := by decide +kernel
theorem pg_d204 : px_chkL 11 prog_13_method_59_code 0 pg_c204 = true := by decide +kernel
theorem pg_y204 : px_chkY pg_m204 0 (1821, 1820, 125) = true := by decide +kernel
theorem pg_d205 : px_chkL 11 prog_13_method_69_code 0 pg_c205 = true := by decide +kernel
theorem pg_y205 : px_chkY pg_m205 1 (1825, 1824, 81) = true := by decide +kernel
theorem pg_d206 : px_chkL 11 prog_13_method_72_code 0 pg_c206 = true := by decide +kernel
theorem pg_y206 : px_chkY pg_m206 1 (1829, 1828, 82) = true := by decide +kernel
theorem pg_d207 : px_chkL 11 prog_13_method_74_code 0 pg_c207 = true := by decide +kernel
theorem pg_y207 : px_chkY pg_m207 1 (1834, 1833, 83) = true := by decide +kernel
theorem pg_d208 : px_chkL 11 prog_13_method_50_code 0 pg_c208 = true := by decide +kernel
theorem pg_y208 : px_chkY pg_m208 1 (1838, 1837, 84) = true := by decide +kernel
theorem pg_d209 : px_chkL 11 prog_13_method_48_code 0 pg_c209 = true := by decide +kernel
theorem pg_y209 : px_chkY pg_m209 1 (1842, 1841, 85) = true := by decide +kernel
theorem pg_d210 : px_chkL 11 prog_13_method_29_code 0 pg_c210 = true := by decide +kernel
theorem pg_y210 : px_chkY pg_m210 1 (1846, 1845, 86) = true := by decide +kernel
theorem pg_d211 : px_chkL 11 prog_13_method_44_code 0 pg_c211 = true := by decide +kernel
theorem pg_y211 : px_chkY pg_m211 1 (1850, 1849, 87) = true := by decide +kernel
theorem pg_d212 : px_chkL 11 prog_13_method_47_code 0 pg_c212 = true := by decide +kernel
theorem pg_y212 : px_chkY pg_m212 1 (1854, 1853, 88) = true := by decide +kernel
theorem pg_d213 : px_chkL 11 prog_13_method_46_code 0 pg_c213 = true := by decide +kernel
theorem pg_y213 : px_chkY pg_m213 1 (1858, 1857, 89) = true := by decide +kernel
theorem pg_d214 : px_chkL 11 prog_13_method_45_code 0 pg_c214 = true := by decide +kernel
theorem pg_y214 : px_chkY pg_m214 1 (1862, 1861, 90) = true := by decide +kernel
theorem pg_d215 : px_chkL 11 prog_13_method_49_code 0 pg_c215 = true := by decide +kernel
theorem pg_y215 : px_chkY pg_m215 1 (1866, 1865, 91) = true := by decide +kernel
theorem pg_d216 : px_chkL 11 prog_13_method_21_code 0 pg_c216 = true := by decide +kernel
theorem pg_y216 : px_chkY pg_m216 1 (1870, 1869, 92) = true := by decide +kernel
theorem pg_d217 : px_chkL 11 prog_13_method_20_code 0 pg_c217 = true := by decide +kernel
theorem pg_y217 : px_chkY pg_m217 1 (1874, 1873, 93) = true := by decide +kernel
theorem pg_d218 : px_chkL 11 prog_13_method_16_code 0 pg_c218 = true := by decide +kernel
theorem pg_y218 : px_chkY pg_m218 1 (1878, 1877, 94) = true := by decide +kernel
theorem pg_d219 : px_chkL 11 prog_13_method_18_code 0 pg_c219 = true := by decide +kernel
theorem pg_y219 : px_chkY pg_m219 1 (1882, 1881, 95) = true := by decide +kernel
theorem pg_d220 : px_chkL 11 prog_13_method_17_code 0 pg_c220 = true := by decide +kernel
theorem pg_y220 : px_chkY pg_m220 1 (1886, 1885, 96) = true := by decide +kernel
theorem pg_d221 : px_chkL 11 prog_13_method_19_code 0 pg_c221 = true := by decide +kernel
theorem pg_y221 : px_chkY pg_m221 1 (1890, 1889, 97) = true := by decide +kernel
theorem pg_d222 : px_chkL 11 prog_13_method_25_code 0 pg_c222 = true := by decide +kernel
theorem pg_y222 : px_chkY pg_m222 1 (1894, 1893, 98) = true := by decide +kernel
theorem pg_d223 : px_chkL 11 prog_13_method_24_code 0 pg_c223 = true := by decide +kernel
theorem pg_y223 : px_chkY pg_m223 1 (1898, 1897, 99) = true := by decide +kernel
theorem pg_d224 : px_chkL 11 prog_13_method_22_code 0 pg_c224 = true := by decide +kernel
theorem pg_y224 : px_chkY pg_m224 1 (1902, 1901, 100) = true := by decide +kernel
theorem pg_d225 : px_chkL 11 prog_13_method_85_code 0 pg_c225 = true := by decide +kernel
theorem pg_y225 : px_chkY pg_m225 1 (1906, 1904, 1905) = true := by decide +kernel
theorem pg_d226 : px_chkL 11 prog_13_method_86_code 0 pg_c226 = true := by decide +kernel
theorem pg_y226 : px_chkY pg_m226 1 (1910, 1908, 1909) = true := by decide +kernel
theorem pg_d227 : px_chkL 11 prog_13_method_87_code 0 pg_c227 = true := by decide +kernel
theorem pg_y227 : px_chkY pg_m227 1 (1914, 1912, 1913) = true := by decide +kernel
theorem pg_d228 : px_chkL 11 prog_13_method_88_code 0 pg_c228 = true := by decide +kernel
theorem pg_y228 : px_chkY pg_m228 1 (1918, 1916, 1917) = true := by decide +kernel
theorem pg_d229 : px_chkL 11 prog_13_method_89_code 0 pg_c229 = true := by decide +kernel
theorem pg_y229 : px_chkY pg_m229 1 (1922, 1920, 1921) = true := by decide +kernel
theorem pg_d230 : px_chkL 11 prog_13_method_90_code 0 pg_c230 = true := by decide +kernel
theorem pg_y230 : px_chkY pg_m230 1 (1926, 1924, 1925) = true := by decide +kernel
theorem pg_d231 : px_chkL 11 prog_13_method_91_code 0 pg_c231 = true := by decide +kernel
theorem pg_y231 : px_chkY pg_m231 1 (1930, 1928, 1929) = true := by decide +kernel
theorem pg_d232 : px_chkL 11 prog_13_method_92_code 0 pg_c232 = true := by decide +kernel
theorem pg_y232 : px_chkY pg_m232 1 (1934, 1932, 1933) = true := by decide +kernel
theorem pg_d233 : px_chkL 11 prog_13_method_93_code 0 pg_c233 = true := by decide +kernel
theorem pg_y233 : px_chkY pg_m233 1 (1938, 1936, 1937) = true := by decide +kernel
theorem pg_d234 : px_chkL 11 prog_13_method_94_code 0 pg_c234 = true := by decide +kernel
theorem pg_y234 : px_chkY pg_m234 1 (1942, 1940, 1941) = true := by decide +kernel
theorem pg_d235 : px_chkL 11 prog_13_method_95_code 0 pg_c235 = true := by decide +kernel
theorem pg_y235 : px_chkY pg_m235 1 (1946, 1944, 1945) = true := by decide +kernel
theorem pg_d236 : px_chkL 11 prog_13_method_96_code 0 pg_c236 = true := by decide +kernel
theorem pg_y236 : px_chkY pg_m236 1 (1950, 1948, 1949) = true := by decide +kernel
theorem pg_d237 : px_chkL 11 prog_13_method_101_code 0 pg_c237 = true := by decide +kernel
theorem pg_y237 : px_chkY pg_m237 1 (1954, 1952, 1953) = true := by decide +kernel
theorem pg_d238 : px_chkL 11 prog_13_method_100_code 0 pg_c238 = true := by decide +kernel
theorem pg_y238 : px_chkY pg_m238 1 (1958, 1957, 101) = true := by decide +kernel
theorem pg_d239 : px_chkL 11 prog_13_method_97_code 0 pg_c239 = true := by decide +kernel
theorem pg_y239 : px_chkY pg_m239 1 (1962, 1961, 102) = true := by decide +kernel
