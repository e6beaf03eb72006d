/-! ===== names of the law (2), its links ===== -/
theorem dL_law_1643 : decode cL_law 1643 = .ok (.ifCond .ne 15, 3) := by decide +kernel
theorem dL_law_1646 : decode cL_law 1646 = .ok (.aload_n 3, 1) := by decide +kernel
theorem dL_law_1647 : decode cL_law 1647 = .ok (.iconst 0, 1) := by decide +kernel
theorem dL_law_1648 : decode cL_law 1648 = .ok (.laload, 1) := by decide +kernel
theorem dL_law_1649 : decode cL_law 1649 = .ok (.iload 7, 2) := by decide +kernel
theorem dL_law_1651 : decode cL_law 1651 = .ok (.i2l, 1) := by decide +kernel
theorem dL_law_1652 : decode cL_law 1652 = .ok (.lcmp, 1) := by decide +kernel
theorem dL_law_1653 : decode cL_law 1653 = .ok (.ifCond .eq 5, 3) := by decide +kernel
theorem dL_law_1656 : decode cL_law 1656 = .ok (.iconst 0, 1) := by decide +kernel
theorem dL_law_1657 : decode cL_law 1657 = .ok (.ireturn, 1) := by decide +kernel
theorem dL_law_1658 : decode cL_law 1658 = .ok (.goto 1443, 3) := by decide +kernel
theorem dL_law_1661 : decode cL_law 1661 = .ok (.aload_n 1, 1) := by decide +kernel
theorem dL_law_1662 : decode cL_law 1662 = .ok (.aload_n 0, 1) := by decide +kernel
theorem dL_law_1663 : decode cL_law 1663 = .ok (.iload 5, 2) := by decide +kernel
theorem dL_law_1665 : decode cL_law 1665 = .ok (.iconst 1, 1) := by decide +kernel
theorem dL_law_1666 : decode cL_law 1666 = .ok (.iadd, 1) := by decide +kernel
theorem dL_law_1667 : decode cL_law 1667 = .ok (.iaload, 1) := by decide +kernel
theorem dL_law_1668 : decode cL_law 1668 = .ok (.aload_n 3, 1) := by decide +kernel
theorem dL_law_1669 : decode cL_law 1669 = .ok (.invokestatic 245, 3) := by decide +kernel
theorem dL_law_1672 : decode cL_law 1672 = .ok (.istore 6, 2) := by decide +kernel
theorem dL_law_1674 : decode cL_law 1674 = .ok (.aload_n 2, 1) := by decide +kernel
theorem dL_law_1675 : decode cL_law 1675 = .ok (.aload_n 0, 1) := by decide +kernel
theorem dL_law_1676 : decode cL_law 1676 = .ok (.iload 5, 2) := by decide +kernel
theorem dL_law_1678 : decode cL_law 1678 = .ok (.iconst 1, 1) := by decide +kernel
theorem dL_law_1679 : decode cL_law 1679 = .ok (.iadd, 1) := by decide +kernel
theorem dL_law_1680 : decode cL_law 1680 = .ok (.iaload, 1) := by decide +kernel
theorem dL_law_1681 : decode cL_law 1681 = .ok (.invokevirtual 247, 3) := by decide +kernel
theorem dL_law_1684 : decode cL_law 1684 = .ok (.istore 7, 2) := by decide +kernel
theorem dL_law_1686 : decode cL_law 1686 = .ok (.aload_n 2, 1) := by decide +kernel
theorem dL_law_1687 : decode cL_law 1687 = .ok (.invokevirtual 175, 3) := by decide +kernel
theorem dL_law_1690 : decode cL_law 1690 = .ok (.iload 6, 2) := by decide +kernel
theorem dL_law_1692 : decode cL_law 1692 = .ok (.if_icmp .eq 5, 3) := by decide +kernel
theorem dL_law_1695 : decode cL_law 1695 = .ok (.iconst 0, 1) := by decide +kernel
theorem dL_law_1696 : decode cL_law 1696 = .ok (.ireturn, 1) := by decide +kernel
theorem dL_law_1697 : decode cL_law 1697 = .ok (.iload 6, 2) := by decide +kernel
theorem dL_law_1699 : decode cL_law 1699 = .ok (.ifCond .ne 15, 3) := by decide +kernel
theorem dL_law_1702 : decode cL_law 1702 = .ok (.aload_n 3, 1) := by decide +kernel
theorem dL_law_1703 : decode cL_law 1703 = .ok (.iconst 0, 1) := by decide +kernel
theorem dL_law_1704 : decode cL_law 1704 = .ok (.laload, 1) := by decide +kernel
theorem dL_law_1705 : decode cL_law 1705 = .ok (.iload 7, 2) := by decide +kernel
theorem dL_law_1707 : decode cL_law 1707 = .ok (.i2l, 1) := by decide +kernel
theorem dL_law_1708 : decode cL_law 1708 = .ok (.lcmp, 1) := by decide +kernel
theorem dL_law_1709 : decode cL_law 1709 = .ok (.ifCond .eq 5, 3) := by decide +kernel
theorem dL_law_1712 : decode cL_law 1712 = .ok (.iconst 0, 1) := by decide +kernel
theorem dL_law_1713 : decode cL_law 1713 = .ok (.ireturn, 1) := by decide +kernel
theorem dL_law_1714 : decode cL_law 1714 = .ok (.goto 1387, 3) := by decide +kernel
theorem dL_law_1717 : decode cL_law 1717 = .ok (.aload_n 1, 1) := by decide +kernel
theorem dL_law_1718 : decode cL_law 1718 = .ok (.aload_n 0, 1) := by decide +kernel
theorem dL_law_1719 : decode cL_law 1719 = .ok (.iload 5, 2) := by decide +kernel
theorem dL_law_1721 : decode cL_law 1721 = .ok (.iconst 1, 1) := by decide +kernel
theorem dL_law_1722 : decode cL_law 1722 = .ok (.iadd, 1) := by decide +kernel
theorem dL_law_1723 : decode cL_law 1723 = .ok (.iaload, 1) := by decide +kernel
theorem dL_law_1724 : decode cL_law 1724 = .ok (.aload_n 3, 1) := by decide +kernel
theorem dL_law_1725 : decode cL_law 1725 = .ok (.invokestatic 248, 3) := by decide +kernel
theorem dL_law_1728 : decode cL_law 1728 = .ok (.istore 6, 2) := by decide +kernel
theorem dL_law_1730 : decode cL_law 1730 = .ok (.aload_n 2, 1) := by decide +kernel
theorem dL_law_1731 : decode cL_law 1731 = .ok (.aload_n 0, 1) := by decide +kernel
theorem dL_law_1732 : decode cL_law 1732 = .ok (.iload 5, 2) := by decide +kernel
theorem dL_law_1734 : decode cL_law 1734 = .ok (.iconst 1, 1) := by decide +kernel
theorem dL_law_1735 : decode cL_law 1735 = .ok (.iadd, 1) := by decide +kernel
theorem dL_law_1736 : decode cL_law 1736 = .ok (.iaload, 1) := by decide +kernel
theorem dL_law_1737 : decode cL_law 1737 = .ok (.invokevirtual 250, 3) := by decide +kernel
theorem dL_law_1740 : decode cL_law 1740 = .ok (.istore 7, 2) := by decide +kernel
theorem dL_law_1742 : decode cL_law 1742 = .ok (.aload_n 2, 1) := by decide +kernel
theorem dL_law_1743 : decode cL_law 1743 = .ok (.invokevirtual 175, 3) := by decide +kernel
theorem dL_law_1746 : decode cL_law 1746 = .ok (.iload 6, 2) := by decide +kernel
theorem dL_law_1748 : decode cL_law 1748 = .ok (.if_icmp .eq 5, 3) := by decide +kernel
theorem dL_law_1751 : decode cL_law 1751 = .ok (.iconst 0, 1) := by decide +kernel
theorem dL_law_1752 : decode cL_law 1752 = .ok (.ireturn, 1) := by decide +kernel
theorem dL_law_1753 : decode cL_law 1753 = .ok (.iload 6, 2) := by decide +kernel
theorem dL_law_1755 : decode cL_law 1755 = .ok (.ifCond .ne 15, 3) := by decide +kernel
theorem dL_law_1758 : decode cL_law 1758 = .ok (.aload_n 3, 1) := by decide +kernel
theorem dL_law_1759 : decode cL_law 1759 = .ok (.iconst 0, 1) := by decide +kernel
theorem dL_law_1760 : decode cL_law 1760 = .ok (.laload, 1) := by decide +kernel
theorem dL_law_1761 : decode cL_law 1761 = .ok (.iload 7, 2) := by decide +kernel
theorem dL_law_1763 : decode cL_law 1763 = .ok (.i2l, 1) := by decide +kernel
theorem dL_law_1764 : decode cL_law 1764 = .ok (.lcmp, 1) := by decide +kernel
theorem dL_law_1765 : decode cL_law 1765 = .ok (.ifCond .eq 5, 3) := by decide +kernel
theorem dL_law_1768 : decode cL_law 1768 = .ok (.iconst 0, 1) := by decide +kernel
theorem dL_law_1769 : decode cL_law 1769 = .ok (.ireturn, 1) := by decide +kernel
theorem dL_law_1770 : decode cL_law 1770 = .ok (.goto 1331, 3) := by decide +kernel
theorem dL_law_1773 : decode cL_law 1773 = .ok (.aload_n 1, 1) := by decide +kernel
theorem dL_law_1774 : decode cL_law 1774 = .ok (.aload_n 0, 1) := by decide +kernel
theorem dL_law_1775 : decode cL_law 1775 = .ok (.iload 5, 2) := by decide +kernel
theorem dL_law_1777 : decode cL_law 1777 = .ok (.iconst 1, 1) := by decide +kernel
theorem dL_law_1778 : decode cL_law 1778 = .ok (.iadd, 1) := by decide +kernel
theorem dL_law_1779 : decode cL_law 1779 = .ok (.iaload, 1) := by decide +kernel
theorem dL_law_1780 : decode cL_law 1780 = .ok (.aload_n 3, 1) := by decide +kernel
theorem dL_law_1781 : decode cL_law 1781 = .ok (.invokestatic 251, 3) := by decide +kernel
theorem dL_law_1784 : decode cL_law 1784 = .ok (.istore 6, 2) := by decide +kernel
theorem dL_law_1786 : decode cL_law 1786 = .ok (.aload_n 2, 1) := by decide +kernel
theorem dL_law_1787 : decode cL_law 1787 = .ok (.aload_n 0, 1) := by decide +kernel
theorem dL_law_1788 : decode cL_law 1788 = .ok (.iload 5, 2) := by decide +kernel
theorem dL_law_1790 : decode cL_law 1790 = .ok (.iconst 1, 1) := by decide +kernel
theorem dL_law_1791 : decode cL_law 1791 = .ok (.iadd, 1) := by decide +kernel
theorem dL_law_1792 : decode cL_law 1792 = .ok (.iaload, 1) := by decide +kernel
theorem dL_law_1793 : decode cL_law 1793 = .ok (.invokevirtual 253, 3) := by decide +kernel
theorem dL_law_1796 : decode cL_law 1796 = .ok (.istore 7, 2) := by decide +kernel
theorem dL_law_1798 : decode cL_law 1798 = .ok (.aload_n 2, 1) := by decide +kernel
theorem dL_law_1799 : decode cL_law 1799 = .ok (.invokevirtual 175, 3) := by decide +kernel
theorem dL_law_1802 : decode cL_law 1802 = .ok (.iload 6, 2) := by decide +kernel
theorem dL_law_1804 : decode cL_law 1804 = .ok (.if_icmp .eq 5, 3) := by decide +kernel
theorem dL_law_1807 : decode cL_law 1807 = .ok (.iconst 0, 1) := by decide +kernel
theorem dL_law_1808 : decode cL_law 1808 = .ok (.ireturn, 1) := by decide +kernel
theorem dL_law_1809 : decode cL_law 1809 = .ok (.iload 6, 2) := by decide +kernel
theorem dL_law_1811 : decode cL_law 1811 = .ok (.ifCond .ne 15, 3) := by decide +kernel
theorem dL_law_1814 : decode cL_law 1814 = .ok (.aload_n 3, 1) := by decide +kernel
theorem dL_law_1815 : decode cL_law 1815 = .ok (.iconst 0, 1) := by decide +kernel
theorem dL_law_1816 : decode cL_law 1816 = .ok (.laload, 1) := by decide +kernel
theorem dL_law_1817 : decode cL_law 1817 = .ok (.iload 7, 2) := by decide +kernel
theorem dL_law_1819 : decode cL_law 1819 = .ok (.i2l, 1) := by decide +kernel
theorem dL_law_1820 : decode cL_law 1820 = .ok (.lcmp, 1) := by decide +kernel
theorem dL_law_1821 : decode cL_law 1821 = .ok (.ifCond .eq 5, 3) := by decide +kernel
theorem dL_law_1824 : decode cL_law 1824 = .ok (.iconst 0, 1) := by decide +kernel
theorem dL_law_1825 : decode cL_law 1825 = .ok (.ireturn, 1) := by decide +kernel
theorem dL_law_1826 : decode cL_law 1826 = .ok (.goto 1275, 3) := by decide +kernel
theorem dL_law_1829 : decode cL_law 1829 = .ok (.aload_n 1, 1) := by decide +kernel
theorem dL_law_1830 : decode cL_law 1830 = .ok (.aload_n 0, 1) := by decide +kernel
theorem dL_law_1831 : decode cL_law 1831 = .ok (.iload 5, 2) := by decide +kernel
theorem dL_law_1833 : decode cL_law 1833 = .ok (.iconst 1, 1) := by decide +kernel
theorem dL_law_1834 : decode cL_law 1834 = .ok (.iadd, 1) := by decide +kernel
theorem dL_law_1835 : decode cL_law 1835 = .ok (.iaload, 1) := by decide +kernel
theorem dL_law_1836 : decode cL_law 1836 = .ok (.aload_n 3, 1) := by decide +kernel
theorem dL_law_1837 : decode cL_law 1837 = .ok (.invokestatic 254, 3) := by decide +kernel
theorem dL_law_1840 : decode cL_law 1840 = .ok (.istore 6, 2) := by decide +kernel
theorem dL_law_1842 : decode cL_law 1842 = .ok (.aload_n 2, 1) := by decide +kernel
theorem dL_law_1843 : decode cL_law 1843 = .ok (.aload_n 0, 1) := by decide +kernel
theorem dL_law_1844 : decode cL_law 1844 = .ok (.iload 5, 2) := by decide +kernel
theorem dL_law_1846 : decode cL_law 1846 = .ok (.iconst 1, 1) := by decide +kernel
theorem dL_law_1847 : decode cL_law 1847 = .ok (.iadd, 1) := by decide +kernel
theorem dL_law_1848 : decode cL_law 1848 = .ok (.iaload, 1) := by decide +kernel
theorem dL_law_1849 : decode cL_law 1849 = .ok (.invokevirtual 256, 3) := by decide +kernel
theorem dL_law_1852 : decode cL_law 1852 = .ok (.istore 7, 2) := by decide +kernel
theorem dL_law_1854 : decode cL_law 1854 = .ok (.aload_n 2, 1) := by decide +kernel
theorem dL_law_1855 : decode cL_law 1855 = .ok (.invokevirtual 175, 3) := by decide +kernel
theorem dL_law_1858 : decode cL_law 1858 = .ok (.iload 6, 2) := by decide +kernel
theorem dL_law_1860 : decode cL_law 1860 = .ok (.if_icmp .eq 5, 3) := by decide +kernel
theorem dL_law_1863 : decode cL_law 1863 = .ok (.iconst 0, 1) := by decide +kernel
theorem dL_law_1864 : decode cL_law 1864 = .ok (.ireturn, 1) := by decide +kernel
theorem dL_law_1865 : decode cL_law 1865 = .ok (.iload 6, 2) := by decide +kernel
theorem dL_law_1867 : decode cL_law 1867 = .ok (.ifCond .ne 15, 3) := by decide +kernel
theorem dL_law_1870 : decode cL_law 1870 = .ok (.aload_n 3, 1) := by decide +kernel
theorem dL_law_1871 : decode cL_law 1871 = .ok (.iconst 0, 1) := by decide +kernel
theorem dL_law_1872 : decode cL_law 1872 = .ok (.laload, 1) := by decide +kernel
theorem dL_law_1873 : decode cL_law 1873 = .ok (.iload 7, 2) := by decide +kernel
theorem dL_law_1875 : decode cL_law 1875 = .ok (.i2l, 1) := by decide +kernel
theorem dL_law_1876 : decode cL_law 1876 = .ok (.lcmp, 1) := by decide +kernel
theorem dL_law_1877 : decode cL_law 1877 = .ok (.ifCond .eq 5, 3) := by decide +kernel
theorem dL_law_1880 : decode cL_law 1880 = .ok (.iconst 0, 1) := by decide +kernel
theorem dL_law_1881 : decode cL_law 1881 = .ok (.ireturn, 1) := by decide +kernel
theorem dL_law_1882 : decode cL_law 1882 = .ok (.goto 1219, 3) := by decide +kernel
theorem dL_law_1885 : decode cL_law 1885 = .ok (.aload_n 1, 1) := by decide +kernel
theorem dL_law_1886 : decode cL_law 1886 = .ok (.aload_n 0, 1) := by decide +kernel
theorem dL_law_1887 : decode cL_law 1887 = .ok (.iload 5, 2) := by decide +kernel
theorem dL_law_1889 : decode cL_law 1889 = .ok (.iconst 1, 1) := by decide +kernel
theorem dL_law_1890 : decode cL_law 1890 = .ok (.iadd, 1) := by decide +kernel
theorem dL_law_1891 : decode cL_law 1891 = .ok (.iaload, 1) := by decide +kernel
theorem dL_law_1892 : decode cL_law 1892 = .ok (.aload_n 3, 1) := by decide +kernel
theorem dL_law_1893 : decode cL_law 1893 = .ok (.invokestatic 257, 3) := by decide +kernel
theorem dL_law_1896 : decode cL_law 1896 = .ok (.istore 6, 2) := by decide +kernel
theorem dL_law_1898 : decode cL_law 1898 = .ok (.aload_n 2, 1) := by decide +kernel
theorem dL_law_1899 : decode cL_law 1899 = .ok (.aload_n 0, 1) := by decide +kernel
theorem dL_law_1900 : decode cL_law 1900 = .ok (.iload 5, 2) := by decide +kernel
theorem dL_law_1902 : decode cL_law 1902 = .ok (.iconst 1, 1) := by decide +kernel
theorem dL_law_1903 : decode cL_law 1903 = .ok (.iadd, 1) := by decide +kernel
theorem dL_law_1904 : decode cL_law 1904 = .ok (.iaload, 1) := by decide +kernel
theorem dL_law_1905 : decode cL_law 1905 = .ok (.invokevirtual 259, 3) := by decide +kernel
theorem dL_law_1908 : decode cL_law 1908 = .ok (.istore 7, 2) := by decide +kernel
theorem dL_law_1910 : decode cL_law 1910 = .ok (.aload_n 2, 1) := by decide +kernel
theorem dL_law_1911 : decode cL_law 1911 = .ok (.invokevirtual 175, 3) := by decide +kernel
theorem dL_law_1914 : decode cL_law 1914 = .ok (.iload 6, 2) := by decide +kernel
theorem dL_law_1916 : decode cL_law 1916 = .ok (.if_icmp .eq 5, 3) := by decide +kernel
theorem dL_law_1919 : decode cL_law 1919 = .ok (.iconst 0, 1) := by decide +kernel
theorem dL_law_1920 : decode cL_law 1920 = .ok (.ireturn, 1) := by decide +kernel
theorem dL_law_1921 : decode cL_law 1921 = .ok (.iload 6, 2) := by decide +kernel
theorem dL_law_1923 : decode cL_law 1923 = .ok (.ifCond .ne 22, 3) := by decide +kernel
theorem dL_law_1926 : decode cL_law 1926 = .ok (.aload_n 3, 1) := by decide +kernel
theorem dL_law_1927 : decode cL_law 1927 = .ok (.iconst 0, 1) := by decide +kernel
theorem dL_law_1928 : decode cL_law 1928 = .ok (.laload, 1) := by decide +kernel
theorem dL_law_1929 : decode cL_law 1929 = .ok (.iload 7, 2) := by decide +kernel
theorem dL_law_1931 : decode cL_law 1931 = .ok (.ifCond .eq 7, 3) := by decide +kernel
theorem dL_law_1934 : decode cL_law 1934 = .ok (.lconst 1, 1) := by decide +kernel
theorem dL_law_1935 : decode cL_law 1935 = .ok (.goto 4, 3) := by decide +kernel
theorem dL_law_1938 : decode cL_law 1938 = .ok (.lconst 0, 1) := by decide +kernel
theorem dL_law_1939 : decode cL_law 1939 = .ok (.lcmp, 1) := by decide +kernel
theorem dL_law_1940 : decode cL_law 1940 = .ok (.ifCond .eq 5, 3) := by decide +kernel
theorem dL_law_1943 : decode cL_law 1943 = .ok (.iconst 0, 1) := by decide +kernel
theorem dL_law_1944 : decode cL_law 1944 = .ok (.ireturn, 1) := by decide +kernel
theorem dL_law_1945 : decode cL_law 1945 = .ok (.goto 1156, 3) := by decide +kernel
theorem dL_law_1948 : decode cL_law 1948 = .ok (.aload_n 1, 1) := by decide +kernel
theorem dL_law_1949 : decode cL_law 1949 = .ok (.invokevirtual 260, 3) := by decide +kernel
theorem dL_law_1952 : decode cL_law 1952 = .ok (.aload_n 2, 1) := by decide +kernel
theorem dL_law_1953 : decode cL_law 1953 = .ok (.invokevirtual 263, 3) := by decide +kernel
theorem dL_law_1956 : decode cL_law 1956 = .ok (.if_icmp .eq 1145, 3) := by decide +kernel
theorem dL_law_1959 : decode cL_law 1959 = .ok (.iconst 0, 1) := by decide +kernel
theorem dL_law_1960 : decode cL_law 1960 = .ok (.ireturn, 1) := by decide +kernel
theorem dL_law_1961 : decode cL_law 1961 = .ok (.aload_n 1, 1) := by decide +kernel
theorem dL_law_1962 : decode cL_law 1962 = .ok (.aload_n 0, 1) := by decide +kernel
theorem dL_law_1963 : decode cL_law 1963 = .ok (.iload 5, 2) := by decide +kernel
theorem dL_law_1965 : decode cL_law 1965 = .ok (.iconst 1, 1) := by decide +kernel
theorem dL_law_1966 : decode cL_law 1966 = .ok (.iadd, 1) := by decide +kernel
theorem dL_law_1967 : decode cL_law 1967 = .ok (.iaload, 1) := by decide +kernel
theorem dL_law_1968 : decode cL_law 1968 = .ok (.aload_n 0, 1) := by decide +kernel
theorem dL_law_1969 : decode cL_law 1969 = .ok (.iload 5, 2) := by decide +kernel
theorem dL_law_1971 : decode cL_law 1971 = .ok (.iconst 2, 1) := by decide +kernel
theorem dL_law_1972 : decode cL_law 1972 = .ok (.iadd, 1) := by decide +kernel
theorem dL_law_1973 : decode cL_law 1973 = .ok (.iaload, 1) := by decide +kernel
theorem dL_law_1974 : decode cL_law 1974 = .ok (.ifCond .eq 7, 3) := by decide +kernel
theorem dL_law_1977 : decode cL_law 1977 = .ok (.iconst 1, 1) := by decide +kernel
theorem dL_law_1978 : decode cL_law 1978 = .ok (.goto 4, 3) := by decide +kernel
theorem dL_law_1981 : decode cL_law 1981 = .ok (.iconst 0, 1) := by decide +kernel
theorem dL_law_1982 : decode cL_law 1982 = .ok (.aload_n 3, 1) := by decide +kernel
theorem dL_law_1983 : decode cL_law 1983 = .ok (.invokestatic 264, 3) := by decide +kernel
theorem dL_law_1986 : decode cL_law 1986 = .ok (.istore 6, 2) := by decide +kernel
theorem dL_law_1988 : decode cL_law 1988 = .ok (.aload_n 2, 1) := by decide +kernel
theorem dL_law_1989 : decode cL_law 1989 = .ok (.aload_n 0, 1) := by decide +kernel
theorem dL_law_1990 : decode cL_law 1990 = .ok (.iload 5, 2) := by decide +kernel
theorem dL_law_1992 : decode cL_law 1992 = .ok (.iconst 1, 1) := by decide +kernel
theorem dL_law_1993 : decode cL_law 1993 = .ok (.iadd, 1) := by decide +kernel
theorem dL_law_1994 : decode cL_law 1994 = .ok (.iaload, 1) := by decide +kernel
theorem dL_law_1995 : decode cL_law 1995 = .ok (.aload_n 0, 1) := by decide +kernel
theorem dL_law_1996 : decode cL_law 1996 = .ok (.iload 5, 2) := by decide +kernel
theorem dL_law_1998 : decode cL_law 1998 = .ok (.iconst 2, 1) := by decide +kernel
theorem dL_law_1999 : decode cL_law 1999 = .ok (.iadd, 1) := by decide +kernel
theorem dL_law_2000 : decode cL_law 2000 = .ok (.iaload, 1) := by decide +kernel
theorem dL_law_2001 : decode cL_law 2001 = .ok (.ifCond .eq 7, 3) := by decide +kernel
theorem dL_law_2004 : decode cL_law 2004 = .ok (.iconst 1, 1) := by decide +kernel
theorem dL_law_2005 : decode cL_law 2005 = .ok (.goto 4, 3) := by decide +kernel
theorem dL_law_2008 : decode cL_law 2008 = .ok (.iconst 0, 1) := by decide +kernel
theorem dL_law_2009 : decode cL_law 2009 = .ok (.invokevirtual 267, 3) := by decide +kernel
theorem dL_law_2012 : decode cL_law 2012 = .ok (.istore 7, 2) := by decide +kernel
theorem dL_law_2014 : decode cL_law 2014 = .ok (.aload_n 2, 1) := by decide +kernel
theorem dL_law_2015 : decode cL_law 2015 = .ok (.invokevirtual 175, 3) := by decide +kernel
theorem dL_law_2018 : decode cL_law 2018 = .ok (.iload 6, 2) := by decide +kernel
theorem dL_law_2020 : decode cL_law 2020 = .ok (.if_icmp .eq 5, 3) := by decide +kernel
theorem dL_law_2023 : decode cL_law 2023 = .ok (.iconst 0, 1) := by decide +kernel
theorem dL_law_2024 : decode cL_law 2024 = .ok (.ireturn, 1) := by decide +kernel
theorem dL_law_2025 : decode cL_law 2025 = .ok (.iload 6, 2) := by decide +kernel
theorem dL_law_2027 : decode cL_law 2027 = .ok (.ifCond .ne 15, 3) := by decide +kernel
theorem dL_law_2030 : decode cL_law 2030 = .ok (.aload_n 3, 1) := by decide +kernel
theorem dL_law_2031 : decode cL_law 2031 = .ok (.iconst 0, 1) := by decide +kernel
theorem dL_law_2032 : decode cL_law 2032 = .ok (.laload, 1) := by decide +kernel
theorem dL_law_2033 : decode cL_law 2033 = .ok (.iload 7, 2) := by decide +kernel
theorem dL_law_2035 : decode cL_law 2035 = .ok (.i2l, 1) := by decide +kernel
theorem dL_law_2036 : decode cL_law 2036 = .ok (.lcmp, 1) := by decide +kernel
theorem dL_law_2037 : decode cL_law 2037 = .ok (.ifCond .eq 5, 3) := by decide +kernel
theorem dL_law_2040 : decode cL_law 2040 = .ok (.iconst 0, 1) := by decide +kernel
theorem dL_law_2041 : decode cL_law 2041 = .ok (.ireturn, 1) := by decide +kernel
theorem dL_law_2042 : decode cL_law 2042 = .ok (.goto 1059, 3) := by decide +kernel
theorem dL_law_2045 : decode cL_law 2045 = .ok (.aload_n 1, 1) := by decide +kernel
theorem dL_law_2046 : decode cL_law 2046 = .ok (.invokevirtual 268, 3) := by decide +kernel
theorem dL_law_2049 : decode cL_law 2049 = .ok (.aload_n 2, 1) := by decide +kernel
theorem dL_law_2050 : decode cL_law 2050 = .ok (.invokevirtual 271, 3) := by decide +kernel
theorem dL_law_2053 : decode cL_law 2053 = .ok (.if_icmp .eq 1048, 3) := by decide +kernel
theorem dL_law_2056 : decode cL_law 2056 = .ok (.iconst 0, 1) := by decide +kernel
theorem dL_law_2057 : decode cL_law 2057 = .ok (.ireturn, 1) := by decide +kernel
theorem dL_law_2058 : decode cL_law 2058 = .ok (.aload_n 1, 1) := by decide +kernel
theorem dL_law_2059 : decode cL_law 2059 = .ok (.aload_n 3, 1) := by decide +kernel
theorem dL_law_2060 : decode cL_law 2060 = .ok (.invokestatic 272, 3) := by decide +kernel
theorem dL_law_2063 : decode cL_law 2063 = .ok (.istore 6, 2) := by decide +kernel
theorem dL_law_2065 : decode cL_law 2065 = .ok (.aload_n 2, 1) := by decide +kernel
theorem dL_law_2066 : decode cL_law 2066 = .ok (.invokevirtual 275, 3) := by decide +kernel
theorem dL_law_2069 : decode cL_law 2069 = .ok (.istore 7, 2) := by decide +kernel
theorem dL_law_2071 : decode cL_law 2071 = .ok (.aload_n 2, 1) := by decide +kernel
theorem dL_law_2072 : decode cL_law 2072 = .ok (.invokevirtual 175, 3) := by decide +kernel
theorem dL_law_2075 : decode cL_law 2075 = .ok (.iload 6, 2) := by decide +kernel
theorem dL_law_2077 : decode cL_law 2077 = .ok (.if_icmp .eq 5, 3) := by decide +kernel
theorem dL_law_2080 : decode cL_law 2080 = .ok (.iconst 0, 1) := by decide +kernel
theorem dL_law_2081 : decode cL_law 2081 = .ok (.ireturn, 1) := by decide +kernel
theorem dL_law_2082 : decode cL_law 2082 = .ok (.iload 6, 2) := by decide +kernel
theorem dL_law_2084 : decode cL_law 2084 = .ok (.ifCond .ne 15, 3) := by decide +kernel
theorem dL_law_2087 : decode cL_law 2087 = .ok (.aload_n 3, 1) := by decide +kernel
theorem dL_law_2088 : decode cL_law 2088 = .ok (.iconst 0, 1) := by decide +kernel
theorem dL_law_2089 : decode cL_law 2089 = .ok (.laload, 1) := by decide +kernel
theorem dL_law_2090 : decode cL_law 2090 = .ok (.iload 7, 2) := by decide +kernel
theorem dL_law_2092 : decode cL_law 2092 = .ok (.i2l, 1) := by decide +kernel
theorem dL_law_2093 : decode cL_law 2093 = .ok (.lcmp, 1) := by decide +kernel
theorem dL_law_2094 : decode cL_law 2094 = .ok (.ifCond .eq 5, 3) := by decide +kernel
theorem dL_law_2097 : decode cL_law 2097 = .ok (.iconst 0, 1) := by decide +kernel
theorem dL_law_2098 : decode cL_law 2098 = .ok (.ireturn, 1) := by decide +kernel
theorem dL_law_2099 : decode cL_law 2099 = .ok (.goto 1002, 3) := by decide +kernel
theorem dL_law_2102 : decode cL_law 2102 = .ok (.aload_n 1, 1) := by decide +kernel
theorem dL_law_2103 : decode cL_law 2103 = .ok (.aload_n 0, 1) := by decide +kernel
theorem dL_law_2104 : decode cL_law 2104 = .ok (.iload 5, 2) := by decide +kernel
theorem dL_law_2106 : decode cL_law 2106 = .ok (.iconst 1, 1) := by decide +kernel
theorem dL_law_2107 : decode cL_law 2107 = .ok (.iadd, 1) := by decide +kernel
theorem dL_law_2108 : decode cL_law 2108 = .ok (.iaload, 1) := by decide +kernel
theorem dL_law_2109 : decode cL_law 2109 = .ok (.aload_n 0, 1) := by decide +kernel
theorem dL_law_2110 : decode cL_law 2110 = .ok (.iload 5, 2) := by decide +kernel
theorem dL_law_2112 : decode cL_law 2112 = .ok (.iconst 2, 1) := by decide +kernel
theorem dL_law_2113 : decode cL_law 2113 = .ok (.iadd, 1) := by decide +kernel
theorem dL_law_2114 : decode cL_law 2114 = .ok (.iaload, 1) := by decide +kernel
theorem dL_law_2115 : decode cL_law 2115 = .ok (.ifCond .eq 7, 3) := by decide +kernel
theorem dL_law_2118 : decode cL_law 2118 = .ok (.iconst 1, 1) := by decide +kernel
theorem dL_law_2119 : decode cL_law 2119 = .ok (.goto 4, 3) := by decide +kernel
theorem dL_law_2122 : decode cL_law 2122 = .ok (.iconst 0, 1) := by decide +kernel
theorem dL_law_2123 : decode cL_law 2123 = .ok (.aload_n 3, 1) := by decide +kernel
theorem dL_law_2124 : decode cL_law 2124 = .ok (.invokestatic 276, 3) := by decide +kernel
theorem dL_law_2127 : decode cL_law 2127 = .ok (.istore 6, 2) := by decide +kernel
theorem dL_law_2129 : decode cL_law 2129 = .ok (.aload_n 2, 1) := by decide +kernel
theorem dL_law_2130 : decode cL_law 2130 = .ok (.aload_n 0, 1) := by decide +kernel
theorem dL_law_2131 : decode cL_law 2131 = .ok (.iload 5, 2) := by decide +kernel
theorem dL_law_2133 : decode cL_law 2133 = .ok (.iconst 1, 1) := by decide +kernel
theorem dL_law_2134 : decode cL_law 2134 = .ok (.iadd, 1) := by decide +kernel
theorem dL_law_2135 : decode cL_law 2135 = .ok (.iaload, 1) := by decide +kernel
theorem dL_law_2136 : decode cL_law 2136 = .ok (.aload_n 0, 1) := by decide +kernel
theorem dL_law_2137 : decode cL_law 2137 = .ok (.iload 5, 2) := by decide +kernel
theorem dL_law_2139 : decode cL_law 2139 = .ok (.iconst 2, 1) := by decide +kernel
theorem dL_law_2140 : decode cL_law 2140 = .ok (.iadd, 1) := by decide +kernel
theorem dL_law_2141 : decode cL_law 2141 = .ok (.iaload, 1) := by decide +kernel
theorem dL_law_2142 : decode cL_law 2142 = .ok (.ifCond .eq 7, 3) := by decide +kernel
theorem dL_law_2145 : decode cL_law 2145 = .ok (.iconst 1, 1) := by decide +kernel
theorem dL_law_2146 : decode cL_law 2146 = .ok (.goto 4, 3) := by decide +kernel
theorem dL_law_2149 : decode cL_law 2149 = .ok (.iconst 0, 1) := by decide +kernel
theorem dL_law_2150 : decode cL_law 2150 = .ok (.invokevirtual 278, 3) := by decide +kernel
theorem dL_law_2153 : decode cL_law 2153 = .ok (.istore 7, 2) := by decide +kernel
theorem dL_law_2155 : decode cL_law 2155 = .ok (.aload_n 2, 1) := by decide +kernel
theorem dL_law_2156 : decode cL_law 2156 = .ok (.invokevirtual 175, 3) := by decide +kernel
theorem dL_law_2159 : decode cL_law 2159 = .ok (.iload 6, 2) := by decide +kernel
theorem dL_law_2161 : decode cL_law 2161 = .ok (.if_icmp .eq 5, 3) := by decide +kernel
theorem dL_law_2164 : decode cL_law 2164 = .ok (.iconst 0, 1) := by decide +kernel
theorem dL_law_2165 : decode cL_law 2165 = .ok (.ireturn, 1) := by decide +kernel
theorem dL_law_2166 : decode cL_law 2166 = .ok (.iload 6, 2) := by decide +kernel
theorem dL_law_2168 : decode cL_law 2168 = .ok (.ifCond .ne 15, 3) := by decide +kernel
theorem dL_law_2171 : decode cL_law 2171 = .ok (.aload_n 3, 1) := by decide +kernel
theorem dL_law_2172 : decode cL_law 2172 = .ok (.iconst 0, 1) := by decide +kernel
theorem dL_law_2173 : decode cL_law 2173 = .ok (.laload, 1) := by decide +kernel
theorem dL_law_2174 : decode cL_law 2174 = .ok (.iload 7, 2) := by decide +kernel
theorem dL_law_2176 : decode cL_law 2176 = .ok (.i2l, 1) := by decide +kernel
theorem dL_law_2177 : decode cL_law 2177 = .ok (.lcmp, 1) := by decide +kernel
theorem dL_law_2178 : decode cL_law 2178 = .ok (.ifCond .eq 5, 3) := by decide +kernel
theorem dL_law_2181 : decode cL_law 2181 = .ok (.iconst 0, 1) := by decide +kernel
theorem dL_law_2182 : decode cL_law 2182 = .ok (.ireturn, 1) := by decide +kernel
theorem dL_law_2183 : decode cL_law 2183 = .ok (.goto 918, 3) := by decide +kernel
theorem dL_law_2186 : decode cL_law 2186 = .ok (.aload_n 1, 1) := by decide +kernel
theorem dL_law_2187 : decode cL_law 2187 = .ok (.aload_n 0, 1) := by decide +kernel
theorem dL_law_2188 : decode cL_law 2188 = .ok (.iload 5, 2) := by decide +kernel
theorem dL_law_2190 : decode cL_law 2190 = .ok (.iconst 1, 1) := by decide +kernel
theorem dL_law_2191 : decode cL_law 2191 = .ok (.iadd, 1) := by decide +kernel
theorem dL_law_2192 : decode cL_law 2192 = .ok (.iaload, 1) := by decide +kernel
theorem dL_law_2193 : decode cL_law 2193 = .ok (.aload_n 3, 1) := by decide +kernel
theorem dL_law_2194 : decode cL_law 2194 = .ok (.invokestatic 279, 3) := by decide +kernel
theorem dL_law_2197 : decode cL_law 2197 = .ok (.istore 6, 2) := by decide +kernel
theorem dL_law_2199 : decode cL_law 2199 = .ok (.aload_n 2, 1) := by decide +kernel
theorem dL_law_2200 : decode cL_law 2200 = .ok (.aload_n 0, 1) := by decide +kernel
theorem dL_law_2201 : decode cL_law 2201 = .ok (.iload 5, 2) := by decide +kernel
theorem dL_law_2203 : decode cL_law 2203 = .ok (.iconst 1, 1) := by decide +kernel
theorem dL_law_2204 : decode cL_law 2204 = .ok (.iadd, 1) := by decide +kernel
theorem dL_law_2205 : decode cL_law 2205 = .ok (.iaload, 1) := by decide +kernel
theorem dL_law_2206 : decode cL_law 2206 = .ok (.invokevirtual 281, 3) := by decide +kernel
theorem dL_law_2209 : decode cL_law 2209 = .ok (.istore 7, 2) := by decide +kernel
theorem dL_law_2211 : decode cL_law 2211 = .ok (.aload_n 2, 1) := by decide +kernel
theorem dL_law_2212 : decode cL_law 2212 = .ok (.invokevirtual 175, 3) := by decide +kernel
theorem dL_law_2215 : decode cL_law 2215 = .ok (.iload 6, 2) := by decide +kernel
theorem dL_law_2217 : decode cL_law 2217 = .ok (.if_icmp .eq 5, 3) := by decide +kernel
theorem dL_law_2220 : decode cL_law 2220 = .ok (.iconst 0, 1) := by decide +kernel
theorem dL_law_2221 : decode cL_law 2221 = .ok (.ireturn, 1) := by decide +kernel
theorem dL_law_2222 : decode cL_law 2222 = .ok (.iload 6, 2) := by decide +kernel
theorem dL_law_2224 : decode cL_law 2224 = .ok (.ifCond .ne 15, 3) := by decide +kernel
theorem dL_law_2227 : decode cL_law 2227 = .ok (.aload_n 3, 1) := by decide +kernel
theorem dL_law_2228 : decode cL_law 2228 = .ok (.iconst 0, 1) := by decide +kernel
theorem dL_law_2229 : decode cL_law 2229 = .ok (.laload, 1) := by decide +kernel
theorem dL_law_2230 : decode cL_law 2230 = .ok (.iload 7, 2) := by decide +kernel
theorem dL_law_2232 : decode cL_law 2232 = .ok (.i2l, 1) := by decide +kernel
theorem dL_law_2233 : decode cL_law 2233 = .ok (.lcmp, 1) := by decide +kernel
theorem dL_law_2234 : decode cL_law 2234 = .ok (.ifCond .eq 5, 3) := by decide +kernel
theorem dL_law_2237 : decode cL_law 2237 = .ok (.iconst 0, 1) := by decide +kernel
theorem dL_law_2238 : decode cL_law 2238 = .ok (.ireturn, 1) := by decide +kernel
theorem dL_law_2239 : decode cL_law 2239 = .ok (.goto 862, 3) := by decide +kernel
theorem dL_law_2242 : decode cL_law 2242 = .ok (.aload_n 1, 1) := by decide +kernel
theorem dL_law_2243 : decode cL_law 2243 = .ok (.aload_n 0, 1) := by decide +kernel
theorem dL_law_2244 : decode cL_law 2244 = .ok (.iload 5, 2) := by decide +kernel
theorem dL_law_2246 : decode cL_law 2246 = .ok (.iconst 1, 1) := by decide +kernel
theorem dL_law_2247 : decode cL_law 2247 = .ok (.iadd, 1) := by decide +kernel
theorem dL_law_2248 : decode cL_law 2248 = .ok (.iaload, 1) := by decide +kernel
theorem dL_law_2249 : decode cL_law 2249 = .ok (.aload_n 3, 1) := by decide +kernel
theorem dL_law_2250 : decode cL_law 2250 = .ok (.invokestatic 282, 3) := by decide +kernel
theorem dL_law_2253 : decode cL_law 2253 = .ok (.istore 6, 2) := by decide +kernel
theorem dL_law_2255 : decode cL_law 2255 = .ok (.aload_n 2, 1) := by decide +kernel
theorem dL_law_2256 : decode cL_law 2256 = .ok (.aload_n 0, 1) := by decide +kernel
theorem dL_law_2257 : decode cL_law 2257 = .ok (.iload 5, 2) := by decide +kernel
theorem dL_law_2259 : decode cL_law 2259 = .ok (.iconst 1, 1) := by decide +kernel
theorem dL_law_2260 : decode cL_law 2260 = .ok (.iadd, 1) := by decide +kernel
theorem dL_law_2261 : decode cL_law 2261 = .ok (.iaload, 1) := by decide +kernel
theorem dL_law_2262 : decode cL_law 2262 = .ok (.invokevirtual 284, 3) := by decide +kernel
theorem dL_law_2265 : decode cL_law 2265 = .ok (.istore 7, 2) := by decide +kernel
theorem dL_law_2267 : decode cL_law 2267 = .ok (.aload_n 2, 1) := by decide +kernel
theorem dL_law_2268 : decode cL_law 2268 = .ok (.invokevirtual 175, 3) := by decide +kernel
theorem dL_law_2271 : decode cL_law 2271 = .ok (.iload 6, 2) := by decide +kernel
theorem dL_law_2273 : decode cL_law 2273 = .ok (.if_icmp .eq 5, 3) := by decide +kernel
theorem dL_law_2276 : decode cL_law 2276 = .ok (.iconst 0, 1) := by decide +kernel
theorem dL_law_2277 : decode cL_law 2277 = .ok (.ireturn, 1) := by decide +kernel
theorem dL_law_2278 : decode cL_law 2278 = .ok (.iload 6, 2) := by decide +kernel
theorem dL_law_2280 : decode cL_law 2280 = .ok (.ifCond .ne 15, 3) := by decide +kernel
theorem dL_law_2283 : decode cL_law 2283 = .ok (.aload_n 3, 1) := by decide +kernel
theorem dL_law_2284 : decode cL_law 2284 = .ok (.iconst 0, 1) := by decide +kernel
theorem dL_law_2285 : decode cL_law 2285 = .ok (.laload, 1) := by decide +kernel
theorem dL_law_2286 : decode cL_law 2286 = .ok (.iload 7, 2) := by decide +kernel
theorem dL_law_2288 : decode cL_law 2288 = .ok (.i2l, 1) := by decide +kernel
theorem dL_law_2289 : decode cL_law 2289 = .ok (.lcmp, 1) := by decide +kernel
theorem dL_law_2290 : decode cL_law 2290 = .ok (.ifCond .eq 5, 3) := by decide +kernel
theorem dL_law_2293 : decode cL_law 2293 = .ok (.iconst 0, 1) := by decide +kernel
theorem dL_law_2294 : decode cL_law 2294 = .ok (.ireturn, 1) := by decide +kernel
theorem dL_law_2295 : decode cL_law 2295 = .ok (.goto 806, 3) := by decide +kernel
theorem dL_law_2298 : decode cL_law 2298 = .ok (.aload_n 1, 1) := by decide +kernel
theorem dL_law_2299 : decode cL_law 2299 = .ok (.invokevirtual 285, 3) := by decide +kernel
theorem dL_law_2302 : decode cL_law 2302 = .ok (.aload_n 2, 1) := by decide +kernel
theorem dL_law_2303 : decode cL_law 2303 = .ok (.invokevirtual 288, 3) := by decide +kernel
theorem dL_law_2306 : decode cL_law 2306 = .ok (.if_icmp .eq 795, 3) := by decide +kernel
theorem dL_law_2309 : decode cL_law 2309 = .ok (.iconst 0, 1) := by decide +kernel
theorem dL_law_2310 : decode cL_law 2310 = .ok (.ireturn, 1) := by decide +kernel
theorem dL_law_2311 : decode cL_law 2311 = .ok (.aload_n 1, 1) := by decide +kernel
theorem dL_law_2312 : decode cL_law 2312 = .ok (.invokevirtual 289, 3) := by decide +kernel
theorem dL_law_2315 : decode cL_law 2315 = .ok (.aload_n 2, 1) := by decide +kernel
theorem dL_law_2316 : decode cL_law 2316 = .ok (.invokevirtual 292, 3) := by decide +kernel
theorem dL_law_2319 : decode cL_law 2319 = .ok (.if_icmp .eq 782, 3) := by decide +kernel
theorem dL_law_2322 : decode cL_law 2322 = .ok (.iconst 0, 1) := by decide +kernel
theorem dL_law_2323 : decode cL_law 2323 = .ok (.ireturn, 1) := by decide +kernel
theorem dL_law_2324 : decode cL_law 2324 = .ok (.aload_n 1, 1) := by decide +kernel
theorem dL_law_2325 : decode cL_law 2325 = .ok (.invokevirtual 293, 3) := by decide +kernel
theorem dL_law_2328 : decode cL_law 2328 = .ok (.aload_n 2, 1) := by decide +kernel
theorem dL_law_2329 : decode cL_law 2329 = .ok (.invokevirtual 296, 3) := by decide +kernel
theorem dL_law_2332 : decode cL_law 2332 = .ok (.if_icmp .eq 769, 3) := by decide +kernel
theorem dL_law_2335 : decode cL_law 2335 = .ok (.iconst 0, 1) := by decide +kernel
theorem dL_law_2336 : decode cL_law 2336 = .ok (.ireturn, 1) := by decide +kernel
theorem dL_law_2337 : decode cL_law 2337 = .ok (.aload_n 1, 1) := by decide +kernel
theorem dL_law_2338 : decode cL_law 2338 = .ok (.invokevirtual 297, 3) := by decide +kernel
theorem dL_law_2341 : decode cL_law 2341 = .ok (.aload_n 2, 1) := by decide +kernel
theorem dL_law_2342 : decode cL_law 2342 = .ok (.invokevirtual 300, 3) := by decide +kernel
theorem dL_law_2345 : decode cL_law 2345 = .ok (.if_icmp .eq 756, 3) := by decide +kernel
theorem dL_law_2348 : decode cL_law 2348 = .ok (.iconst 0, 1) := by decide +kernel
theorem dL_law_2349 : decode cL_law 2349 = .ok (.ireturn, 1) := by decide +kernel
theorem dL_law_2350 : decode cL_law 2350 = .ok (.aload_n 1, 1) := by decide +kernel
theorem dL_law_2351 : decode cL_law 2351 = .ok (.invokevirtual 301, 3) := by decide +kernel
theorem dL_law_2354 : decode cL_law 2354 = .ok (.aload_n 2, 1) := by decide +kernel
theorem dL_law_2355 : decode cL_law 2355 = .ok (.invokevirtual 304, 3) := by decide +kernel
theorem dL_law_2358 : decode cL_law 2358 = .ok (.if_icmp .eq 743, 3) := by decide +kernel
theorem dL_law_2361 : decode cL_law 2361 = .ok (.iconst 0, 1) := by decide +kernel
theorem dL_law_2362 : decode cL_law 2362 = .ok (.ireturn, 1) := by decide +kernel
theorem dL_law_2363 : decode cL_law 2363 = .ok (.aload_n 1, 1) := by decide +kernel
theorem dL_law_2364 : decode cL_law 2364 = .ok (.invokevirtual 305, 3) := by decide +kernel
theorem dL_law_2367 : decode cL_law 2367 = .ok (.aload_n 2, 1) := by decide +kernel
theorem dL_law_2368 : decode cL_law 2368 = .ok (.invokevirtual 308, 3) := by decide +kernel
theorem dL_law_2371 : decode cL_law 2371 = .ok (.if_icmp .eq 730, 3) := by decide +kernel
theorem dL_law_2374 : decode cL_law 2374 = .ok (.iconst 0, 1) := by decide +kernel
theorem dL_law_2375 : decode cL_law 2375 = .ok (.ireturn, 1) := by decide +kernel
theorem dL_law_2376 : decode cL_law 2376 = .ok (.aload_n 1, 1) := by decide +kernel
theorem dL_law_2377 : decode cL_law 2377 = .ok (.invokevirtual 309, 3) := by decide +kernel
theorem dL_law_2380 : decode cL_law 2380 = .ok (.aload_n 2, 1) := by decide +kernel
theorem dL_law_2381 : decode cL_law 2381 = .ok (.invokevirtual 312, 3) := by decide +kernel
theorem dL_law_2384 : decode cL_law 2384 = .ok (.if_icmp .eq 717, 3) := by decide +kernel
theorem dL_law_2387 : decode cL_law 2387 = .ok (.iconst 0, 1) := by decide +kernel
theorem dL_law_2388 : decode cL_law 2388 = .ok (.ireturn, 1) := by decide +kernel
theorem dL_law_2389 : decode cL_law 2389 = .ok (.aload_n 1, 1) := by decide +kernel
theorem dL_law_2390 : decode cL_law 2390 = .ok (.invokevirtual 313, 3) := by decide +kernel
theorem dL_law_2393 : decode cL_law 2393 = .ok (.aload_n 2, 1) := by decide +kernel
theorem dL_law_2394 : decode cL_law 2394 = .ok (.invokevirtual 316, 3) := by decide +kernel
theorem dL_law_2397 : decode cL_law 2397 = .ok (.if_icmp .eq 704, 3) := by decide +kernel
theorem dL_law_2400 : decode cL_law 2400 = .ok (.iconst 0, 1) := by decide +kernel
theorem dL_law_2401 : decode cL_law 2401 = .ok (.ireturn, 1) := by decide +kernel
theorem dL_law_2402 : decode cL_law 2402 = .ok (.aload_n 1, 1) := by decide +kernel
theorem dL_law_2403 : decode cL_law 2403 = .ok (.invokevirtual 317, 3) := by decide +kernel
theorem dL_law_2406 : decode cL_law 2406 = .ok (.aload_n 2, 1) := by decide +kernel
theorem dL_law_2407 : decode cL_law 2407 = .ok (.invokevirtual 320, 3) := by decide +kernel
theorem dL_law_2410 : decode cL_law 2410 = .ok (.if_icmp .eq 691, 3) := by decide +kernel
theorem dL_law_2413 : decode cL_law 2413 = .ok (.iconst 0, 1) := by decide +kernel
theorem dL_law_2414 : decode cL_law 2414 = .ok (.ireturn, 1) := by decide +kernel
theorem dL_law_2415 : decode cL_law 2415 = .ok (.aload_n 1, 1) := by decide +kernel
theorem dL_law_2416 : decode cL_law 2416 = .ok (.invokevirtual 321, 3) := by decide +kernel
theorem dL_law_2419 : decode cL_law 2419 = .ok (.aload_n 2, 1) := by decide +kernel
theorem dL_law_2420 : decode cL_law 2420 = .ok (.invokevirtual 324, 3) := by decide +kernel
theorem dL_law_2423 : decode cL_law 2423 = .ok (.if_icmp .eq 678, 3) := by decide +kernel
theorem dL_law_2426 : decode cL_law 2426 = .ok (.iconst 0, 1) := by decide +kernel
theorem dL_law_2427 : decode cL_law 2427 = .ok (.ireturn, 1) := by decide +kernel
theorem dL_law_2428 : decode cL_law 2428 = .ok (.aload_n 1, 1) := by decide +kernel
theorem dL_law_2429 : decode cL_law 2429 = .ok (.aload 4, 2) := by decide +kernel
theorem dL_law_2431 : decode cL_law 2431 = .ok (.invokestatic 325, 3) := by decide +kernel
theorem dL_law_2434 : decode cL_law 2434 = .ok (.istore 6, 2) := by decide +kernel
theorem dL_law_2436 : decode cL_law 2436 = .ok (.aload_n 2, 1) := by decide +kernel
theorem dL_law_2437 : decode cL_law 2437 = .ok (.invokevirtual 328, 3) := by decide +kernel
theorem dL_law_2440 : decode cL_law 2440 = .ok (.dstore 7, 2) := by decide +kernel
theorem dL_law_2442 : decode cL_law 2442 = .ok (.aload_n 2, 1) := by decide +kernel
theorem dL_law_2443 : decode cL_law 2443 = .ok (.invokevirtual 175, 3) := by decide +kernel
theorem dL_law_2446 : decode cL_law 2446 = .ok (.iload 6, 2) := by decide +kernel
theorem dL_law_2448 : decode cL_law 2448 = .ok (.if_icmp .eq 5, 3) := by decide +kernel
theorem dL_law_2451 : decode cL_law 2451 = .ok (.iconst 0, 1) := by decide +kernel
theorem dL_law_2452 : decode cL_law 2452 = .ok (.ireturn, 1) := by decide +kernel
theorem dL_law_2453 : decode cL_law 2453 = .ok (.iload 6, 2) := by decide +kernel
theorem dL_law_2455 : decode cL_law 2455 = .ok (.ifCond .ne 35, 3) := by decide +kernel
theorem dL_law_2458 : decode cL_law 2458 = .ok (.aload 4, 2) := by decide +kernel
theorem dL_law_2460 : decode cL_law 2460 = .ok (.iconst 0, 1) := by decide +kernel
theorem dL_law_2461 : decode cL_law 2461 = .ok (.daload, 1) := by decide +kernel
theorem dL_law_2462 : decode cL_law 2462 = .ok (.dload 7, 2) := by decide +kernel
theorem dL_law_2464 : decode cL_law 2464 = .ok (.dcmp .l, 1) := by decide +kernel
theorem dL_law_2465 : decode cL_law 2465 = .ok (.ifCond .eq 25, 3) := by decide +kernel
theorem dL_law_2468 : decode cL_law 2468 = .ok (.aload 4, 2) := by decide +kernel
theorem dL_law_2470 : decode cL_law 2470 = .ok (.iconst 0, 1) := by decide +kernel
theorem dL_law_2471 : decode cL_law 2471 = .ok (.daload, 1) := by decide +kernel
theorem dL_law_2472 : decode cL_law 2472 = .ok (.aload 4, 2) := by decide +kernel
theorem dL_law_2474 : decode cL_law 2474 = .ok (.iconst 0, 1) := by decide +kernel
theorem dL_law_2475 : decode cL_law 2475 = .ok (.daload, 1) := by decide +kernel
theorem dL_law_2476 : decode cL_law 2476 = .ok (.dcmp .l, 1) := by decide +kernel
theorem dL_law_2477 : decode cL_law 2477 = .ok (.ifCond .eq 11, 3) := by decide +kernel
theorem dL_law_2480 : decode cL_law 2480 = .ok (.dload 7, 2) := by decide +kernel
theorem dL_law_2482 : decode cL_law 2482 = .ok (.dload 7, 2) := by decide +kernel
theorem dL_law_2484 : decode cL_law 2484 = .ok (.dcmp .l, 1) := by decide +kernel
theorem dL_law_2485 : decode cL_law 2485 = .ok (.ifCond .ne 5, 3) := by decide +kernel
theorem dL_law_2488 : decode cL_law 2488 = .ok (.iconst 0, 1) := by decide +kernel
theorem dL_law_2489 : decode cL_law 2489 = .ok (.ireturn, 1) := by decide +kernel
theorem dL_law_2490 : decode cL_law 2490 = .ok (.goto 611, 3) := by decide +kernel
theorem dL_law_2493 : decode cL_law 2493 = .ok (.aload_n 1, 1) := by decide +kernel
theorem dL_law_2494 : decode cL_law 2494 = .ok (.aload_n 0, 1) := by decide +kernel
theorem dL_law_2495 : decode cL_law 2495 = .ok (.iload 5, 2) := by decide +kernel
theorem dL_law_2497 : decode cL_law 2497 = .ok (.iconst 1, 1) := by decide +kernel
theorem dL_law_2498 : decode cL_law 2498 = .ok (.iadd, 1) := by decide +kernel
theorem dL_law_2499 : decode cL_law 2499 = .ok (.iaload, 1) := by decide +kernel
theorem dL_law_2500 : decode cL_law 2500 = .ok (.aload 4, 2) := by decide +kernel
theorem dL_law_2502 : decode cL_law 2502 = .ok (.invokestatic 329, 3) := by decide +kernel
theorem dL_law_2505 : decode cL_law 2505 = .ok (.istore 6, 2) := by decide +kernel
theorem dL_law_2507 : decode cL_law 2507 = .ok (.aload_n 2, 1) := by decide +kernel
theorem dL_law_2508 : decode cL_law 2508 = .ok (.aload_n 0, 1) := by decide +kernel
theorem dL_law_2509 : decode cL_law 2509 = .ok (.iload 5, 2) := by decide +kernel
theorem dL_law_2511 : decode cL_law 2511 = .ok (.iconst 1, 1) := by decide +kernel
theorem dL_law_2512 : decode cL_law 2512 = .ok (.iadd, 1) := by decide +kernel
theorem dL_law_2513 : decode cL_law 2513 = .ok (.iaload, 1) := by decide +kernel
theorem dL_law_2514 : decode cL_law 2514 = .ok (.invokevirtual 332, 3) := by decide +kernel
theorem dL_law_2517 : decode cL_law 2517 = .ok (.fstore 7, 2) := by decide +kernel
theorem dL_law_2519 : decode cL_law 2519 = .ok (.aload_n 2, 1) := by decide +kernel
theorem dL_law_2520 : decode cL_law 2520 = .ok (.invokevirtual 175, 3) := by decide +kernel
theorem dL_law_2523 : decode cL_law 2523 = .ok (.iload 6, 2) := by decide +kernel
theorem dL_law_2525 : decode cL_law 2525 = .ok (.if_icmp .eq 5, 3) := by decide +kernel
theorem dL_law_2528 : decode cL_law 2528 = .ok (.iconst 0, 1) := by decide +kernel
theorem dL_law_2529 : decode cL_law 2529 = .ok (.ireturn, 1) := by decide +kernel
theorem dL_law_2530 : decode cL_law 2530 = .ok (.iload 6, 2) := by decide +kernel
theorem dL_law_2532 : decode cL_law 2532 = .ok (.ifCond .ne 36, 3) := by decide +kernel
theorem dL_law_2535 : decode cL_law 2535 = .ok (.aload 4, 2) := by decide +kernel
theorem dL_law_2537 : decode cL_law 2537 = .ok (.iconst 0, 1) := by decide +kernel
theorem dL_law_2538 : decode cL_law 2538 = .ok (.daload, 1) := by decide +kernel
theorem dL_law_2539 : decode cL_law 2539 = .ok (.fload 7, 2) := by decide +kernel
theorem dL_law_2541 : decode cL_law 2541 = .ok (.f2d, 1) := by decide +kernel
theorem dL_law_2542 : decode cL_law 2542 = .ok (.dcmp .l, 1) := by decide +kernel
theorem dL_law_2543 : decode cL_law 2543 = .ok (.ifCond .eq 25, 3) := by decide +kernel
theorem dL_law_2546 : decode cL_law 2546 = .ok (.aload 4, 2) := by decide +kernel
theorem dL_law_2548 : decode cL_law 2548 = .ok (.iconst 0, 1) := by decide +kernel
theorem dL_law_2549 : decode cL_law 2549 = .ok (.daload, 1) := by decide +kernel
theorem dL_law_2550 : decode cL_law 2550 = .ok (.aload 4, 2) := by decide +kernel
theorem dL_law_2552 : decode cL_law 2552 = .ok (.iconst 0, 1) := by decide +kernel
theorem dL_law_2553 : decode cL_law 2553 = .ok (.daload, 1) := by decide +kernel
theorem dL_law_2554 : decode cL_law 2554 = .ok (.dcmp .l, 1) := by decide +kernel
theorem dL_law_2555 : decode cL_law 2555 = .ok (.ifCond .eq 11, 3) := by decide +kernel
theorem dL_law_2558 : decode cL_law 2558 = .ok (.fload 7, 2) := by decide +kernel
theorem dL_law_2560 : decode cL_law 2560 = .ok (.fload 7, 2) := by decide +kernel
theorem dL_law_2562 : decode cL_law 2562 = .ok (.fcmp .l, 1) := by decide +kernel
theorem dL_law_2563 : decode cL_law 2563 = .ok (.ifCond .ne 5, 3) := by decide +kernel
theorem dL_law_2566 : decode cL_law 2566 = .ok (.iconst 0, 1) := by decide +kernel
theorem dL_law_2567 : decode cL_law 2567 = .ok (.ireturn, 1) := by decide +kernel
theorem dL_law_2568 : decode cL_law 2568 = .ok (.goto 533, 3) := by decide +kernel
theorem dL_law_2571 : decode cL_law 2571 = .ok (.aload_n 1, 1) := by decide +kernel
theorem dL_law_2572 : decode cL_law 2572 = .ok (.invokevirtual 333, 3) := by decide +kernel
theorem dL_law_2575 : decode cL_law 2575 = .ok (.aload_n 2, 1) := by decide +kernel
theorem dL_law_2576 : decode cL_law 2576 = .ok (.invokevirtual 337, 3) := by decide +kernel
theorem dL_law_2579 : decode cL_law 2579 = .ok (.if_icmp .eq 522, 3) := by decide +kernel
theorem dL_law_2582 : decode cL_law 2582 = .ok (.iconst 0, 1) := by decide +kernel
theorem dL_law_2583 : decode cL_law 2583 = .ok (.ireturn, 1) := by decide +kernel
theorem dL_law_2584 : decode cL_law 2584 = .ok (.aload_n 1, 1) := by decide +kernel
theorem dL_law_2585 : decode cL_law 2585 = .ok (.aload_n 0, 1) := by decide +kernel
theorem dL_law_2586 : decode cL_law 2586 = .ok (.iload 5, 2) := by decide +kernel
theorem dL_law_2588 : decode cL_law 2588 = .ok (.iconst 1, 1) := by decide +kernel
theorem dL_law_2589 : decode cL_law 2589 = .ok (.iadd, 1) := by decide +kernel
theorem dL_law_2590 : decode cL_law 2590 = .ok (.iaload, 1) := by decide +kernel
theorem dL_law_2591 : decode cL_law 2591 = .ok (.aload_n 3, 1) := by decide +kernel
theorem dL_law_2592 : decode cL_law 2592 = .ok (.invokestatic 338, 3) := by decide +kernel
theorem dL_law_2595 : decode cL_law 2595 = .ok (.istore 6, 2) := by decide +kernel
theorem dL_law_2597 : decode cL_law 2597 = .ok (.aload_n 2, 1) := by decide +kernel
theorem dL_law_2598 : decode cL_law 2598 = .ok (.aload_n 0, 1) := by decide +kernel
theorem dL_law_2599 : decode cL_law 2599 = .ok (.iload 5, 2) := by decide +kernel
theorem dL_law_2601 : decode cL_law 2601 = .ok (.iconst 1, 1) := by decide +kernel
theorem dL_law_2602 : decode cL_law 2602 = .ok (.iadd, 1) := by decide +kernel
theorem dL_law_2603 : decode cL_law 2603 = .ok (.iaload, 1) := by decide +kernel
theorem dL_law_2604 : decode cL_law 2604 = .ok (.invokevirtual 340, 3) := by decide +kernel
theorem dL_law_2607 : decode cL_law 2607 = .ok (.istore 7, 2) := by decide +kernel
theorem dL_law_2609 : decode cL_law 2609 = .ok (.aload_n 2, 1) := by decide +kernel
theorem dL_law_2610 : decode cL_law 2610 = .ok (.invokevirtual 175, 3) := by decide +kernel
theorem dL_law_2613 : decode cL_law 2613 = .ok (.iload 6, 2) := by decide +kernel
theorem dL_law_2615 : decode cL_law 2615 = .ok (.if_icmp .eq 5, 3) := by decide +kernel
theorem dL_law_2618 : decode cL_law 2618 = .ok (.iconst 0, 1) := by decide +kernel
theorem dL_law_2619 : decode cL_law 2619 = .ok (.ireturn, 1) := by decide +kernel
theorem dL_law_2620 : decode cL_law 2620 = .ok (.iload 6, 2) := by decide +kernel
theorem dL_law_2622 : decode cL_law 2622 = .ok (.ifCond .ne 15, 3) := by decide +kernel
theorem dL_law_2625 : decode cL_law 2625 = .ok (.aload_n 3, 1) := by decide +kernel
theorem dL_law_2626 : decode cL_law 2626 = .ok (.iconst 0, 1) := by decide +kernel
theorem dL_law_2627 : decode cL_law 2627 = .ok (.laload, 1) := by decide +kernel
theorem dL_law_2628 : decode cL_law 2628 = .ok (.iload 7, 2) := by decide +kernel
theorem dL_law_2630 : decode cL_law 2630 = .ok (.i2l, 1) := by decide +kernel
theorem dL_law_2631 : decode cL_law 2631 = .ok (.lcmp, 1) := by decide +kernel
theorem dL_law_2632 : decode cL_law 2632 = .ok (.ifCond .eq 5, 3) := by decide +kernel
theorem dL_law_2635 : decode cL_law 2635 = .ok (.iconst 0, 1) := by decide +kernel
theorem dL_law_2636 : decode cL_law 2636 = .ok (.ireturn, 1) := by decide +kernel
theorem dL_law_2637 : decode cL_law 2637 = .ok (.goto 464, 3) := by decide +kernel
theorem dL_law_2640 : decode cL_law 2640 = .ok (.aload_n 1, 1) := by decide +kernel
theorem dL_law_2641 : decode cL_law 2641 = .ok (.invokevirtual 341, 3) := by decide +kernel
theorem dL_law_2644 : decode cL_law 2644 = .ok (.aload_n 2, 1) := by decide +kernel
theorem dL_law_2645 : decode cL_law 2645 = .ok (.invokevirtual 344, 3) := by decide +kernel
theorem dL_law_2648 : decode cL_law 2648 = .ok (.if_icmp .eq 453, 3) := by decide +kernel
theorem dL_law_2651 : decode cL_law 2651 = .ok (.iconst 0, 1) := by decide +kernel
theorem dL_law_2652 : decode cL_law 2652 = .ok (.ireturn, 1) := by decide +kernel
theorem dL_law_2653 : decode cL_law 2653 = .ok (.aload_n 1, 1) := by decide +kernel
theorem dL_law_2654 : decode cL_law 2654 = .ok (.aload_n 0, 1) := by decide +kernel
theorem dL_law_2655 : decode cL_law 2655 = .ok (.iload 5, 2) := by decide +kernel
theorem dL_law_2657 : decode cL_law 2657 = .ok (.iconst 1, 1) := by decide +kernel
theorem dL_law_2658 : decode cL_law 2658 = .ok (.iadd, 1) := by decide +kernel
theorem dL_law_2659 : decode cL_law 2659 = .ok (.iaload, 1) := by decide +kernel
theorem dL_law_2660 : decode cL_law 2660 = .ok (.aload_n 3, 1) := by decide +kernel
theorem dL_law_2661 : decode cL_law 2661 = .ok (.invokestatic 345, 3) := by decide +kernel
theorem dL_law_2664 : decode cL_law 2664 = .ok (.istore 6, 2) := by decide +kernel
theorem dL_law_2666 : decode cL_law 2666 = .ok (.aload_n 2, 1) := by decide +kernel
theorem dL_law_2667 : decode cL_law 2667 = .ok (.aload_n 0, 1) := by decide +kernel
theorem dL_law_2668 : decode cL_law 2668 = .ok (.iload 5, 2) := by decide +kernel
theorem dL_law_2670 : decode cL_law 2670 = .ok (.iconst 1, 1) := by decide +kernel
theorem dL_law_2671 : decode cL_law 2671 = .ok (.iadd, 1) := by decide +kernel
theorem dL_law_2672 : decode cL_law 2672 = .ok (.iaload, 1) := by decide +kernel
theorem dL_law_2673 : decode cL_law 2673 = .ok (.invokevirtual 347, 3) := by decide +kernel
theorem dL_law_2676 : decode cL_law 2676 = .ok (.istore 7, 2) := by decide +kernel
theorem dL_law_2678 : decode cL_law 2678 = .ok (.aload_n 2, 1) := by decide +kernel
theorem dL_law_2679 : decode cL_law 2679 = .ok (.invokevirtual 175, 3) := by decide +kernel
theorem dL_law_2682 : decode cL_law 2682 = .ok (.iload 6, 2) := by decide +kernel
theorem dL_law_2684 : decode cL_law 2684 = .ok (.if_icmp .eq 5, 3) := by decide +kernel
theorem dL_law_2687 : decode cL_law 2687 = .ok (.iconst 0, 1) := by decide +kernel
theorem dL_law_2688 : decode cL_law 2688 = .ok (.ireturn, 1) := by decide +kernel
theorem dL_law_2689 : decode cL_law 2689 = .ok (.iload 6, 2) := by decide +kernel
theorem dL_law_2691 : decode cL_law 2691 = .ok (.ifCond .ne 15, 3) := by decide +kernel
theorem dL_law_2694 : decode cL_law 2694 = .ok (.aload_n 3, 1) := by decide +kernel
theorem dL_law_2695 : decode cL_law 2695 = .ok (.iconst 0, 1) := by decide +kernel
theorem dL_law_2696 : decode cL_law 2696 = .ok (.laload, 1) := by decide +kernel
theorem dL_law_2697 : decode cL_law 2697 = .ok (.iload 7, 2) := by decide +kernel
theorem dL_law_2699 : decode cL_law 2699 = .ok (.i2l, 1) := by decide +kernel
theorem dL_law_2700 : decode cL_law 2700 = .ok (.lcmp, 1) := by decide +kernel
theorem dL_law_2701 : decode cL_law 2701 = .ok (.ifCond .eq 5, 3) := by decide +kernel
theorem dL_law_2704 : decode cL_law 2704 = .ok (.iconst 0, 1) := by decide +kernel
theorem dL_law_2705 : decode cL_law 2705 = .ok (.ireturn, 1) := by decide +kernel
theorem dL_law_2706 : decode cL_law 2706 = .ok (.goto 395, 3) := by decide +kernel
theorem dL_law_2709 : decode cL_law 2709 = .ok (.aload_n 1, 1) := by decide +kernel
theorem dL_law_2710 : decode cL_law 2710 = .ok (.aload_n 0, 1) := by decide +kernel
theorem dL_law_2711 : decode cL_law 2711 = .ok (.iload 5, 2) := by decide +kernel
theorem dL_law_2713 : decode cL_law 2713 = .ok (.iconst 1, 1) := by decide +kernel
theorem dL_law_2714 : decode cL_law 2714 = .ok (.iadd, 1) := by decide +kernel
theorem dL_law_2715 : decode cL_law 2715 = .ok (.iaload, 1) := by decide +kernel
theorem dL_law_2716 : decode cL_law 2716 = .ok (.i2c, 1) := by decide +kernel
theorem dL_law_2717 : decode cL_law 2717 = .ok (.aload_n 3, 1) := by decide +kernel
theorem dL_law_2718 : decode cL_law 2718 = .ok (.invokestatic 348, 3) := by decide +kernel
theorem dL_law_2721 : decode cL_law 2721 = .ok (.istore 6, 2) := by decide +kernel
theorem dL_law_2723 : decode cL_law 2723 = .ok (.aload_n 2, 1) := by decide +kernel
theorem dL_law_2724 : decode cL_law 2724 = .ok (.aload_n 0, 1) := by decide +kernel
theorem dL_law_2725 : decode cL_law 2725 = .ok (.iload 5, 2) := by decide +kernel
theorem dL_law_2727 : decode cL_law 2727 = .ok (.iconst 1, 1) := by decide +kernel
theorem dL_law_2728 : decode cL_law 2728 = .ok (.iadd, 1) := by decide +kernel
theorem dL_law_2729 : decode cL_law 2729 = .ok (.iaload, 1) := by decide +kernel
theorem dL_law_2730 : decode cL_law 2730 = .ok (.i2c, 1) := by decide +kernel
theorem dL_law_2731 : decode cL_law 2731 = .ok (.invokevirtual 351, 3) := by decide +kernel
theorem dL_law_2734 : decode cL_law 2734 = .ok (.istore 7, 2) := by decide +kernel
theorem dL_law_2736 : decode cL_law 2736 = .ok (.aload_n 2, 1) := by decide +kernel
theorem dL_law_2737 : decode cL_law 2737 = .ok (.invokevirtual 175, 3) := by decide +kernel
theorem dL_law_2740 : decode cL_law 2740 = .ok (.iload 6, 2) := by decide +kernel
theorem dL_law_2742 : decode cL_law 2742 = .ok (.if_icmp .eq 5, 3) := by decide +kernel
theorem dL_law_2745 : decode cL_law 2745 = .ok (.iconst 0, 1) := by decide +kernel
theorem dL_law_2746 : decode cL_law 2746 = .ok (.ireturn, 1) := by decide +kernel
theorem dL_law_2747 : decode cL_law 2747 = .ok (.iload 6, 2) := by decide +kernel
theorem dL_law_2749 : decode cL_law 2749 = .ok (.ifCond .ne 15, 3) := by decide +kernel
theorem dL_law_2752 : decode cL_law 2752 = .ok (.aload_n 3, 1) := by decide +kernel
theorem dL_law_2753 : decode cL_law 2753 = .ok (.iconst 0, 1) := by decide +kernel
theorem dL_law_2754 : decode cL_law 2754 = .ok (.laload, 1) := by decide +kernel
theorem dL_law_2755 : decode cL_law 2755 = .ok (.iload 7, 2) := by decide +kernel
theorem dL_law_2757 : decode cL_law 2757 = .ok (.i2l, 1) := by decide +kernel
theorem dL_law_2758 : decode cL_law 2758 = .ok (.lcmp, 1) := by decide +kernel
theorem dL_law_2759 : decode cL_law 2759 = .ok (.ifCond .eq 5, 3) := by decide +kernel
theorem dL_law_2762 : decode cL_law 2762 = .ok (.iconst 0, 1) := by decide +kernel
theorem dL_law_2763 : decode cL_law 2763 = .ok (.ireturn, 1) := by decide +kernel
theorem dL_law_2764 : decode cL_law 2764 = .ok (.goto 337, 3) := by decide +kernel
theorem dL_law_2767 : decode cL_law 2767 = .ok (.aload_n 1, 1) := by decide +kernel
theorem dL_law_2768 : decode cL_law 2768 = .ok (.aload_n 3, 1) := by decide +kernel
theorem dL_law_2769 : decode cL_law 2769 = .ok (.invokestatic 352, 3) := by decide +kernel
theorem dL_law_2772 : decode cL_law 2772 = .ok (.istore 6, 2) := by decide +kernel
theorem dL_law_2774 : decode cL_law 2774 = .ok (.aload_n 2, 1) := by decide +kernel
theorem dL_law_2775 : decode cL_law 2775 = .ok (.invokevirtual 354, 3) := by decide +kernel
theorem dL_law_2778 : decode cL_law 2778 = .ok (.istore 7, 2) := by decide +kernel
theorem dL_law_2780 : decode cL_law 2780 = .ok (.aload_n 2, 1) := by decide +kernel
theorem dL_law_2781 : decode cL_law 2781 = .ok (.invokevirtual 175, 3) := by decide +kernel
theorem dL_law_2784 : decode cL_law 2784 = .ok (.iload 6, 2) := by decide +kernel
theorem dL_law_2786 : decode cL_law 2786 = .ok (.if_icmp .eq 5, 3) := by decide +kernel
theorem dL_law_2789 : decode cL_law 2789 = .ok (.iconst 0, 1) := by decide +kernel
theorem dL_law_2790 : decode cL_law 2790 = .ok (.ireturn, 1) := by decide +kernel
theorem dL_law_2791 : decode cL_law 2791 = .ok (.iload 6, 2) := by decide +kernel
theorem dL_law_2793 : decode cL_law 2793 = .ok (.ifCond .ne 15, 3) := by decide +kernel
theorem dL_law_2796 : decode cL_law 2796 = .ok (.aload_n 3, 1) := by decide +kernel
theorem dL_law_2797 : decode cL_law 2797 = .ok (.iconst 0, 1) := by decide +kernel
theorem dL_law_2798 : decode cL_law 2798 = .ok (.laload, 1) := by decide +kernel
theorem dL_law_2799 : decode cL_law 2799 = .ok (.iload 7, 2) := by decide +kernel
theorem dL_law_2801 : decode cL_law 2801 = .ok (.i2l, 1) := by decide +kernel
theorem dL_law_2802 : decode cL_law 2802 = .ok (.lcmp, 1) := by decide +kernel
theorem dL_law_2803 : decode cL_law 2803 = .ok (.ifCond .eq 5, 3) := by decide +kernel
theorem dL_law_2806 : decode cL_law 2806 = .ok (.iconst 0, 1) := by decide +kernel
theorem dL_law_2807 : decode cL_law 2807 = .ok (.ireturn, 1) := by decide +kernel
theorem dL_law_2808 : decode cL_law 2808 = .ok (.goto 293, 3) := by decide +kernel
theorem dL_law_2811 : decode cL_law 2811 = .ok (.aload_n 1, 1) := by decide +kernel
theorem dL_law_2812 : decode cL_law 2812 = .ok (.aload_n 3, 1) := by decide +kernel
theorem dL_law_2813 : decode cL_law 2813 = .ok (.invokestatic 355, 3) := by decide +kernel
theorem dL_law_2816 : decode cL_law 2816 = .ok (.istore 6, 2) := by decide +kernel
theorem dL_law_2818 : decode cL_law 2818 = .ok (.aload_n 2, 1) := by decide +kernel
theorem dL_law_2819 : decode cL_law 2819 = .ok (.invokevirtual 357, 3) := by decide +kernel
theorem dL_law_2822 : decode cL_law 2822 = .ok (.istore 7, 2) := by decide +kernel
theorem dL_law_2824 : decode cL_law 2824 = .ok (.aload_n 2, 1) := by decide +kernel
theorem dL_law_2825 : decode cL_law 2825 = .ok (.invokevirtual 175, 3) := by decide +kernel
theorem dL_law_2828 : decode cL_law 2828 = .ok (.iload 6, 2) := by decide +kernel
theorem dL_law_2830 : decode cL_law 2830 = .ok (.if_icmp .eq 5, 3) := by decide +kernel
theorem dL_law_2833 : decode cL_law 2833 = .ok (.iconst 0, 1) := by decide +kernel
theorem dL_law_2834 : decode cL_law 2834 = .ok (.ireturn, 1) := by decide +kernel
theorem dL_law_2835 : decode cL_law 2835 = .ok (.iload 6, 2) := by decide +kernel
theorem dL_law_2837 : decode cL_law 2837 = .ok (.ifCond .ne 15, 3) := by decide +kernel
theorem dL_law_2840 : decode cL_law 2840 = .ok (.aload_n 3, 1) := by decide +kernel
theorem dL_law_2841 : decode cL_law 2841 = .ok (.iconst 0, 1) := by decide +kernel
theorem dL_law_2842 : decode cL_law 2842 = .ok (.laload, 1) := by decide +kernel
theorem dL_law_2843 : decode cL_law 2843 = .ok (.iload 7, 2) := by decide +kernel
theorem dL_law_2845 : decode cL_law 2845 = .ok (.i2l, 1) := by decide +kernel
theorem dL_law_2846 : decode cL_law 2846 = .ok (.lcmp, 1) := by decide +kernel
theorem dL_law_2847 : decode cL_law 2847 = .ok (.ifCond .eq 5, 3) := by decide +kernel
theorem dL_law_2850 : decode cL_law 2850 = .ok (.iconst 0, 1) := by decide +kernel
theorem dL_law_2851 : decode cL_law 2851 = .ok (.ireturn, 1) := by decide +kernel
theorem dL_law_2852 : decode cL_law 2852 = .ok (.goto 249, 3) := by decide +kernel
theorem dL_law_2855 : decode cL_law 2855 = .ok (.aload_n 1, 1) := by decide +kernel
theorem dL_law_2856 : decode cL_law 2856 = .ok (.aload_n 3, 1) := by decide +kernel
theorem dL_law_2857 : decode cL_law 2857 = .ok (.invokestatic 358, 3) := by decide +kernel
theorem dL_law_2860 : decode cL_law 2860 = .ok (.istore 6, 2) := by decide +kernel
theorem dL_law_2862 : decode cL_law 2862 = .ok (.aload_n 2, 1) := by decide +kernel
theorem dL_law_2863 : decode cL_law 2863 = .ok (.invokevirtual 360, 3) := by decide +kernel
theorem dL_law_2866 : decode cL_law 2866 = .ok (.istore 7, 2) := by decide +kernel
theorem dL_law_2868 : decode cL_law 2868 = .ok (.aload_n 2, 1) := by decide +kernel
theorem dL_law_2869 : decode cL_law 2869 = .ok (.invokevirtual 175, 3) := by decide +kernel
theorem dL_law_2872 : decode cL_law 2872 = .ok (.iload 6, 2) := by decide +kernel
theorem dL_law_2874 : decode cL_law 2874 = .ok (.if_icmp .eq 5, 3) := by decide +kernel
theorem dL_law_2877 : decode cL_law 2877 = .ok (.iconst 0, 1) := by decide +kernel
theorem dL_law_2878 : decode cL_law 2878 = .ok (.ireturn, 1) := by decide +kernel
theorem dL_law_2879 : decode cL_law 2879 = .ok (.iload 6, 2) := by decide +kernel
theorem dL_law_2881 : decode cL_law 2881 = .ok (.ifCond .ne 15, 3) := by decide +kernel
theorem dL_law_2884 : decode cL_law 2884 = .ok (.aload_n 3, 1) := by decide +kernel
theorem dL_law_2885 : decode cL_law 2885 = .ok (.iconst 0, 1) := by decide +kernel
theorem dL_law_2886 : decode cL_law 2886 = .ok (.laload, 1) := by decide +kernel
theorem dL_law_2887 : decode cL_law 2887 = .ok (.iload 7, 2) := by decide +kernel
theorem dL_law_2889 : decode cL_law 2889 = .ok (.i2l, 1) := by decide +kernel
theorem dL_law_2890 : decode cL_law 2890 = .ok (.lcmp, 1) := by decide +kernel
theorem dL_law_2891 : decode cL_law 2891 = .ok (.ifCond .eq 5, 3) := by decide +kernel
theorem dL_law_2894 : decode cL_law 2894 = .ok (.iconst 0, 1) := by decide +kernel
theorem dL_law_2895 : decode cL_law 2895 = .ok (.ireturn, 1) := by decide +kernel
theorem dL_law_2896 : decode cL_law 2896 = .ok (.goto 205, 3) := by decide +kernel
theorem dL_law_2899 : decode cL_law 2899 = .ok (.aload_n 1, 1) := by decide +kernel
theorem dL_law_2900 : decode cL_law 2900 = .ok (.aload_n 3, 1) := by decide +kernel
theorem dL_law_2901 : decode cL_law 2901 = .ok (.invokestatic 361, 3) := by decide +kernel
theorem dL_law_2904 : decode cL_law 2904 = .ok (.istore 6, 2) := by decide +kernel
theorem dL_law_2906 : decode cL_law 2906 = .ok (.aload_n 2, 1) := by decide +kernel
theorem dL_law_2907 : decode cL_law 2907 = .ok (.invokevirtual 363, 3) := by decide +kernel
theorem dL_law_2910 : decode cL_law 2910 = .ok (.istore 7, 2) := by decide +kernel
theorem dL_law_2912 : decode cL_law 2912 = .ok (.aload_n 2, 1) := by decide +kernel
theorem dL_law_2913 : decode cL_law 2913 = .ok (.invokevirtual 175, 3) := by decide +kernel
theorem dL_law_2916 : decode cL_law 2916 = .ok (.iload 6, 2) := by decide +kernel
theorem dL_law_2918 : decode cL_law 2918 = .ok (.if_icmp .eq 5, 3) := by decide +kernel
theorem dL_law_2921 : decode cL_law 2921 = .ok (.iconst 0, 1) := by decide +kernel
theorem dL_law_2922 : decode cL_law 2922 = .ok (.ireturn, 1) := by decide +kernel
theorem dL_law_2923 : decode cL_law 2923 = .ok (.iload 6, 2) := by decide +kernel
theorem dL_law_2925 : decode cL_law 2925 = .ok (.ifCond .ne 15, 3) := by decide +kernel
theorem dL_law_2928 : decode cL_law 2928 = .ok (.aload_n 3, 1) := by decide +kernel
theorem dL_law_2929 : decode cL_law 2929 = .ok (.iconst 0, 1) := by decide +kernel
theorem dL_law_2930 : decode cL_law 2930 = .ok (.laload, 1) := by decide +kernel
theorem dL_law_2931 : decode cL_law 2931 = .ok (.iload 7, 2) := by decide +kernel
theorem dL_law_2933 : decode cL_law 2933 = .ok (.i2l, 1) := by decide +kernel
theorem dL_law_2934 : decode cL_law 2934 = .ok (.lcmp, 1) := by decide +kernel
theorem dL_law_2935 : decode cL_law 2935 = .ok (.ifCond .eq 5, 3) := by decide +kernel
theorem dL_law_2938 : decode cL_law 2938 = .ok (.iconst 0, 1) := by decide +kernel
theorem dL_law_2939 : decode cL_law 2939 = .ok (.ireturn, 1) := by decide +kernel
theorem dL_law_2940 : decode cL_law 2940 = .ok (.goto 161, 3) := by decide +kernel
theorem dL_law_2943 : decode cL_law 2943 = .ok (.aload_n 1, 1) := by decide +kernel
theorem dL_law_2944 : decode cL_law 2944 = .ok (.aload_n 3, 1) := by decide +kernel
theorem dL_law_2945 : decode cL_law 2945 = .ok (.invokestatic 364, 3) := by decide +kernel
theorem dL_law_2948 : decode cL_law 2948 = .ok (.istore 6, 2) := by decide +kernel
theorem dL_law_2950 : decode cL_law 2950 = .ok (.aload_n 2, 1) := by decide +kernel
theorem dL_law_2951 : decode cL_law 2951 = .ok (.invokevirtual 366, 3) := by decide +kernel
theorem dL_law_2954 : decode cL_law 2954 = .ok (.istore 7, 2) := by decide +kernel
theorem dL_law_2956 : decode cL_law 2956 = .ok (.aload_n 2, 1) := by decide +kernel
theorem dL_law_2957 : decode cL_law 2957 = .ok (.invokevirtual 175, 3) := by decide +kernel
theorem dL_law_2960 : decode cL_law 2960 = .ok (.iload 6, 2) := by decide +kernel
theorem dL_law_2962 : decode cL_law 2962 = .ok (.if_icmp .eq 5, 3) := by decide +kernel
theorem dL_law_2965 : decode cL_law 2965 = .ok (.iconst 0, 1) := by decide +kernel
theorem dL_law_2966 : decode cL_law 2966 = .ok (.ireturn, 1) := by decide +kernel
theorem dL_law_2967 : decode cL_law 2967 = .ok (.iload 6, 2) := by decide +kernel
theorem dL_law_2969 : decode cL_law 2969 = .ok (.ifCond .ne 15, 3) := by decide +kernel
theorem dL_law_2972 : decode cL_law 2972 = .ok (.aload_n 3, 1) := by decide +kernel
theorem dL_law_2973 : decode cL_law 2973 = .ok (.iconst 0, 1) := by decide +kernel
theorem dL_law_2974 : decode cL_law 2974 = .ok (.laload, 1) := by decide +kernel
theorem dL_law_2975 : decode cL_law 2975 = .ok (.iload 7, 2) := by decide +kernel
theorem dL_law_2977 : decode cL_law 2977 = .ok (.i2l, 1) := by decide +kernel
theorem dL_law_2978 : decode cL_law 2978 = .ok (.lcmp, 1) := by decide +kernel
theorem dL_law_2979 : decode cL_law 2979 = .ok (.ifCond .eq 5, 3) := by decide +kernel
theorem dL_law_2982 : decode cL_law 2982 = .ok (.iconst 0, 1) := by decide +kernel
theorem dL_law_2983 : decode cL_law 2983 = .ok (.ireturn, 1) := by decide +kernel
theorem dL_law_2984 : decode cL_law 2984 = .ok (.goto 117, 3) := by decide +kernel
theorem dL_law_2987 : decode cL_law 2987 = .ok (.aload_n 1, 1) := by decide +kernel
theorem dL_law_2988 : decode cL_law 2988 = .ok (.aload_n 3, 1) := by decide +kernel
theorem dL_law_2989 : decode cL_law 2989 = .ok (.invokestatic 367, 3) := by decide +kernel
theorem dL_law_2992 : decode cL_law 2992 = .ok (.istore 6, 2) := by decide +kernel
theorem dL_law_2994 : decode cL_law 2994 = .ok (.aload_n 2, 1) := by decide +kernel
theorem dL_law_2995 : decode cL_law 2995 = .ok (.invokevirtual 369, 3) := by decide +kernel
theorem dL_law_2998 : decode cL_law 2998 = .ok (.istore 7, 2) := by decide +kernel
theorem dL_law_3000 : decode cL_law 3000 = .ok (.aload_n 2, 1) := by decide +kernel
theorem dL_law_3001 : decode cL_law 3001 = .ok (.invokevirtual 175, 3) := by decide +kernel
theorem dL_law_3004 : decode cL_law 3004 = .ok (.iload 6, 2) := by decide +kernel
theorem dL_law_3006 : decode cL_law 3006 = .ok (.if_icmp .eq 5, 3) := by decide +kernel
theorem dL_law_3009 : decode cL_law 3009 = .ok (.iconst 0, 1) := by decide +kernel
theorem dL_law_3010 : decode cL_law 3010 = .ok (.ireturn, 1) := by decide +kernel
theorem dL_law_3011 : decode cL_law 3011 = .ok (.iload 6, 2) := by decide +kernel
theorem dL_law_3013 : decode cL_law 3013 = .ok (.ifCond .ne 15, 3) := by decide +kernel
theorem dL_law_3016 : decode cL_law 3016 = .ok (.aload_n 3, 1) := by decide +kernel
theorem dL_law_3017 : decode cL_law 3017 = .ok (.iconst 0, 1) := by decide +kernel
theorem dL_law_3018 : decode cL_law 3018 = .ok (.laload, 1) := by decide +kernel
theorem dL_law_3019 : decode cL_law 3019 = .ok (.iload 7, 2) := by decide +kernel
theorem dL_law_3021 : decode cL_law 3021 = .ok (.i2l, 1) := by decide +kernel
theorem dL_law_3022 : decode cL_law 3022 = .ok (.lcmp, 1) := by decide +kernel
theorem dL_law_3023 : decode cL_law 3023 = .ok (.ifCond .eq 5, 3) := by decide +kernel
theorem dL_law_3026 : decode cL_law 3026 = .ok (.iconst 0, 1) := by decide +kernel
theorem dL_law_3027 : decode cL_law 3027 = .ok (.ireturn, 1) := by decide +kernel
theorem dL_law_3028 : decode cL_law 3028 = .ok (.goto 73, 3) := by decide +kernel
theorem dL_law_3031 : decode cL_law 3031 = .ok (.aload_n 1, 1) := by decide +kernel
theorem dL_law_3032 : decode cL_law 3032 = .ok (.invokevirtual 370, 3) := by decide +kernel
theorem dL_law_3035 : decode cL_law 3035 = .ok (.aload_n 2, 1) := by decide +kernel
theorem dL_law_3036 : decode cL_law 3036 = .ok (.invokevirtual 373, 3) := by decide +kernel
theorem dL_law_3039 : decode cL_law 3039 = .ok (.if_icmp .eq 62, 3) := by decide +kernel
theorem dL_law_3042 : decode cL_law 3042 = .ok (.iconst 0, 1) := by decide +kernel
theorem dL_law_3043 : decode cL_law 3043 = .ok (.ireturn, 1) := by decide +kernel
theorem dL_law_3044 : decode cL_law 3044 = .ok (.aload_n 1, 1) := by decide +kernel
theorem dL_law_3045 : decode cL_law 3045 = .ok (.invokevirtual 374, 3) := by decide +kernel
theorem dL_law_3048 : decode cL_law 3048 = .ok (.aload_n 2, 1) := by decide +kernel
theorem dL_law_3049 : decode cL_law 3049 = .ok (.invokevirtual 377, 3) := by decide +kernel
theorem dL_law_3052 : decode cL_law 3052 = .ok (.if_icmp .eq 49, 3) := by decide +kernel
theorem dL_law_3055 : decode cL_law 3055 = .ok (.iconst 0, 1) := by decide +kernel
theorem dL_law_3056 : decode cL_law 3056 = .ok (.ireturn, 1) := by decide +kernel
theorem dL_law_3057 : decode cL_law 3057 = .ok (.aload_n 1, 1) := by decide +kernel
theorem dL_law_3058 : decode cL_law 3058 = .ok (.aload_n 3, 1) := by decide +kernel
theorem dL_law_3059 : decode cL_law 3059 = .ok (.invokestatic 378, 3) := by decide +kernel
theorem dL_law_3062 : decode cL_law 3062 = .ok (.istore 6, 2) := by decide +kernel
theorem dL_law_3064 : decode cL_law 3064 = .ok (.aload_n 2, 1) := by decide +kernel
theorem dL_law_3065 : decode cL_law 3065 = .ok (.invokevirtual 380, 3) := by decide +kernel
theorem dL_law_3068 : decode cL_law 3068 = .ok (.istore 7, 2) := by decide +kernel
theorem dL_law_3070 : decode cL_law 3070 = .ok (.aload_n 2, 1) := by decide +kernel
theorem dL_law_3071 : decode cL_law 3071 = .ok (.invokevirtual 175, 3) := by decide +kernel
theorem dL_law_3074 : decode cL_law 3074 = .ok (.iload 6, 2) := by decide +kernel
theorem dL_law_3076 : decode cL_law 3076 = .ok (.if_icmp .eq 5, 3) := by decide +kernel
theorem dL_law_3079 : decode cL_law 3079 = .ok (.iconst 0, 1) := by decide +kernel
theorem dL_law_3080 : decode cL_law 3080 = .ok (.ireturn, 1) := by decide +kernel
theorem dL_law_3081 : decode cL_law 3081 = .ok (.iload 6, 2) := by decide +kernel
theorem dL_law_3083 : decode cL_law 3083 = .ok (.ifCond .ne 15, 3) := by decide +kernel
theorem dL_law_3086 : decode cL_law 3086 = .ok (.aload_n 3, 1) := by decide +kernel
theorem dL_law_3087 : decode cL_law 3087 = .ok (.iconst 0, 1) := by decide +kernel
theorem dL_law_3088 : decode cL_law 3088 = .ok (.laload, 1) := by decide +kernel
theorem dL_law_3089 : decode cL_law 3089 = .ok (.iload 7, 2) := by decide +kernel
theorem dL_law_3091 : decode cL_law 3091 = .ok (.i2l, 1) := by decide +kernel
theorem dL_law_3092 : decode cL_law 3092 = .ok (.lcmp, 1) := by decide +kernel
theorem dL_law_3093 : decode cL_law 3093 = .ok (.ifCond .eq 5, 3) := by decide +kernel
theorem dL_law_3096 : decode cL_law 3096 = .ok (.iconst 0, 1) := by decide +kernel
theorem dL_law_3097 : decode cL_law 3097 = .ok (.ireturn, 1) := by decide +kernel
theorem dL_law_3098 : decode cL_law 3098 = .ok (.goto 3, 3) := by decide +kernel
theorem dL_law_3101 : decode cL_law 3101 = .ok (.iinc 5 3, 3) := by decide +kernel
theorem dL_law_3104 : decode cL_law 3104 = .ok (.goto (-3076), 3) := by decide +kernel
theorem dL_law_3107 : decode cL_law 3107 = .ok (.iconst 1, 1) := by decide +kernel
theorem dL_law_3108 : decode cL_law 3108 = .ok (.ireturn, 1) := by decide +kernel
theorem q1573 : Cond.methodLink "BookmarkManagerLaw" 174 yX4_addRibbon ∈ wU := mU 1573 (by decide +kernel) (by decide +kernel)
theorem q1574 : Cond.instanceMethod yX4_addRibbon ∈ wU := mU 1574 (by decide +kernel) (by decide +kernel)
theorem q1575 : Cond.selects "BookmarkManagerModel" yX4_addRibbon yX4_addRibbon ∈ wU := mU 1575 (by decide +kernel) (by decide +kernel)
theorem q1576 : Cond.code yX4_addRibbon prog_6_method_29_code 3 (some .int) ∈ wU := mU 1576 (by decide +kernel) (by decide +kernel)
theorem q1553 : Cond.methodLink "BookmarkManagerLaw" 175 yX4_thrown ∈ wU := mU 1553 (by decide +kernel) (by decide +kernel)
theorem q1554 : Cond.instanceMethod yX4_thrown ∈ wU := mU 1554 (by decide +kernel) (by decide +kernel)
theorem q1555 : Cond.selects "BookmarkManagerModel" yX4_thrown yX4_thrown ∈ wU := mU 1555 (by decide +kernel) (by decide +kernel)
theorem q1556 : Cond.code yX4_thrown prog_6_method_2_code 1 (some .int) ∈ wU := mU 1556 (by decide +kernel) (by decide +kernel)
theorem q1627 : Cond.methodLink "BookmarkManagerLaw" 180 yX4_addDogEar ∈ wU := mU 1627 (by decide +kernel) (by decide +kernel)
theorem q1628 : Cond.instanceMethod yX4_addDogEar ∈ wU := mU 1628 (by decide +kernel) (by decide +kernel)
theorem q1629 : Cond.selects "BookmarkManagerModel" yX4_addDogEar yX4_addDogEar ∈ wU := mU 1629 (by decide +kernel) (by decide +kernel)
theorem q1630 : Cond.code yX4_addDogEar prog_6_method_30_code 3 (some .int) ∈ wU := mU 1630 (by decide +kernel) (by decide +kernel)
theorem q1631 : Cond.methodLink "BookmarkManagerLaw" 184 yX4_removeMark ∈ wU := mU 1631 (by decide +kernel) (by decide +kernel)
theorem q1632 : Cond.instanceMethod yX4_removeMark ∈ wU := mU 1632 (by decide +kernel) (by decide +kernel)
theorem q1633 : Cond.selects "BookmarkManagerModel" yX4_removeMark yX4_removeMark ∈ wU := mU 1633 (by decide +kernel) (by decide +kernel)
theorem q1634 : Cond.code yX4_removeMark prog_6_method_33_code 2 (some .int) ∈ wU := mU 1634 (by decide +kernel) (by decide +kernel)
theorem q1647 : Cond.methodLink "BookmarkManagerLaw" 187 yX4_moveRibbon ∈ wU := mU 1647 (by decide +kernel) (by decide +kernel)
theorem q1648 : Cond.instanceMethod yX4_moveRibbon ∈ wU := mU 1648 (by decide +kernel) (by decide +kernel)
theorem q1649 : Cond.selects "BookmarkManagerModel" yX4_moveRibbon yX4_moveRibbon ∈ wU := mU 1649 (by decide +kernel) (by decide +kernel)
theorem q1650 : Cond.code yX4_moveRibbon prog_6_method_35_code 3 (some .int) ∈ wU := mU 1650 (by decide +kernel) (by decide +kernel)
theorem q1655 : Cond.methodLink "BookmarkManagerLaw" 190 yX4_swapSeats ∈ wU := mU 1655 (by decide +kernel) (by decide +kernel)
theorem q1656 : Cond.instanceMethod yX4_swapSeats ∈ wU := mU 1656 (by decide +kernel) (by decide +kernel)
theorem q1657 : Cond.selects "BookmarkManagerModel" yX4_swapSeats yX4_swapSeats ∈ wU := mU 1657 (by decide +kernel) (by decide +kernel)
theorem q1658 : Cond.code yX4_swapSeats prog_6_method_37_code 3 (some .int) ∈ wU := mU 1658 (by decide +kernel) (by decide +kernel)
theorem q1715 : Cond.methodLink "BookmarkManagerLaw" 193 yX4_isRibbon ∈ wU := mU 1715 (by decide +kernel) (by decide +kernel)
theorem q1716 : Cond.instanceMethod yX4_isRibbon ∈ wU := mU 1716 (by decide +kernel) (by decide +kernel)
theorem q1717 : Cond.selects "BookmarkManagerModel" yX4_isRibbon yX4_isRibbon ∈ wU := mU 1717 (by decide +kernel) (by decide +kernel)
theorem q1718 : Cond.code yX4_isRibbon prog_6_method_46_code 2 (some .boolean) ∈ wU := mU 1718 (by decide +kernel) (by decide +kernel)
theorem q1723 : Cond.methodLink "BookmarkManagerLaw" 196 yX4_pageOf ∈ wU := mU 1723 (by decide +kernel) (by decide +kernel)
theorem q1724 : Cond.instanceMethod yX4_pageOf ∈ wU := mU 1724 (by decide +kernel) (by decide +kernel)
theorem q1725 : Cond.selects "BookmarkManagerModel" yX4_pageOf yX4_pageOf ∈ wU := mU 1725 (by decide +kernel) (by decide +kernel)
theorem q1726 : Cond.code yX4_pageOf prog_6_method_47_code 2 (some .int) ∈ wU := mU 1726 (by decide +kernel) (by decide +kernel)
theorem q1727 : Cond.methodLink "BookmarkManagerLaw" 199 yX4_weightOf ∈ wU := mU 1727 (by decide +kernel) (by decide +kernel)
theorem q1728 : Cond.instanceMethod yX4_weightOf ∈ wU := mU 1728 (by decide +kernel) (by decide +kernel)
theorem q1729 : Cond.selects "BookmarkManagerModel" yX4_weightOf yX4_weightOf ∈ wU := mU 1729 (by decide +kernel) (by decide +kernel)
theorem q1730 : Cond.code yX4_weightOf prog_6_method_48_code 2 (some .int) ∈ wU := mU 1730 (by decide +kernel) (by decide +kernel)
theorem q1731 : Cond.methodLink "BookmarkManagerLaw" 202 yX4_wearOf ∈ wU := mU 1731 (by decide +kernel) (by decide +kernel)
theorem q1732 : Cond.instanceMethod yX4_wearOf ∈ wU := mU 1732 (by decide +kernel) (by decide +kernel)
theorem q1733 : Cond.selects "BookmarkManagerModel" yX4_wearOf yX4_wearOf ∈ wU := mU 1733 (by decide +kernel) (by decide +kernel)
theorem q1734 : Cond.code yX4_wearOf prog_6_method_49_code 2 (some .int) ∈ wU := mU 1734 (by decide +kernel) (by decide +kernel)
theorem q1735 : Cond.methodLink "BookmarkManagerLaw" 205 yX4_seatOf ∈ wU := mU 1735 (by decide +kernel) (by decide +kernel)
theorem q1736 : Cond.instanceMethod yX4_seatOf ∈ wU := mU 1736 (by decide +kernel) (by decide +kernel)
theorem q1737 : Cond.selects "BookmarkManagerModel" yX4_seatOf yX4_seatOf ∈ wU := mU 1737 (by decide +kernel) (by decide +kernel)
theorem q1738 : Cond.code yX4_seatOf prog_6_method_50_code 3 (some .int) ∈ wU := mU 1738 (by decide +kernel) (by decide +kernel)
theorem q1739 : Cond.methodLink "BookmarkManagerLaw" 208 yX4_ribbonIn ∈ wU := mU 1739 (by decide +kernel) (by decide +kernel)
theorem q1740 : Cond.instanceMethod yX4_ribbonIn ∈ wU := mU 1740 (by decide +kernel) (by decide +kernel)
theorem q1741 : Cond.selects "BookmarkManagerModel" yX4_ribbonIn yX4_ribbonIn ∈ wU := mU 1741 (by decide +kernel) (by decide +kernel)
theorem q1742 : Cond.code yX4_ribbonIn prog_6_method_52_code 2 (some .int) ∈ wU := mU 1742 (by decide +kernel) (by decide +kernel)
theorem q1747 : Cond.methodLink "BookmarkManagerLaw" 211 yX4_isHeld ∈ wU := mU 1747 (by decide +kernel) (by decide +kernel)
theorem q1748 : Cond.instanceMethod yX4_isHeld ∈ wU := mU 1748 (by decide +kernel) (by decide +kernel)
theorem q1749 : Cond.selects "BookmarkManagerModel" yX4_isHeld yX4_isHeld ∈ wU := mU 1749 (by decide +kernel) (by decide +kernel)
theorem q1750 : Cond.code yX4_isHeld prog_6_method_53_code 2 (some .boolean) ∈ wU := mU 1750 (by decide +kernel) (by decide +kernel)
theorem q1751 : Cond.methodLink "BookmarkManagerLaw" 214 yX4_markOn ∈ wU := mU 1751 (by decide +kernel) (by decide +kernel)
theorem q1752 : Cond.instanceMethod yX4_markOn ∈ wU := mU 1752 (by decide +kernel) (by decide +kernel)
theorem q1753 : Cond.selects "BookmarkManagerModel" yX4_markOn yX4_markOn ∈ wU := mU 1753 (by decide +kernel) (by decide +kernel)
theorem q1754 : Cond.code yX4_markOn prog_6_method_54_code 2 (some .int) ∈ wU := mU 1754 (by decide +kernel) (by decide +kernel)
theorem q1755 : Cond.methodLink "BookmarkManagerLaw" 217 yX4_nextMark ∈ wU := mU 1755 (by decide +kernel) (by decide +kernel)
theorem q1756 : Cond.instanceMethod yX4_nextMark ∈ wU := mU 1756 (by decide +kernel) (by decide +kernel)
theorem q1757 : Cond.selects "BookmarkManagerModel" yX4_nextMark yX4_nextMark ∈ wU := mU 1757 (by decide +kernel) (by decide +kernel)
theorem q1758 : Cond.code yX4_nextMark prog_6_method_56_code 2 (some .int) ∈ wU := mU 1758 (by decide +kernel) (by decide +kernel)
theorem q1763 : Cond.methodLink "BookmarkManagerLaw" 220 yX4_previousMark ∈ wU := mU 1763 (by decide +kernel) (by decide +kernel)
theorem q1764 : Cond.instanceMethod yX4_previousMark ∈ wU := mU 1764 (by decide +kernel) (by decide +kernel)
theorem q1765 : Cond.selects "BookmarkManagerModel" yX4_previousMark yX4_previousMark ∈ wU := mU 1765 (by decide +kernel) (by decide +kernel)
theorem q1766 : Cond.code yX4_previousMark prog_6_method_57_code 2 (some .int) ∈ wU := mU 1766 (by decide +kernel) (by decide +kernel)
theorem q1767 : Cond.methodLink "BookmarkManagerLaw" 223 yX4_nearestMark ∈ wU := mU 1767 (by decide +kernel) (by decide +kernel)
theorem q1768 : Cond.instanceMethod yX4_nearestMark ∈ wU := mU 1768 (by decide +kernel) (by decide +kernel)
theorem q1769 : Cond.selects "BookmarkManagerModel" yX4_nearestMark yX4_nearestMark ∈ wU := mU 1769 (by decide +kernel) (by decide +kernel)
theorem q1770 : Cond.code yX4_nearestMark prog_6_method_58_code 2 (some .int) ∈ wU := mU 1770 (by decide +kernel) (by decide +kernel)
theorem q1771 : Cond.methodLink "BookmarkManagerLaw" 226 yX4_chapterOf ∈ wU := mU 1771 (by decide +kernel) (by decide +kernel)
theorem q1772 : Cond.instanceMethod yX4_chapterOf ∈ wU := mU 1772 (by decide +kernel) (by decide +kernel)
theorem q1773 : Cond.selects "BookmarkManagerModel" yX4_chapterOf yX4_chapterOf ∈ wU := mU 1773 (by decide +kernel) (by decide +kernel)
theorem q1774 : Cond.code yX4_chapterOf prog_6_method_59_code 2 (some .int) ∈ wU := mU 1774 (by decide +kernel) (by decide +kernel)
theorem q1663 : Cond.methodLink "BookmarkManagerLaw" 229 yX4_startChapter ∈ wU := mU 1663 (by decide +kernel) (by decide +kernel)
theorem q1664 : Cond.instanceMethod yX4_startChapter ∈ wU := mU 1664 (by decide +kernel) (by decide +kernel)
theorem q1665 : Cond.selects "BookmarkManagerModel" yX4_startChapter yX4_startChapter ∈ wU := mU 1665 (by decide +kernel) (by decide +kernel)
theorem q1666 : Cond.code yX4_startChapter prog_6_method_39_code 2 (some .int) ∈ wU := mU 1666 (by decide +kernel) (by decide +kernel)
theorem q1679 : Cond.methodLink "BookmarkManagerLaw" 232 yX4_voteToDissolve ∈ wU := mU 1679 (by decide +kernel) (by decide +kernel)
theorem q1680 : Cond.instanceMethod yX4_voteToDissolve ∈ wU := mU 1680 (by decide +kernel) (by decide +kernel)
theorem q1681 : Cond.selects "BookmarkManagerModel" yX4_voteToDissolve yX4_voteToDissolve ∈ wU := mU 1681 (by decide +kernel) (by decide +kernel)
theorem q1682 : Cond.code yX4_voteToDissolve prog_6_method_41_code 2 (some .boolean) ∈ wU := mU 1682 (by decide +kernel) (by decide +kernel)
theorem q1775 : Cond.methodLink "BookmarkManagerLaw" 235 yX4_firstPage ∈ wU := mU 1775 (by decide +kernel) (by decide +kernel)
theorem q1776 : Cond.instanceMethod yX4_firstPage ∈ wU := mU 1776 (by decide +kernel) (by decide +kernel)
theorem q1777 : Cond.selects "BookmarkManagerModel" yX4_firstPage yX4_firstPage ∈ wU := mU 1777 (by decide +kernel) (by decide +kernel)
theorem q1778 : Cond.code yX4_firstPage prog_6_method_60_code 2 (some .int) ∈ wU := mU 1778 (by decide +kernel) (by decide +kernel)
theorem q1779 : Cond.methodLink "BookmarkManagerLaw" 238 yX4_lastPage ∈ wU := mU 1779 (by decide +kernel) (by decide +kernel)
theorem q1780 : Cond.instanceMethod yX4_lastPage ∈ wU := mU 1780 (by decide +kernel) (by decide +kernel)
theorem q1781 : Cond.selects "BookmarkManagerModel" yX4_lastPage yX4_lastPage ∈ wU := mU 1781 (by decide +kernel) (by decide +kernel)
theorem q1782 : Cond.code yX4_lastPage prog_6_method_61_code 2 (some .int) ∈ wU := mU 1782 (by decide +kernel) (by decide +kernel)
theorem q1787 : Cond.methodLink "BookmarkManagerLaw" 241 yX4_heldPages ∈ wU := mU 1787 (by decide +kernel) (by decide +kernel)
theorem q1795 : Cond.methodLink "BookmarkManagerLaw" 244 yX4_heldPagesByMarks ∈ wU := mU 1795 (by decide +kernel) (by decide +kernel)
theorem q1796 : Cond.instanceMethod yX4_heldPagesByMarks ∈ wU := mU 1796 (by decide +kernel) (by decide +kernel)
theorem q1797 : Cond.selects "BookmarkManagerModel" yX4_heldPagesByMarks yX4_heldPagesByMarks ∈ wU := mU 1797 (by decide +kernel) (by decide +kernel)
theorem q1798 : Cond.code yX4_heldPagesByMarks prog_6_method_63_code 2 (some .int) ∈ wU := mU 1798 (by decide +kernel) (by decide +kernel)
theorem q1800 : Cond.methodLink "BookmarkManagerLaw" 247 yX4_chapterWeight ∈ wU := mU 1800 (by decide +kernel) (by decide +kernel)
theorem q1801 : Cond.instanceMethod yX4_chapterWeight ∈ wU := mU 1801 (by decide +kernel) (by decide +kernel)
theorem q1802 : Cond.selects "BookmarkManagerModel" yX4_chapterWeight yX4_chapterWeight ∈ wU := mU 1802 (by decide +kernel) (by decide +kernel)
theorem q1803 : Cond.code yX4_chapterWeight prog_6_method_64_code 2 (some .int) ∈ wU := mU 1803 (by decide +kernel) (by decide +kernel)
theorem q1804 : Cond.methodLink "BookmarkManagerLaw" 250 yX4_weightInFavour ∈ wU := mU 1804 (by decide +kernel) (by decide +kernel)
theorem q1805 : Cond.instanceMethod yX4_weightInFavour ∈ wU := mU 1805 (by decide +kernel) (by decide +kernel)
theorem q1806 : Cond.selects "BookmarkManagerModel" yX4_weightInFavour yX4_weightInFavour ∈ wU := mU 1806 (by decide +kernel) (by decide +kernel)
theorem q1807 : Cond.code yX4_weightInFavour prog_6_method_65_code 2 (some .int) ∈ wU := mU 1807 (by decide +kernel) (by decide +kernel)
theorem q1808 : Cond.methodLink "BookmarkManagerLaw" 253 yX4_weightAgainst ∈ wU := mU 1808 (by decide +kernel) (by decide +kernel)
theorem q1812 : Cond.methodLink "BookmarkManagerLaw" 256 yX4_weightAgainstByTotal ∈ wU := mU 1812 (by decide +kernel) (by decide +kernel)
theorem q1813 : Cond.instanceMethod yX4_weightAgainstByTotal ∈ wU := mU 1813 (by decide +kernel) (by decide +kernel)
theorem q1814 : Cond.selects "BookmarkManagerModel" yX4_weightAgainstByTotal yX4_weightAgainstByTotal ∈ wU := mU 1814 (by decide +kernel) (by decide +kernel)
theorem q1815 : Cond.code yX4_weightAgainstByTotal prog_6_method_67_code 2 (some .int) ∈ wU := mU 1815 (by decide +kernel) (by decide +kernel)
theorem q1817 : Cond.methodLink "BookmarkManagerLaw" 259 yX4_wouldDissolve ∈ wU := mU 1817 (by decide +kernel) (by decide +kernel)
theorem q1818 : Cond.instanceMethod yX4_wouldDissolve ∈ wU := mU 1818 (by decide +kernel) (by decide +kernel)
theorem q1819 : Cond.selects "BookmarkManagerModel" yX4_wouldDissolve yX4_wouldDissolve ∈ wU := mU 1819 (by decide +kernel) (by decide +kernel)
theorem q1820 : Cond.code yX4_wouldDissolve prog_6_method_68_code 2 (some .boolean) ∈ wU := mU 1820 (by decide +kernel) (by decide +kernel)
theorem q272 : Cond.methodLink "BookmarkManagerLaw" 260 yX3_heaviestChapter ∈ wU := mU 272 (by decide +kernel) (by decide +kernel)
theorem q273 : Cond.instanceMethod yX3_heaviestChapter ∈ wU := mU 273 (by decide +kernel) (by decide +kernel)
theorem q274 : Cond.selects "BookmarkManager" yX3_heaviestChapter yX3_heaviestChapter ∈ wU := mU 274 (by decide +kernel) (by decide +kernel)
theorem q275 : Cond.code yX3_heaviestChapter prog_1_method_30_code 1 (some .int) ∈ wU := mU 275 (by decide +kernel) (by decide +kernel)
theorem q1821 : Cond.methodLink "BookmarkManagerLaw" 263 yX4_heaviestChapter ∈ wU := mU 1821 (by decide +kernel) (by decide +kernel)
theorem q1822 : Cond.instanceMethod yX4_heaviestChapter ∈ wU := mU 1822 (by decide +kernel) (by decide +kernel)
theorem q1823 : Cond.selects "BookmarkManagerModel" yX4_heaviestChapter yX4_heaviestChapter ∈ wU := mU 1823 (by decide +kernel) (by decide +kernel)
theorem q1824 : Cond.code yX4_heaviestChapter prog_6_method_69_code 3 (some .int) ∈ wU := mU 1824 (by decide +kernel) (by decide +kernel)
theorem q1703 : Cond.methodLink "BookmarkManagerLaw" 267 yX4_turnPages ∈ wU := mU 1703 (by decide +kernel) (by decide +kernel)
theorem q1704 : Cond.instanceMethod yX4_turnPages ∈ wU := mU 1704 (by decide +kernel) (by decide +kernel)
theorem q1705 : Cond.selects "BookmarkManagerModel" yX4_turnPages yX4_turnPages ∈ wU := mU 1705 (by decide +kernel) (by decide +kernel)
theorem q1706 : Cond.code yX4_turnPages prog_6_method_44_code 3 (some .int) ∈ wU := mU 1706 (by decide +kernel) (by decide +kernel)
theorem q288 : Cond.methodLink "BookmarkManagerLaw" 268 yX3_currentPage ∈ wU := mU 288 (by decide +kernel) (by decide +kernel)
theorem q289 : Cond.instanceMethod yX3_currentPage ∈ wU := mU 289 (by decide +kernel) (by decide +kernel)
theorem q290 : Cond.selects "BookmarkManager" yX3_currentPage yX3_currentPage ∈ wU := mU 290 (by decide +kernel) (by decide +kernel)
theorem q291 : Cond.code yX3_currentPage prog_1_method_32_code 1 (some .int) ∈ wU := mU 291 (by decide +kernel) (by decide +kernel)
theorem q1825 : Cond.methodLink "BookmarkManagerLaw" 271 yX4_currentPage ∈ wU := mU 1825 (by decide +kernel) (by decide +kernel)
theorem q1826 : Cond.instanceMethod yX4_currentPage ∈ wU := mU 1826 (by decide +kernel) (by decide +kernel)
theorem q1827 : Cond.selects "BookmarkManagerModel" yX4_currentPage yX4_currentPage ∈ wU := mU 1827 (by decide +kernel) (by decide +kernel)
theorem q1828 : Cond.code yX4_currentPage prog_6_method_70_code 1 (some .int) ∈ wU := mU 1828 (by decide +kernel) (by decide +kernel)
theorem q1829 : Cond.methodLink "BookmarkManagerLaw" 275 yX4_pagesToNextMark ∈ wU := mU 1829 (by decide +kernel) (by decide +kernel)
theorem q1830 : Cond.instanceMethod yX4_pagesToNextMark ∈ wU := mU 1830 (by decide +kernel) (by decide +kernel)
theorem q1831 : Cond.selects "BookmarkManagerModel" yX4_pagesToNextMark yX4_pagesToNextMark ∈ wU := mU 1831 (by decide +kernel) (by decide +kernel)
theorem q1832 : Cond.code yX4_pagesToNextMark prog_6_method_71_code 2 (some .int) ∈ wU := mU 1832 (by decide +kernel) (by decide +kernel)
theorem q1833 : Cond.methodLink "BookmarkManagerLaw" 278 yX4_earsAtRisk ∈ wU := mU 1833 (by decide +kernel) (by decide +kernel)
theorem q1834 : Cond.instanceMethod yX4_earsAtRisk ∈ wU := mU 1834 (by decide +kernel) (by decide +kernel)
theorem q1835 : Cond.selects "BookmarkManagerModel" yX4_earsAtRisk yX4_earsAtRisk ∈ wU := mU 1835 (by decide +kernel) (by decide +kernel)
theorem q1836 : Cond.code yX4_earsAtRisk prog_6_method_72_code 5 (some .int) ∈ wU := mU 1836 (by decide +kernel) (by decide +kernel)
theorem q1837 : Cond.methodLink "BookmarkManagerLaw" 281 yX4_markByPage ∈ wU := mU 1837 (by decide +kernel) (by decide +kernel)
theorem q1838 : Cond.instanceMethod yX4_markByPage ∈ wU := mU 1838 (by decide +kernel) (by decide +kernel)
theorem q1839 : Cond.selects "BookmarkManagerModel" yX4_markByPage yX4_markByPage ∈ wU := mU 1839 (by decide +kernel) (by decide +kernel)
theorem q1840 : Cond.code yX4_markByPage prog_6_method_75_code 3 (some .int) ∈ wU := mU 1840 (by decide +kernel) (by decide +kernel)
theorem q1845 : Cond.methodLink "BookmarkManagerLaw" 284 yX4_markByWeight ∈ wU := mU 1845 (by decide +kernel) (by decide +kernel)
theorem q1846 : Cond.instanceMethod yX4_markByWeight ∈ wU := mU 1846 (by decide +kernel) (by decide +kernel)
theorem q1847 : Cond.selects "BookmarkManagerModel" yX4_markByWeight yX4_markByWeight ∈ wU := mU 1847 (by decide +kernel) (by decide +kernel)
theorem q1848 : Cond.code yX4_markByWeight prog_6_method_76_code 3 (some .int) ∈ wU := mU 1848 (by decide +kernel) (by decide +kernel)
theorem q292 : Cond.methodLink "BookmarkManagerLaw" 285 yX3_span ∈ wU := mU 292 (by decide +kernel) (by decide +kernel)
theorem q293 : Cond.instanceMethod yX3_span ∈ wU := mU 293 (by decide +kernel) (by decide +kernel)
theorem q294 : Cond.selects "BookmarkManager" yX3_span yX3_span ∈ wU := mU 294 (by decide +kernel) (by decide +kernel)
theorem q295 : Cond.code yX3_span prog_1_method_37_code 1 (some .int) ∈ wU := mU 295 (by decide +kernel) (by decide +kernel)
theorem q1853 : Cond.methodLink "BookmarkManagerLaw" 288 yX4_span ∈ wU := mU 1853 (by decide +kernel) (by decide +kernel)
theorem q300 : Cond.methodLink "BookmarkManagerLaw" 289 yX3_spanByEnds ∈ wU := mU 300 (by decide +kernel) (by decide +kernel)
theorem q301 : Cond.instanceMethod yX3_spanByEnds ∈ wU := mU 301 (by decide +kernel) (by decide +kernel)
theorem q302 : Cond.selects "BookmarkManager" yX3_spanByEnds yX3_spanByEnds ∈ wU := mU 302 (by decide +kernel) (by decide +kernel)
theorem q303 : Cond.code yX3_spanByEnds prog_1_method_38_code 1 (some .int) ∈ wU := mU 303 (by decide +kernel) (by decide +kernel)
theorem q1857 : Cond.methodLink "BookmarkManagerLaw" 292 yX4_spanByEnds ∈ wU := mU 1857 (by decide +kernel) (by decide +kernel)
theorem q1858 : Cond.instanceMethod yX4_spanByEnds ∈ wU := mU 1858 (by decide +kernel) (by decide +kernel)
theorem q1859 : Cond.selects "BookmarkManagerModel" yX4_spanByEnds yX4_spanByEnds ∈ wU := mU 1859 (by decide +kernel) (by decide +kernel)
theorem q1860 : Cond.code yX4_spanByEnds prog_6_method_78_code 1 (some .int) ∈ wU := mU 1860 (by decide +kernel) (by decide +kernel)
theorem q308 : Cond.methodLink "BookmarkManagerLaw" 293 yX3_ribbonWeight ∈ wU := mU 308 (by decide +kernel) (by decide +kernel)
theorem q309 : Cond.instanceMethod yX3_ribbonWeight ∈ wU := mU 309 (by decide +kernel) (by decide +kernel)
theorem q310 : Cond.selects "BookmarkManager" yX3_ribbonWeight yX3_ribbonWeight ∈ wU := mU 310 (by decide +kernel) (by decide +kernel)
theorem q311 : Cond.code yX3_ribbonWeight prog_1_method_39_code 1 (some .int) ∈ wU := mU 311 (by decide +kernel) (by decide +kernel)
theorem q1862 : Cond.methodLink "BookmarkManagerLaw" 296 yX4_ribbonWeight ∈ wU := mU 1862 (by decide +kernel) (by decide +kernel)
theorem q1863 : Cond.instanceMethod yX4_ribbonWeight ∈ wU := mU 1863 (by decide +kernel) (by decide +kernel)
theorem q1864 : Cond.selects "BookmarkManagerModel" yX4_ribbonWeight yX4_ribbonWeight ∈ wU := mU 1864 (by decide +kernel) (by decide +kernel)
theorem q1865 : Cond.code yX4_ribbonWeight prog_6_method_79_code 1 (some .int) ∈ wU := mU 1865 (by decide +kernel) (by decide +kernel)
theorem q320 : Cond.methodLink "BookmarkManagerLaw" 297 yX3_dogEarWeight ∈ wU := mU 320 (by decide +kernel) (by decide +kernel)
theorem q321 : Cond.instanceMethod yX3_dogEarWeight ∈ wU := mU 321 (by decide +kernel) (by decide +kernel)
theorem q322 : Cond.selects "BookmarkManager" yX3_dogEarWeight yX3_dogEarWeight ∈ wU := mU 322 (by decide +kernel) (by decide +kernel)
theorem q323 : Cond.code yX3_dogEarWeight prog_1_method_40_code 1 (some .int) ∈ wU := mU 323 (by decide +kernel) (by decide +kernel)
theorem q1866 : Cond.methodLink "BookmarkManagerLaw" 300 yX4_dogEarWeight ∈ wU := mU 1866 (by decide +kernel) (by decide +kernel)
theorem q1867 : Cond.instanceMethod yX4_dogEarWeight ∈ wU := mU 1867 (by decide +kernel) (by decide +kernel)
theorem q1868 : Cond.selects "BookmarkManagerModel" yX4_dogEarWeight yX4_dogEarWeight ∈ wU := mU 1868 (by decide +kernel) (by decide +kernel)
theorem q1869 : Cond.code yX4_dogEarWeight prog_6_method_80_code 1 (some .int) ∈ wU := mU 1869 (by decide +kernel) (by decide +kernel)
theorem q324 : Cond.methodLink "BookmarkManagerLaw" 301 yX3_markCount ∈ wU := mU 324 (by decide +kernel) (by decide +kernel)
theorem q325 : Cond.instanceMethod yX3_markCount ∈ wU := mU 325 (by decide +kernel) (by decide +kernel)
theorem q326 : Cond.selects "BookmarkManager" yX3_markCount yX3_markCount ∈ wU := mU 326 (by decide +kernel) (by decide +kernel)
theorem q327 : Cond.code yX3_markCount prog_1_method_41_code 1 (some .int) ∈ wU := mU 327 (by decide +kernel) (by decide +kernel)
theorem q1870 : Cond.methodLink "BookmarkManagerLaw" 304 yX4_markCount ∈ wU := mU 1870 (by decide +kernel) (by decide +kernel)
theorem q1871 : Cond.instanceMethod yX4_markCount ∈ wU := mU 1871 (by decide +kernel) (by decide +kernel)
theorem q1872 : Cond.selects "BookmarkManagerModel" yX4_markCount yX4_markCount ∈ wU := mU 1872 (by decide +kernel) (by decide +kernel)
theorem q1873 : Cond.code yX4_markCount prog_6_method_81_code 1 (some .int) ∈ wU := mU 1873 (by decide +kernel) (by decide +kernel)
theorem q328 : Cond.methodLink "BookmarkManagerLaw" 305 yX3_ribbonCount ∈ wU := mU 328 (by decide +kernel) (by decide +kernel)
theorem q329 : Cond.instanceMethod yX3_ribbonCount ∈ wU := mU 329 (by decide +kernel) (by decide +kernel)
theorem q330 : Cond.selects "BookmarkManager" yX3_ribbonCount yX3_ribbonCount ∈ wU := mU 330 (by decide +kernel) (by decide +kernel)
theorem q331 : Cond.code yX3_ribbonCount prog_1_method_42_code 1 (some .int) ∈ wU := mU 331 (by decide +kernel) (by decide +kernel)
theorem q1874 : Cond.methodLink "BookmarkManagerLaw" 308 yX4_ribbonCount ∈ wU := mU 1874 (by decide +kernel) (by decide +kernel)
theorem q1875 : Cond.instanceMethod yX4_ribbonCount ∈ wU := mU 1875 (by decide +kernel) (by decide +kernel)
theorem q1876 : Cond.selects "BookmarkManagerModel" yX4_ribbonCount yX4_ribbonCount ∈ wU := mU 1876 (by decide +kernel) (by decide +kernel)
theorem q1877 : Cond.code yX4_ribbonCount prog_6_method_82_code 3 (some .int) ∈ wU := mU 1877 (by decide +kernel) (by decide +kernel)
theorem q336 : Cond.methodLink "BookmarkManagerLaw" 309 yX3_chapterCount ∈ wU := mU 336 (by decide +kernel) (by decide +kernel)
theorem q337 : Cond.instanceMethod yX3_chapterCount ∈ wU := mU 337 (by decide +kernel) (by decide +kernel)
theorem q338 : Cond.selects "BookmarkManager" yX3_chapterCount yX3_chapterCount ∈ wU := mU 338 (by decide +kernel) (by decide +kernel)
theorem q339 : Cond.code yX3_chapterCount prog_1_method_43_code 1 (some .int) ∈ wU := mU 339 (by decide +kernel) (by decide +kernel)
theorem q1878 : Cond.methodLink "BookmarkManagerLaw" 312 yX4_chapterCount ∈ wU := mU 1878 (by decide +kernel) (by decide +kernel)
theorem q1879 : Cond.instanceMethod yX4_chapterCount ∈ wU := mU 1879 (by decide +kernel) (by decide +kernel)
theorem q1880 : Cond.selects "BookmarkManagerModel" yX4_chapterCount yX4_chapterCount ∈ wU := mU 1880 (by decide +kernel) (by decide +kernel)
theorem q1881 : Cond.code yX4_chapterCount prog_6_method_83_code 1 (some .int) ∈ wU := mU 1881 (by decide +kernel) (by decide +kernel)
theorem q340 : Cond.methodLink "BookmarkManagerLaw" 313 yX3_votesHeld ∈ wU := mU 340 (by decide +kernel) (by decide +kernel)
theorem q341 : Cond.instanceMethod yX3_votesHeld ∈ wU := mU 341 (by decide +kernel) (by decide +kernel)
theorem q342 : Cond.selects "BookmarkManager" yX3_votesHeld yX3_votesHeld ∈ wU := mU 342 (by decide +kernel) (by decide +kernel)
theorem q343 : Cond.code yX3_votesHeld prog_1_method_44_code 1 (some .int) ∈ wU := mU 343 (by decide +kernel) (by decide +kernel)
theorem q1882 : Cond.methodLink "BookmarkManagerLaw" 316 yX4_votesHeld ∈ wU := mU 1882 (by decide +kernel) (by decide +kernel)
theorem q1883 : Cond.instanceMethod yX4_votesHeld ∈ wU := mU 1883 (by decide +kernel) (by decide +kernel)
theorem q1884 : Cond.selects "BookmarkManagerModel" yX4_votesHeld yX4_votesHeld ∈ wU := mU 1884 (by decide +kernel) (by decide +kernel)
theorem q1885 : Cond.code yX4_votesHeld prog_6_method_84_code 1 (some .int) ∈ wU := mU 1885 (by decide +kernel) (by decide +kernel)
theorem q344 : Cond.methodLink "BookmarkManagerLaw" 317 yX3_motionsCarried ∈ wU := mU 344 (by decide +kernel) (by decide +kernel)
theorem q345 : Cond.instanceMethod yX3_motionsCarried ∈ wU := mU 345 (by decide +kernel) (by decide +kernel)
theorem q346 : Cond.selects "BookmarkManager" yX3_motionsCarried yX3_motionsCarried ∈ wU := mU 346 (by decide +kernel) (by decide +kernel)
theorem q347 : Cond.code yX3_motionsCarried prog_1_method_45_code 1 (some .int) ∈ wU := mU 347 (by decide +kernel) (by decide +kernel)
theorem q1886 : Cond.methodLink "BookmarkManagerLaw" 320 yX4_motionsCarried ∈ wU := mU 1886 (by decide +kernel) (by decide +kernel)
theorem q1887 : Cond.instanceMethod yX4_motionsCarried ∈ wU := mU 1887 (by decide +kernel) (by decide +kernel)
theorem q1888 : Cond.selects "BookmarkManagerModel" yX4_motionsCarried yX4_motionsCarried ∈ wU := mU 1888 (by decide +kernel) (by decide +kernel)
theorem q1889 : Cond.code yX4_motionsCarried prog_6_method_85_code 1 (some .int) ∈ wU := mU 1889 (by decide +kernel) (by decide +kernel)
theorem q348 : Cond.methodLink "BookmarkManagerLaw" 321 yX3_fallenEars ∈ wU := mU 348 (by decide +kernel) (by decide +kernel)
theorem q349 : Cond.instanceMethod yX3_fallenEars ∈ wU := mU 349 (by decide +kernel) (by decide +kernel)
theorem q350 : Cond.selects "BookmarkManager" yX3_fallenEars yX3_fallenEars ∈ wU := mU 350 (by decide +kernel) (by decide +kernel)
theorem q351 : Cond.code yX3_fallenEars prog_1_method_46_code 1 (some .int) ∈ wU := mU 351 (by decide +kernel) (by decide +kernel)
theorem q1890 : Cond.methodLink "BookmarkManagerLaw" 324 yX4_fallenEars ∈ wU := mU 1890 (by decide +kernel) (by decide +kernel)
theorem q1891 : Cond.instanceMethod yX4_fallenEars ∈ wU := mU 1891 (by decide +kernel) (by decide +kernel)
theorem q1892 : Cond.selects "BookmarkManagerModel" yX4_fallenEars yX4_fallenEars ∈ wU := mU 1892 (by decide +kernel) (by decide +kernel)
theorem q1893 : Cond.code yX4_fallenEars prog_6_method_86_code 1 (some .int) ∈ wU := mU 1893 (by decide +kernel) (by decide +kernel)
theorem q1894 : Cond.methodLink "BookmarkManagerLaw" 328 yX4_meanWeight ∈ wU := mU 1894 (by decide +kernel) (by decide +kernel)
theorem q1895 : Cond.instanceMethod yX4_meanWeight ∈ wU := mU 1895 (by decide +kernel) (by decide +kernel)
theorem q1896 : Cond.selects "BookmarkManagerModel" yX4_meanWeight yX4_meanWeight ∈ wU := mU 1896 (by decide +kernel) (by decide +kernel)
theorem q1897 : Cond.code yX4_meanWeight prog_6_method_87_code 1 (some .double) ∈ wU := mU 1897 (by decide +kernel) (by decide +kernel)
theorem q1898 : Cond.methodLink "BookmarkManagerLaw" 332 yX4_heldShare ∈ wU := mU 1898 (by decide +kernel) (by decide +kernel)
theorem q1899 : Cond.instanceMethod yX4_heldShare ∈ wU := mU 1899 (by decide +kernel) (by decide +kernel)
theorem q1900 : Cond.selects "BookmarkManagerModel" yX4_heldShare yX4_heldShare ∈ wU := mU 1900 (by decide +kernel) (by decide +kernel)
theorem q1901 : Cond.code yX4_heldShare prog_6_method_88_code 2 (some .float) ∈ wU := mU 1901 (by decide +kernel) (by decide +kernel)
theorem q352 : Cond.methodLink "BookmarkManagerLaw" 333 yX3_isConsistent ∈ wU := mU 352 (by decide +kernel) (by decide +kernel)
theorem q353 : Cond.instanceMethod yX3_isConsistent ∈ wU := mU 353 (by decide +kernel) (by decide +kernel)
theorem q354 : Cond.selects "BookmarkManager" yX3_isConsistent yX3_isConsistent ∈ wU := mU 354 (by decide +kernel) (by decide +kernel)
theorem q355 : Cond.code yX3_isConsistent prog_1_method_49_code 1 (some .boolean) ∈ wU := mU 355 (by decide +kernel) (by decide +kernel)
theorem q1902 : Cond.methodLink "BookmarkManagerLaw" 337 yX4_isConsistent ∈ wU := mU 1902 (by decide +kernel) (by decide +kernel)
theorem q1903 : Cond.instanceMethod yX4_isConsistent ∈ wU := mU 1903 (by decide +kernel) (by decide +kernel)
theorem q1904 : Cond.selects "BookmarkManagerModel" yX4_isConsistent yX4_isConsistent ∈ wU := mU 1904 (by decide +kernel) (by decide +kernel)
theorem q1905 : Cond.code yX4_isConsistent prog_6_method_89_code 1 (some .boolean) ∈ wU := mU 1905 (by decide +kernel) (by decide +kernel)
theorem q1906 : Cond.methodLink "BookmarkManagerLaw" 340 yX4_writeChapter ∈ wU := mU 1906 (by decide +kernel) (by decide +kernel)
theorem q1907 : Cond.instanceMethod yX4_writeChapter ∈ wU := mU 1907 (by decide +kernel) (by decide +kernel)
theorem q1908 : Cond.selects "BookmarkManagerModel" yX4_writeChapter yX4_writeChapter ∈ wU := mU 1908 (by decide +kernel) (by decide +kernel)
theorem q1909 : Cond.code yX4_writeChapter prog_6_method_92_code 4 (some .int) ∈ wU := mU 1909 (by decide +kernel) (by decide +kernel)
theorem q404 : Cond.methodLink "BookmarkManagerLaw" 341 yX3_writeSeats ∈ wU := mU 404 (by decide +kernel) (by decide +kernel)
theorem q405 : Cond.instanceMethod yX3_writeSeats ∈ wU := mU 405 (by decide +kernel) (by decide +kernel)
theorem q406 : Cond.selects "BookmarkManager" yX3_writeSeats yX3_writeSeats ∈ wU := mU 406 (by decide +kernel) (by decide +kernel)
theorem q407 : Cond.code yX3_writeSeats prog_1_method_51_code 2 (some .int) ∈ wU := mU 407 (by decide +kernel) (by decide +kernel)
theorem q1918 : Cond.methodLink "BookmarkManagerLaw" 344 yX4_writeSeats ∈ wU := mU 1918 (by decide +kernel) (by decide +kernel)
theorem q1919 : Cond.instanceMethod yX4_writeSeats ∈ wU := mU 1919 (by decide +kernel) (by decide +kernel)
theorem q1920 : Cond.selects "BookmarkManagerModel" yX4_writeSeats yX4_writeSeats ∈ wU := mU 1920 (by decide +kernel) (by decide +kernel)
theorem q1921 : Cond.code yX4_writeSeats prog_6_method_93_code 2 (some .int) ∈ wU := mU 1921 (by decide +kernel) (by decide +kernel)
theorem q1922 : Cond.methodLink "BookmarkManagerLaw" 347 yX4_outputAt ∈ wU := mU 1922 (by decide +kernel) (by decide +kernel)
theorem q1923 : Cond.instanceMethod yX4_outputAt ∈ wU := mU 1923 (by decide +kernel) (by decide +kernel)
theorem q1924 : Cond.selects "BookmarkManagerModel" yX4_outputAt yX4_outputAt ∈ wU := mU 1924 (by decide +kernel) (by decide +kernel)
theorem q1925 : Cond.code yX4_outputAt prog_6_method_94_code 2 (some .char) ∈ wU := mU 1925 (by decide +kernel) (by decide +kernel)
theorem q1926 : Cond.methodLink "BookmarkManagerLaw" 351 yX4_appendInput ∈ wU := mU 1926 (by decide +kernel) (by decide +kernel)
theorem q1927 : Cond.instanceMethod yX4_appendInput ∈ wU := mU 1927 (by decide +kernel) (by decide +kernel)
theorem q1928 : Cond.selects "BookmarkManagerModel" yX4_appendInput yX4_appendInput ∈ wU := mU 1928 (by decide +kernel) (by decide +kernel)
theorem q1929 : Cond.code yX4_appendInput prog_6_method_95_code 2 (some .int) ∈ wU := mU 1929 (by decide +kernel) (by decide +kernel)
theorem q1930 : Cond.methodLink "BookmarkManagerLaw" 354 yX4_execute ∈ wU := mU 1930 (by decide +kernel) (by decide +kernel)
theorem q1931 : Cond.instanceMethod yX4_execute ∈ wU := mU 1931 (by decide +kernel) (by decide +kernel)
theorem q1932 : Cond.selects "BookmarkManagerModel" yX4_execute yX4_execute ∈ wU := mU 1932 (by decide +kernel) (by decide +kernel)
theorem q1933 : Cond.code yX4_execute prog_6_method_104_code 3 (some .int) ∈ wU := mU 1933 (by decide +kernel) (by decide +kernel)
theorem q1965 : Cond.methodLink "BookmarkManagerLaw" 357 yX4_syntaxErrorOffset ∈ wU := mU 1965 (by decide +kernel) (by decide +kernel)
theorem q1966 : Cond.instanceMethod yX4_syntaxErrorOffset ∈ wU := mU 1966 (by decide +kernel) (by decide +kernel)
theorem q1967 : Cond.selects "BookmarkManagerModel" yX4_syntaxErrorOffset yX4_syntaxErrorOffset ∈ wU := mU 1967 (by decide +kernel) (by decide +kernel)
theorem q1968 : Cond.code yX4_syntaxErrorOffset prog_6_method_105_code 1 (some .int) ∈ wU := mU 1968 (by decide +kernel) (by decide +kernel)
theorem q1557 : Cond.methodLink "BookmarkManagerLaw" 360 yX4_rejectionReason ∈ wU := mU 1557 (by decide +kernel) (by decide +kernel)
theorem q1558 : Cond.instanceMethod yX4_rejectionReason ∈ wU := mU 1558 (by decide +kernel) (by decide +kernel)
theorem q1559 : Cond.selects "BookmarkManagerModel" yX4_rejectionReason yX4_rejectionReason ∈ wU := mU 1559 (by decide +kernel) (by decide +kernel)
theorem q1560 : Cond.code yX4_rejectionReason prog_6_method_9_code 1 (some .int) ∈ wU := mU 1560 (by decide +kernel) (by decide +kernel)
theorem q1565 : Cond.methodLink "BookmarkManagerLaw" 363 yX4_rejectionDetail ∈ wU := mU 1565 (by decide +kernel) (by decide +kernel)
theorem q1566 : Cond.instanceMethod yX4_rejectionDetail ∈ wU := mU 1566 (by decide +kernel) (by decide +kernel)
theorem q1567 : Cond.selects "BookmarkManagerModel" yX4_rejectionDetail yX4_rejectionDetail ∈ wU := mU 1567 (by decide +kernel) (by decide +kernel)
theorem q1568 : Cond.code yX4_rejectionDetail prog_6_method_10_code 1 (some .int) ∈ wU := mU 1568 (by decide +kernel) (by decide +kernel)
theorem q1569 : Cond.methodLink "BookmarkManagerLaw" 366 yX4_causeReason ∈ wU := mU 1569 (by decide +kernel) (by decide +kernel)
theorem q1570 : Cond.instanceMethod yX4_causeReason ∈ wU := mU 1570 (by decide +kernel) (by decide +kernel)
theorem q1571 : Cond.selects "BookmarkManagerModel" yX4_causeReason yX4_causeReason ∈ wU := mU 1571 (by decide +kernel) (by decide +kernel)
theorem q1572 : Cond.code yX4_causeReason prog_6_method_11_code 1 (some .int) ∈ wU := mU 1572 (by decide +kernel) (by decide +kernel)
theorem q1969 : Cond.methodLink "BookmarkManagerLaw" 369 yX4_undo ∈ wU := mU 1969 (by decide +kernel) (by decide +kernel)
theorem q1970 : Cond.instanceMethod yX4_undo ∈ wU := mU 1970 (by decide +kernel) (by decide +kernel)
theorem q1971 : Cond.selects "BookmarkManagerModel" yX4_undo yX4_undo ∈ wU := mU 1971 (by decide +kernel) (by decide +kernel)
theorem q1972 : Cond.code yX4_undo prog_6_method_106_code 1 (some .int) ∈ wU := mU 1972 (by decide +kernel) (by decide +kernel)
theorem q784 : Cond.methodLink "BookmarkManagerLaw" 370 yX3_undoCount ∈ wU := mU 784 (by decide +kernel) (by decide +kernel)
theorem q785 : Cond.instanceMethod yX3_undoCount ∈ wU := mU 785 (by decide +kernel) (by decide +kernel)
theorem q786 : Cond.selects "BookmarkManager" yX3_undoCount yX3_undoCount ∈ wU := mU 786 (by decide +kernel) (by decide +kernel)
theorem q787 : Cond.code yX3_undoCount prog_1_method_60_code 1 (some .int) ∈ wU := mU 787 (by decide +kernel) (by decide +kernel)
theorem q1973 : Cond.methodLink "BookmarkManagerLaw" 373 yX4_undoCount ∈ wU := mU 1973 (by decide +kernel) (by decide +kernel)
theorem q1974 : Cond.instanceMethod yX4_undoCount ∈ wU := mU 1974 (by decide +kernel) (by decide +kernel)
theorem q1975 : Cond.selects "BookmarkManagerModel" yX4_undoCount yX4_undoCount ∈ wU := mU 1975 (by decide +kernel) (by decide +kernel)
theorem q1976 : Cond.code yX4_undoCount prog_6_method_107_code 1 (some .int) ∈ wU := mU 1976 (by decide +kernel) (by decide +kernel)
theorem q788 : Cond.methodLink "BookmarkManagerLaw" 374 yX3_saveSnapshot ∈ wU := mU 788 (by decide +kernel) (by decide +kernel)
theorem q789 : Cond.instanceMethod yX3_saveSnapshot ∈ wU := mU 789 (by decide +kernel) (by decide +kernel)
theorem q790 : Cond.selects "BookmarkManager" yX3_saveSnapshot yX3_saveSnapshot ∈ wU := mU 790 (by decide +kernel) (by decide +kernel)
theorem q791 : Cond.code yX3_saveSnapshot prog_1_method_61_code 1 (some .int) ∈ wU := mU 791 (by decide +kernel) (by decide +kernel)
theorem q1977 : Cond.methodLink "BookmarkManagerLaw" 377 yX4_saveSnapshot ∈ wU := mU 1977 (by decide +kernel) (by decide +kernel)
theorem q1978 : Cond.instanceMethod yX4_saveSnapshot ∈ wU := mU 1978 (by decide +kernel) (by decide +kernel)
theorem q1979 : Cond.selects "BookmarkManagerModel" yX4_saveSnapshot yX4_saveSnapshot ∈ wU := mU 1979 (by decide +kernel) (by decide +kernel)
theorem q1980 : Cond.code yX4_saveSnapshot prog_6_method_108_code 1 (some .int) ∈ wU := mU 1980 (by decide +kernel) (by decide +kernel)
theorem q1981 : Cond.methodLink "BookmarkManagerLaw" 380 yX4_restoreSnapshot ∈ wU := mU 1981 (by decide +kernel) (by decide +kernel)
theorem q1982 : Cond.instanceMethod yX4_restoreSnapshot ∈ wU := mU 1982 (by decide +kernel) (by decide +kernel)
theorem q1983 : Cond.selects "BookmarkManagerModel" yX4_restoreSnapshot yX4_restoreSnapshot ∈ wU := mU 1983 (by decide +kernel) (by decide +kernel)
theorem q1984 : Cond.code yX4_restoreSnapshot prog_6_method_109_code 1 (some .int) ∈ wU := mU 1984 (by decide +kernel) (by decide +kernel)
theorem q84 : Cond.classLink "BookmarkManagerLaw" 8 "BookmarkManager" ∈ wU := mU 84 (by decide +kernel) (by decide +kernel)
theorem q85 : Cond.instantiable "BookmarkManager" 11 ∈ wU := mU 85 (by decide +kernel) (by decide +kernel)
theorem q86 : Cond.methodLink "BookmarkManagerLaw" 165 yX3_init ∈ wU := mU 86 (by decide +kernel) (by decide +kernel)
theorem q87 : Cond.instanceMethod yX3_init ∈ wU := mU 87 (by decide +kernel) (by decide +kernel)
theorem q88 : Cond.code yX3_init prog_1_method_1_code 1 none ∈ wU := mU 88 (by decide +kernel) (by decide +kernel)
theorem q1495 : Cond.classLink "BookmarkManagerLaw" 166 "BookmarkManagerModel" ∈ wU := mU 1495 (by decide +kernel) (by decide +kernel)
theorem q1496 : Cond.instantiable "BookmarkManagerModel" 17 ∈ wU := mU 1496 (by decide +kernel) (by decide +kernel)
theorem q1497 : Cond.methodLink "BookmarkManagerLaw" 168 yX4_init ∈ wU := mU 1497 (by decide +kernel) (by decide +kernel)
theorem q1498 : Cond.instanceMethod yX4_init ∈ wU := mU 1498 (by decide +kernel) (by decide +kernel)
theorem q1499 : Cond.code yX4_init prog_6_method_1_code 1 none ∈ wU := mU 1499 (by decide +kernel) (by decide +kernel)
theorem q1985 : Cond.arrayClass .long ∈ wU := mU 1985 (by decide +kernel) (by decide +kernel)
theorem q1986 : Cond.arrayClass .double ∈ wU := mU 1986 (by decide +kernel) (by decide +kernel)
theorem ml_L_174 : CLv RL 174 4 yX4_addRibbon cX4_addRibbon 3 (some .int) 2 := CLv.of TX4 17 ⟨by decide, by decide, by decide +kernel⟩ rfl q1573 q1574 q1575 q64 q1576
theorem ml_L_175 : CLv RL 175 4 yX4_thrown cX4_thrown 1 (some .int) 0 := CLv.of TX4 17 ⟨by decide, by decide, by decide +kernel⟩ rfl q1553 q1554 q1555 q64 q1556
theorem ml_L_180 : CLv RL 180 4 yX4_addDogEar cX4_addDogEar 3 (some .int) 2 := CLv.of TX4 17 ⟨by decide, by decide, by decide +kernel⟩ rfl q1627 q1628 q1629 q64 q1630
theorem ml_L_184 : CLv RL 184 4 yX4_removeMark cX4_removeMark 2 (some .int) 1 := CLv.of TX4 17 ⟨by decide, by decide, by decide +kernel⟩ rfl q1631 q1632 q1633 q64 q1634
theorem ml_L_187 : CLv RL 187 4 yX4_moveRibbon cX4_moveRibbon 3 (some .int) 2 := CLv.of TX4 17 ⟨by decide, by decide, by decide +kernel⟩ rfl q1647 q1648 q1649 q64 q1650
theorem ml_L_190 : CLv RL 190 4 yX4_swapSeats cX4_swapSeats 3 (some .int) 2 := CLv.of TX4 17 ⟨by decide, by decide, by decide +kernel⟩ rfl q1655 q1656 q1657 q64 q1658
theorem ml_L_193 : CLv RL 193 4 yX4_isRibbon cX4_isRibbon 2 (some .boolean) 1 := CLv.of TX4 17 ⟨by decide, by decide, by decide +kernel⟩ rfl q1715 q1716 q1717 q64 q1718
theorem ml_L_196 : CLv RL 196 4 yX4_pageOf cX4_pageOf 2 (some .int) 1 := CLv.of TX4 17 ⟨by decide, by decide, by decide +kernel⟩ rfl q1723 q1724 q1725 q64 q1726
theorem ml_L_199 : CLv RL 199 4 yX4_weightOf cX4_weightOf 2 (some .int) 1 := CLv.of TX4 17 ⟨by decide, by decide, by decide +kernel⟩ rfl q1727 q1728 q1729 q64 q1730
theorem ml_L_202 : CLv RL 202 4 yX4_wearOf cX4_wearOf 2 (some .int) 1 := CLv.of TX4 17 ⟨by decide, by decide, by decide +kernel⟩ rfl q1731 q1732 q1733 q64 q1734
theorem ml_L_205 : CLv RL 205 4 yX4_seatOf cX4_seatOf 3 (some .int) 1 := CLv.of TX4 17 ⟨by decide, by decide, by decide +kernel⟩ rfl q1735 q1736 q1737 q64 q1738
theorem ml_L_208 : CLv RL 208 4 yX4_ribbonIn cX4_ribbonIn 2 (some .int) 1 := CLv.of TX4 17 ⟨by decide, by decide, by decide +kernel⟩ rfl q1739 q1740 q1741 q64 q1742
theorem ml_L_211 : CLv RL 211 4 yX4_isHeld cX4_isHeld 2 (some .boolean) 1 := CLv.of TX4 17 ⟨by decide, by decide, by decide +kernel⟩ rfl q1747 q1748 q1749 q64 q1750
theorem ml_L_214 : CLv RL 214 4 yX4_markOn cX4_markOn 2 (some .int) 1 := CLv.of TX4 17 ⟨by decide, by decide, by decide +kernel⟩ rfl q1751 q1752 q1753 q64 q1754
theorem ml_L_217 : CLv RL 217 4 yX4_nextMark cX4_nextMark 2 (some .int) 1 := CLv.of TX4 17 ⟨by decide, by decide, by decide +kernel⟩ rfl q1755 q1756 q1757 q64 q1758
theorem ml_L_220 : CLv RL 220 4 yX4_previousMark cX4_previousMark 2 (some .int) 1 := CLv.of TX4 17 ⟨by decide, by decide, by decide +kernel⟩ rfl q1763 q1764 q1765 q64 q1766
theorem ml_L_223 : CLv RL 223 4 yX4_nearestMark cX4_nearestMark 2 (some .int) 1 := CLv.of TX4 17 ⟨by decide, by decide, by decide +kernel⟩ rfl q1767 q1768 q1769 q64 q1770
theorem ml_L_226 : CLv RL 226 4 yX4_chapterOf cX4_chapterOf 2 (some .int) 1 := CLv.of TX4 17 ⟨by decide, by decide, by decide +kernel⟩ rfl q1771 q1772 q1773 q64 q1774
theorem ml_L_229 : CLv RL 229 4 yX4_startChapter cX4_startChapter 2 (some .int) 1 := CLv.of TX4 17 ⟨by decide, by decide, by decide +kernel⟩ rfl q1663 q1664 q1665 q64 q1666
theorem ml_L_232 : CLv RL 232 4 yX4_voteToDissolve cX4_voteToDissolve 2 (some .boolean) 1 := CLv.of TX4 17 ⟨by decide, by decide, by decide +kernel⟩ rfl q1679 q1680 q1681 q64 q1682
theorem ml_L_235 : CLv RL 235 4 yX4_firstPage cX4_firstPage 2 (some .int) 1 := CLv.of TX4 17 ⟨by decide, by decide, by decide +kernel⟩ rfl q1775 q1776 q1777 q64 q1778
theorem ml_L_238 : CLv RL 238 4 yX4_lastPage cX4_lastPage 2 (some .int) 1 := CLv.of TX4 17 ⟨by decide, by decide, by decide +kernel⟩ rfl q1779 q1780 q1781 q64 q1782
theorem ml_L_241 : CLv RL 241 4 yX4_heldPages cX4_heldPages 2 (some .int) 1 := CLv.of TX4 17 ⟨by decide, by decide, by decide +kernel⟩ rfl q1787 q1788 q1789 q64 q1790
theorem ml_L_244 : CLv RL 244 4 yX4_heldPagesByMarks cX4_heldPagesByMarks 2 (some .int) 1 := CLv.of TX4 17 ⟨by decide, by decide, by decide +kernel⟩ rfl q1795 q1796 q1797 q64 q1798
theorem ml_L_247 : CLv RL 247 4 yX4_chapterWeight cX4_chapterWeight 2 (some .int) 1 := CLv.of TX4 17 ⟨by decide, by decide, by decide +kernel⟩ rfl q1800 q1801 q1802 q64 q1803
theorem ml_L_250 : CLv RL 250 4 yX4_weightInFavour cX4_weightInFavour 2 (some .int) 1 := CLv.of TX4 17 ⟨by decide, by decide, by decide +kernel⟩ rfl q1804 q1805 q1806 q64 q1807
theorem ml_L_253 : CLv RL 253 4 yX4_weightAgainst cX4_weightAgainst 2 (some .int) 1 := CLv.of TX4 17 ⟨by decide, by decide, by decide +kernel⟩ rfl q1808 q1809 q1810 q64 q1811
theorem ml_L_256 : CLv RL 256 4 yX4_weightAgainstByTotal cX4_weightAgainstByTotal 2 (some .int) 1 := CLv.of TX4 17 ⟨by decide, by decide, by decide +kernel⟩ rfl q1812 q1813 q1814 q64 q1815
theorem ml_L_259 : CLv RL 259 4 yX4_wouldDissolve cX4_wouldDissolve 2 (some .boolean) 1 := CLv.of TX4 17 ⟨by decide, by decide, by decide +kernel⟩ rfl q1817 q1818 q1819 q64 q1820
theorem ml_L_260 : CLv RL 260 3 yX3_heaviestChapter cX3_heaviestChapter 1 (some .int) 0 := CLv.of TX3 11 ⟨by decide, by decide, by decide +kernel⟩ rfl q272 q273 q274 q56 q275
theorem ml_L_263 : CLv RL 263 4 yX4_heaviestChapter cX4_heaviestChapter 3 (some .int) 0 := CLv.of TX4 17 ⟨by decide, by decide, by decide +kernel⟩ rfl q1821 q1822 q1823 q64 q1824
theorem ml_L_267 : CLv RL 267 4 yX4_turnPages cX4_turnPages 3 (some .int) 2 := CLv.of TX4 17 ⟨by decide, by decide, by decide +kernel⟩ rfl q1703 q1704 q1705 q64 q1706
theorem ml_L_268 : CLv RL 268 3 yX3_currentPage cX3_currentPage 1 (some .int) 0 := CLv.of TX3 11 ⟨by decide, by decide, by decide +kernel⟩ rfl q288 q289 q290 q56 q291
theorem ml_L_271 : CLv RL 271 4 yX4_currentPage cX4_currentPage 1 (some .int) 0 := CLv.of TX4 17 ⟨by decide, by decide, by decide +kernel⟩ rfl q1825 q1826 q1827 q64 q1828
theorem ml_L_275 : CLv RL 275 4 yX4_pagesToNextMark cX4_pagesToNextMark 2 (some .int) 0 := CLv.of TX4 17 ⟨by decide, by decide, by decide +kernel⟩ rfl q1829 q1830 q1831 q64 q1832
theorem ml_L_278 : CLv RL 278 4 yX4_earsAtRisk cX4_earsAtRisk 5 (some .int) 2 := CLv.of TX4 17 ⟨by decide, by decide, by decide +kernel⟩ rfl q1833 q1834 q1835 q64 q1836
theorem ml_L_281 : CLv RL 281 4 yX4_markByPage cX4_markByPage 3 (some .int) 1 := CLv.of TX4 17 ⟨by decide, by decide, by decide +kernel⟩ rfl q1837 q1838 q1839 q64 q1840
theorem ml_L_284 : CLv RL 284 4 yX4_markByWeight cX4_markByWeight 3 (some .int) 1 := CLv.of TX4 17 ⟨by decide, by decide, by decide +kernel⟩ rfl q1845 q1846 q1847 q64 q1848
theorem ml_L_285 : CLv RL 285 3 yX3_span cX3_span 1 (some .int) 0 := CLv.of TX3 11 ⟨by decide, by decide, by decide +kernel⟩ rfl q292 q293 q294 q56 q295
theorem ml_L_288 : CLv RL 288 4 yX4_span cX4_span 4 (some .int) 0 := CLv.of TX4 17 ⟨by decide, by decide, by decide +kernel⟩ rfl q1853 q1854 q1855 q64 q1856
theorem ml_L_289 : CLv RL 289 3 yX3_spanByEnds cX3_spanByEnds 1 (some .int) 0 := CLv.of TX3 11 ⟨by decide, by decide, by decide +kernel⟩ rfl q300 q301 q302 q56 q303
theorem ml_L_292 : CLv RL 292 4 yX4_spanByEnds cX4_spanByEnds 1 (some .int) 0 := CLv.of TX4 17 ⟨by decide, by decide, by decide +kernel⟩ rfl q1857 q1858 q1859 q64 q1860
theorem ml_L_293 : CLv RL 293 3 yX3_ribbonWeight cX3_ribbonWeight 1 (some .int) 0 := CLv.of TX3 11 ⟨by decide, by decide, by decide +kernel⟩ rfl q308 q309 q310 q56 q311
theorem ml_L_296 : CLv RL 296 4 yX4_ribbonWeight cX4_ribbonWeight 1 (some .int) 0 := CLv.of TX4 17 ⟨by decide, by decide, by decide +kernel⟩ rfl q1862 q1863 q1864 q64 q1865
theorem ml_L_297 : CLv RL 297 3 yX3_dogEarWeight cX3_dogEarWeight 1 (some .int) 0 := CLv.of TX3 11 ⟨by decide, by decide, by decide +kernel⟩ rfl q320 q321 q322 q56 q323
theorem ml_L_300 : CLv RL 300 4 yX4_dogEarWeight cX4_dogEarWeight 1 (some .int) 0 := CLv.of TX4 17 ⟨by decide, by decide, by decide +kernel⟩ rfl q1866 q1867 q1868 q64 q1869
theorem ml_L_301 : CLv RL 301 3 yX3_markCount cX3_markCount 1 (some .int) 0 := CLv.of TX3 11 ⟨by decide, by decide, by decide +kernel⟩ rfl q324 q325 q326 q56 q327
theorem ml_L_304 : CLv RL 304 4 yX4_markCount cX4_markCount 1 (some .int) 0 := CLv.of TX4 17 ⟨by decide, by decide, by decide +kernel⟩ rfl q1870 q1871 q1872 q64 q1873
theorem ml_L_305 : CLv RL 305 3 yX3_ribbonCount cX3_ribbonCount 1 (some .int) 0 := CLv.of TX3 11 ⟨by decide, by decide, by decide +kernel⟩ rfl q328 q329 q330 q56 q331
theorem ml_L_308 : CLv RL 308 4 yX4_ribbonCount cX4_ribbonCount 3 (some .int) 0 := CLv.of TX4 17 ⟨by decide, by decide, by decide +kernel⟩ rfl q1874 q1875 q1876 q64 q1877
theorem ml_L_309 : CLv RL 309 3 yX3_chapterCount cX3_chapterCount 1 (some .int) 0 := CLv.of TX3 11 ⟨by decide, by decide, by decide +kernel⟩ rfl q336 q337 q338 q56 q339
theorem ml_L_312 : CLv RL 312 4 yX4_chapterCount cX4_chapterCount 1 (some .int) 0 := CLv.of TX4 17 ⟨by decide, by decide, by decide +kernel⟩ rfl q1878 q1879 q1880 q64 q1881
theorem ml_L_313 : CLv RL 313 3 yX3_votesHeld cX3_votesHeld 1 (some .int) 0 := CLv.of TX3 11 ⟨by decide, by decide, by decide +kernel⟩ rfl q340 q341 q342 q56 q343
theorem ml_L_316 : CLv RL 316 4 yX4_votesHeld cX4_votesHeld 1 (some .int) 0 := CLv.of TX4 17 ⟨by decide, by decide, by decide +kernel⟩ rfl q1882 q1883 q1884 q64 q1885
theorem ml_L_317 : CLv RL 317 3 yX3_motionsCarried cX3_motionsCarried 1 (some .int) 0 := CLv.of TX3 11 ⟨by decide, by decide, by decide +kernel⟩ rfl q344 q345 q346 q56 q347
theorem ml_L_320 : CLv RL 320 4 yX4_motionsCarried cX4_motionsCarried 1 (some .int) 0 := CLv.of TX4 17 ⟨by decide, by decide, by decide +kernel⟩ rfl q1886 q1887 q1888 q64 q1889
theorem ml_L_321 : CLv RL 321 3 yX3_fallenEars cX3_fallenEars 1 (some .int) 0 := CLv.of TX3 11 ⟨by decide, by decide, by decide +kernel⟩ rfl q348 q349 q350 q56 q351
theorem ml_L_324 : CLv RL 324 4 yX4_fallenEars cX4_fallenEars 1 (some .int) 0 := CLv.of TX4 17 ⟨by decide, by decide, by decide +kernel⟩ rfl q1890 q1891 q1892 q64 q1893
theorem ml_L_328 : CLv RL 328 4 yX4_meanWeight cX4_meanWeight 1 (some .double) 0 := CLv.of TX4 17 ⟨by decide, by decide, by decide +kernel⟩ rfl q1894 q1895 q1896 q64 q1897
theorem ml_L_332 : CLv RL 332 4 yX4_heldShare cX4_heldShare 2 (some .float) 1 := CLv.of TX4 17 ⟨by decide, by decide, by decide +kernel⟩ rfl q1898 q1899 q1900 q64 q1901
theorem ml_L_333 : CLv RL 333 3 yX3_isConsistent cX3_isConsistent 1 (some .boolean) 0 := CLv.of TX3 11 ⟨by decide, by decide, by decide +kernel⟩ rfl q352 q353 q354 q56 q355
theorem ml_L_337 : CLv RL 337 4 yX4_isConsistent cX4_isConsistent 1 (some .boolean) 0 := CLv.of TX4 17 ⟨by decide, by decide, by decide +kernel⟩ rfl q1902 q1903 q1904 q64 q1905
theorem ml_L_340 : CLv RL 340 4 yX4_writeChapter cX4_writeChapter 4 (some .int) 1 := CLv.of TX4 17 ⟨by decide, by decide, by decide +kernel⟩ rfl q1906 q1907 q1908 q64 q1909
theorem ml_L_341 : CLv RL 341 3 yX3_writeSeats cX3_writeSeats 2 (some .int) 0 := CLv.of TX3 11 ⟨by decide, by decide, by decide +kernel⟩ rfl q404 q405 q406 q56 q407
theorem ml_L_344 : CLv RL 344 4 yX4_writeSeats cX4_writeSeats 2 (some .int) 0 := CLv.of TX4 17 ⟨by decide, by decide, by decide +kernel⟩ rfl q1918 q1919 q1920 q64 q1921
theorem ml_L_347 : CLv RL 347 4 yX4_outputAt cX4_outputAt 2 (some .char) 1 := CLv.of TX4 17 ⟨by decide, by decide, by decide +kernel⟩ rfl q1922 q1923 q1924 q64 q1925
theorem ml_L_351 : CLv RL 351 4 yX4_appendInput cX4_appendInput 2 (some .int) 1 := CLv.of TX4 17 ⟨by decide, by decide, by decide +kernel⟩ rfl q1926 q1927 q1928 q64 q1929
theorem ml_L_354 : CLv RL 354 4 yX4_execute cX4_execute 3 (some .int) 0 := CLv.of TX4 17 ⟨by decide, by decide, by decide +kernel⟩ rfl q1930 q1931 q1932 q64 q1933
theorem ml_L_357 : CLv RL 357 4 yX4_syntaxErrorOffset cX4_syntaxErrorOffset 1 (some .int) 0 := CLv.of TX4 17 ⟨by decide, by decide, by decide +kernel⟩ rfl q1965 q1966 q1967 q64 q1968
theorem ml_L_360 : CLv RL 360 4 yX4_rejectionReason cX4_rejectionReason 1 (some .int) 0 := CLv.of TX4 17 ⟨by decide, by decide, by decide +kernel⟩ rfl q1557 q1558 q1559 q64 q1560
theorem ml_L_363 : CLv RL 363 4 yX4_rejectionDetail cX4_rejectionDetail 1 (some .int) 0 := CLv.of TX4 17 ⟨by decide, by decide, by decide +kernel⟩ rfl q1565 q1566 q1567 q64 q1568
theorem ml_L_366 : CLv RL 366 4 yX4_causeReason cX4_causeReason 1 (some .int) 0 := CLv.of TX4 17 ⟨by decide, by decide, by decide +kernel⟩ rfl q1569 q1570 q1571 q64 q1572
theorem ml_L_369 : CLv RL 369 4 yX4_undo cX4_undo 1 (some .int) 0 := CLv.of TX4 17 ⟨by decide, by decide, by decide +kernel⟩ rfl q1969 q1970 q1971 q64 q1972
theorem ml_L_370 : CLv RL 370 3 yX3_undoCount cX3_undoCount 1 (some .int) 0 := CLv.of TX3 11 ⟨by decide, by decide, by decide +kernel⟩ rfl q784 q785 q786 q56 q787
theorem ml_L_373 : CLv RL 373 4 yX4_undoCount cX4_undoCount 1 (some .int) 0 := CLv.of TX4 17 ⟨by decide, by decide, by decide +kernel⟩ rfl q1973 q1974 q1975 q64 q1976
theorem ml_L_374 : CLv RL 374 3 yX3_saveSnapshot cX3_saveSnapshot 1 (some .int) 0 := CLv.of TX3 11 ⟨by decide, by decide, by decide +kernel⟩ rfl q788 q789 q790 q56 q791
theorem ml_L_377 : CLv RL 377 4 yX4_saveSnapshot cX4_saveSnapshot 1 (some .int) 0 := CLv.of TX4 17 ⟨by decide, by decide, by decide +kernel⟩ rfl q1977 q1978 q1979 q64 q1980
theorem ml_L_380 : CLv RL 380 4 yX4_restoreSnapshot cX4_restoreSnapshot 1 (some .int) 0 := CLv.of TX4 17 ⟨by decide, by decide, by decide +kernel⟩ rfl q1981 q1982 q1983 q64 q1984
theorem nw_L_8 : NW RL 8 3 [.null, .null, .null, .null, .null, .null, .int 0, .int 0, .int 0, .int 0, .int 0] 11 := ⟨RX3, TX3, tyX3, rfl, iX3, tyX3_ok, q84, q85, q56, by decide +kernel⟩
theorem lz_L_165 : CLz RL 165 yX3_init cX3_init 1 none 0 := ⟨⟨by decide, by decide, by decide +kernel⟩, q86, q56, q88⟩
theorem im_X3_init : Cond.instanceMethod yX3_init ∈ wU := q87
theorem nw_L_166 : NW RL 166 4 [.int 0, .null, .int 0, .int 0, .int 0, .int 0, .int 0, .int 0, .null, .int 0, .null, .int 0, .int 0, .int 0, .int 0, .null, .int 0] 17 := ⟨RX4, TX4, tyX4, rfl, iX4, tyX4_ok, q1495, q1496, q64, by decide +kernel⟩
theorem lz_L_168 : CLz RL 168 yX4_init cX4_init 1 none 0 := ⟨⟨by decide, by decide, by decide +kernel⟩, q1497, q64, q1499⟩
theorem im_X4_init : Cond.instanceMethod yX4_init ∈ wU := q1498
theorem ac_long : Cond.arrayClass .long ∈ wU := q1985
theorem ac_double : Cond.arrayClass .double ∈ wU := q1986
